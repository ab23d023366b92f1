section CO
variable {S : Nat → Nat} {v : Nat → Bool} {a b c k L : Nat} {R Bu : Nat → Int32} {f g e w o : Int32} {bu wd se le ki ow ol li vo : Nat → Int32} {th ba co fi fo en cl lf bg bl : Int32} {O : Nat → Int64} {x y : Int32} {xs : Nat → Int32} {x1 x2 x3 x4 : Int32}
theorem ct {r : Int32} {P : Prop} (h : P) : ((r = r → P) ∧ (¬ r = r → False)) := ⟨fun _ => h, fun hh => hh rfl⟩
theorem m_set1 {P : St_B → Prop} (hcl : ¬ cl = 0) (h : P (1, bu, wd, se, le, ki, ow, ol, li, vo, ba, co, fi, fo, en, cl, lf, bg, bl)) : wp_X1_set P x y th bu wd se le ki ow ol li vo ba co fi fo en cl lf bg bl := by
  unfold wp_X1_set wc_X1_set_21
  exact m_in (fun _ => ⟨fun _ => m_ref1 hcl ⟨fun hh => absurd hh (by decide), fun _ => h⟩, fun hh => absurd rfl hh⟩) (fun _ _ => ⟨fun hh => absurd hh (by decide), fun _ => m_ref1 hcl ⟨fun hh => absurd hh (by decide), fun _ => h⟩⟩)
theorem m_set2 {P : St_B → Prop} (hcl : cl = 0) (hb : x < 0 ∨ 199 < x) (h : P (2, bu, wd, se, le, ki, ow, ol, li, vo, ba, co, fi, fo, en, cl, lf, bg, bl)) : wp_X1_set P x y th bu wd se le ki ow ol li vo ba co fi fo en cl lf bg bl := by
  unfold wp_X1_set wc_X1_set_21
  refine m_in (fun _ => ⟨fun _ => m_ref2 hcl (by decide) ⟨fun hh => absurd hh (by decide), fun _ => h⟩, fun hh => absurd rfl hh⟩) (fun hx1 hx2 => ?_)
  rcases hb with q | q
  · exact absurd q hx1
  · exact absurd q hx2
theorem st_0 (hrel : Rel k (R, Bu, f, g, e, w, o, th, bu, wd, se, le, ki, ow, ol, li, vo, ba, co, fi, fo, en, cl, lf, bg, bl, O)) (h5 : 5 * k + 5 ≤ L) (hL : L ≤ 2560) : wk_0 (fun st => Rel (k + 1) st) L xs (nI (5 * k)) R Bu f g e w o th bu wd se le ki ow ol li vo ba co fi fo en cl lf bg bl O := by
  obtain ⟨S, v, a, b, hI⟩ := hrel
  have hsame := hI.mono
  unfold wk_0
  refine ⟨vk1 h5 hL, vk2 h5 hL, ?_⟩
  generalize xs (nI (5 * k) + (1 : Int32)).toNatClampNeg = x
  generalize xs (nI (5 * k) + (2 : Int32)).toNatClampNeg = y
  have hph : (o = 0 ∧ cl = 1) ∨ (o = 1 ∧ cl = 0) := by
    rcases hI.2.2.2.2.2.2.2.2 with ⟨h1, h2, _⟩ | ⟨h1, h2, _⟩ | ⟨_, _, h1, h2, _⟩
    · exact Or.inr ⟨h2, h1⟩
    · exact Or.inl ⟨h2, h1⟩
    · exact Or.inl ⟨h2, h1⟩
  have e3 : (0 : Int32).toInt = 0 := by decide
  have e4 : (199 : Int32).toInt = 199 := by decide
  have e5 : (200 : Int32).toInt = 200 := by decide
  unfold wp_X1_thrown wp_L_set wp_X0_set wp_X0_requireOpen
  rcases hph with ⟨h1, h2⟩ | ⟨h1, h2⟩
  · exact ⟨fun _ => Or.inl ⟨rfl, vk1 h5 hL, vk2 h5 hL, m_set1 (by rw [h2]; decide) (ct ⟨S, v, a, b, hsame⟩)⟩, fun hh => absurd h1 hh⟩
  · refine ⟨fun hh => absurd (h1.symm.trans hh) (by decide), fun _ => ⟨fun hx => Or.inr ⟨rfl, vk1 h5 hL, vk2 h5 hL, m_set2 h2 (Or.inl hx) (ct ⟨S, v, a, b, hsame⟩)⟩, fun hx => ⟨fun hx2 => ?_, fun hx2 => Or.inr ⟨rfl, vk1 h5 hL, vk2 h5 hL, m_set2 h2 (Or.inr ?_) (ct ⟨S, v, a, b, hsame⟩)⟩⟩⟩⟩
    · obtain ⟨j, hj, rfl⟩ := nI_of hx
      have hj2 : j < 200 := by rw [q_200] at hx2; exact (nI_ltI hj (by omega)).mp hx2
      have hin : vp_in (nI j) 200 := vp_in_nI hj2 (by omega)
      refine ⟨hin, vk1 h5 hL, vk2 h5 hL, m_setB h2 hx (by rw [show (199 : Int32) = nI 199 from rfl]; exact nI_nlt (by omega) (by omega)) hin (ct ⟨S, v, a, b, ?_⟩)⟩
      rw [nI_clamp hj]
      obtain ⟨i1, i2, i3, i4, i5, i6, i7, i8, i9⟩ := hsame
      refine ⟨i1, i2, i3, i4, ⟨fun i hi => ?_, fun hh => absurd (h2.symm.trans hh) (by decide)⟩, i6, i7, i8, i9⟩
      by_cases hij : i = j
      · subst hij; rw [pk_us, pk_us]
      · rw [pk_un hij, pk_un hij]; exact i5.1 i hi
    · apply Int32.lt_iff_toInt_lt.mpr
      have h9 : ¬ x.toInt < (200 : Int32).toInt := fun q => hx2 (Int32.lt_iff_toInt_lt.mpr q)
      omega
end CO
