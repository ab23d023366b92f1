section SV
variable {S : Nat → Nat} {v : Nat → Bool} {a b c k L : Nat} {R Bu : Nat → Int32} {f g e w o : Int32} {bu wd se le ki ow ol li vo : Nat → Int32} {th ba co fi fo en cl lf bg bl : Int32} {O : Nat → Int64} {xs : Nat → Int32}
theorem m_setA {P : St_B → Prop} {x y : Int32} (h : ∀ t, P (t, bu, wd, se, le, ki, ow, ol, li, vo, ba, co, fi, fo, en, cl, lf, bg, bl)) (hb : cl = 0 → x < 0 ∨ 199 < x) : wp_X1_set P x y th bu wd se le ki ow ol li vo ba co fi fo en cl lf bg bl := by
  unfold wp_X1_set wc_X1_set_21
  refine m_in (fun _ => ⟨fun _ => m_refA (fun _ h2 _ => absurd h2 (by decide)) (fun t => ⟨fun hh => absurd hh (by decide), fun _ => h t⟩), fun hh => absurd rfl hh⟩) (fun hx1 hx2 => ⟨fun hh => absurd hh (by decide), fun _ => m_refA (fun h1 _ _ => ?_) (fun t => ⟨fun hh => absurd hh (by decide), fun _ => h t⟩)⟩)
  rcases hb h1 with q | q
  · exact absurd q hx1
  · exact absurd q hx2
theorem m_setB {P : St_B → Prop} {x y : Int32} (hcl : cl = 0) (hx1 : ¬ x < 0) (hx2 : ¬ 199 < x) (hin : vp_in x 200) (h : P (0, upd bu x.toNatClampNeg y, wd, se, le, ki, ow, ol, li, vo, ba, co, fi, fo, en, cl, lf, bg, bl)) : wp_X1_set P x y th bu wd se le ki ow ol li vo ba co fi fo en cl lf bg bl := by
  unfold wp_X1_set wc_X1_set_21
  refine m_in (fun hh => ?_) (fun _ _ => ⟨fun hh => absurd hh (by decide), fun _ => m_ref0 hcl rfl rfl ⟨fun _ => ⟨hin, h⟩, fun hh => absurd rfl hh⟩⟩)
  rcases hh with q | q
  · exact absurd q hx1
  · exact absurd q hx2
theorem st_0 (hrel : Rel k (R, Bu, f, g, e, w, o, th, bu, wd, se, le, ki, ow, ol, li, vo, ba, co, fi, fo, en, cl, lf, bg, bl, O)) (h5 : 5 * k + 5 ≤ L) (hL : L ≤ 2560) : wk_0 (fun st => Rel (k + 1) st) L xs (nI (5 * k)) R Bu f g e w o th bu wd se le ki ow ol li vo ba co fi fo en cl lf bg bl O := by
  obtain ⟨S, v, a, b, hI⟩ := hrel
  have hsame := hI.mono
  unfold wk_0
  refine ⟨vk1 h5 hL, vk2 h5 hL, ?_⟩
  generalize xs (nI (5 * k) + (1 : Int32)).toNatClampNeg = x
  generalize xs (nI (5 * k) + (2 : Int32)).toNatClampNeg = y
  have hph : (o = 0 ∧ cl = 1) ∨ (o = 1 ∧ cl = 0) := by
    rcases hI.2.2.2.2.2.2.2.2 with ⟨h1, h2, _⟩ | ⟨h1, h2, _⟩ | ⟨_, _, h1, h2, _⟩
    · exact Or.inr ⟨h2, h1⟩
    · exact Or.inl ⟨h2, h1⟩
    · exact Or.inl ⟨h2, h1⟩
  have e3 : (0 : Int32).toInt = 0 := by decide
  have e4 : (199 : Int32).toInt = 199 := by decide
  have e5 : (200 : Int32).toInt = 200 := by decide
  unfold wp_L_set wp_X0_set wp_X0_requireOpen
  rcases hph with ⟨h1, h2⟩ | ⟨h1, h2⟩
  · exact ⟨fun _ => Or.inl ⟨rfl, vk1 h5 hL, vk2 h5 hL, m_setA (fun t => ⟨S, v, a, b, hsame⟩) (fun hh => absurd (h2.symm.trans hh) (by decide))⟩, fun hh => absurd h1 hh⟩
  · refine ⟨fun hh => absurd (h1.symm.trans hh) (by decide), fun _ => ⟨fun hx => Or.inr ⟨rfl, vk1 h5 hL, vk2 h5 hL, m_setA (fun t => ⟨S, v, a, b, hsame⟩) (fun _ => Or.inl hx)⟩, fun hx => ⟨fun hx2 => ?_, fun hx2 => Or.inr ⟨rfl, vk1 h5 hL, vk2 h5 hL, m_setA (fun t => ⟨S, v, a, b, hsame⟩) (fun _ => Or.inr ?_)⟩⟩⟩⟩
    · obtain ⟨j, hj, rfl⟩ := nI_of hx
      have hj2 : j < 200 := by rw [q_200] at hx2; exact (nI_ltI hj (by omega)).mp hx2
      have hin : vp_in (nI j) 200 := vp_in_nI hj2 (by omega)
      refine ⟨hin, vk1 h5 hL, vk2 h5 hL, m_setB h2 hx (by rw [show (199 : Int32) = nI 199 from rfl]; exact nI_nlt (by omega) (by omega)) hin ⟨S, v, a, b, ?_⟩⟩
      rw [nI_clamp hj]
      obtain ⟨i1, i2, i3, i4, i5, i6, i7, i8, i9⟩ := hsame
      refine ⟨i1, i2, i3, i4, ⟨fun i hi => ?_, fun hh => absurd (h2.symm.trans hh) (by decide)⟩, i6, i7, i8, i9⟩
      by_cases hij : i = j
      · subst hij; rw [pk_us, pk_us]
      · rw [pk_un hij, pk_un hij]; exact i5.1 i hi
    · apply Int32.lt_iff_toInt_lt.mpr
      have h9 : ¬ x.toInt < (200 : Int32).toInt := fun q => hx2 (Int32.lt_iff_toInt_lt.mpr q)
      omega
theorem m_fillA {P : St_B → Prop} {x y : Int32} (hcl : ¬ cl = 0) (h : P (1, bu, wd, se, le, ki, ow, ol, li, vo, ba, co, fi, fo, en, cl, lf, bg, bl)) : wp_X1_fill P x y th bu wd se le ki ow ol li vo ba co fi fo en cl lf bg bl := by
  unfold wp_X1_fill
  exact m_ref1 hcl ⟨fun hh => absurd hh (by decide), fun _ => h⟩
theorem m_fillB {P : St_B → Prop} {x y : Int32} (hcl : cl = 0) (h : ∀ bu' : Nat → Int32, (∀ j, j < 200 → bu' j = x + nI j * y) → P (0, bu', wd, se, le, ki, ow, ol, li, vo, ba, co, fi, fo, en, cl, lf, bg, bl)) : wp_X1_fill P x y th bu wd se le ki ow ol li vo ba co fi fo en cl lf bg bl := by
  unfold wp_X1_fill
  have key : ∀ (n j : Nat) (bu' : Nat → Int32), 200 - j = n → j ≤ 200 → (∀ i, i < j → bu' i = x + nI i * y) → wl_X1_fill_15 P x y (n + 1) (nI j) 0 bu' wd se le ki ow ol li vo ba co fi fo en cl lf bg bl := by
    intro n
    induction n with
    | zero =>
      intro j bu' hn hj hB
      have : j = 200 := by omega
      subst this
      rw [wl_X1_fill_15]
      exact ⟨fun _ => h bu' hB, fun hh => absurd (by rw [q_200]; exact Int32.le_refl _) hh⟩
    | succ n ih =>
      intro j bu' hn hj hB
      rw [wl_X1_fill_15]
      refine ⟨fun hh => absurd hh (by rw [q_200]; exact nI_ge (by omega) (by omega)), fun _ => ⟨vp_in_nI (by omega) (by omega), ?_⟩⟩
      rw [nI_clamp (by omega), nI_1]
      refine ih (j + 1) _ (by omega) (by omega) ?_
      intro i hi
      rcases Nat.lt_or_ge i j with q | q
      · rw [pk_un (by omega)]; exact hB i q
      · have : i = j := by omega
        subst this
        exact pk_us
  exact m_ref0 hcl rfl rfl ⟨fun _ => ⟨201, key 200 0 bu rfl (by omega) (fun i hi => by omega)⟩, fun hh => absurd rfl hh⟩
theorem Inv.oc (hI : Inv k S v a b R Bu f g e w o bu wd se le ki ow ol li vo ba co fi fo en cl lf bg bl) : (o = 0 ∧ cl = 1) ∨ (o = 1 ∧ cl = 0) := by
  rcases hI.2.2.2.2.2.2.2.2 with ⟨h1, h2, _⟩ | ⟨h1, h2, _⟩ | ⟨_, _, h1, h2, _⟩
  · exact Or.inr ⟨h2, h1⟩
  · exact Or.inl ⟨h2, h1⟩
  · exact Or.inl ⟨h2, h1⟩
theorem st_1 (hrel : Rel k (R, Bu, f, g, e, w, o, th, bu, wd, se, le, ki, ow, ol, li, vo, ba, co, fi, fo, en, cl, lf, bg, bl, O)) (h5 : 5 * k + 5 ≤ L) (hL : L ≤ 2560) : wk_1 (fun st => Rel (k + 1) st) L xs (nI (5 * k)) R Bu f g e w o th bu wd se le ki ow ol li vo ba co fi fo en cl lf bg bl O := by
  obtain ⟨S, v, a, b, hI⟩ := hrel
  have hsame := hI.mono
  unfold wk_1
  refine ⟨vk1 h5 hL, vk2 h5 hL, ?_⟩
  generalize xs (nI (5 * k) + (1 : Int32)).toNatClampNeg = x
  generalize xs (nI (5 * k) + (2 : Int32)).toNatClampNeg = y
  unfold wp_L_fill wp_X0_fill wp_X0_requireOpen
  rcases hI.oc with ⟨h1, h2⟩ | ⟨h1, h2⟩
  · exact ⟨fun _ => ⟨rfl, vk1 h5 hL, vk2 h5 hL, m_fillA (by rw [h2]; decide) ⟨S, v, a, b, hsame⟩⟩, fun hh => absurd h1 hh⟩
  · refine ⟨fun hh => absurd (h1.symm.trans hh) (by decide), fun _ => q_fill (fun B' hB => ⟨vk1 h5 hL, vk2 h5 hL, m_fillB h2 (fun bu' hb => ⟨S, v, a, b, ?_⟩)⟩)⟩
    obtain ⟨i1, i2, i3, i4, i5, i6, i7, i8, i9⟩ := hsame
    exact ⟨i1, i2, i3, i4, ⟨fun i hi => by rw [hB i hi, hb i hi], fun hh => absurd (h2.symm.trans hh) (by decide)⟩, i6, i7, i8, i9⟩
theorem cmp_self (x : Int64) : lg_cmp x x = 0 := (lg_cmp_eq x x).mpr rfl
theorem m_logA {P : Int32 → St_B → Prop} {x : Int32} (hx : x < 0 ∨ 2 < x) (h : P 0 (1, bu, wd, se, le, ki, ow, ol, li, vo, ba, co, fi, fo, en, cl, lf, bg, bl)) : wp_X1_log P x th bu wd se le ki ow ol li vo ba co fi fo en cl lf bg bl := by
  unfold wp_X1_log wc_X1_log_15
  refine m_in (fun _ => ⟨fun _ => m_ref1 (by decide) ⟨fun hh => absurd hh (by decide), fun _ => h⟩, fun hh => absurd rfl hh⟩) (fun h1 h2 => ?_)
  rcases hx with q | q
  · exact absurd q h1
  · exact absurd q h2
theorem m_logB {P : Int32 → St_B → Prop} {x : Int32} (hx : ¬ (x < 0 ∨ 2 < x)) (h0 : x = 0 → P fi (0, bu, wd, se, le, ki, ow, ol, li, vo, ba, co, fi, fo, en, cl, lf, bg, bl)) (h1 : x = 1 → P fo (0, bu, wd, se, le, ki, ow, ol, li, vo, ba, co, fi, fo, en, cl, lf, bg, bl)) (h2 : ¬ x = 0 → ¬ x = 1 → P en (0, bu, wd, se, le, ki, ow, ol, li, vo, ba, co, fi, fo, en, cl, lf, bg, bl)) : wp_X1_log P x th bu wd se le ki ow ol li vo ba co fi fo en cl lf bg bl := by
  unfold wp_X1_log wc_X1_log_15
  exact m_in (fun hh => absurd hh hx) (fun _ _ => ⟨fun hh => absurd hh (by decide), fun _ => m_ref0 rfl rfl rfl ⟨fun _ => ⟨fun q => h0 q, fun q => ⟨fun q1 => h1 q1, fun q1 => h2 q q1⟩⟩, fun hh => absurd rfl hh⟩⟩)
end SV
