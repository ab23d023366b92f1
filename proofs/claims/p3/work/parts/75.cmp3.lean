section CO
variable {S : Nat → Nat} {v : Nat → Bool} {a b c k L : Nat} {R Bu : Nat → Int32} {f g e w o : Int32} {bu wd se le ki ow ol li vo : Nat → Int32} {th ba co fi fo en cl lf bg bl : Int32} {O : Nat → Int64} {x y : Int32} {xs : Nat → Int32} {x1 x2 x3 x4 : Int32}
theorem ct {r : Int32} {P : Prop} (h : P) : ((r = r → P) ∧ (¬ r = r → False)) := ⟨fun _ => h, fun hh => hh rfl⟩
theorem st_1 (hrel : Rel k (R, Bu, f, g, e, w, o, th, bu, wd, se, le, ki, ow, ol, li, vo, ba, co, fi, fo, en, cl, lf, bg, bl, O)) (h5 : 5 * k + 5 ≤ L) (hL : L ≤ 2560) : wk_1 (fun st => Rel (k + 1) st) L xs (nI (5 * k)) R Bu f g e w o th bu wd se le ki ow ol li vo ba co fi fo en cl lf bg bl O := by
  obtain ⟨S, v, a, b, hI⟩ := hrel
  have hsame := hI.mono
  unfold wk_1
  refine ⟨vk1 h5 hL, vk2 h5 hL, ?_⟩
  generalize xs (nI (5 * k) + (1 : Int32)).toNatClampNeg = x
  generalize xs (nI (5 * k) + (2 : Int32)).toNatClampNeg = y
  unfold wp_X1_thrown wp_L_fill wp_X0_fill wp_X0_requireOpen
  rcases hI.oc with ⟨h1, h2⟩ | ⟨h1, h2⟩
  · exact ⟨fun _ => ⟨rfl, vk1 h5 hL, vk2 h5 hL, m_fillA (by rw [h2]; decide) (ct ⟨S, v, a, b, hsame⟩)⟩, fun hh => absurd h1 hh⟩
  · refine ⟨fun hh => absurd (h1.symm.trans hh) (by decide), fun _ => q_fill (fun B' hB => ⟨vk1 h5 hL, vk2 h5 hL, m_fillB h2 (fun bu' hb => ct ⟨S, v, a, b, ?_⟩)⟩)⟩
    obtain ⟨i1, i2, i3, i4, i5, i6, i7, i8, i9⟩ := hsame
    exact ⟨i1, i2, i3, i4, ⟨fun i hi => by rw [hB i hi, hb i hi], fun hh => absurd (h2.symm.trans hh) (by decide)⟩, i6, i7, i8, i9⟩
end CO
