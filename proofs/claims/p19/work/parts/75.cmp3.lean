section CO
variable {S : Nat → Nat} {v : Nat → Bool} {a b c k L : Nat} {R Bu : Nat → Int32} {f g e w o : Int32} {bu wd se le ki ow ol li vo : Nat → Int32} {th ba co fi fo en cl lf bg bl : Int32} {O : Nat → Int64} {x y : Int32} {xs : Nat → Int32} {x1 x2 x3 x4 : Int32}
theorem ct {r : Int32} {P : Prop} (h : P) : ((r = r → P) ∧ (¬ r = r → False)) := ⟨fun _ => h, fun hh => hh rfl⟩
theorem st_17 (hrel : Rel k (R, Bu, f, g, e, w, o, th, bu, wd, se, le, ki, ow, ol, li, vo, ba, co, fi, fo, en, cl, lf, bg, bl, O)) (h5 : 5 * k + 5 ≤ L) (hL : L ≤ 2560) : wk_17 (fun st => Rel (k + 1) st) L xs (nI (5 * k)) R Bu f g e w o th bu wd se le ki ow ol li vo ba co fi fo en cl lf bg bl O := by
  obtain ⟨S, v, a, b, hI⟩ := hrel
  unfold wk_17
  refine ⟨vk1 h5 hL, ?_⟩
  generalize xs (nI (5 * k) + (1 : Int32)).toNatClampNeg = x
  unfold wp_X1_thrown wp_L_cutAfter wp_X0_cutAfter
  have hsame := hI.mono
  refine ⟨fun hx => ⟨vk1 h5 hL, ?_⟩, fun hx => ⟨rfl, vk1 h5 hL, ?_⟩⟩
  · have hx' : x = -1 ∨ ∃ W : Nat, W < 2 ^ 31 ∧ x = nI W := by
      by_cases h0 : x < 0
      · left
        apply Int32.toInt_inj.mp
        have e1 := Int32.lt_iff_toInt_lt.mp h0
        have e2 := Int32.le_iff_toInt_le.mp hx
        have e3 : (0 : Int32).toInt = 0 := by decide
        have e4 : (-1 : Int32).toInt = -1 := by decide
        omega
      · exact Or.inr (nI_of h0)
    unfold wp_X1_cutAfter wc_X1_cutAfter_11
    refine ⟨fun _ => m_ref0 rfl rfl rfl ⟨fun _ => ct ⟨S, v, a, b, ?_⟩, fun hh => absurd rfl hh⟩, fun hh => absurd hx hh⟩
    obtain ⟨i1, i2, i3, i4, i5, i6, i7, i8, i9⟩ := hsame
    exact ⟨i1, i2, ⟨i3.1, i3.2.1, i3.2.2.1, i3.2.2.2.1, i3.2.2.2.2.1, i3.2.2.2.2.2.1, rfl⟩, hx', i5, i6, i7, i8, i9⟩
  · unfold wp_X1_cutAfter wc_X1_cutAfter_11
    exact ⟨fun hh => absurd hh hx, fun _ => m_ref1 (by decide) ⟨fun hh => absurd hh (by decide), fun _ => ct ⟨S, v, a, b, hsame⟩⟩⟩
end CO
