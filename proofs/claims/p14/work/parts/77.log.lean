section CR
variable {k L : Nat} {R Bu : Nat → Int32} {f g e w o : Int32} {bu wd se le ki ow ol li vo : Nat → Int32} {th ba co fi fo en cl lf bg bl : Int32} {O : Nat → Int64} {xs : Nat → Int32} {x : Int32}
theorem n1_log {P : Int32 → St_B → Prop} (h : ∀ r t, P r (t, bu, wd, se, le, ki, ow, ol, li, vo, ba, co, fi, fo, en, cl, lf, bg, bl)) : wp_X1_log P x th bu wd se le ki ow ol li vo ba co fi fo en cl lf bg bl := by
  by_cases hx : x < 0 ∨ 2 < x
  · exact m_logA hx (h _ _)
  · exact m_logB hx (fun _ => h _ _) (fun _ => h _ _) (fun _ _ => h _ _)
theorem st_16 (hrel : Rel k (R, Bu, f, g, e, w, o, th, bu, wd, se, le, ki, ow, ol, li, vo, ba, co, fi, fo, en, cl, lf, bg, bl, O)) (h5 : 5 * k + 5 ≤ L) (hL : L ≤ 2560) : wk_16 (fun st => Rel (k + 1) st) L xs (nI (5 * k)) R Bu f g e w o th bu wd se le ki ow ol li vo ba co fi fo en cl lf bg bl O := by
  obtain ⟨S, v, a, b, hI⟩ := hrel
  have hsame := hI.mono
  unfold wk_16
  refine ⟨vk1 h5 hL, ?_⟩
  generalize xs (nI (5 * k) + (1 : Int32)).toNatClampNeg = x
  unfold wp_L_log wp_X0_log
  exact ⟨fun _ => ⟨v01, vk1 h5 hL, n1_log (fun r t => ⟨S, v, a, b, hsame⟩)⟩, fun _ => ⟨fun _ => ⟨v01, vk1 h5 hL, n1_log (fun r t => ⟨S, v, a, b, hsame⟩)⟩, fun _ => ⟨fun _ => ⟨v01, vk1 h5 hL, n1_log (fun r t => ⟨S, v, a, b, hsame⟩)⟩, fun _ => ⟨rfl, vk1 h5 hL, n1_log (fun r t => ⟨S, v, a, b, hsame⟩)⟩⟩⟩⟩
end CR
