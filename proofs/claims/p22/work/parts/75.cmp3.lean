section CO
variable {S : Nat → Nat} {v : Nat → Bool} {a b c k L : Nat} {R Bu : Nat → Int32} {f g e w o : Int32} {bu wd se le ki ow ol li vo : Nat → Int32} {th ba co fi fo en cl lf bg bl : Int32} {O : Nat → Int64} {x y : Int32} {xs : Nat → Int32} {x1 x2 x3 x4 : Int32}
theorem st_20 (hrel : Rel k (R, Bu, f, g, e, w, o, th, bu, wd, se, le, ki, ow, ol, li, vo, ba, co, fi, fo, en, cl, lf, bg, bl, O)) (h5 : 5 * k + 5 ≤ L) (hL : L ≤ 2560) : wk_20 (fun st => Rel (k + 1) st) L xs (nI (5 * k)) R Bu f g e w o th bu wd se le ki ow ol li vo ba co fi fo en cl lf bg bl O := by
  obtain ⟨S, v, a, b, hI⟩ := hrel
  unfold wk_20 wp_X0_isOpen wp_X1_isOpen
  have ho : narrow .boolean (.int o) = .int o := by
    rcases hI.2.2.2.2.2.2.2.2 with ⟨_, h, _⟩ | ⟨_, h, _⟩ | ⟨_, _, _, h, _⟩ <;> rw [h] <;> rfl
  rcases hI.oc with ⟨q1, q2⟩ | ⟨q1, q2⟩
  · exact ⟨ho, fun hh => no10 q2 hh, fun _ => ⟨fun _ => ⟨S, v, a, b, hI.mono⟩, fun hh => hh q1⟩⟩
  · exact ⟨ho, fun _ => ⟨fun _ => ⟨S, v, a, b, hI.mono⟩, fun hh => hh q1⟩, fun hh => absurd q2 hh⟩
end CO
