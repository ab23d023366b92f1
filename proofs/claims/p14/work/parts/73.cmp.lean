section CM
variable {S : Nat → Nat} {v : Nat → Bool} {a b c k L : Nat} {R Bu : Nat → Int32} {f g e w o : Int32} {bu wd se le ki ow ol li vo : Nat → Int32} {th ba co fi fo en cl lf bg bl : Int32} {O : Nat → Int64} {xs : Nat → Int32} {x : Int32}
theorem cj_bad {r : Int32} {X Y : Prop} {P : Prop} (hr : ¬ r = 0) (h : P) : ((r = r → ((r = (0 : Int32) → X ∧ Y) ∧ (¬ r = (0 : Int32) → P))) ∧ (¬ r = r → False)) := ⟨fun _ => ⟨fun hh => absurd hh hr, fun _ => h⟩, fun hh => hh rfl⟩
theorem cj_good {y : Int32} {P : Prop} (hP : P) : ((0 : Int32) = 0 → (((0 : Int32) = 0 → vp_in (0 : Int32) 1 ∧ (((lg_cmp (vp_updL O (0 : Int32).toNatClampNeg y.toInt64 (0 : Int32).toNatClampNeg) y.toInt64 = 0 → P) ∧ (¬ lg_cmp (vp_updL O (0 : Int32).toNatClampNeg y.toInt64 (0 : Int32).toNatClampNeg) y.toInt64 = 0 → False)))) ∧ (¬ (0 : Int32) = 0 → P))) ∧ (¬ (0 : Int32) = 0 → False) := by
  refine ⟨fun _ => ⟨fun _ => ⟨v01, fun _ => hP, fun hh => hh ?_⟩, fun _ => hP⟩, fun hh => hh rfl⟩
  rw [pk_uLs, cmp_self]
theorem no10 {P : Prop} (q : cl = 1) (h : cl = 0) : P := absurd (q.symm.trans h) (by decide)
end CM
