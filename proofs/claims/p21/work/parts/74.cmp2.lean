section CN
variable {S : Nat → Nat} {v : Nat → Bool} {a b c k L : Nat} {R Bu : Nat → Int32} {f g e w o : Int32} {bu wd se le ki ow ol li vo : Nat → Int32} {th ba co fi fo en cl lf bg bl : Int32} {O : Nat → Int64} {x : Int32} {xs : Nat → Int32}
theorem gb {y z : Int32} {P : Prop} (hyz : y = z) (hP : P) : ((0 : Int32) = 0 → (((0 : Int32) = 0 → vp_in (0 : Int32) 1 ∧ (((lg_cmp (vp_updL O (0 : Int32).toNatClampNeg y.toInt64 (0 : Int32).toNatClampNeg) z.toInt64 = 0 → P) ∧ (¬ lg_cmp (vp_updL O (0 : Int32).toNatClampNeg y.toInt64 (0 : Int32).toNatClampNeg) z.toInt64 = 0 → False)))) ∧ (¬ (0 : Int32) = 0 → P))) ∧ (¬ (0 : Int32) = 0 → False) := by
  rw [hyz]
  exact cj_good hP
end CN
