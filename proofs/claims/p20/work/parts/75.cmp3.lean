section CO
variable {S : Nat → Nat} {v : Nat → Bool} {a b c k L : Nat} {R Bu : Nat → Int32} {f g e w o : Int32} {bu wd se le ki ow ol li vo : Nat → Int32} {th ba co fi fo en cl lf bg bl : Int32} {O : Nat → Int64} {x y : Int32} {xs : Nat → Int32} {x1 x2 x3 x4 : Int32}
theorem ct {r : Int32} {P : Prop} (h : P) : ((r = r → P) ∧ (¬ r = r → False)) := ⟨fun _ => h, fun hh => hh rfl⟩
end CO
