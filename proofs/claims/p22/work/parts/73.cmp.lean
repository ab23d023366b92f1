section CM
variable {S : Nat → Nat} {v : Nat → Bool} {a b c k L : Nat} {R Bu : Nat → Int32} {f g e w o : Int32} {bu wd se le ki ow ol li vo : Nat → Int32} {th ba co fi fo en cl lf bg bl : Int32} {O : Nat → Int64} {xs : Nat → Int32} {x : Int32}
theorem no10 {P : Prop} (q : cl = 1) (h : cl = 0) : P := absurd (q.symm.trans h) (by decide)
end CM
