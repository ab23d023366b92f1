section VV
variable {S : Nat → Nat} {v : Nat → Bool} {a b c k L : Nat} {R Bu : Nat → Int32} {f g e w o : Int32} {bu wd se le ki ow ol li vo : Nat → Int32} {th ba co fi fo en cl lf bg bl : Int32} {O : Nat → Int64} {x : Int32}
theorem Inv.op (hI : Inv k S v a b R Bu f g e w o bu wd se le ki ow ol li vo ba co fi fo en cl lf bg bl) (hcl : cl = 0) : e = nI (S b) ∧ en = nI (S b) ∧ ∃ c, a ≤ c ∧ c ≤ b ∧ fo = nI (S c) ∧ g = nI (S c) := by
  obtain ⟨i1, i2, i3, i4, i5, i6, i7, i8, i9⟩ := hI
  rcases i9 with ⟨p1, p2, p3, p4, ⟨c, q1, q2, q3⟩, p6, p7⟩ | ⟨h, _⟩ | ⟨_, _, h, _⟩
  · exact ⟨i3.2.2.2.2.2.1.trans p4, p4, c, q1, q2, q3, i3.2.2.2.2.1.trans q3⟩
  · exact absurd (h.symm.trans hcl) (by decide)
  · exact absurd (h.symm.trans hcl) (by decide)
/-- what is compared: the throw's number, and the answer where none is thrown -/
def OKc (r : Int32) (O' : Nat → Int64) (r' t : Int32) : Prop := t = r ∧ (r = 0 → O' 0 = r'.toInt64)
end VV
