section ST
variable {R Bu : Nat → Int32} {f g e w o : Int32} {bu wd se le ki ow ol li vo : Nat → Int32} {th ba co fi fo en cl lf bg bl : Int32} {O : Nat → Int64} {k L : Nat} {xs : Nat → Int32}
theorem vk1 (h5 : 5 * k + 5 ≤ L) (hL : L ≤ 2560) : vp_in (nI (5 * k) + (1 : Int32)) L := by
  rw [show (1 : Int32) = nI 1 from rfl, nI_add]
  exact vp_in_nI (by omega) (by omega)
theorem vk2 (h5 : 5 * k + 5 ≤ L) (hL : L ≤ 2560) : vp_in (nI (5 * k) + (2 : Int32)) L := by
  rw [show (2 : Int32) = nI 2 from rfl, nI_add]
  exact vp_in_nI (by omega) (by omega)
theorem vk3 (h5 : 5 * k + 5 ≤ L) (hL : L ≤ 2560) : vp_in (nI (5 * k) + (3 : Int32)) L := by
  rw [show (3 : Int32) = nI 3 from rfl, nI_add]
  exact vp_in_nI (by omega) (by omega)
theorem vk4 (h5 : 5 * k + 5 ≤ L) (hL : L ≤ 2560) : vp_in (nI (5 * k) + (4 : Int32)) L := by
  rw [show (4 : Int32) = nI 4 from rfl, nI_add]
  exact vp_in_nI (by omega) (by omega)
end ST
