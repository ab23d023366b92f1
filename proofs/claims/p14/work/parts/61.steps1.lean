section ST
variable {R Bu : Nat → Int32} {f g e w o : Int32} {bu wd se le ki ow ol li vo : Nat → Int32} {th ba co fi fo en cl lf bg bl : Int32} {O : Nat → Int64} {k L : Nat} {xs : Nat → Int32}
theorem vk1 (h5 : 5 * k + 5 ≤ L) (hL : L ≤ 2560) : vp_in (nI (5 * k) + (1 : Int32)) L := by
  rw [show (1 : Int32) = nI 1 from rfl, nI_add]
  exact vp_in_nI (by omega) (by omega)
theorem vk2 (h5 : 5 * k + 5 ≤ L) (hL : L ≤ 2560) : vp_in (nI (5 * k) + (2 : Int32)) L := by
  rw [show (2 : Int32) = nI 2 from rfl, nI_add]
  exact vp_in_nI (by omega) (by omega)
theorem vk3 (h5 : 5 * k + 5 ≤ L) (hL : L ≤ 2560) : vp_in (nI (5 * k) + (3 : Int32)) L := by
  rw [show (3 : Int32) = nI 3 from rfl, nI_add]
  exact vp_in_nI (by omega) (by omega)
theorem vk4 (h5 : 5 * k + 5 ≤ L) (hL : L ≤ 2560) : vp_in (nI (5 * k) + (4 : Int32)) L := by
  rw [show (4 : Int32) = nI 4 from rfl, nI_add]
  exact vp_in_nI (by omega) (by omega)
theorem st_6 (hrel : Rel k (R, Bu, f, g, e, w, o, th, bu, wd, se, le, ki, ow, ol, li, vo, ba, co, fi, fo, en, cl, lf, bg, bl, O)) (h5 : 5 * k + 5 ≤ L) (hL : L ≤ 2560) : wk_6 (fun st => Rel (k + 1) st) L xs (nI (5 * k)) R Bu f g e w o th bu wd se le ki ow ol li vo ba co fi fo en cl lf bg bl O := by
  obtain ⟨S, v, a, b, hI⟩ := hrel
  have hM := hI.mf (by omega)
  unfold wk_6
  exact n_first (fun r O' => n1_first hM (fun r t => ⟨S, v, a, b, hI.mono⟩))
theorem st_7 (hrel : Rel k (R, Bu, f, g, e, w, o, th, bu, wd, se, le, ki, ow, ol, li, vo, ba, co, fi, fo, en, cl, lf, bg, bl, O)) (h5 : 5 * k + 5 ≤ L) (hL : L ≤ 2560) : wk_7 (fun st => Rel (k + 1) st) L xs (nI (5 * k)) R Bu f g e w o th bu wd se le ki ow ol li vo ba co fi fo en cl lf bg bl O := by
  obtain ⟨S, v, a, b, hI⟩ := hrel
  have hM := hI.mf (by omega)
  unfold wk_7
  exact n_last (fun r O' => n1_last hM (fun r t => ⟨S, v, a, b, hI.mono⟩))
theorem st_8 (hrel : Rel k (R, Bu, f, g, e, w, o, th, bu, wd, se, le, ki, ow, ol, li, vo, ba, co, fi, fo, en, cl, lf, bg, bl, O)) (h5 : 5 * k + 5 ≤ L) (hL : L ≤ 2560) : wk_8 (fun st => Rel (k + 1) st) L xs (nI (5 * k)) R Bu f g e w o th bu wd se le ki ow ol li vo ba co fi fo en cl lf bg bl O := by
  obtain ⟨S, v, a, b, hI⟩ := hrel
  have hM := hI.mf (by omega)
  unfold wk_8
  exact n_lastForced (fun r O' => n1_lastForced hM (fun r t => ⟨S, v, a, b, hI.mono⟩))
theorem st_15 (hrel : Rel k (R, Bu, f, g, e, w, o, th, bu, wd, se, le, ki, ow, ol, li, vo, ba, co, fi, fo, en, cl, lf, bg, bl, O)) (h5 : 5 * k + 5 ≤ L) (hL : L ≤ 2560) : wk_15 (fun st => Rel (k + 1) st) L xs (nI (5 * k)) R Bu f g e w o th bu wd se le ki ow ol li vo ba co fi fo en cl lf bg bl O := by
  obtain ⟨S, v, a, b, hI⟩ := hrel
  have hM := hI.mf (by omega)
  unfold wk_15
  exact n_count (fun r O' => n1_count hM (fun r t => ⟨S, v, a, b, hI.mono⟩))
theorem st_9 (hrel : Rel k (R, Bu, f, g, e, w, o, th, bu, wd, se, le, ki, ow, ol, li, vo, ba, co, fi, fo, en, cl, lf, bg, bl, O)) (h5 : 5 * k + 5 ≤ L) (hL : L ≤ 2560) : wk_9 (fun st => Rel (k + 1) st) L xs (nI (5 * k)) R Bu f g e w o th bu wd se le ki ow ol li vo ba co fi fo en cl lf bg bl O := by
  obtain ⟨S, v, a, b, hI⟩ := hrel
  have hM := hI.mf (by omega)
  unfold wk_9
  exact ⟨vk1 h5 hL, n_next (fun r O' => ⟨vk1 h5 hL, n1_next hM (fun r t => ⟨S, v, a, b, hI.mono⟩)⟩)⟩
theorem st_10 (hrel : Rel k (R, Bu, f, g, e, w, o, th, bu, wd, se, le, ki, ow, ol, li, vo, ba, co, fi, fo, en, cl, lf, bg, bl, O)) (h5 : 5 * k + 5 ≤ L) (hL : L ≤ 2560) : wk_10 (fun st => Rel (k + 1) st) L xs (nI (5 * k)) R Bu f g e w o th bu wd se le ki ow ol li vo ba co fi fo en cl lf bg bl O := by
  obtain ⟨S, v, a, b, hI⟩ := hrel
  have hM := hI.mf (by omega)
  unfold wk_10
  exact ⟨vk1 h5 hL, n_before (fun r O' => ⟨vk1 h5 hL, n1_before hM (fun r t => ⟨S, v, a, b, hI.mono⟩)⟩)⟩
theorem st_11 (hrel : Rel k (R, Bu, f, g, e, w, o, th, bu, wd, se, le, ki, ow, ol, li, vo, ba, co, fi, fo, en, cl, lf, bg, bl, O)) (h5 : 5 * k + 5 ≤ L) (hL : L ≤ 2560) : wk_11 (fun st => Rel (k + 1) st) L xs (nI (5 * k)) R Bu f g e w o th bu wd se le ki ow ol li vo ba co fi fo en cl lf bg bl O := by
  obtain ⟨S, v, a, b, hI⟩ := hrel
  have hM := hI.mf (by omega)
  unfold wk_11
  exact ⟨vk1 h5 hL, n_lastOf (fun r O' => ⟨vk1 h5 hL, n1_lastOf hM (fun r t => ⟨S, v, a, b, hI.mono⟩)⟩)⟩
theorem st_13 (hrel : Rel k (R, Bu, f, g, e, w, o, th, bu, wd, se, le, ki, ow, ol, li, vo, ba, co, fi, fo, en, cl, lf, bg, bl, O)) (h5 : 5 * k + 5 ≤ L) (hL : L ≤ 2560) : wk_13 (fun st => Rel (k + 1) st) L xs (nI (5 * k)) R Bu f g e w o th bu wd se le ki ow ol li vo ba co fi fo en cl lf bg bl O := by
  obtain ⟨S, v, a, b, hI⟩ := hrel
  have hM := hI.mf (by omega)
  unfold wk_13
  exact ⟨vk1 h5 hL, vk2 h5 hL, n_word (fun r O' => ⟨vk1 h5 hL, vk2 h5 hL, n1_word hM (fun r t => ⟨S, v, a, b, hI.mono⟩)⟩)⟩
theorem st_14 (hrel : Rel k (R, Bu, f, g, e, w, o, th, bu, wd, se, le, ki, ow, ol, li, vo, ba, co, fi, fo, en, cl, lf, bg, bl, O)) (h5 : 5 * k + 5 ≤ L) (hL : L ≤ 2560) : wk_14 (fun st => Rel (k + 1) st) L xs (nI (5 * k)) R Bu f g e w o th bu wd se le ki ow ol li vo ba co fi fo en cl lf bg bl O := by
  obtain ⟨S, v, a, b, hI⟩ := hrel
  have hM := hI.mf (by omega)
  unfold wk_14
  exact ⟨vk1 h5 hL, vk2 h5 hL, vk3 h5 hL, n_back (fun r O' => ⟨vk1 h5 hL, vk2 h5 hL, vk3 h5 hL, n1_back hM (fun r t => ⟨S, v, a, b, hI.mono⟩)⟩)⟩
end ST
