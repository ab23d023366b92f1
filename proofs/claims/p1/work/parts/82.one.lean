section ON
variable {S : Nat → Nat} {v : Nat → Bool} {a b c k L : Nat} {R Bu : Nat → Int32} {f g e w o : Int32} {bu wd se le ki ow ol li vo : Nat → Int32} {th ba co fi fo en cl lf bg bl : Int32} {O : Nat → Int64} {xs : Nat → Int32} {x y z : Int32}
/-- back on a book with no record -/
theorem l_back0 {P : Int32 → St_AO → Prop} (hI : Inv 0 S v a b R Bu f g e w o bu se le ol li vo ba co fi fo en cl lf bg bl) (h0 : cl = 1 → P 1 (R, Bu, f, g, e, w, o, O)) (h2 : cl = 0 → ((x < 0 ∨ 7 < x) ∨ ¬ 0 ≤ z) → P 2 (R, Bu, f, g, e, w, o, O)) (h1 : cl = 0 → ¬ x < 0 → ¬ 7 < x → 0 ≤ z → P 0 (R, Bu, f, g, e, w, o, vp_updL O (0 : Int32).toNatClampNeg ((-1 : Int32)).toInt64)) : wp_L_back P x y z R Bu f g e w o O := by
  unfold wp_L_back wp_X0_back wp_X0_requireOpen wp_X0_requireOwner
  rcases hI.oc with ⟨q1, q2⟩ | ⟨q1, q2⟩
  · exact ⟨fun _ => Or.inl ⟨rfl, h0 q2⟩, fun hh => absurd q1 hh⟩
  · refine ⟨fun hh => absurd (q1.symm.trans hh) (by decide), fun _ => ?_⟩
    have hop := hI.op q2
    have hbd := hI.2.2.2.2.2.2.2.2.bound
    have hC := hI.2.2.2.2.2.1
    have hb0 := hI.2.1
    have hD : WD S v a b R (fun _ => 0) (fun _ => 0) (fun _ => 0) ol li := fun i _ hi => by omega
    refine ⟨fun hx => Or.inr ⟨rfl, h2 q2 (Or.inl (Or.inl hx))⟩, fun hx => ⟨fun hx8 => ⟨fun hz => ?_, fun hz => Or.inr ⟨rfl, h2 q2 (Or.inr hz)⟩⟩, fun hx8 => Or.inr ⟨rfl, h2 q2 (Or.inl (Or.inr (q_7 hx8)))⟩⟩⟩
    unfold wp_X0_kthOnTheWay
    refine q_lro hC hD hI.1 (by omega) hbd.2 hI.2.2.1.2.2.1 hop.1 ⟨1, ?_⟩
    rw [flo_none (by have := hI.1; omega), wl_X0_kthOnTheWay_17]
    have h9 := h1 q2 hx (q_7' hx8) hz
    exact ⟨fun _ => ⟨v01, h9⟩, fun _ => ⟨fun _ => ⟨v01, h9⟩, fun hh => absurd rfl hh⟩⟩
theorem u_back0 {P : Int32 → St_B → Prop} (hI : Inv 0 S v a b R Bu f g e w o bu se le ol li vo ba co fi fo en cl lf bg bl) (h0 : cl = 1 → P 0 (1, bu, wd, se, le, ki, ow, ol, li, vo, ba, co, fi, fo, en, cl, lf, bg, bl)) (h2 : cl = 0 → ((x < 0 ∨ 7 < x) ∨ ¬ 0 ≤ z) → P 0 (2, bu, wd, se, le, ki, ow, ol, li, vo, ba, co, fi, fo, en, cl, lf, bg, bl)) (h1 : cl = 0 → ¬ x < 0 → ¬ 7 < x → 0 ≤ z → P (-1) (0, bu, wd, se, le, ki, ow, ol, li, vo, ba, co, fi, fo, en, cl, lf, bg, bl)) : wp_X1_back P x y z th bu wd se le ki ow ol li vo ba co fi fo en cl lf bg bl := by
  have hM := hI.mf (by omega)
  have h44 := hM.2.2.2.2.1
  unfold wp_X1_back wc_X1_back_19 wc_X1_back_24
  rcases hI.oc with ⟨q1, q2⟩ | ⟨q1, q2⟩
  · exact m_in (fun _ => ⟨fun _ => m_ref1 (by rw [q2]; decide) ⟨fun hh => absurd hh (by decide), fun _ => h0 q2⟩, fun hh => absurd rfl hh⟩) (fun _ _ => ⟨fun hh => absurd hh (by decide), fun _ => ⟨fun _ => m_ref1 (by rw [q2]; decide) ⟨fun hh => absurd hh (by decide), fun _ => h0 q2⟩, fun _ => m_ref1 (by rw [q2]; decide) ⟨fun hh => absurd hh (by decide), fun _ => h0 q2⟩⟩⟩)
  · refine m_in (fun hx => ⟨fun _ => m_ref2 q2 (by decide) ⟨fun hh => absurd hh (by decide), fun _ => h2 q2 (Or.inl hx)⟩, fun hh => absurd rfl hh⟩) (fun hx1 hx2 => ⟨fun hh => absurd hh (by decide), fun _ => ⟨fun hz => m_ref0 q2 rfl rfl ⟨fun _ => ?_, fun hh => absurd rfl hh⟩, fun hz => m_ref2 q2 (by decide) ⟨fun hh => absurd hh (by decide), fun _ => h2 q2 (Or.inr hz)⟩⟩⟩)
    refine m_latestOf hM.1 hI.1 (by omega) hI.2.2.1.1 hI.2.2.1.2.1 ⟨1, ?_⟩
    have hb0 := hI.2.1
    rw [flo_none (by have := hI.1; omega), wl_X1_back_43]
    exact ⟨fun _ => h1 q2 hx1 hx2 hz, fun hh => absurd (show (-1 : Int32) < 0 by decide) hh⟩
theorem cmp_14 {J : St_ABO → Prop} (hI : Inv 0 S v a b R Bu f g e w o bu se le ol li vo ba co fi fo en cl lf bg bl) (h5 : 5 * 0 + 5 ≤ L) (hL : L ≤ 2560) (hJ : ∀ th' O', J (R, Bu, f, g, e, w, o, th', bu, wd, se, le, ki, ow, ol, li, vo, ba, co, fi, fo, en, cl, lf, bg, bl, O')) : wk_14 J L xs (nI (5 * 0)) R Bu f g e w o th bu wd se le ki ow ol li vo ba co fi fo en cl lf bg bl O := by
  unfold wk_14 wp_X1_thrown
  refine ⟨vk1 h5 hL, vk2 h5 hL, vk3 h5 hL, ?_⟩
  generalize xs (nI (5 * 0) + (1 : Int32)).toNatClampNeg = x
  generalize xs (nI (5 * 0) + (2 : Int32)).toNatClampNeg = y
  generalize xs (nI (5 * 0) + (3 : Int32)).toNatClampNeg = z
  refine l_back0 hI (fun q => ⟨vk1 h5 hL, vk2 h5 hL, vk3 h5 hL, ?_⟩) (fun q hx => ⟨vk1 h5 hL, vk2 h5 hL, vk3 h5 hL, ?_⟩) (fun q hx1 hx2 hz => ⟨vk1 h5 hL, vk2 h5 hL, vk3 h5 hL, ?_⟩)
  · exact u_back0 hI (fun _ => cj_bad (by decide) (hJ _ _)) (fun h => no10 q h) (fun h => no10 q h)
  · exact u_back0 hI (fun h => no10 h q) (fun _ _ => cj_bad (by decide) (hJ _ _)) (fun _ hx1 hx2 hz => absurd hx (fun hh => hh.elim (fun h => h.elim hx1 hx2) (fun h => h hz)))
  · exact u_back0 hI (fun h => no10 h q) (fun _ hx => absurd hx (fun hh => hh.elim (fun h => h.elim hx1 hx2) (fun h => h hz))) (fun _ _ _ _ => cj_good (hJ _ _))
theorem st_11 (hrel : Rel 0 (R, Bu, f, g, e, w, o, th, bu, wd, se, le, ki, ow, ol, li, vo, ba, co, fi, fo, en, cl, lf, bg, bl, O)) (h5 : 5 * 0 + 5 ≤ L) (hL : L ≤ 2560) : wk_11 (fun st => Rel (0 + 1) st) L xs (nI (5 * 0)) R Bu f g e w o th bu wd se le ki ow ol li vo ba co fi fo en cl lf bg bl O := by
  obtain ⟨S, v, a, b, hI⟩ := hrel
  have hb0 := hI.2.1
  exact cmp_11 hI (fun i _ hi => by omega) h5 hL (fun _ _ => ⟨S, v, a, b, hI.mono⟩)
theorem st_12 (hrel : Rel 0 (R, Bu, f, g, e, w, o, th, bu, wd, se, le, ki, ow, ol, li, vo, ba, co, fi, fo, en, cl, lf, bg, bl, O)) (h5 : 5 * 0 + 5 ≤ L) (hL : L ≤ 2560) : wk_12 (fun st => Rel (0 + 1) st) L xs (nI (5 * 0)) R Bu f g e w o th bu wd se le ki ow ol li vo ba co fi fo en cl lf bg bl O := by
  obtain ⟨S, v, a, b, hI⟩ := hrel
  have hb0 := hI.2.1
  exact cmp_12 hI (fun i _ hi => by omega) h5 hL (fun _ _ => ⟨S, v, a, b, hI.mono⟩)
theorem st_13 (hrel : Rel 0 (R, Bu, f, g, e, w, o, th, bu, wd, se, le, ki, ow, ol, li, vo, ba, co, fi, fo, en, cl, lf, bg, bl, O)) (h5 : 5 * 0 + 5 ≤ L) (hL : L ≤ 2560) : wk_13 (fun st => Rel (0 + 1) st) L xs (nI (5 * 0)) R Bu f g e w o th bu wd se le ki ow ol li vo ba co fi fo en cl lf bg bl O := by
  obtain ⟨S, v, a, b, hI⟩ := hrel
  have hb0 := hI.2.1
  exact cmp_13 hI (fun i _ hi => by omega) h5 hL (fun _ _ => ⟨S, v, a, b, hI.mono⟩)
theorem st_14 (hrel : Rel 0 (R, Bu, f, g, e, w, o, th, bu, wd, se, le, ki, ow, ol, li, vo, ba, co, fi, fo, en, cl, lf, bg, bl, O)) (h5 : 5 * 0 + 5 ≤ L) (hL : L ≤ 2560) : wk_14 (fun st => Rel (0 + 1) st) L xs (nI (5 * 0)) R Bu f g e w o th bu wd se le ki ow ol li vo ba co fi fo en cl lf bg bl O := by
  obtain ⟨S, v, a, b, hI⟩ := hrel
  exact cmp_14 hI h5 hL (fun _ _ => ⟨S, v, a, b, hI.mono⟩)
end ON
