section WD
variable {S : Nat → Nat} {v : Nat → Bool} {a b c k L : Nat} {R Bu : Nat → Int32} {f g e w o : Int32} {bu wd se le ki ow ol li vo : Nat → Int32} {th ba co fi fo en cl lf bg bl : Int32} {O : Nat → Int64} {x y z : Int32}
theorem q_7 (h : ¬ x < 8) : (7 : Int32) < x := by
  apply Int32.lt_iff_toInt_lt.mpr
  have h1 := mt Int32.lt_iff_toInt_lt.mpr h
  have h2 : (8 : Int32).toInt = 8 := by decide
  have h3 : (7 : Int32).toInt = 7 := by decide
  omega
theorem q_7' (h : x < 8) : ¬ (7 : Int32) < x := fun h9 => by
  have h1 := Int32.lt_iff_toInt_lt.mp h
  have h4 := Int32.lt_iff_toInt_lt.mp h9
  have h2 : (8 : Int32).toInt = 8 := by decide
  have h3 : (7 : Int32).toInt = 7 := by decide
  omega
theorem l_lastOf {P : Int32 → St_AO → Prop} (hI : Inv k S v a b R Bu f g e w o bu wd se le ki ow ol li vo ba co fi fo en cl lf bg bl) (hD : WD S v a b R wd ki ow ol li) (hk : k < 512) (h0 : cl = 1 → P 1 (R, Bu, f, g, e, w, o, O)) (h2 : cl = 0 → (x < 0 ∨ 7 < x) → P 2 (R, Bu, f, g, e, w, o, O)) (h1 : cl = 0 → ¬ x < 0 → ¬ 7 < x → P 0 (R, Bu, f, g, e, w, o, vp_updL O (0 : Int32).toNatClampNeg (sv S (flo v ow x a b)).toInt64)) : wp_L_lastOf P x R Bu f g e w o O := by
  unfold wp_L_lastOf wp_X0_lastOf wp_X0_requireOpen wp_X0_requireOwner
  rcases hI.oc with ⟨q1, q2⟩ | ⟨q1, q2⟩
  · exact ⟨fun _ => Or.inl ⟨rfl, h0 q2⟩, fun hh => absurd q1 hh⟩
  · refine ⟨fun hh => absurd (q1.symm.trans hh) (by decide), fun _ => ?_⟩
    have hop := hI.op q2
    have hbd := hI.2.2.2.2.2.2.2.2.bound
    have hC := hI.2.2.2.2.2.1
    refine ⟨fun hx => Or.inr ⟨rfl, h2 q2 (Or.inl hx)⟩, fun hx => ⟨fun hx8 => ?_, fun hx8 => Or.inr ⟨rfl, h2 q2 (Or.inr (q_7 hx8))⟩⟩⟩
    exact q_lro hC hD hI.1 (by omega) hbd.2 hI.2.2.1.2.2.1 hop.1 ⟨v01, h1 q2 hx (q_7' hx8)⟩
theorem u_lastOf {P : Int32 → St_B → Prop} (hI : Inv k S v a b R Bu f g e w o bu wd se le ki ow ol li vo ba co fi fo en cl lf bg bl) (hk : k < 512) (h0 : cl = 1 → P 0 (1, bu, wd, se, le, ki, ow, ol, li, vo, ba, co, fi, fo, en, cl, lf, bg, bl)) (h2 : cl = 0 → (x < 0 ∨ 7 < x) → P 0 (2, bu, wd, se, le, ki, ow, ol, li, vo, ba, co, fi, fo, en, cl, lf, bg, bl)) (h1 : cl = 0 → ¬ x < 0 → ¬ 7 < x → P (sv S (flo v ow x a b)) (0, bu, wd, se, le, ki, ow, ol, li, vo, ba, co, fi, fo, en, cl, lf, bg, bl)) : wp_X1_lastOf P x th bu wd se le ki ow ol li vo ba co fi fo en cl lf bg bl := by
  have hM := hI.mf (by omega)
  have h44 := hM.2.2.2.2.1
  unfold wp_X1_lastOf wc_X1_lastOf_20
  rcases hI.oc with ⟨q1, q2⟩ | ⟨q1, q2⟩
  · exact m_in (fun _ => ⟨fun _ => m_ref1 (by rw [q2]; decide) ⟨fun hh => absurd hh (by decide), fun _ => h0 q2⟩, fun hh => absurd rfl hh⟩) (fun _ _ => ⟨fun hh => absurd hh (by decide), fun _ => m_ref1 (by rw [q2]; decide) ⟨fun hh => absurd hh (by decide), fun _ => h0 q2⟩⟩)
  · refine m_in (fun hx => ⟨fun _ => m_ref2 q2 (by decide) ⟨fun hh => absurd hh (by decide), fun _ => h2 q2 hx⟩, fun hh => absurd rfl hh⟩) (fun hx1 hx2 => ⟨fun hh => absurd hh (by decide), fun _ => m_ref0 q2 rfl rfl ⟨fun _ => ?_, fun hh => absurd rfl hh⟩⟩)
    exact m_latestOf hM.1 hI.1 (by omega) hI.2.2.1.1 hI.2.2.1.2.1 (h1 q2 hx1 hx2)
/-- what of answers at record i -/
def ofv (S : Nat → Nat) (ki ow ol li : Nat → Int32) (i : Nat) (y : Int32) : Int32 := if y = 0 then ki i else if y = 1 then ow i else if y = 2 then ol i else if y = 3 then li i else nI (S (i + 1) - S i) - 5
end WD
