section VW
variable {S : Nat → Nat} {v : Nat → Bool} {a b c k L : Nat} {R Bu : Nat → Int32} {f g e w o : Int32} {bu wd se le ki ow ol li vo : Nat → Int32} {th ba co fi fo en cl lf bg bl : Int32} {O : Nat → Int64} {x : Int32}
theorem l_before {P : Int32 → St_AO → Prop} (hI : Inv k S v a b R Bu f g e w o bu se le ol li vo ba co fi fo en cl lf bg bl) (hk : k < 512) (h0 : cl = 1 → P 1 (R, Bu, f, g, e, w, o, O)) (h2 : cl = 0 → ¬ isr S v a b x → P 2 (R, Bu, f, g, e, w, o, O)) (h1 : cl = 0 → ∀ i, a ≤ i → i < b → v i = false → x = nI (S i) → P 0 (R, Bu, f, g, e, w, o, vp_updL O (0 : Int32).toNatClampNeg (sv S (fl v a i)).toInt64)) : wp_L_before P x R Bu f g e w o O := by
  unfold wp_L_before wp_X0_before wp_X0_requireOpen wp_X0_requireRecord
  rcases hI.oc with ⟨q1, q2⟩ | ⟨q1, q2⟩
  · exact ⟨fun _ => Or.inl ⟨rfl, h0 q2⟩, fun hh => absurd q1 hh⟩
  · refine ⟨fun hh => absurd (q1.symm.trans hh) (by decide), fun _ => ?_⟩
    have hop := hI.op q2
    have hbd := hI.2.2.2.2.2.2.2.2.bound
    have hC := hI.2.2.2.2.2.1
    refine q_isRecord hC hI.1 (by omega) hbd.2 hI.2.2.1.2.2.1 hop.1 (fun hno => ⟨fun _ => Or.inr ⟨rfl, h2 q2 hno⟩, fun hh => absurd rfl hh⟩) (fun hyes => ⟨fun hh => absurd hh (by decide), fun _ => ?_⟩)
    obtain ⟨i, j1, j2, j3, j4⟩ := hyes
    have h1' := h1 q2 i j1 j2 j3 j4
    rw [j4]
    exact q_lrb hC j1 (by omega) (by omega) hbd.2 hI.2.2.1.2.2.1 ⟨v01, h1'⟩
theorem u_before {P : Int32 → St_B → Prop} (hI : Inv k S v a b R Bu f g e w o bu se le ol li vo ba co fi fo en cl lf bg bl) (hk : k < 512) (h0 : cl = 1 → P 0 (1, bu, wd, se, le, ki, ow, ol, li, vo, ba, co, fi, fo, en, cl, lf, bg, bl)) (h2 : cl = 0 → ¬ isr S v a b x → P 0 (2, bu, wd, se, le, ki, ow, ol, li, vo, ba, co, fi, fo, en, cl, lf, bg, bl)) (h1 : cl = 0 → ∀ i, a ≤ i → i < b → v i = false → x = nI (S i) → P (sv S (fl v a i)) (0, bu, wd, se, le, ki, ow, ol, li, vo, ba, co, fi, fo, en, cl, lf, bg, bl)) : wp_X1_before P x th bu wd se le ki ow ol li vo ba co fi fo en cl lf bg bl := by
  have hM := hI.mf (by omega)
  have h44 := hM.2.2.2.2.1
  unfold wp_X1_before
  rcases hI.oc with ⟨q1, q2⟩ | ⟨q1, q2⟩
  · refine ⟨fun hh => absurd (q2.symm.trans hh) (by decide), fun _ => ?_⟩
    unfold wc_X1_before_16 wc_X1_before_31
    exact ⟨fun hh => absurd hh (by decide), fun _ => m_ref1 (by rw [q2]; decide) ⟨fun hh => absurd hh (by decide), fun _ => h0 q2⟩⟩
  · obtain ⟨he, hen, -⟩ := hI.op q2
    refine ⟨fun _ => m_rowOf hM.1 hM.2.1 hI.1 (by omega) hM.2.2.2.2.2.1 hI.2.2.1.1 hI.2.2.1.2.1 (fun hno => ?_) (fun i j1 j2 j3 j4 => ?_), fun hh => absurd q2 hh⟩
    · unfold wc_X1_before_16 wc_X1_before_31
      exact ⟨fun hh => absurd hh (by decide), fun _ => m_ref2 q2 (by decide) ⟨fun hh => absurd hh (by decide), fun _ => h2 q2 hno⟩⟩
    · unfold wc_X1_before_16 wc_X1_before_31
      refine ⟨fun _ => m_ref0 q2 rfl rfl ⟨fun _ => ?_, fun hh => absurd rfl hh⟩, fun hh => absurd (nI_pos' (by omega)) hh⟩
      exact m_seekE hM.1 hM.2.1 (by omega) hM.2.2.2.2.2.1 hI.2.2.1.1 hI.2.2.1.2.1 hen j1 (by omega) (by rw [Int32.sub_eq_add_neg]) (h1 q2 i j1 j2 j3 j4)
/-- how many records, void ones left out, from a to before j -/
def nv (v : Nat → Bool) (a : Nat) : Nat → Nat
  | 0 => 0
  | j + 1 => if j < a then 0 else if v j = true then nv v a j else nv v a j + 1
end VW
