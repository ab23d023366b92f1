section VW
variable {S : Nat → Nat} {v : Nat → Bool} {a b c k L : Nat} {R Bu : Nat → Int32} {f g e w o : Int32} {bu wd se le ki ow ol li vo : Nat → Int32} {th ba co fi fo en cl lf bg bl : Int32} {O : Nat → Int64} {x : Int32}
theorem l_next {P : Int32 → St_AO → Prop} (hI : Inv k S v a b R Bu f g e w o bu se le ol li vo ba co fi fo en cl lf bg bl) (hk : k < 512) (h0 : cl = 1 → P 1 (R, Bu, f, g, e, w, o, O)) (h2 : cl = 0 → ¬ isr S v a b x → P 2 (R, Bu, f, g, e, w, o, O)) (h1 : cl = 0 → ∀ i, a ≤ i → i < b → v i = false → x = nI (S i) → P 0 (R, Bu, f, g, e, w, o, vp_updL O (0 : Int32).toNatClampNeg (sv S (ff v (b - (i + 1)) (i + 1))).toInt64)) : wp_L_next P x R Bu f g e w o O := by
  unfold wp_L_next wp_X0_next wp_X0_requireOpen wp_X0_requireRecord
  rcases hI.oc with ⟨q1, q2⟩ | ⟨q1, q2⟩
  · exact ⟨fun _ => Or.inl ⟨rfl, h0 q2⟩, fun hh => absurd q1 hh⟩
  · refine ⟨fun hh => absurd (q1.symm.trans hh) (by decide), fun _ => ?_⟩
    have hop := hI.op q2
    have hbd := hI.2.2.2.2.2.2.2.2.bound
    have hC := hI.2.2.2.2.2.1
    refine q_isRecord hC hI.1 (by omega) hbd.2 hI.2.2.1.2.2.1 hop.1 (fun hno => ⟨fun _ => Or.inr ⟨rfl, h2 q2 hno⟩, fun hh => absurd rfl hh⟩) (fun hyes => ⟨fun hh => absurd hh (by decide), fun _ => ?_⟩)
    obtain ⟨i, j1, j2, j3, j4⟩ := hyes
    have h1' := h1 q2 i j1 j2 j3 j4
    obtain ⟨c1, c2, c3, c4⟩ := hC i j1 j2
    have hup := hC.le (i := i + 1) (by omega) (show i + 1 ≤ b by omega) (Nat.le_refl b)
    rw [j4]
    refine q_behind (L := S (i + 1) - S i) (by omega) c3 ?_
    rw [show S i + (S (i + 1) - S i) = S (i + 1) by omega]
    exact q_frf hC (by omega) (by omega) (by omega) hbd.2 hop.1 ⟨v01, h1'⟩
theorem u_next {P : Int32 → St_B → Prop} (hI : Inv k S v a b R Bu f g e w o bu se le ol li vo ba co fi fo en cl lf bg bl) (hk : k < 512) (h0 : cl = 1 → P 0 (1, bu, wd, se, le, ki, ow, ol, li, vo, ba, co, fi, fo, en, cl, lf, bg, bl)) (h2 : cl = 0 → ¬ isr S v a b x → P 0 (2, bu, wd, se, le, ki, ow, ol, li, vo, ba, co, fi, fo, en, cl, lf, bg, bl)) (h1 : cl = 0 → ∀ i, a ≤ i → i < b → v i = false → x = nI (S i) → P (sv S (ff v (b - (i + 1)) (i + 1))) (0, bu, wd, se, le, ki, ow, ol, li, vo, ba, co, fi, fo, en, cl, lf, bg, bl)) : wp_X1_next P x th bu wd se le ki ow ol li vo ba co fi fo en cl lf bg bl := by
  have hM := hI.mf (by omega)
  have h44 := hM.2.2.2.2.1
  unfold wp_X1_next
  rcases hI.oc with ⟨q1, q2⟩ | ⟨q1, q2⟩
  · refine ⟨fun hh => absurd (q2.symm.trans hh) (by decide), fun _ => ?_⟩
    unfold wc_X1_next_16 wc_X1_next_31
    exact ⟨fun hh => absurd hh (by decide), fun _ => m_ref1 (by rw [q2]; decide) ⟨fun hh => absurd hh (by decide), fun _ => h0 q2⟩⟩
  · obtain ⟨he, hen, -⟩ := hI.op q2
    refine ⟨fun _ => m_rowOf hM.1 hM.2.1 hI.1 (by omega) hM.2.2.2.2.2.1 hI.2.2.1.1 hI.2.2.1.2.1 (fun hno => ?_) (fun i j1 j2 j3 j4 => ?_), fun hh => absurd q2 hh⟩
    · unfold wc_X1_next_16 wc_X1_next_31
      exact ⟨fun hh => absurd hh (by decide), fun _ => m_ref2 q2 (by decide) ⟨fun hh => absurd hh (by decide), fun _ => h2 q2 hno⟩⟩
    · unfold wc_X1_next_16 wc_X1_next_31
      refine ⟨fun _ => m_ref0 q2 rfl rfl ⟨fun _ => ?_, fun hh => absurd rfl hh⟩, fun hh => absurd (nI_pos' (by omega)) hh⟩
      rw [nI_1]
      exact m_seekF hM.1 hM.2.1 (by omega) hM.2.2.2.2.2.1 hI.2.2.1.1 hI.2.2.1.2.1 hen (by omega) (by omega) (h1 q2 i j1 j2 j3 j4)
/-- how many records, void ones left out, from a to before j -/
def nv (v : Nat → Bool) (a : Nat) : Nat → Nat
  | 0 => 0
  | j + 1 => if j < a then 0 else if v j = true then nv v a j else nv v a j + 1
end VW
