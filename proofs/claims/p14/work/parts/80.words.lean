section WD
variable {S : Nat → Nat} {v : Nat → Bool} {a b c k L : Nat} {R Bu : Nat → Int32} {f g e w o : Int32} {bu wd se le ki ow ol li vo : Nat → Int32} {th ba co fi fo en cl lf bg bl : Int32} {O : Nat → Int64} {x y z : Int32}
theorem q_04 (h0 : ¬ y = 0) (h1 : ¬ y = 1) (h2 : ¬ y = 2) (h3 : ¬ y = 3) (h4 : ¬ y = 4) : y < 0 ∨ 4 < y := by
  by_cases hy : y < 0
  · exact Or.inl hy
  · obtain ⟨j, hj, rfl⟩ := nI_of hy
    rcases Nat.lt_or_ge 4 j with q | q
    · exact Or.inr (nI_lt (a := 4) q hj)
    · have h9 : j = 0 ∨ j = 1 ∨ j = 2 ∨ j = 3 ∨ j = 4 := by omega
      rcases h9 with rfl | rfl | rfl | rfl | rfl
      · exact absurd rfl h0
      · exact absurd rfl h1
      · exact absurd rfl h2
      · exact absurd rfl h3
      · exact absurd rfl h4
/-- what of answers at record i -/
def ofv (S : Nat → Nat) (ki ow ol li : Nat → Int32) (i : Nat) (y : Int32) : Int32 := if y = 0 then ki i else if y = 1 then ow i else if y = 2 then ol i else if y = 3 then li i else nI (S (i + 1) - S i) - 5
theorem l_of {P : Int32 → St_AO → Prop} (hI : Inv k S v a b R Bu f g e w o bu wd se le ki ow ol li vo ba co fi fo en cl lf bg bl) (hD : WD S v a b R wd ki ow ol li) (hk : k < 512) (h0 : cl = 1 → P 1 (R, Bu, f, g, e, w, o, O)) (h2 : cl = 0 → ¬ isr S v a b x → P 2 (R, Bu, f, g, e, w, o, O)) (h3 : cl = 0 → isr S v a b x → (y < 0 ∨ 4 < y) → P 3 (R, Bu, f, g, e, w, o, O)) (h1 : cl = 0 → ∀ i, a ≤ i → i < b → v i = false → x = nI (S i) → ¬ (y < 0 ∨ 4 < y) → P 0 (R, Bu, f, g, e, w, o, vp_updL O (0 : Int32).toNatClampNeg (ofv S ki ow ol li i y).toInt64)) : wp_L_of P x y R Bu f g e w o O := by
  unfold wp_L_of wp_X0_of wp_X0_requireOpen wp_X0_requireRecord
  rcases hI.oc with ⟨q1, q2⟩ | ⟨q1, q2⟩
  · exact ⟨fun _ => Or.inl ⟨rfl, h0 q2⟩, fun hh => absurd q1 hh⟩
  · refine ⟨fun hh => absurd (q1.symm.trans hh) (by decide), fun _ => ?_⟩
    have hop := hI.op q2
    have hbd := hI.2.2.2.2.2.2.2.2.bound
    have hC := hI.2.2.2.2.2.1
    refine q_isRecord hC hI.1 (by omega) hbd.2 hI.2.2.1.2.2.1 hop.1 (fun hno => ⟨fun _ => Or.inr (Or.inl ⟨rfl, h2 q2 hno⟩), fun hh => absurd rfl hh⟩) (fun hyes => ⟨fun hh => absurd hh (by decide), fun _ => ?_⟩)
    have h3' := h3 q2 hyes
    obtain ⟨i, j1, j2, j3, j4⟩ := hyes
    have h1' := h1 q2 i j1 j2 j3 j4
    obtain ⟨c1, c2, c3, c4⟩ := hC i j1 j2
    have hup := hC.le (i := i + 1) (by omega) (show i + 1 ≤ b by omega) (Nat.le_refl b)
    obtain ⟨K, W, d1, d2, d3, d4, d5, d6, d7, -⟩ := hD i j1 j2 j3
    rw [j4]
    refine ⟨fun hy => ?_, fun hy0 => ⟨fun hy => ?_, fun hy1 => ⟨fun hy => ?_, fun hy2 => ⟨fun hy => ?_, fun hy3 => ⟨fun hy => ?_, fun hy4 => Or.inr (Or.inr ⟨rfl, h3' (q_04 hy0 hy1 hy2 hy3 hy4)⟩)⟩⟩⟩⟩⟩
    · have h9 := h1' (by rw [hy]; decide)
      rw [ofv, if_pos hy] at h9
      exact q_kind hD j1 j2 j3 (by omega) ⟨v01, h9⟩
    · have h9 := h1' (by rw [hy]; decide)
      rw [ofv, if_neg hy0, if_pos hy] at h9
      exact q_owner hD j1 j2 j3 (by omega) ⟨v01, h9⟩
    · have h9 := h1' (by rw [hy]; decide)
      rw [ofv, if_neg hy0, if_neg hy1, if_pos hy] at h9
      rw [show (2 : Int32) = nI 2 from rfl, nI_add]
      refine q_wordAt (by omega) ⟨v01, ?_⟩
      rw [d6]
      exact h9
    · have h9 := h1' (by rw [hy]; decide)
      rw [ofv, if_neg hy0, if_neg hy1, if_neg hy2, if_pos hy] at h9
      rw [show (3 : Int32) = nI 3 from rfl, nI_add]
      refine q_wordAt (by omega) ⟨v01, ?_⟩
      rw [d7]
      exact h9
    · have h9 := h1' (by rw [hy]; decide)
      rw [ofv, if_neg hy0, if_neg hy1, if_neg hy2, if_neg hy3] at h9
      unfold wp_X0_contentWords
      refine q_wordAt (by omega) ⟨v01, ?_⟩
      rw [c3]
      exact h9
theorem u_of {P : Int32 → St_B → Prop} (hI : Inv k S v a b R Bu f g e w o bu wd se le ki ow ol li vo ba co fi fo en cl lf bg bl) (hk : k < 512) (h0 : cl = 1 → P 0 (1, bu, wd, se, le, ki, ow, ol, li, vo, ba, co, fi, fo, en, cl, lf, bg, bl)) (h2 : cl = 0 → ¬ isr S v a b x → P 0 (2, bu, wd, se, le, ki, ow, ol, li, vo, ba, co, fi, fo, en, cl, lf, bg, bl)) (h3 : cl = 0 → isr S v a b x → (y < 0 ∨ 4 < y) → P 0 (3, bu, wd, se, le, ki, ow, ol, li, vo, ba, co, fi, fo, en, cl, lf, bg, bl)) (h1 : cl = 0 → ∀ i, a ≤ i → i < b → v i = false → x = nI (S i) → ¬ (y < 0 ∨ 4 < y) → P (ofv S ki ow ol li i y) (0, bu, wd, se, le, ki, ow, ol, li, vo, ba, co, fi, fo, en, cl, lf, bg, bl)) : wp_X1_of P x y th bu wd se le ki ow ol li vo ba co fi fo en cl lf bg bl := by
  have hM := hI.mf (by omega)
  have h44 := hM.2.2.2.2.1
  unfold wp_X1_of
  rcases hI.oc with ⟨q1, q2⟩ | ⟨q1, q2⟩
  · refine ⟨fun hh => absurd (q2.symm.trans hh) (by decide), fun _ => ?_⟩
    have k45 : ∀ z0 : Int32, wc_X1_of_45 P x y (-1) z0 1 cl th bu wd se le ki ow ol li vo ba co fi fo en cl lf bg bl := fun z0 => by
      unfold wc_X1_of_45
      exact m_ref1 (by rw [q2]; decide) ⟨fun hh => absurd hh (by decide), fun _ => h0 q2⟩
    unfold wc_X1_of_16 wc_X1_of_31
    exact ⟨fun hh => absurd hh (by decide), fun _ => m_in (fun _ => ⟨fun _ => k45 _, fun _ => k45 _⟩) (fun _ _ => ⟨fun _ => k45 _, fun _ => k45 _⟩)⟩
  · refine ⟨fun _ => m_rowOf hM.1 hM.2.1 hI.1 (by omega) hM.2.2.2.2.2.1 hI.2.2.1.1 hI.2.2.1.2.1 (fun hno => ?_) (fun i j1 j2 j3 j4 => ?_), fun hh => absurd q2 hh⟩
    · have k45 : ∀ z0 : Int32, wc_X1_of_45 P x y (-1) z0 1 cl th bu wd se le ki ow ol li vo ba co fi fo en cl lf bg bl := fun z0 => by
        unfold wc_X1_of_45
        exact m_ref2 q2 (by decide) ⟨fun hh => absurd hh (by decide), fun _ => h2 q2 hno⟩
      unfold wc_X1_of_16 wc_X1_of_31
      exact ⟨fun hh => absurd hh (by decide), fun _ => m_in (fun _ => ⟨fun _ => k45 _, fun _ => k45 _⟩) (fun _ _ => ⟨fun _ => k45 _, fun _ => k45 _⟩)⟩
    · have hin : vp_in (nI i) 4400 := vp_in_nI (by omega) (by omega)
      obtain ⟨r1, r2, r3⟩ := hM.1 i j1 j2
      unfold wc_X1_of_16 wc_X1_of_31
      refine ⟨fun _ => m_in (fun hy => ⟨fun _ => ?_, fun hh => absurd rfl hh⟩) (fun hy1 hy2 => ⟨fun hh => absurd hh (by decide), fun _ => ?_⟩), fun hh => absurd (nI_pos' (by omega)) hh⟩
      · unfold wc_X1_of_45
        exact m_ref3 q2 rfl (by decide) ⟨fun hh => absurd hh (by decide), fun _ => h3 q2 ⟨i, j1, j2, j3, j4⟩ hy⟩
      · have h9 := h1 q2 i j1 j2 j3 j4 (fun hh => hh.elim hy1 hy2)
        unfold wc_X1_of_45
        refine m_ref0 q2 rfl rfl ⟨fun _ => ?_, fun hh => absurd rfl hh⟩
        rw [nI_clamp (by omega), r2]
        refine ⟨fun hy => ⟨hin, ?_⟩, fun hy0 => ⟨fun hy => ⟨hin, ?_⟩, fun hy1 => ⟨fun hy => ⟨hin, ?_⟩, fun hy2 => ⟨fun hy => ⟨hin, ?_⟩, fun hy3 => ⟨hin, ?_⟩⟩⟩⟩⟩
        · rw [ofv, if_pos hy] at h9; exact h9
        · rw [ofv, if_neg hy0, if_pos hy] at h9; exact h9
        · rw [ofv, if_neg hy0, if_neg hy1, if_pos hy] at h9; exact h9
        · rw [ofv, if_neg hy0, if_neg hy1, if_neg hy2, if_pos hy] at h9; exact h9
        · rw [ofv, if_neg hy0, if_neg hy1, if_neg hy2, if_neg hy3] at h9; exact h9
end WD
