section WD
variable {S : Nat → Nat} {v : Nat → Bool} {a b c k L : Nat} {R Bu : Nat → Int32} {f g e w o : Int32} {bu wd se le ki ow ol li vo : Nat → Int32} {th ba co fi fo en cl lf bg bl : Int32} {O : Nat → Int64} {x y z : Int32}
/-- what of answers at record i -/
def ofv (S : Nat → Nat) (ki ow ol li : Nat → Int32) (i : Nat) (y : Int32) : Int32 := if y = 0 then ki i else if y = 1 then ow i else if y = 2 then ol i else if y = 3 then li i else nI (S (i + 1) - S i) - 5
theorem l_word {P : Int32 → St_AO → Prop} (hI : Inv k S v a b R Bu f g e w o bu wd se le ki ow ol li vo ba co fi fo en cl lf bg bl) (hD : WD S v a b R wd ki ow ol li) (hk : k < 512) (h0 : cl = 1 → P 1 (R, Bu, f, g, e, w, o, O)) (h2 : cl = 0 → ¬ isr S v a b x → P 2 (R, Bu, f, g, e, w, o, O)) (h3 : cl = 0 → ∀ i, a ≤ i → i < b → v i = false → x = nI (S i) → (∀ j, y = nI j → ¬ S i + 5 + j < S (i + 1)) → P 3 (R, Bu, f, g, e, w, o, O)) (h1 : cl = 0 → ∀ i, a ≤ i → i < b → v i = false → x = nI (S i) → ∀ j, y = nI j → S i + 5 + j < S (i + 1) → P 0 (R, Bu, f, g, e, w, o, vp_updL O (0 : Int32).toNatClampNeg (wd ((S i + 4 + j) % 65536)).toInt64)) : wp_L_word P x y R Bu f g e w o O := by
  unfold wp_L_word wp_X0_word wp_X0_requireOpen wp_X0_requireRecord
  rcases hI.oc with ⟨q1, q2⟩ | ⟨q1, q2⟩
  · exact ⟨fun _ => Or.inl ⟨rfl, h0 q2⟩, fun hh => absurd q1 hh⟩
  · refine ⟨fun hh => absurd (q1.symm.trans hh) (by decide), fun _ => ?_⟩
    have hop := hI.op q2
    have hbd := hI.2.2.2.2.2.2.2.2.bound
    have hC := hI.2.2.2.2.2.1
    refine q_isRecord hC hI.1 (by omega) hbd.2 hI.2.2.1.2.2.1 hop.1 (fun hno => ⟨fun _ => Or.inr (Or.inl ⟨rfl, h2 q2 hno⟩), fun hh => absurd rfl hh⟩) (fun hyes => ⟨fun hh => absurd hh (by decide), fun _ => ?_⟩)
    obtain ⟨i, j1, j2, j3, j4⟩ := hyes
    have h1' := h1 q2 i j1 j2 j3 j4
    have h3' := h3 q2 i j1 j2 j3 j4
    obtain ⟨c1, c2, c3, c4⟩ := hC i j1 j2
    have hup := hC.le (i := i + 1) (by omega) (show i + 1 ≤ b by omega) (Nat.le_refl b)
    obtain ⟨K, W, d1, d2, d3, d4, d5, d6, d7, d8⟩ := hD i j1 j2 j3
    refine ⟨fun hy => Or.inr (Or.inr ⟨rfl, h3' (fun j hj hlt => ?_)⟩), fun hy => ?_⟩
    · rw [hj] at hy
      exact nI_pos (by omega) hy
    · obtain ⟨j, hj, hyj⟩ := nI_of hy
      rw [j4]
      unfold wp_X0_contentWords
      refine q_wordAt (by omega) ?_
      show (y < rd R (S i) - (5 : Int32) → _) ∧ (¬ y < rd R (S i) - (5 : Int32) → _)
      rw [c3, show (5 : Int32) = nI 5 from rfl, pk_sub (by omega), hyj]
      refine ⟨fun hlt => ?_, fun hlt => Or.inr (Or.inr ⟨rfl, h3' (fun j' hj' hlt' => hlt ?_)⟩)⟩
      · have hlt' := (nI_ltI hj (by omega)).mp hlt
        rw [show (4 : Int32) = nI 4 from rfl, nI_add, nI_add]
        refine q_wordAt (by omega) ⟨v01, ?_⟩
        rw [d8 j (by omega)]
        exact h1' j hyj (by omega)
      · have hjj : j = j' := (nI_eq hj (by omega)).mp (hyj.symm.trans hj')
        subst hjj
        exact nI_lt (by omega) (by omega)
theorem u_word {P : Int32 → St_B → Prop} (hI : Inv k S v a b R Bu f g e w o bu wd se le ki ow ol li vo ba co fi fo en cl lf bg bl) (hk : k < 512) (h0 : cl = 1 → P 0 (1, bu, wd, se, le, ki, ow, ol, li, vo, ba, co, fi, fo, en, cl, lf, bg, bl)) (h2 : cl = 0 → ¬ isr S v a b x → P 0 (2, bu, wd, se, le, ki, ow, ol, li, vo, ba, co, fi, fo, en, cl, lf, bg, bl)) (h3 : cl = 0 → ∀ i, a ≤ i → i < b → v i = false → x = nI (S i) → (∀ j, y = nI j → ¬ S i + 5 + j < S (i + 1)) → P 0 (3, bu, wd, se, le, ki, ow, ol, li, vo, ba, co, fi, fo, en, cl, lf, bg, bl)) (h1 : cl = 0 → ∀ i, a ≤ i → i < b → v i = false → x = nI (S i) → ∀ j, y = nI j → S i + 5 + j < S (i + 1) → P (wd ((S i + 4 + j) % 65536)) (0, bu, wd, se, le, ki, ow, ol, li, vo, ba, co, fi, fo, en, cl, lf, bg, bl)) : wp_X1_word P x y th bu wd se le ki ow ol li vo ba co fi fo en cl lf bg bl := by
  have hM := hI.mf (by omega)
  have h44 := hM.2.2.2.2.1
  have hb := hM.2.2.2.2.2.1
  unfold wp_X1_word
  rcases hI.oc with ⟨q1, q2⟩ | ⟨q1, q2⟩
  · refine ⟨fun hh => absurd (q2.symm.trans hh) (by decide), fun _ => ?_⟩
    unfold wc_X1_word_16 wc_X1_word_31 wc_X1_word_56 wc_X1_word_57
    exact ⟨fun hh => absurd hh (by decide), fun _ => ⟨fun _ => m_ref1 (by rw [q2]; decide) ⟨fun hh => absurd hh (by decide), fun _ => h0 q2⟩, fun hh => absurd (by decide) hh⟩⟩
  · refine ⟨fun _ => m_rowOf hM.1 hM.2.1 hI.1 (by omega) hb hI.2.2.1.1 hI.2.2.1.2.1 (fun hno => ?_) (fun i j1 j2 j3 j4 => ?_), fun hh => absurd q2 hh⟩
    · unfold wc_X1_word_16 wc_X1_word_31 wc_X1_word_56 wc_X1_word_57
      exact ⟨fun hh => absurd hh (by decide), fun _ => ⟨fun _ => m_ref2 q2 (by decide) ⟨fun hh => absurd hh (by decide), fun _ => h2 q2 hno⟩, fun hh => absurd (by decide) hh⟩⟩
    · have h1' := h1 q2 i j1 j2 j3 j4
      have h3' := h3 q2 i j1 j2 j3 j4
      obtain ⟨r1, r2, r3⟩ := hM.1 i j1 j2
      have hinc := hM.2.1 i j1 j2
      have hup := hM.2.1.up (i := i + 1) (by omega) (show i + 1 ≤ b by omega) (Nat.le_refl b)
      unfold wc_X1_word_16 wc_X1_word_31
      refine ⟨fun _ => ⟨fun hh => absurd hh (nI_pos (by omega)), fun _ => ⟨vp_in_nI (by omega) (by omega), ?_⟩⟩, fun hh => absurd (nI_pos' (by omega)) hh⟩
      rw [nI_clamp (by omega), r2]
      refine m_in (fun hy => ⟨fun _ => ?_, fun hh => absurd rfl hh⟩) (fun hy0 hy1 => ⟨fun hh => absurd hh (by decide), fun _ => ?_⟩)
      · unfold wc_X1_word_57
        refine m_ref3 q2 rfl (by decide) ⟨fun hh => absurd hh (by decide), fun _ => h3' (fun j hj hlt => ?_)⟩
        rcases hy with hy | hy
        · rw [hj] at hy
          exact nI_pos (by omega) hy
        · rw [hj, show (6 : Int32) = nI 6 from rfl, pk_sub (by omega)] at hy
          exact nI_nlt (by omega) (by omega) hy
      · obtain ⟨j, hj, hyj⟩ := nI_of hy0
        rw [hyj] at hy1
        have hle : ¬ nI (S (i + 1) - S i) - nI 6 < nI j := hy1
        have hj2 : j + 6 ≤ S (i + 1) - S i := by
          rcases Nat.lt_or_ge (S (i + 1) - S i) 6 with q | q
          · exact absurd (Int32.lt_of_lt_of_le (pk_sneg (by omega) q) (nI_pos' hj)) hle
          · rw [pk_sub q] at hle
            rcases Nat.lt_or_ge (S (i + 1) - S i - 6) j with q2 | q2
            · exact absurd (nI_lt q2 hj) hle
            · omega
        unfold wc_X1_word_56 wc_X1_word_57
        refine m_ref0 q2 rfl rfl ⟨fun _ => ?_, fun hh => absurd rfl hh⟩
        have h9 := h1' j hyj (by omega)
        rw [j4, hyj, show (4 : Int32) = nI 4 from rfl, nI_add, nI_add, show (65536 : Int32) = nI 65536 from rfl, pk_rem (by omega) (by omega) (by omega)]
        have h65 : (S i + 4 + j) % 65536 < 65536 := Nat.mod_lt _ (by omega)
        rw [nI_clamp (by omega)]
        exact ⟨vp_in_nI h65 (by omega), h9⟩
end WD
