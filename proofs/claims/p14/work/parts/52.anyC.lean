section AC
variable {bu wd se le ki ow ol li vo : Nat → Int32} {th ba co fi fo en cl lf bg bl : Int32} {S : Nat → Nat} {v : Nat → Bool} {a b : Nat}
theorem n1_of {P : Int32 → St_B → Prop} {x y : Int32} (hM : MF S v a b se le vo li ol ba co) (h : ∀ r t, P r (t, bu, wd, se, le, ki, ow, ol, li, vo, ba, co, fi, fo, en, cl, lf, bg, bl)) : wp_X1_of P x y th bu wd se le ki ow ol li vo ba co fi fo en cl lf bg bl := by
  have h4 := hM.2.2.2.2.1
  have k45 : ∀ (r z0 z1 : Int32), (z1 = 0 → vp_in r 4400) → wc_X1_of_45 P x y r z0 z1 cl th bu wd se le ki ow ol li vo ba co fi fo en cl lf bg bl := fun r z0 z1 hr => by
    unfold wc_X1_of_45
    exact m_refA (fun _ h2 _ => ⟨fun _ => ⟨fun _ => ⟨hr h2, h _ _⟩, fun _ => ⟨fun _ => ⟨hr h2, h _ _⟩, fun _ => ⟨fun _ => ⟨hr h2, h _ _⟩, fun _ => ⟨fun _ => ⟨hr h2, h _ _⟩, fun _ => ⟨hr h2, h _ _⟩⟩⟩⟩⟩, fun hh => absurd rfl hh⟩) (fun t => ⟨fun hh => absurd hh (by decide), fun _ => h _ _⟩)
  have k31 : ∀ (r z1 : Int32), (z1 = 0 → vp_in r 4400) → wc_X1_of_31 P x y r z1 cl th bu wd se le ki ow ol li vo ba co fi fo en cl lf bg bl := fun r z1 hr => by
    unfold wc_X1_of_31
    exact m_in (fun _ => ⟨fun _ => k45 _ _ _ hr, fun _ => k45 _ _ _ hr⟩) (fun _ _ => ⟨fun _ => k45 _ _ _ hr, fun _ => k45 _ _ _ hr⟩)
  have hno : wc_X1_of_16 P x y (-1) th bu wd se le ki ow ol li vo ba co fi fo en cl lf bg bl := by
    unfold wc_X1_of_16
    exact ⟨fun hh => absurd hh (by decide), fun _ => k31 _ _ (fun hh => absurd hh (by decide))⟩
  unfold wp_X1_of
  refine ⟨fun _ => b_rowOf hM hno (fun i i1 i2 i3 i4 => ?_), fun _ => hno⟩
  unfold wc_X1_of_16
  exact ⟨fun _ => k31 _ _ (fun _ => vp_in_nI (by omega) (by omega)), fun hh => absurd (nI_pos' (by omega)) hh⟩
theorem n1_word {P : Int32 → St_B → Prop} {x y : Int32} (hM : MF S v a b se le vo li ol ba co) (h : ∀ r t, P r (t, bu, wd, se, le, ki, ow, ol, li, vo, ba, co, fi, fo, en, cl, lf, bg, bl)) : wp_X1_word P x y th bu wd se le ki ow ol li vo ba co fi fo en cl lf bg bl := by
  have h4 := hM.2.2.2.2.1
  have hb := hM.2.2.2.2.2.1
  have k57 : ∀ (r z0 z1 : Int32), (z1 = 0 → z0 = 0 → vp_in (((x + (4 : Int32)) + y) - ((x + (4 : Int32)) + y) / (65536 : Int32) * (65536 : Int32)) 65536) → wc_X1_word_57 P x y r z0 z1 cl th bu wd se le ki ow ol li vo ba co fi fo en cl lf bg bl := fun r z0 z1 hr => by
    unfold wc_X1_word_57
    exact m_refA (fun _ h2 h3 => ⟨fun _ => ⟨hr h2 h3, h _ _⟩, fun hh => absurd rfl hh⟩) (fun t => ⟨fun hh => absurd hh (by decide), fun _ => h _ _⟩)
  have hno : wc_X1_word_16 P x y (-1) th bu wd se le ki ow ol li vo ba co fi fo en cl lf bg bl := by
    unfold wc_X1_word_16 wc_X1_word_31 wc_X1_word_56
    exact ⟨fun hh => absurd hh (by decide), fun _ => ⟨fun _ => k57 _ _ _ (fun hh => absurd hh (by decide)), fun hh => absurd (by decide) hh⟩⟩
  unfold wp_X1_word
  refine ⟨fun _ => b_rowOf hM hno (fun i i1 i2 i3 i4 => ?_), fun _ => hno⟩
  unfold wc_X1_word_16 wc_X1_word_31 wc_X1_word_56
  refine ⟨fun _ => ⟨fun hh => absurd hh (nI_pos (by omega)), fun _ => ⟨vp_in_nI (by omega) (by omega), ?_⟩⟩, fun hh => absurd (nI_pos' (by omega)) hh⟩
  obtain ⟨r1, r2, r3⟩ := hM.1 i i1 i2
  have hinc := hM.2.1 i i1 i2
  have hup := hM.2.1.up (i := i + 1) (by omega) (show i + 1 ≤ b by omega) (Nat.le_refl b)
  refine m_in (fun _ => ⟨fun _ => k57 _ _ _ (fun _ hh => absurd hh (by decide)), fun hh => absurd rfl hh⟩) (fun hy0 hy1 => ⟨fun hh => absurd hh (by decide), fun _ => k57 _ _ _ (fun _ _ => ?_)⟩)
  obtain ⟨j, hj, rfl⟩ := nI_of hy0
  rw [nI_clamp (by omega), r2] at hy1
  have hle : ¬ nI (S (i + 1) - S i) - nI 6 < nI j := hy1
  have hj2 : j + 6 ≤ S (i + 1) - S i := by
    rcases Nat.lt_or_ge (S (i + 1) - S i) 6 with q | q
    · exact absurd (Int32.lt_of_lt_of_le (pk_sneg (by omega) q) (nI_pos' hj)) hle
    · rw [pk_sub q] at hle
      rcases Nat.lt_or_ge (S (i + 1) - S i - 6) j with q2 | q2
      · exact absurd (nI_lt q2 hj) hle
      · omega
  rw [i4, show (4 : Int32) = nI 4 from rfl, nI_add, nI_add, show (65536 : Int32) = nI 65536 from rfl, pk_rem (by omega) (by omega) (by omega)]
  exact vp_in_nI (Nat.mod_lt _ (by omega)) (by omega)
theorem n1_back {P : Int32 → St_B → Prop} {x y z : Int32} (hM : MF S v a b se le vo li ol ba co) (h : ∀ r t, P r (t, bu, wd, se, le, ki, ow, ol, li, vo, ba, co, fi, fo, en, cl, lf, bg, bl)) : wp_X1_back P x y z th bu wd se le ki ow ol li vo ba co fi fo en cl lf bg bl := by
  have h4 := hM.2.2.2.2.1
  have hb := hM.2.2.2.2.2.1
  have key : ∀ (n : Nat) (at' lft t : Int32), at'.toInt < (n : Int) → wl_X1_back_43 P x y z (n + 1) at' lft t bu wd se le ki ow ol li vo ba co fi fo en cl lf bg bl := by
    intro n
    induction n with
    | zero =>
      intro at' lft t ht
      rw [wl_X1_back_43]
      refine ⟨fun _ => h _ _, fun hh => absurd ?_ hh⟩
      apply Int32.lt_iff_toInt_lt.mpr
      have : (0 : Int32).toInt = 0 := by decide
      omega
    | succ n ih =>
      intro at' lft t ht
      rw [wl_X1_back_43]
      refine ⟨fun _ => h _ _, fun hge => b_rowOf hM ⟨fun _ => h _ _, fun hh => absurd (by decide) hh⟩ (fun i i1 i2 i3 i4 => ⟨fun _ => h _ _, fun _ => m_rowOf hM.1 hM.2.1 hM.2.2.2.1 (by omega) hb hM.2.2.2.2.2.2.1 hM.2.2.2.2.2.2.2 (fun hn => absurd ⟨i, i1, i2, i3, i4⟩ hn) (fun k k1 k2 k3 k4 => ?_)⟩)⟩
      · have hin : vp_in (nI k) 4400 := vp_in_nI (by omega) (by omega)
        have hup := hM.2.1.up k1 (Nat.le_of_lt k2) (Nat.le_refl b)
        obtain ⟨l1, l2⟩ := hM.2.2.1 k k1 k2 k3
        have hS : (nI (S k)).toInt = (S k : Int) := nI_toInt (by omega)
        rw [k4] at ht
        have e1 := Int32.lt_iff_toInt_lt.mp l1
        have e2 := Int32.lt_iff_toInt_lt.mp l2
        rw [nI_clamp (by omega)]
        refine ⟨hin, fun _ => ⟨fun _ => h _ _, fun _ => ⟨hin, fun _ => ⟨hin, ih _ _ _ (by omega)⟩, fun _ => ⟨hin, ih _ _ _ (by omega)⟩⟩⟩, fun _ => ⟨hin, fun _ => ⟨hin, ih _ _ _ (by omega)⟩, fun _ => ⟨hin, ih _ _ _ (by omega)⟩⟩⟩
  have k24 : ∀ z0 : Int32, wc_X1_back_24 P x y z z0 cl th bu wd se le ki ow ol li vo ba co fi fo en cl lf bg bl := fun z0 => by
    unfold wc_X1_back_24
    refine m_refA (fun _ _ _ => ⟨fun _ => b_latestOf hM (fun r => ⟨2 ^ 31 + 1, key (2 ^ 31) r z _ ?_⟩), fun hh => absurd rfl hh⟩) (fun t => ⟨fun hh => absurd hh (by decide), fun _ => h _ _⟩)
    have := Int32.toInt_lt r
    omega
  unfold wp_X1_back wc_X1_back_19
  exact m_in (fun _ => ⟨fun _ => k24 _, fun _ => ⟨fun _ => k24 _, fun _ => k24 _⟩⟩) (fun _ _ => ⟨fun _ => k24 _, fun _ => ⟨fun _ => k24 _, fun _ => k24 _⟩⟩)
end AC
