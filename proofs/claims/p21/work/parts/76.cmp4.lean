section CQ
variable {S : Nat → Nat} {v : Nat → Bool} {a b c k L : Nat} {R Bu : Nat → Int32} {f g e w o : Int32} {bu wd se le ki ow ol li vo : Nat → Int32} {th ba co fi fo en cl lf bg bl : Int32} {O : Nat → Int64} {xs : Nat → Int32}
theorem st_19 (hrel : Rel k (R, Bu, f, g, e, w, o, th, bu, wd, se, le, ki, ow, ol, li, vo, ba, co, fi, fo, en, cl, lf, bg, bl, O)) (h5 : 5 * k + 5 ≤ L) (hL : L ≤ 2560) : wk_19 (fun st => Rel (k + 1) st) L xs (nI (5 * k)) R Bu f g e w o th bu wd se le ki ow ol li vo ba co fi fo en cl lf bg bl O := by
  obtain ⟨S, v, a, b, hI⟩ := hrel
  have hsame := hI.mono
  have hM := hI.mf (by omega)
  obtain ⟨i1, i2, i3, i4, i5, i6, i7, i8, i9⟩ := id hI
  have hw : w = lf := i3.2.2.2.2.2.2
  have haS := i6.le (Nat.le_refl a) i1 (Nat.le_refl b)
  unfold wk_19 wp_X1_thrown wp_L_open wp_X0_open
  rcases i9 with ⟨p1, p2, p3, p4, ⟨c, q1, q2, q3⟩, p6, p7⟩ | ⟨p1, p2, p3, p4, p5, p6, p7⟩ | ⟨T, Fo, p1, p2, p3, p4, p5, p6, p7, p8, p9, p10, p11, p12, p13⟩
  · refine ⟨fun hh => absurd (p2.symm.trans hh) (by decide), fun _ => ⟨rfl, ?_⟩⟩
    unfold wp_X1_open wc_X1_open_13
    exact ⟨fun _ => m_ref1 (by decide) ⟨fun hh => absurd hh (by decide), fun _ => cj_bad (by decide) ⟨S, v, a, b, hsame⟩⟩, fun hh => absurd p1 hh⟩
  · refine ⟨fun _ => ?_, fun hh => absurd p2 hh⟩
    have he : e = nI (S b) := i3.2.2.2.2.2.1.trans (p3.trans p5)
    have hg : g = nI (S b) := i3.2.2.2.2.1.trans p5
    refine q_avr0 i6 i1 (by omega) p6 i3.2.2.1 he ?_
    have fin : ∀ (w' : Int32) (P : Int32 → St_B → Prop), (w' = lf) → (P 0 (0, bu, wd, se, le, ki, ow, ol, li, vo, ba, co, fi, fo, fo, 0, w', -1, bl)) → wp_X1_open P th bu wd se le ki ow ol li vo ba co fi fo en cl lf bg bl := by
      intro w' P hw' hP
      unfold wp_X1_open wc_X1_open_13
      refine ⟨fun hh => absurd (p1.symm.trans hh) (by decide), fun _ => m_ref0 rfl rfl rfl ⟨fun _ => ⟨1, ?_⟩, fun hh => absurd rfl hh⟩⟩
      rw [wl_X1_open_25]
      unfold wc_X1_open_110 wc_X1_open_138
      rw [p4]
      subst hw'
      exact ⟨fun _ => ⟨fun _ => hP, fun hh => absurd (by decide) hh⟩, fun hh => absurd (by decide) hh⟩
    have okI : Inv (k + 1) S v a b R Bu f (nI (S b)) (nI (S b)) lf 1 bu se le ol li vo ba co fi fo fo 0 lf (-1) bl :=
      ⟨i1, by omega, ⟨i3.1, i3.2.1, i3.2.2.1, i3.2.2.2.1, p5.symm, p5.symm, rfl⟩, i4, ⟨i5.1, fun hh => absurd hh (by decide)⟩, i6, i7, i8, Or.inl ⟨rfl, rfl, rfl, p5, ⟨b, i1, Nat.le_refl b, p5⟩, p6, by omega⟩⟩
    rw [he]
    refine q_write (q := S b) (Fo := S b) (by omega) (by omega) hg (by rw [hw]; exact i4) (fun h1 => ?_) (fun W h1 hW h2 => ?_) (fun W h1 h2 => absurd h2 (by omega))
    · rw [show S b - S b = 0 by omega, show S b + 0 = S b by omega]
      refine ⟨fun hh => absurd hh (by decide), fun _ => ⟨v01, fin (-1) _ (h1.symm.trans hw) (gb rfl ⟨S, v, a, b, ?_⟩)⟩⟩
      have : lf = -1 := hw.symm.trans h1
      rw [this] at okI
      exact okI
    · rw [show S b - S b = 0 by omega, show S b + 0 = S b by omega, show W - 0 = W by omega]
      have hlf : lf = nI W := hw.symm.trans h1
      refine ⟨fun hh => absurd hh (by decide), fun _ => ⟨v01, fin (nI W) _ hlf.symm (gb rfl ⟨S, v, a, b, ?_⟩)⟩⟩
      rw [hlf] at okI
      exact okI
  · refine ⟨fun _ => ?_, fun hh => absurd p2 hh⟩
    have he : e = nI Fo := i3.2.2.2.2.2.1.trans (p3.trans p10)
    have hg : g = nI Fo := i3.2.2.2.2.1.trans p10
    refine q_avr1 (En := Fo) (T := T) i6 i1 (by omega) p7 p8 p9 p11 p12 i3.2.2.1 he (fun R' r1 r2 => ?_)
    have hCH : CH R' (sx S b T) (vx v b true) a (b + 1) := i6.more p6 p7 (fun p h1 h2 => r2 p h1 (by omega)) (by rw [r2 _ (by omega) p8]; exact p11) (by rw [if_pos rfl]; exact r1)
    have okI : ∀ lf' : Int32, (lf' = -1 ∨ ∃ W : Nat, W < 2 ^ 31 ∧ lf' = nI W) → Inv (k + 1) (sx S b T) (vx v b true) a (b + 1) R' Bu f (nI (S b + T)) (nI (S b + T)) lf' 1 bu (upd se b (nI (S b))) (upd le b (nI T)) ol li (upd vo b (vp_nar .boolean 1)) ba (nI (b + 1)) fi (nI (S b + T)) (nI (S b + T)) 0 lf' (-1) bl := fun lf' hlf' =>
      ⟨by omega, by omega, ⟨i3.1, rfl, by rw [sx_le i1]; exact i3.2.2.1, by rw [sx_le i1]; exact i3.2.2.2.1, rfl, rfl, rfl⟩, hlf', ⟨i5.1, fun hh => absurd hh (by decide)⟩, hCH, i7.more (by rw [if_pos rfl]; rfl), fun i h1 h2 h3 => (by
        by_cases hi : i = b
        · subst hi; rw [vx_b] at h3; cases h3
        · rw [vx_ne hi] at h3; rw [sx_le (show i ≤ b by omega)]; exact i8 i h1 (by omega) h3), Or.inl ⟨rfl, rfl, rfl, by rw [sx_n], ⟨b + 1, by omega, Nat.le_refl _, by rw [sx_n]⟩, by rw [sx_n, sx_le i1]; omega, by rw [sx_n]; omega⟩⟩
    have hmod : ∀ (P : Int32 → St_B → Prop), (lf = -1 → P (nI (S b + T - Fo)) (0, bu, wd, upd se b (nI (S b)), upd le b (nI T), ki, ow, ol, li, upd vo b (vp_nar .boolean 1), ba, nI (b + 1), fi, nI (S b + T), nI (S b + T), 0, -1, -1, bl)) → (∀ W : Nat, lf = nI W → W < 2 ^ 31 → S b + T - Fo ≤ W → P (nI (S b + T - Fo)) (0, bu, wd, upd se b (nI (S b)), upd le b (nI T), ki, ow, ol, li, upd vo b (vp_nar .boolean 1), ba, nI (b + 1), fi, nI (S b + T), nI (S b + T), 0, nI (W - (S b + T - Fo)), -1, bl)) → (∀ W : Nat, lf = nI W → W < S b + T - Fo → P (-1) (0, bu, wd, se, le, ki, ow, ol, li, vo, ba, co, fi, nI (Fo + W), nI (Fo + W), cl, -1, bg, bl)) → wp_X1_open P th bu wd se le ki ow ol li vo ba co fi fo en cl lf bg bl := by
      intro P h1 h2 h3
      unfold wp_X1_open wc_X1_open_13
      refine ⟨fun hh => absurd (p1.symm.trans hh) (by decide), fun _ => m_ref0 rfl rfl rfl ⟨fun _ => ?_, fun hh => absurd rfl hh⟩⟩
      refine m_open25 p4 p5 p10 (by omega) (by omega) i4 (fun hlf => ?_) (fun W hlf hW hle => ?_) (fun W hlf hlt => h3 W hlf hlt)
      · unfold wc_X1_open_110 wc_X1_open_138
        refine ⟨fun hh => absurd hh (by rw [p4]; exact nI_pos (by omega)), fun _ => m_addRow (by omega) i3.2.1 ?_⟩
        have h9 := h1 hlf
        simp only [p4, p5] at h9 ⊢
        exact h9
      · unfold wc_X1_open_110 wc_X1_open_138
        refine ⟨fun hh => absurd hh (by rw [p4]; exact nI_pos (by omega)), fun _ => m_addRow (by omega) i3.2.1 ?_⟩
        have h9 := h2 W hlf hW hle
        simp only [p4, p5] at h9 ⊢
        exact h9
    refine q_write (q := S b + T) (Fo := Fo) (by omega) (by omega) hg (by rw [hw]; exact i4) (fun h1 => ?_) (fun W h1 hW h2 => ?_) (fun W h1 h2 Bz hz => ?_)
    · have hlf : lf = -1 := hw.symm.trans h1
      rw [show Fo + (S b + T - Fo) = S b + T by omega]
      refine ⟨fun hh => absurd hh (q_nneg (by omega)), fun _ => ⟨v01, hmod _ (fun _ => cj_good ⟨_, _, _, _, okI (-1) (Or.inl rfl)⟩) (fun W h3 hW _ => absurd (h3.symm.trans hlf) (q_nneg hW)) (fun W h3 h4 => absurd (h3.symm.trans hlf) (q_nneg (by omega)))⟩⟩
    · have hlf : lf = nI W := hw.symm.trans h1
      rw [show Fo + (S b + T - Fo) = S b + T by omega]
      refine ⟨fun hh => absurd hh (q_nneg (by omega)), fun _ => ⟨v01, hmod _ (fun h3 => absurd (hlf.symm.trans h3) (q_nneg hW)) (fun W' h3 hW' h4 => ?_) (fun W' h3 h4 => ?_)⟩⟩
      · have : W' = W := (nI_eq hW' hW).mp (h3.symm.trans hlf)
        subst this
        exact cj_good ⟨_, _, _, _, okI _ (Or.inr ⟨_, by omega, rfl⟩)⟩
      · have : W' = W := (nI_eq (by omega) hW).mp (h3.symm.trans hlf)
        omega
    · have hlf : lf = nI W := hw.symm.trans h1
      refine ⟨fun _ => ⟨v01, hmod _ (fun h3 => absurd (hlf.symm.trans h3) (q_nneg (by omega))) (fun W' h3 hW' h4 => ?_) (fun W' h3 h4 => ?_)⟩, fun hh => absurd rfl hh⟩
      · have : W' = W := (nI_eq hW' (by omega)).mp (h3.symm.trans hlf)
        omega
      · have : W' = W := (nI_eq (by omega) (by omega)).mp (h3.symm.trans hlf)
        subst this
        refine cj_good ⟨S, v, a, b, i1, by omega, ⟨i3.1, i3.2.1, i3.2.2.1, i3.2.2.2.1, rfl, rfl, rfl⟩, Or.inl rfl, ⟨fun j hj => by rw [hz j hj, i5.2 p1 j hj], i5.2⟩, ?_, i7, i8, Or.inr (Or.inr ⟨T, Fo + W', p1, rfl, rfl, p4, p5, p6, p7, by omega, by omega, rfl, ?_, p12, by omega⟩)⟩
        · intro i j1 j2
          obtain ⟨c1, c2, c3, c4⟩ := i6 i j1 j2
          have u1 := i6.le (Nat.le_refl a) j1 (by omega)
          have u2 := i6.le (i := i + 1) (by omega) (show i + 1 ≤ b by omega) (Nat.le_refl b)
          exact ⟨c1, c2, by rw [r2 _ (by omega) (by omega)]; exact c3, by rw [r2 _ (by omega) (by omega)]; exact c4⟩
        · rw [r2 _ (by omega) (by omega)]; exact p11
end CQ
