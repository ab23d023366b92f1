section SX
variable {S : Nat → Nat} {v : Nat → Bool} {a b c k L : Nat} {R Bu : Nat → Int32} {f g e w o : Int32} {bu wd se le ki ow ol li vo : Nat → Int32} {th ba co fi fo en cl lf bg bl : Int32} {O : Nat → Int64} {xs : Nat → Int32}
theorem m_open25 {post : Int32 → St_B → Prop} {Sb T Fo : Nat} (hbg : bg = nI Sb) (hbl : bl = nI T) (hfo : fo = nI Fo) (hF : Fo ≤ Sb + T) (hS : Sb + T < 2 ^ 30) (hlf : lf = -1 ∨ ∃ W : Nat, W < 2 ^ 31 ∧ lf = nI W)
    (h1 : lf = -1 → wc_X1_open_110 post (nI (Sb + T - Fo)) th bu wd se le ki ow ol li vo ba co fi (nI (Sb + T)) en cl (-1) bg bl)
    (h2 : ∀ W : Nat, lf = nI W → W < 2 ^ 31 → Sb + T - Fo ≤ W → wc_X1_open_110 post (nI (Sb + T - Fo)) th bu wd se le ki ow ol li vo ba co fi (nI (Sb + T)) en cl (nI (W - (Sb + T - Fo))) bg bl)
    (h3 : ∀ W : Nat, lf = nI W → W < Sb + T - Fo → post (-1) (th, bu, wd, se, le, ki, ow, ol, li, vo, ba, co, fi, nI (Fo + W), nI (Fo + W), cl, -1, bg, bl)) : ∃ n, wl_X1_open_25 post n 0 th bu wd se le ki ow ol li vo ba co fi fo en cl lf bg bl := by
  refine ⟨Sb + T - Fo + 1, ?_⟩
  have hb0 : ¬ bg < 0 := by rw [hbg]; exact nI_pos (by omega)
  have hsum : bg + bl = nI (Sb + T) := by rw [hbg, hbl, nI_add]
  rcases hlf with rfl | ⟨W, hW, rfl⟩
  · have key : ∀ (n j : Nat), Sb + T - Fo - j = n → j ≤ Sb + T - Fo → wl_X1_open_25 post (n + 1) (nI j) th bu wd se le ki ow ol li vo ba co fi (nI (Fo + j)) en cl (-1) bg bl := by
      intro n
      induction n with
      | zero =>
        intro j hn hj
        have : j = Sb + T - Fo := by omega
        subst this
        have h1' := h1 rfl
        rw [show Sb + T = Fo + (Sb + T - Fo) by omega] at h1'
        rw [wl_X1_open_25, hsum]
        refine ⟨fun hh => absurd hh hb0, fun _ => ⟨fun _ => ?_, fun hh => absurd (nI_le (by omega) (by omega)) hh⟩⟩
        rw [show Fo + (Sb + T - Fo) - Fo = Sb + T - Fo by omega] at h1'
        exact h1'
      | succ n ih =>
        intro j hn hj
        have ih' := ih (j + 1) (by omega) (by omega)
        rw [wl_X1_open_25, hsum, nI_1, nI_1]
        exact ⟨fun hh => absurd hh hb0, fun _ => ⟨fun hh => absurd hh (nI_ge (by omega) (by omega)), fun _ => ⟨fun hh => absurd hh (by decide), fun _ => ⟨fun _ => ih', fun hh => absurd (by decide) hh⟩⟩⟩⟩
    rw [hfo]
    exact key (Sb + T - Fo) 0 rfl (by omega)
  · have key : ∀ (n j : Nat), Sb + T - Fo - j = n → j ≤ Sb + T - Fo → j ≤ W → wl_X1_open_25 post (n + 1) (nI j) th bu wd se le ki ow ol li vo ba co fi (nI (Fo + j)) en cl (nI (W - j)) bg bl := by
      intro n
      induction n with
      | zero =>
        intro j hn hj hjW
        have : j = Sb + T - Fo := by omega
        subst this
        have h2' := h2 W rfl hW hjW
        rw [wl_X1_open_25, hsum]
        refine ⟨fun hh => absurd hh hb0, fun _ => ⟨fun _ => ?_, fun hh => absurd (nI_le (by omega) (by omega)) hh⟩⟩
        rw [show Fo + (Sb + T - Fo) = Sb + T by omega]
        exact h2'
      | succ n ih =>
        intro j hn hj hjW
        rw [wl_X1_open_25, hsum, nI_1, nI_1]
        refine ⟨fun hh => absurd hh hb0, fun _ => ⟨fun hh => absurd hh (nI_ge (by omega) (by omega)), fun _ => ⟨fun h0 => ?_, fun h0 => ⟨fun hh => ?_, fun _ => ?_⟩⟩⟩⟩
        · have hjW2 : W = j := by
            rcases Nat.lt_or_ge j W with q | q
            · exact absurd h0 (nI_ne0 (by omega) (by omega))
            · omega
          subst hjW2
          exact h3 W rfl (by omega)
        · rcases Nat.lt_or_ge j W with q | q
          · exact absurd hh (nI_nle (by omega) (by omega))
          · exact absurd (by rw [show W - j = 0 by omega]; rfl) h0
        · rcases Nat.lt_or_ge j W with q | q
          · rw [q_n1 (by omega), show W - j - 1 = W - (j + 1) by omega]
            exact ih (j + 1) (by omega) (by omega) (by omega)
          · exact absurd (by rw [show W - j = 0 by omega]; rfl) h0
    rw [hfo]
    exact key (Sb + T - Fo) 0 rfl (by omega) (by omega)
/-- one row more -/
def sx (S : Nat → Nat) (b T : Nat) : Nat → Nat := fun i => if i ≤ b then S i else S b + T
def vx (v : Nat → Bool) (b : Nat) (q : Bool) : Nat → Bool := fun i => if i = b then q else v i
theorem sx_le {T i : Nat} (h : i ≤ b) : sx S b T i = S i := if_pos h
theorem sx_n {T : Nat} : sx S b T (b + 1) = S b + T := if_neg (by omega)
theorem vx_ne {q : Bool} {i : Nat} (h : i ≠ b) : vx v b q i = v i := if_neg h
theorem vx_b {q : Bool} : vx v b q b = q := if_pos rfl
theorem CH.more {R' : Nat → Int32} {T : Nat} {q : Bool} (h : CH R S v a b) (h5 : 5 ≤ T) (h205 : T ≤ 205) (hk : ∀ p, S a ≤ p → p < S b → rd R' p = rd R p) (hT : rd R' (S b) = nI T) (hl : rd R' (S b + T - 1) = (if q = true then -nI T else nI T)) : CH R' (sx S b T) (vx v b q) a (b + 1) := by
  intro i h1 h2
  by_cases hi : i = b
  · subst hi
    rw [sx_le (Nat.le_refl i), sx_n, vx_b, show S i + T - S i = T by omega]
    exact ⟨by omega, by omega, hT, hl⟩
  · obtain ⟨c1, c2, c3, c4⟩ := h i h1 (by omega)
    have u1 := h.le (Nat.le_refl a) h1 (by omega)
    have u2 := h.le (i := i + 1) (by omega) (show i + 1 ≤ b by omega) (Nat.le_refl b)
    rw [sx_le (show i ≤ b by omega), sx_le (show i + 1 ≤ b by omega), vx_ne hi]
    exact ⟨c1, c2, by rw [hk _ (by omega) (by omega)]; exact c3, by rw [hk _ (by omega) (by omega)]; exact c4⟩
theorem RO.more {T : Nat} {q : Bool} {x : Int32} (h : RO S v a b se le vo) (hx : x = (if q = true then 1 else 0)) : RO (sx S b T) (vx v b q) a (b + 1) (upd se b (nI (S b))) (upd le b (nI T)) (upd vo b x) := by
  intro i h1 h2
  by_cases hi : i = b
  · subst hi
    rw [sx_le (Nat.le_refl i), sx_n, vx_b, pk_us, pk_us, pk_us, show S i + T - S i = T by omega]
    exact ⟨rfl, rfl, hx⟩
  · obtain ⟨r1, r2, r3⟩ := h i h1 (by omega)
    rw [sx_le (show i ≤ b by omega), sx_le (show i + 1 ≤ b by omega), vx_ne hi, pk_un hi, pk_un hi, pk_un hi]
    exact ⟨r1, r2, r3⟩
theorem LNW.moreV {R' : Nat → Int32} {T : Nat} (h : LNW S v a b R wd ki ow ol li) (hC : INC S a b) (hk : ∀ p, S a ≤ p → p < S b → rd R' p = rd R p) : LNW (sx S b T) (vx v b true) a (b + 1) R' wd ki ow ol li := by
  refine ⟨?_, ?_⟩
  · intro i h1 h2 h3
    by_cases hi : i = b
    · subst hi; rw [vx_b] at h3; cases h3
    · rw [vx_ne hi] at h3; rw [sx_le (show i ≤ b by omega)]; exact h.1 i h1 (by omega) h3
  · intro i h1 h2 h3
    by_cases hi : i = b
    · subst hi; rw [vx_b] at h3; cases h3
    · rw [vx_ne hi] at h3
      rw [sx_le (show i ≤ b by omega), sx_le (show i + 1 ≤ b by omega)]
      exact h.2.frame hC hk i h1 (by omega) h3
theorem LNW.moreR {R' wd' : Nat → Int32} {n K W : Nat} {x3 r : Int32} (h : LNW S v a b R wd ki ow ol li) (hC : INC S a b) (hk : ∀ p, S a ≤ p → p < S b → rd R' p = rd R p) (hkw : ∀ p, S a ≤ p → p < S b → wd' (p % 65536) = wd (p % 65536)) (hK : K < 16) (hW : W < 8) (e1 : rd R' (S b + 1) = nI (K + 16 * W)) (e2 : rd R' (S b + 2) = r) (e3 : rd R' (S b + 3) = x3) (e4 : ∀ j, j < n → rd R' (S b + 4 + j) = wd' ((S b + 4 + j) % 65536)) (hx3 : x3 < nI (S b)) (hr : r < nI (S b)) : LNW (sx S b (n + 5)) (vx v b false) a (b + 1) R' wd' (upd ki b (nI K)) (upd ow b (nI W)) (upd ol b r) (upd li b x3) := by
  refine ⟨?_, ?_⟩
  · intro i j1 j2 j3
    by_cases hi : i = b
    · subst hi
      rw [pk_us, pk_us, sx_le (Nat.le_refl i)]
      exact ⟨hx3, hr⟩
    · rw [pk_un hi, pk_un hi, sx_le (show i ≤ b by omega)]
      rw [vx_ne hi] at j3
      exact h.1 i j1 (by omega) j3
  · intro i j1 j2 j3
    by_cases hi : i = b
    · subst hi
      rw [pk_us, pk_us, pk_us, pk_us, sx_le (Nat.le_refl i), sx_n]
      exact ⟨K, W, hK, hW, rfl, rfl, e1, e2, e3, fun j hj => e4 j (by omega)⟩
    · rw [vx_ne hi] at j3
      obtain ⟨K', W', d1, d2, d3, d4, d5, d6, d7, d8⟩ := h.2.frame hC hk i j1 (by omega) j3
      have u1 := hC.up (Nat.le_refl a) j1 (by omega)
      have u2 := hC.up (i := i + 1) (by omega) (show i + 1 ≤ b by omega) (Nat.le_refl b)
      rw [pk_un hi, pk_un hi, pk_un hi, pk_un hi, sx_le (show i ≤ b by omega), sx_le (show i + 1 ≤ b by omega)]
      exact ⟨K', W', d1, d2, d3, d4, d5, d6, d7, fun j hj => by rw [d8 j hj, hkw _ (by omega) (by omega)]⟩
theorem st_19 (hrel : Rel k (R, Bu, f, g, e, w, o, th, bu, wd, se, le, ki, ow, ol, li, vo, ba, co, fi, fo, en, cl, lf, bg, bl, O)) (h5 : 5 * k + 5 ≤ L) (hL : L ≤ 2560) : wk_19 (fun st => Rel (k + 1) st) L xs (nI (5 * k)) R Bu f g e w o th bu wd se le ki ow ol li vo ba co fi fo en cl lf bg bl O := by
  obtain ⟨S, v, a, b, hI⟩ := hrel
  have hsame := hI.mono
  have hM := hI.mf (by omega)
  obtain ⟨i1, i2, i3, i4, i5, i6, i7, i8, i9⟩ := id hI
  have hw : w = lf := i3.2.2.2.2.2.2
  have haS := i6.le (Nat.le_refl a) i1 (Nat.le_refl b)
  unfold wk_19 wp_L_open wp_X0_open
  rcases i9 with ⟨p1, p2, p3, p4, ⟨c, q1, q2, q3⟩, p6, p7⟩ | ⟨p1, p2, p3, p4, p5, p6, p7⟩ | ⟨T, Fo, p1, p2, p3, p4, p5, p6, p7, p8, p9, p10, p11, p12, p13⟩
  · refine ⟨fun hh => absurd (p2.symm.trans hh) (by decide), fun _ => ⟨rfl, ?_⟩⟩
    unfold wp_X1_open wc_X1_open_13
    exact ⟨fun _ => m_ref1 (by decide) ⟨fun hh => absurd hh (by decide), fun _ => ⟨S, v, a, b, hsame⟩⟩, fun hh => absurd p1 hh⟩
  · refine ⟨fun _ => ?_, fun hh => absurd p2 hh⟩
    have he : e = nI (S b) := i3.2.2.2.2.2.1.trans (p3.trans p5)
    have hg : g = nI (S b) := i3.2.2.2.2.1.trans p5
    refine q_avr0 i6 i1 (by omega) p6 i3.2.2.1 he ?_
    have fin : ∀ (w' : Int32) (P : Int32 → St_B → Prop), (w' = lf) → (∀ r t, P r (t, bu, wd, se, le, ki, ow, ol, li, vo, ba, co, fi, fo, fo, 0, w', -1, bl)) → wp_X1_open P th bu wd se le ki ow ol li vo ba co fi fo en cl lf bg bl := by
      intro w' P hw' hP
      unfold wp_X1_open wc_X1_open_13
      refine ⟨fun hh => absurd (p1.symm.trans hh) (by decide), fun _ => m_ref0 rfl rfl rfl ⟨fun _ => ⟨1, ?_⟩, fun hh => absurd rfl hh⟩⟩
      rw [wl_X1_open_25]
      unfold wc_X1_open_110 wc_X1_open_138
      rw [p4]
      subst hw'
      exact ⟨fun _ => ⟨fun _ => hP _ _, fun hh => absurd (by decide) hh⟩, fun hh => absurd (by decide) hh⟩
    have okI : Inv (k + 1) S v a b R Bu f (nI (S b)) (nI (S b)) lf 1 bu wd se le ki ow ol li vo ba co fi fo fo 0 lf (-1) bl :=
      ⟨i1, by omega, ⟨i3.1, i3.2.1, i3.2.2.1, i3.2.2.2.1, p5.symm, p5.symm, rfl⟩, i4, ⟨i5.1, fun hh => absurd hh (by decide)⟩, i6, i7, i8, Or.inl ⟨rfl, rfl, rfl, p5, ⟨b, i1, Nat.le_refl b, p5⟩, p6, by omega⟩⟩
    rw [he]
    refine q_write (q := S b) (Fo := S b) (by omega) (by omega) hg (by rw [hw]; exact i4) (fun h1 => ?_) (fun W h1 hW h2 => ?_) (fun W h1 h2 => absurd h2 (by omega))
    · rw [show S b - S b = 0 by omega, show S b + 0 = S b by omega]
      refine ⟨fun hh => absurd hh (by decide), fun _ => ⟨v01, fin (-1) _ (h1.symm.trans hw) (fun r t => ⟨S, v, a, b, ?_⟩)⟩⟩
      have : lf = -1 := hw.symm.trans h1
      rw [this] at okI
      exact okI
    · rw [show S b - S b = 0 by omega, show S b + 0 = S b by omega, show W - 0 = W by omega]
      have hlf : lf = nI W := hw.symm.trans h1
      refine ⟨fun hh => absurd hh (by decide), fun _ => ⟨v01, fin (nI W) _ hlf.symm (fun r t => ⟨S, v, a, b, ?_⟩)⟩⟩
      rw [hlf] at okI
      exact okI
  · refine ⟨fun _ => ?_, fun hh => absurd p2 hh⟩
    have he : e = nI Fo := i3.2.2.2.2.2.1.trans (p3.trans p10)
    have hg : g = nI Fo := i3.2.2.2.2.1.trans p10
    refine q_avr1 (En := Fo) (T := T) i6 i1 (by omega) p7 p8 p9 p11 p12 i3.2.2.1 he (fun R' r1 r2 => ?_)
    have hCH : CH R' (sx S b T) (vx v b true) a (b + 1) := i6.more p6 p7 (fun p h1 h2 => r2 p h1 (by omega)) (by rw [r2 _ (by omega) p8]; exact p11) (by rw [if_pos rfl]; exact r1)
    have okI : ∀ lf' : Int32, (lf' = -1 ∨ ∃ W : Nat, W < 2 ^ 31 ∧ lf' = nI W) → Inv (k + 1) (sx S b T) (vx v b true) a (b + 1) R' Bu f (nI (S b + T)) (nI (S b + T)) lf' 1 bu wd (upd se b (nI (S b))) (upd le b (nI T)) ki ow ol li (upd vo b (vp_nar .boolean 1)) ba (nI (b + 1)) fi (nI (S b + T)) (nI (S b + T)) 0 lf' (-1) bl := fun lf' hlf' =>
      ⟨by omega, by omega, ⟨i3.1, rfl, by rw [sx_le i1]; exact i3.2.2.1, by rw [sx_le i1]; exact i3.2.2.2.1, rfl, rfl, rfl⟩, hlf', ⟨i5.1, fun hh => absurd hh (by decide)⟩, hCH, i7.more (by rw [if_pos rfl]; rfl), i8.moreV hM.2.1 (fun p h1 h2 => r2 p h1 (by omega)), Or.inl ⟨rfl, rfl, rfl, by rw [sx_n], ⟨b + 1, by omega, Nat.le_refl _, by rw [sx_n]⟩, by rw [sx_n, sx_le i1]; omega, by rw [sx_n]; omega⟩⟩
    have hmod : ∀ (P : Int32 → St_B → Prop), (lf = -1 → ∀ t, P (nI (S b + T - Fo)) (t, bu, wd, upd se b (nI (S b)), upd le b (nI T), ki, ow, ol, li, upd vo b (vp_nar .boolean 1), ba, nI (b + 1), fi, nI (S b + T), nI (S b + T), 0, -1, -1, bl)) → (∀ W : Nat, lf = nI W → W < 2 ^ 31 → S b + T - Fo ≤ W → ∀ t, P (nI (S b + T - Fo)) (t, bu, wd, upd se b (nI (S b)), upd le b (nI T), ki, ow, ol, li, upd vo b (vp_nar .boolean 1), ba, nI (b + 1), fi, nI (S b + T), nI (S b + T), 0, nI (W - (S b + T - Fo)), -1, bl)) → (∀ W : Nat, lf = nI W → W < S b + T - Fo → ∀ t, P (-1) (t, bu, wd, se, le, ki, ow, ol, li, vo, ba, co, fi, nI (Fo + W), nI (Fo + W), cl, -1, bg, bl)) → wp_X1_open P th bu wd se le ki ow ol li vo ba co fi fo en cl lf bg bl := by
      intro P h1 h2 h3
      unfold wp_X1_open wc_X1_open_13
      refine ⟨fun hh => absurd (p1.symm.trans hh) (by decide), fun _ => m_ref0 rfl rfl rfl ⟨fun _ => ?_, fun hh => absurd rfl hh⟩⟩
      refine m_open25 p4 p5 p10 (by omega) (by omega) i4 (fun hlf => ?_) (fun W hlf hW hle => ?_) (fun W hlf hlt => h3 W hlf hlt _)
      · unfold wc_X1_open_110 wc_X1_open_138
        refine ⟨fun hh => absurd hh (by rw [p4]; exact nI_pos (by omega)), fun _ => m_addRow (by omega) i3.2.1 ?_⟩
        have h9 := h1 hlf 0
        simp only [p4, p5] at h9 ⊢
        exact h9
      · unfold wc_X1_open_110 wc_X1_open_138
        refine ⟨fun hh => absurd hh (by rw [p4]; exact nI_pos (by omega)), fun _ => m_addRow (by omega) i3.2.1 ?_⟩
        have h9 := h2 W hlf hW hle 0
        simp only [p4, p5] at h9 ⊢
        exact h9
    refine q_write (q := S b + T) (Fo := Fo) (by omega) (by omega) hg (by rw [hw]; exact i4) (fun h1 => ?_) (fun W h1 hW h2 => ?_) (fun W h1 h2 Bz hz => ?_)
    · have hlf : lf = -1 := hw.symm.trans h1
      rw [show Fo + (S b + T - Fo) = S b + T by omega]
      refine ⟨fun hh => absurd hh (q_nneg (by omega)), fun _ => ⟨v01, hmod _ (fun _ t => ⟨_, _, _, _, okI (-1) (Or.inl rfl)⟩) (fun W h3 hW _ => absurd (h3.symm.trans hlf) (q_nneg hW)) (fun W h3 h4 => absurd (h3.symm.trans hlf) (q_nneg (by omega)))⟩⟩
    · have hlf : lf = nI W := hw.symm.trans h1
      rw [show Fo + (S b + T - Fo) = S b + T by omega]
      refine ⟨fun hh => absurd hh (q_nneg (by omega)), fun _ => ⟨v01, hmod _ (fun h3 => absurd (hlf.symm.trans h3) (q_nneg hW)) (fun W' h3 hW' h4 t => ?_) (fun W' h3 h4 => ?_)⟩⟩
      · have : W' = W := (nI_eq hW' hW).mp (h3.symm.trans hlf)
        subst this
        exact ⟨_, _, _, _, okI _ (Or.inr ⟨_, by omega, rfl⟩)⟩
      · have : W' = W := (nI_eq (by omega) hW).mp (h3.symm.trans hlf)
        omega
    · have hlf : lf = nI W := hw.symm.trans h1
      refine ⟨fun _ => ⟨v01, hmod _ (fun h3 => absurd (hlf.symm.trans h3) (q_nneg (by omega))) (fun W' h3 hW' h4 t => ?_) (fun W' h3 h4 t => ?_)⟩, fun hh => absurd rfl hh⟩
      · have : W' = W := (nI_eq hW' (by omega)).mp (h3.symm.trans hlf)
        omega
      · have : W' = W := (nI_eq (by omega) (by omega)).mp (h3.symm.trans hlf)
        subst this
        refine ⟨S, v, a, b, i1, by omega, ⟨i3.1, i3.2.1, i3.2.2.1, i3.2.2.2.1, rfl, rfl, rfl⟩, Or.inl rfl, ⟨fun j hj => by rw [hz j hj, i5.2 p1 j hj], i5.2⟩, ?_, i7, i8.frame hM.2.1 (fun p h1 h2 => r2 p h1 (by omega)), Or.inr (Or.inr ⟨T, Fo + W', p1, rfl, rfl, p4, p5, p6, p7, by omega, by omega, rfl, ?_, p12, by omega⟩)⟩
        · intro i j1 j2
          obtain ⟨c1, c2, c3, c4⟩ := i6 i j1 j2
          have u1 := i6.le (Nat.le_refl a) j1 (by omega)
          have u2 := i6.le (i := i + 1) (by omega) (show i + 1 ≤ b by omega) (Nat.le_refl b)
          exact ⟨c1, c2, by rw [r2 _ (by omega) (by omega)]; exact c3, by rw [r2 _ (by omega) (by omega)]; exact c4⟩
        · rw [r2 _ (by omega) (by omega)]; exact p11
end SX
