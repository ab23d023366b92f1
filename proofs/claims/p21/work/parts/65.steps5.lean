section SX
variable {S : Nat → Nat} {v : Nat → Bool} {a b c k L : Nat} {R Bu : Nat → Int32} {f g e w o : Int32} {bu wd se le ki ow ol li vo : Nat → Int32} {th ba co fi fo en cl lf bg bl : Int32} {O : Nat → Int64} {xs : Nat → Int32}
theorem m_open25 {post : Int32 → St_B → Prop} {Sb T Fo : Nat} (hbg : bg = nI Sb) (hbl : bl = nI T) (hfo : fo = nI Fo) (hF : Fo ≤ Sb + T) (hS : Sb + T < 2 ^ 30) (hlf : lf = -1 ∨ ∃ W : Nat, W < 2 ^ 31 ∧ lf = nI W)
    (h1 : lf = -1 → wc_X1_open_110 post (nI (Sb + T - Fo)) th bu wd se le ki ow ol li vo ba co fi (nI (Sb + T)) en cl (-1) bg bl)
    (h2 : ∀ W : Nat, lf = nI W → W < 2 ^ 31 → Sb + T - Fo ≤ W → wc_X1_open_110 post (nI (Sb + T - Fo)) th bu wd se le ki ow ol li vo ba co fi (nI (Sb + T)) en cl (nI (W - (Sb + T - Fo))) bg bl)
    (h3 : ∀ W : Nat, lf = nI W → W < Sb + T - Fo → post (-1) (th, bu, wd, se, le, ki, ow, ol, li, vo, ba, co, fi, nI (Fo + W), nI (Fo + W), cl, -1, bg, bl)) : ∃ n, wl_X1_open_25 post n 0 th bu wd se le ki ow ol li vo ba co fi fo en cl lf bg bl := by
  refine ⟨Sb + T - Fo + 1, ?_⟩
  have hb0 : ¬ bg < 0 := by rw [hbg]; exact nI_pos (by omega)
  have hsum : bg + bl = nI (Sb + T) := by rw [hbg, hbl, nI_add]
  rcases hlf with rfl | ⟨W, hW, rfl⟩
  · have key : ∀ (n j : Nat), Sb + T - Fo - j = n → j ≤ Sb + T - Fo → wl_X1_open_25 post (n + 1) (nI j) th bu wd se le ki ow ol li vo ba co fi (nI (Fo + j)) en cl (-1) bg bl := by
      intro n
      induction n with
      | zero =>
        intro j hn hj
        have : j = Sb + T - Fo := by omega
        subst this
        have h1' := h1 rfl
        rw [show Sb + T = Fo + (Sb + T - Fo) by omega] at h1'
        rw [wl_X1_open_25, hsum]
        refine ⟨fun hh => absurd hh hb0, fun _ => ⟨fun _ => ?_, fun hh => absurd (nI_le (by omega) (by omega)) hh⟩⟩
        rw [show Fo + (Sb + T - Fo) - Fo = Sb + T - Fo by omega] at h1'
        exact h1'
      | succ n ih =>
        intro j hn hj
        have ih' := ih (j + 1) (by omega) (by omega)
        rw [wl_X1_open_25, hsum, nI_1, nI_1]
        exact ⟨fun hh => absurd hh hb0, fun _ => ⟨fun hh => absurd hh (nI_ge (by omega) (by omega)), fun _ => ⟨fun hh => absurd hh (by decide), fun _ => ⟨fun _ => ih', fun hh => absurd (by decide) hh⟩⟩⟩⟩
    rw [hfo]
    exact key (Sb + T - Fo) 0 rfl (by omega)
  · have key : ∀ (n j : Nat), Sb + T - Fo - j = n → j ≤ Sb + T - Fo → j ≤ W → wl_X1_open_25 post (n + 1) (nI j) th bu wd se le ki ow ol li vo ba co fi (nI (Fo + j)) en cl (nI (W - j)) bg bl := by
      intro n
      induction n with
      | zero =>
        intro j hn hj hjW
        have : j = Sb + T - Fo := by omega
        subst this
        have h2' := h2 W rfl hW hjW
        rw [wl_X1_open_25, hsum]
        refine ⟨fun hh => absurd hh hb0, fun _ => ⟨fun _ => ?_, fun hh => absurd (nI_le (by omega) (by omega)) hh⟩⟩
        rw [show Fo + (Sb + T - Fo) = Sb + T by omega]
        exact h2'
      | succ n ih =>
        intro j hn hj hjW
        rw [wl_X1_open_25, hsum, nI_1, nI_1]
        refine ⟨fun hh => absurd hh hb0, fun _ => ⟨fun hh => absurd hh (nI_ge (by omega) (by omega)), fun _ => ⟨fun h0 => ?_, fun h0 => ⟨fun hh => ?_, fun _ => ?_⟩⟩⟩⟩
        · have hjW2 : W = j := by
            rcases Nat.lt_or_ge j W with q | q
            · exact absurd h0 (nI_ne0 (by omega) (by omega))
            · omega
          subst hjW2
          exact h3 W rfl (by omega)
        · rcases Nat.lt_or_ge j W with q | q
          · exact absurd hh (nI_nle (by omega) (by omega))
          · exact absurd (by rw [show W - j = 0 by omega]; rfl) h0
        · rcases Nat.lt_or_ge j W with q | q
          · rw [q_n1 (by omega), show W - j - 1 = W - (j + 1) by omega]
            exact ih (j + 1) (by omega) (by omega) (by omega)
          · exact absurd (by rw [show W - j = 0 by omega]; rfl) h0
    rw [hfo]
    exact key (Sb + T - Fo) 0 rfl (by omega) (by omega)
/-- one row more -/
def sx (S : Nat → Nat) (b T : Nat) : Nat → Nat := fun i => if i ≤ b then S i else S b + T
def vx (v : Nat → Bool) (b : Nat) (q : Bool) : Nat → Bool := fun i => if i = b then q else v i
theorem sx_le {T i : Nat} (h : i ≤ b) : sx S b T i = S i := if_pos h
theorem sx_n {T : Nat} : sx S b T (b + 1) = S b + T := if_neg (by omega)
theorem vx_ne {q : Bool} {i : Nat} (h : i ≠ b) : vx v b q i = v i := if_neg h
theorem vx_b {q : Bool} : vx v b q b = q := if_pos rfl
theorem CH.more {R' : Nat → Int32} {T : Nat} {q : Bool} (h : CH R S v a b) (h5 : 5 ≤ T) (h205 : T ≤ 205) (hk : ∀ p, S a ≤ p → p < S b → rd R' p = rd R p) (hT : rd R' (S b) = nI T) (hl : rd R' (S b + T - 1) = (if q = true then -nI T else nI T)) : CH R' (sx S b T) (vx v b q) a (b + 1) := by
  intro i h1 h2
  by_cases hi : i = b
  · subst hi
    rw [sx_le (Nat.le_refl i), sx_n, vx_b, show S i + T - S i = T by omega]
    exact ⟨by omega, by omega, hT, hl⟩
  · obtain ⟨c1, c2, c3, c4⟩ := h i h1 (by omega)
    have u1 := h.le (Nat.le_refl a) h1 (by omega)
    have u2 := h.le (i := i + 1) (by omega) (show i + 1 ≤ b by omega) (Nat.le_refl b)
    rw [sx_le (show i ≤ b by omega), sx_le (show i + 1 ≤ b by omega), vx_ne hi]
    exact ⟨c1, c2, by rw [hk _ (by omega) (by omega)]; exact c3, by rw [hk _ (by omega) (by omega)]; exact c4⟩
theorem RO.more {T : Nat} {q : Bool} {x : Int32} (h : RO S v a b se le vo) (hx : x = (if q = true then 1 else 0)) : RO (sx S b T) (vx v b q) a (b + 1) (upd se b (nI (S b))) (upd le b (nI T)) (upd vo b x) := by
  intro i h1 h2
  by_cases hi : i = b
  · subst hi
    rw [sx_le (Nat.le_refl i), sx_n, vx_b, pk_us, pk_us, pk_us, show S i + T - S i = T by omega]
    exact ⟨rfl, rfl, hx⟩
  · obtain ⟨r1, r2, r3⟩ := h i h1 (by omega)
    rw [sx_le (show i ≤ b by omega), sx_le (show i + 1 ≤ b by omega), vx_ne hi, pk_un hi, pk_un hi, pk_un hi]
    exact ⟨r1, r2, r3⟩
end SX
