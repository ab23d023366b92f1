section PC
variable {R B : Nat → Int32} {f g e w o : Int32} {s : Nat → Nat} {v : Nat → Bool} {a b : Nat}
theorem rd_upd {q p : Nat} {x : Int32} : rd (upd R (q % 65536) x) p = if p % 65536 = q % 65536 then x else rd R p := rfl
theorem q_addWord {post : St_A → Prop} {q : Nat} {x : Int32} (hq : q < 2 ^ 30) (h : post (upd R (q % 65536) x, B, f, g, nI (q + 1), w, o)) : wp_X0_addWord post x R B f g (nI q) w o := by
  unfold wp_X0_addWord
  rw [q_mask (by omega), nI_1]
  have h1 : q % 65536 < 65536 := Nat.mod_lt _ (by decide)
  refine ⟨vp_in_nI h1 (by decide), ?_⟩
  rw [nI_clamp (by omega)]
  exact h
theorem q_200 : (200 : Int32) = nI 200 := rfl
theorem q_205 : (205 : Int32) = nI 205 := rfl
theorem q_fill_l {post : St_A → Prop} {x y : Int32} (h : ∀ B' : Nat → Int32, (∀ j, j < 200 → B' j = x + nI j * y) → post (R, B', f, g, e, w, o)) :
    ∀ (n j : Nat) (B' : Nat → Int32), 200 - j = n → j ≤ 200 → (∀ i, i < j → B' i = x + nI i * y) → wl_X0_fillBuffer_2 post x y (n + 1) (nI j) R B' f g e w o := by
  intro n
  induction n with
  | zero =>
    intro j B' hn hj hB
    have : j = 200 := by omega
    subst this
    rw [wl_X0_fillBuffer_2]
    exact ⟨fun _ => h B' hB, fun hh => absurd (by rw [q_200]; exact Int32.le_refl _) hh⟩
  | succ n ih =>
    intro j B' hn hj hB
    rw [wl_X0_fillBuffer_2]
    refine ⟨fun hh => absurd hh (by rw [q_200]; exact nI_ge (by omega) (by omega)), fun _ => ⟨vp_in_nI (by omega) (by omega), ?_⟩⟩
    rw [nI_clamp (by omega), nI_1]
    refine ih (j + 1) _ (by omega) (by omega) ?_
    intro i hi
    rcases Nat.lt_or_ge i j with q | q
    · rw [pk_un (by omega)]; exact hB i q
    · have : i = j := by omega
      subst this
      exact pk_us
theorem q_fill {post : St_A → Prop} {x y : Int32} (h : ∀ B' : Nat → Int32, (∀ j, j < 200 → B' j = x + nI j * y) → post (R, B', f, g, e, w, o)) : wp_X0_fillBuffer post x y R B f g e w o := by
  unfold wp_X0_fillBuffer
  exact ⟨201, q_fill_l h 200 0 B rfl (by omega) (fun i hi => by omega)⟩
theorem q_lose {post : St_A → Prop} (h : ∀ B' : Nat → Int32, (∀ j, j < 200 → B' j = 0) → post (R, B', f, g, g, -1, 0)) : wp_X0_losePower post R B f g e w o := by
  unfold wp_X0_losePower
  exact q_fill (fun B' hB => h B' (fun j hj => by rw [hB j hj]; simp))
theorem q_cont_l {post : St_A → Prop} {q n : Nat} (hn : n ≤ 200) (hq : q + n < 2 ^ 30) (h : ∀ R' : Nat → Int32, (∀ j, j < n → rd R' (q + j) = B j) → (∀ p, p < q → q + n ≤ p + 65536 → rd R' p = rd R p) → post (R', B, f, g, nI (q + n), w, o)) :
    ∀ (m j : Nat) (R' : Nat → Int32), n - j = m → j ≤ n → (∀ i, i < j → rd R' (q + i) = B i) → (∀ p, p < q → q + n ≤ p + 65536 → rd R' p = rd R p) → wl_X0_addContent_2 post (nI n) (m + 1) (nI j) R' B f g (nI (q + j)) w o := by
  intro m
  induction m with
  | zero =>
    intro j R' hm hj h1 h2
    have : j = n := by omega
    subst this
    rw [wl_X0_addContent_2]
    exact ⟨fun _ => h R' h1 h2, fun hh => absurd (Int32.le_refl _) hh⟩
  | succ m ih =>
    intro j R' hm hj h1 h2
    rw [wl_X0_addContent_2]
    refine ⟨fun hh => absurd hh (nI_ge (by omega) (by omega)), fun _ => ⟨fun hh => absurd hh (by rw [q_200]; exact nI_ge (by omega) (by omega)), fun _ => ⟨vp_in_nI (by omega) (by omega), ?_⟩⟩⟩
    rw [nI_clamp (by omega), nI_1]
    refine q_addWord (by omega) ?_
    refine ih (j + 1) _ (by omega) (by omega) ?_ ?_
    · intro i hi
      rw [rd_upd]
      rcases Nat.lt_or_ge i j with q2 | q2
      · rw [if_neg (by omega)]; exact h1 i q2
      · have : i = j := by omega
        subst this
        rw [if_pos rfl]
    · intro p hp hp2
      rw [rd_upd, if_neg (by omega)]
      exact h2 p hp hp2
theorem q_cont {post : St_A → Prop} {q n : Nat} (hn : n ≤ 200) (hq : q + n < 2 ^ 30) (h : ∀ R' : Nat → Int32, (∀ j, j < n → rd R' (q + j) = B j) → (∀ p, p < q → q + n ≤ p + 65536 → rd R' p = rd R p) → post (R', B, f, g, nI (q + n), w, o)) : wp_X0_addContent post (nI n) R B f g (nI q) w o := by
  unfold wp_X0_addContent
  exact ⟨n + 1, q_cont_l hn hq h n 0 R rfl (by omega) (fun i hi => by omega) (fun _ _ _ => rfl)⟩
/-- what is due: from Fo up to q, nothing when q lies before -/
theorem q_due {q Fo : Nat} (hq : q < 2 ^ 30) (hF : Fo < 2 ^ 30) : (if nI q - nI Fo < (0 : Int32) then (0 : Int32) else nI q - nI Fo) = nI (q - Fo) := by
  rcases Nat.lt_or_ge q Fo with h | h
  · rw [if_pos (pk_sneg hF h), show q - Fo = 0 by omega]; rfl
  · rw [pk_sub h, if_neg (nI_pos (by omega))]
theorem q_write {post : Int32 → St_A → Prop} {q Fo : Nat} (hq : q < 2 ^ 30) (hF : Fo < 2 ^ 30) (hg : g = nI Fo) (hw : w = -1 ∨ ∃ W : Nat, W < 2 ^ 31 ∧ w = nI W)
    (h1 : w = -1 → post (nI (q - Fo)) (R, B, f, nI (Fo + (q - Fo)), e, -1, o))
    (h2 : ∀ W : Nat, w = nI W → W < 2 ^ 31 → q - Fo ≤ W → post (nI (q - Fo)) (R, B, f, nI (Fo + (q - Fo)), e, nI (W - (q - Fo)), o))
    (h3 : ∀ W : Nat, w = nI W → W < q - Fo → ∀ B' : Nat → Int32, (∀ j, j < 200 → B' j = 0) → post (-1) (R, B', f, nI (Fo + W), nI (Fo + W), -1, 0)) : wp_X0_writeUpTo post (nI q) R B f g e w o := by
  unfold wp_X0_writeUpTo
  intro v2 hv2
  rw [hg, q_due hq hF] at hv2
  subst hv2
  rw [hg]
  have hneg : ∀ n : Nat, n < 2 ^ 31 → nI n ≠ -1 := fun n hn h9 => by
    have h8 := nI_toInt hn
    rw [h9] at h8
    have : (-1 : Int32).toInt = -1 := by decide
    omega
  rcases hw with rfl | ⟨W, hW, rfl⟩
  · refine ⟨fun _ => ?_, fun hh => absurd rfl hh⟩
    unfold wc_X0_writeUpTo_31
    refine ⟨fun _ => ⟨fun _ => ?_, fun hh => absurd rfl hh⟩, fun hh => absurd (Int32.le_refl _) hh⟩
    rw [nI_add]
    exact h1 rfl
  · refine ⟨fun hh => absurd hh (hneg W hW), fun _ => ?_⟩
    unfold wc_X0_writeUpTo_31
    rcases Nat.lt_or_ge W (q - Fo) with hlt | hge
    · rw [if_pos (nI_lt hlt (by omega))]
      refine ⟨fun hh => absurd hh (nI_ge hlt (by omega)), fun _ => ?_⟩
      rw [nI_add]
      refine q_lose (fun B' hB => ?_)
      exact h3 W rfl hlt B' hB
    · rw [if_neg (nI_nlt hge hW)]
      refine ⟨fun _ => ⟨fun hh => absurd hh (hneg W hW), fun _ => ?_⟩, fun hh => absurd (Int32.le_refl _) hh⟩
      rw [nI_add, pk_sub hge]
      exact h2 W rfl hW hge
/-- the words that a begun record lacks: m words 0 from q on, then the last one -/
theorem q_avr75 {post : St_A → Prop} {k1 : Int32} {L q m : Nat} (hm : m ≤ 204) (hq : q + m < 2 ^ 29) (h : ∀ R' : Nat → Int32, rd R' (q + m) = -nI L → (∀ p, p < q → q + m < p + 65536 → rd R' p = rd R p) → post (R', B, f, g, nI (q + m + 1), w, o)) :
    ∀ (n j : Nat) (R' : Nat → Int32), m - j = n → j ≤ m → (∀ p, p < q → q + m < p + 65536 → rd R' p = rd R p) → wl_X0_addVoidRest_75 post k1 (nI L) (nI (m + 1)) (n + 1) (nI (j + 1)) R' B f g (nI (q + j)) w o := by
  intro n
  induction n with
  | zero =>
    intro j R' hn hj h2
    have : j = m := by omega
    subst this
    have hc : wc_X0_addVoidRest_100 post k1 (nI L) (nI (j + 1)) (nI (j + 1)) R' B f g (nI (q + j)) w o := by
      unfold wc_X0_addVoidRest_100
      refine q_addWord (by omega) ?_
      refine h _ ?_ ?_
      · rw [rd_upd, if_pos rfl]
      · intro p hp hp2
        rw [rd_upd, if_neg (by omega)]
        exact h2 p hp hp2
    rw [wl_X0_addVoidRest_75]
    exact ⟨fun _ => hc, fun hh => absurd (Int32.le_refl _) hh⟩
  | succ n ih =>
    intro j R' hn hj h2
    rw [wl_X0_addVoidRest_75]
    refine ⟨fun hh => absurd hh (nI_ge (by omega) (by omega)), fun _ => ⟨fun hh => absurd hh (by rw [q_205]; exact nI_ge (by omega) (by omega)), fun _ => ?_⟩⟩
    refine q_addWord (by omega) ?_
    have h9 := ih (j + 1) (upd R' ((q + j) % 65536) 0) (by omega) (by omega) (fun p hp hp2 => by rw [rd_upd, if_neg (by omega)]; exact h2 p hp hp2)
    rw [show nI (j + 1) + (1 : Int32) = nI (j + 1 + 1) from nI_1 _]
    exact h9
/-- the walk to the end: nothing begun -/
theorem q_avr_l {post : St_A → Prop} {En : Nat} (hC : CH R s v a b) (hE : En < 2 ^ 29) (he : e = nI En) (hbE : s b ≤ En) (h16 : s b ≤ s a + 65536) (hp : ∀ c : Int32, wc_X0_addVoidRest_46 post (nI (s b)) c R B f g e w o) (hT : s b < En → ∃ T, rd R (s b) = nI T ∧ En < s b + T ∧ T ≤ 205) :
    ∀ (n i c : Nat), b - i = n → a ≤ i → i ≤ b → c + n ≤ 13107 → wl_X0_addVoidRest_7 post (n + 1) (nI (s i)) (nI c) R B f g e w o := by
  intro n
  induction n with
  | zero =>
    intro i c hn ha hi hc
    have : i = b := by omega
    subst this
    rw [wl_X0_addVoidRest_7]
    refine ⟨fun _ => hp _, fun _ => ⟨fun _ => hp _, fun hh => ?_⟩⟩
    have hlt : s i < En := by
      rcases Nat.lt_or_ge (s i) En with q | q
      · exact q
      · exact absurd (by rw [he]; exact nI_le q (by omega)) hh
    obtain ⟨T, t1, t2, t3⟩ := hT hlt
    refine q_behind (L := T) (by omega) t1 ?_
    exact ⟨fun _ => hp _, fun hh2 => absurd (by rw [he]; exact nI_lt t2 (by omega)) hh2⟩
  | succ n ih =>
    intro i c hn ha hi hc
    have hlt : i < b := by omega
    obtain ⟨c1, c2, c3, c4⟩ := hC i ha hlt
    have hm := hC.le (i := i + 1) (by omega) (show i + 1 ≤ b by omega) (Nat.le_refl b)
    rw [wl_X0_addVoidRest_7]
    refine ⟨fun hh => absurd hh (by rw [q_13107]; exact nI_ge (by omega) (by omega)), fun _ => ⟨fun hh => absurd hh (by rw [he]; exact nI_ge (by omega) (by omega)), fun _ => ?_⟩⟩
    refine q_behind (L := s (i + 1) - s i) (by omega) c3 ?_
    rw [show s i + (s (i + 1) - s i) = s (i + 1) by omega]
    refine ⟨fun hh => absurd hh (by rw [he]; exact nI_nlt (by omega) (by omega)), fun _ => ?_⟩
    refine q_behind (L := s (i + 1) - s i) (by omega) c3 ?_
    rw [show s i + (s (i + 1) - s i) = s (i + 1) by omega, nI_1]
    exact ih (i + 1) (c + 1) (by omega) (by omega) (by omega) (by omega)
/-- nothing begun -/
theorem q_avr0 {post : St_A → Prop} (hC : CH R s v a b) (hab : a ≤ b) (hb : s b < 2 ^ 29) (h16 : s b ≤ s a + 65536) (hf : f = nI (s a)) (he : e = nI (s b)) (h : post (R, B, f, g, e, w, o)) : wp_X0_addVoidRest post R B f g e w o := by
  unfold wp_X0_addVoidRest
  have hm := hC.le (Nat.le_refl a) hab (Nat.le_refl b)
  refine ⟨b - a + 1, ?_⟩
  have h9 := q_avr_l (post := post) (B := B) (f := f) (g := g) (w := w) (o := o) hC hb he (Nat.le_refl _) h16 (fun c => by
    unfold wc_X0_addVoidRest_46
    exact ⟨fun hh => absurd hh (by rw [he]; exact nI_nlt (Nat.le_refl _) (by omega)), fun _ => h⟩) (fun hh => by omega) (b - a) a 0 rfl (Nat.le_refl a) hab (by omega)
  rw [hf] at h9 ⊢
  exact h9
/-- a record of T words begun at s b, filled up -/
theorem q_avr1 {post : St_A → Prop} {En T : Nat} (hC : CH R s v a b) (hab : a ≤ b) (hE : En < 2 ^ 28) (hT5 : T ≤ 205) (h1 : s b < En) (h2 : En < s b + T) (hr : rd R (s b) = nI T) (h16 : s b + T ≤ s a + 65536) (hf : f = nI (s a)) (he : e = nI En)
    (h : ∀ R' : Nat → Int32, rd R' (s b + T - 1) = -nI T → (∀ p, s a ≤ p → p < En → rd R' p = rd R p) → post (R', B, f, g, nI (s b + T), w, o)) : wp_X0_addVoidRest post R B f g e w o := by
  unfold wp_X0_addVoidRest
  have hm := hC.le (Nat.le_refl a) hab (Nat.le_refl b)
  refine ⟨b - a + 1, ?_⟩
  have h9 := q_avr_l (post := post) (B := B) (f := f) (g := g) (w := w) (o := o) hC (show En < 2 ^ 29 by omega) he (Nat.le_of_lt h1) (by omega) (fun c => by
    unfold wc_X0_addVoidRest_46
    refine ⟨fun _ => ?_, fun hh => absurd (by rw [he]; exact nI_lt h1 (by omega)) hh⟩
    refine q_wordAt (by omega) ?_
    refine q_behind (L := T) (by omega) hr ?_
    rw [hr, he, pk_sub (by omega), show s b + T - En = (s b + T - En - 1) + 1 by omega]
    refine ⟨s b + T - En - 1 + 1, ?_⟩
    have h8 := q_avr75 (post := post) (R := R) (B := B) (f := f) (g := g) (w := w) (o := o) (k1 := nI (s b)) (L := T) (q := En) (m := s b + T - En - 1) (by omega) (by omega) (fun R' r1 r2 => by
      rw [show En + (s b + T - En - 1) + 1 = s b + T by omega]
      refine h R' ?_ ?_
      · rw [show s b + T - 1 = En + (s b + T - En - 1) by omega]; exact r1
      · intro p hp hp2
        exact r2 p hp2 (by omega)) (s b + T - En - 1) 0 R rfl (by omega) (fun _ _ _ => rfl)
    exact h8) (fun _ => ⟨T, hr, h2, hT5⟩) (b - a) a 0 rfl (Nat.le_refl a) hab (by omega)
  rw [hf] at h9 ⊢
  exact h9
end PC
