section PA
variable {R B : Nat → Int32} {f g e w o : Int32} {s : Nat → Nat} {v : Nat → Bool} {a b : Nat}
/-- the word at a place, out of the ring -/
def rd (R : Nat → Int32) (p : Nat) : Int32 := R (p % 65536)
theorem q_mask {p : Nat} (h : p < 2 ^ 31) : nI p &&& (65535 : Int32) = nI (p % 65536) := pk_andN (by omega) 16 (by decide)
theorem q_wordAt {post : Int32 → Prop} {p : Nat} (hp : p < 2 ^ 31) (h : post (rd R p)) : wp_X0_wordAt post (nI p) R B f g e w o := by
  unfold wp_X0_wordAt
  rw [q_mask hp]
  have h1 : p % 65536 < 65536 := Nat.mod_lt _ (by decide)
  refine ⟨vp_in_nI h1 (by decide), ?_⟩
  rw [nI_clamp (by omega)]
  exact h
theorem q_behind {post : Int32 → Prop} {p L : Nat} (hp : p < 2 ^ 31) (hL : rd R p = nI L) (h : post (nI (p + L))) : wp_X0_behind post (nI p) R B f g e w o := by
  unfold wp_X0_behind
  refine q_wordAt hp ?_
  show post (nI p + rd R p)
  rw [hL, nI_add]
  exact h
/-- records a .. b - 1 lie in the ring: record i at places s i .. s (i + 1) - 1; v i: it is void -/
def CH (R : Nat → Int32) (s : Nat → Nat) (v : Nat → Bool) (a b : Nat) : Prop := ∀ i, a ≤ i → i < b → s i + 5 ≤ s (i + 1) ∧ s (i + 1) ≤ s i + 205 ∧ rd R (s i) = nI (s (i + 1) - s i) ∧ rd R (s (i + 1) - 1) = (if v i = true then -nI (s (i + 1) - s i) else nI (s (i + 1) - s i))
theorem CH.le (h : CH R s v a b) {i : Nat} (hi : a ≤ i) : ∀ {j : Nat}, i ≤ j → j ≤ b → s i + 5 * (j - i) ≤ s j := by
  intro j hij
  induction j with
  | zero =>
    intro _
    have : i = 0 := by omega
    subst this
    simp
  | succ j ih =>
    intro hjb
    by_cases hc : i = j + 1
    · subst hc; simp
    · have h1 := ih (by omega) (by omega)
      have h2 := (h j (by omega) (by omega)).1
      omega
theorem q_n1 {n : Nat} (h : 0 < n) : nI n - (1 : Int32) = nI (n - 1) := by
  obtain ⟨m, rfl⟩ : ∃ m, n = m + 1 := ⟨n - 1, by omega⟩
  rw [nI_pred]; rfl
theorem q_negT {L : Nat} (h : L < 2 ^ 31) : (-nI L).toInt = -(L : Int) := sb_negT h
theorem q_neg0 {L : Nat} (h0 : 0 < L) (h : L < 2 ^ 31) : ¬ (0 : Int32) ≤ -nI L := by
  intro h9
  have h8 := Int32.le_iff_toInt_le.mp h9
  rw [q_negT h] at h8
  have : (0 : Int32).toInt = 0 := by decide
  omega
theorem q_neg1 {L : Nat} (h : L < 2 ^ 31) : -nI L ≤ (0 : Int32) := by
  apply Int32.le_iff_toInt_le.mpr
  rw [q_negT h]
  have : (0 : Int32).toInt = 0 := by decide
  omega
theorem q_isVoid {post : Int32 → Prop} {i : Nat} (hC : CH R s v a b) (h1 : a ≤ i) (h2 : i < b) (hb : s b < 2 ^ 30) (h : post (if v i = true then 1 else 0)) : wp_X0_isVoid post (nI (s i)) R B f g e w o := by
  obtain ⟨c1, c2, c3, c4⟩ := hC i h1 h2
  have hm := hC.le (i := i + 1) (by omega) (show i + 1 ≤ b by omega) (Nat.le_refl b)
  unfold wp_X0_isVoid
  refine q_behind (L := s (i + 1) - s i) (by omega) c3 ?_
  rw [show s i + (s (i + 1) - s i) = s (i + 1) by omega, q_n1 (by omega)]
  refine q_wordAt (by omega) ?_
  rw [c4]
  cases hv : v i
  · rw [hv] at h
    exact ⟨fun _ => h, fun hh => absurd (nI_pos' (by omega)) hh⟩
  · rw [hv] at h
    exact ⟨fun hh => absurd hh (q_neg0 (by omega) (by omega)), fun _ => h⟩
/-- whether x is the serial of a record -/
def isr (s : Nat → Nat) (v : Nat → Bool) (a b : Nat) (x : Int32) : Prop := ∃ i, a ≤ i ∧ i < b ∧ v i = false ∧ x = nI (s i)
theorem q_isRecord_l {post : Int32 → Prop} {x : Int32} (hC : CH R s v a b) (hb : s b < 2 ^ 30) (he : e = nI (s b)) (h0 : ¬ isr s v a b x → post 0) (h1 : isr s v a b x → post 1) :
    ∀ (n i c : Nat), b - i = n → a ≤ i → i ≤ b → c + n ≤ 13107 → (∀ j, a ≤ j → j < i → nI (s j) < x) → wl_X0_isRecord_7 post R B f g e w o x (n + 1) (nI (s i)) (nI c) := by
  have hmon : ∀ i j, a ≤ i → i ≤ j → j ≤ b → s i + 5 * (j - i) ≤ s j := fun i j h1 h2 h3 => hC.le h1 h2 h3
  intro n
  induction n with
  | zero =>
    intro i c hn ha hi hc hx
    have hib : i = b := by omega
    subst hib
    have hno : ¬ isr s v a i x := by
      rintro ⟨j, j1, j2, _, rfl⟩
      exact absurd (hx j j1 j2) (Int32.lt_irrefl)
    have hC39 : wc_X0_isRecord_39 post R B f g e w o x (nI (s i)) (nI c) := by
      unfold wc_X0_isRecord_39
      refine ⟨fun _ => ⟨fun _ => h0 hno, fun hh => absurd (by rw [he]; exact Int32.le_refl _) hh⟩, fun _ => h0 hno⟩
    rw [wl_X0_isRecord_7]
    exact ⟨fun _ => hC39, fun _ => ⟨fun _ => hC39, fun _ => ⟨fun _ => hC39, fun hh => absurd (by rw [he]; exact Int32.le_refl _) hh⟩⟩⟩
  | succ n ih =>
    intro i c hn ha hi hc hx
    have hlt : i < b := by omega
    obtain ⟨c1, c2, c3, c4⟩ := hC i ha hlt
    have hm := hmon (i + 1) b (by omega) (by omega) (Nat.le_refl b)
    have hne : ¬ e ≤ nI (s i) := by rw [he]; exact nI_ge (by omega) (by omega)
    rw [wl_X0_isRecord_7]
    refine ⟨fun hh => absurd hh (by rw [show (13107 : Int32) = nI 13107 from rfl]; exact nI_ge (by omega) (by omega)), fun _ => ⟨fun hxi => ?_, fun hxi => ⟨fun hh => absurd hh hne, fun _ => ?_⟩⟩⟩
    · unfold wc_X0_isRecord_39
      refine ⟨fun heq => ⟨fun hh => absurd hh hne, fun _ => ?_⟩, fun hnq => ?_⟩
      · refine q_isVoid hC ha hlt hb ?_
        cases hv : v i
        · exact ⟨fun _ => h1 ⟨i, ha, hlt, hv, heq.symm⟩, fun hh => absurd rfl hh⟩
        · refine ⟨fun hh => absurd hh (by decide), fun _ => h0 ?_⟩
          rintro ⟨j, j1, j2, j3, j4⟩
          have hj := hmon j b j1 (by omega) (Nat.le_refl b)
          have : s i = s j := (nI_eq (by omega) (by omega)).mp (heq.trans j4)
          have : i = j := by
            rcases Nat.lt_trichotomy i j with q | q | q
            · have := hmon i j ha (by omega) (by omega); omega
            · exact q
            · have := hmon j i j1 (by omega) (by omega); omega
          subst this
          rw [hv] at j3
          cases j3
      · refine h0 ?_
        rintro ⟨j, j1, j2, j3, j4⟩
        rcases Nat.lt_trichotomy j i with q | q | q
        · exact absurd (hx j j1 q) (by rw [j4]; exact Int32.lt_irrefl)
        · subst q; exact hnq j4.symm
        · have := hmon i j ha (by omega) (by omega)
          have hj := hmon j b j1 (by omega) (Nat.le_refl b)
          rw [j4] at hxi
          exact absurd hxi (nI_ge (by omega) (by omega))
    · refine q_behind (L := s (i + 1) - s i) (by omega) c3 ?_
      rw [show s i + (s (i + 1) - s i) = s (i + 1) by omega, nI_1]
      refine ih (i + 1) (c + 1) (by omega) (by omega) (by omega) (by omega) ?_
      intro j j1 j2
      rcases Nat.lt_or_ge j i with q | q
      · exact hx j j1 q
      · have : j = i := by omega
        subst this
        exact Int32.not_le.mp hxi
theorem q_isRecord {post : Int32 → Prop} {x : Int32} (hC : CH R s v a b) (hab : a ≤ b) (hb : s b < 2 ^ 30) (h16 : s b ≤ s a + 65536) (hf : f = nI (s a)) (he : e = nI (s b)) (h0 : ¬ isr s v a b x → post 0) (h1 : isr s v a b x → post 1) : wp_X0_isRecord post x R B f g e w o := by
  unfold wp_X0_isRecord
  have hm := hC.le (Nat.le_refl a) hab (Nat.le_refl b)
  refine ⟨b - a + 1, ?_⟩
  rw [hf]
  exact q_isRecord_l hC hb he h0 h1 (b - a) a 0 rfl (Nat.le_refl a) hab (by omega) (fun j h1 h2 => by omega)
end PA
