section PB
variable {R B : Nat → Int32} {f g e w o : Int32} {s : Nat → Nat} {v : Nat → Bool} {a b : Nat}
/-- the last record before record j -/
def fl (v : Nat → Bool) (a : Nat) : Nat → Option Nat
  | 0 => none
  | j + 1 => if j < a then none else if v j = true then fl v a j else some j
def sv (s : Nat → Nat) : Option Nat → Int32
  | none => -1
  | some i => nI (s i)
theorem fl_none {j : Nat} (h : j ≤ a) : fl v a j = none := by
  cases j with
  | zero => rfl
  | succ j => rw [fl, if_pos (by omega)]
theorem fl_some : ∀ {j i : Nat}, fl v a j = some i → a ≤ i ∧ i < j ∧ v i = false := by
  intro j
  induction j with
  | zero => intro i h; cases h
  | succ j ih =>
    intro i h
    rw [fl] at h
    split at h
    · cases h
    · split at h
      · have h9 := ih h; exact ⟨h9.1, by omega, h9.2.2⟩
      · cases h
        rename_i h1 h2
        exact ⟨by omega, by omega, by simpa using h2⟩
theorem q_13107 : (13107 : Int32) = nI 13107 := rfl
theorem q_lrb_l {post : Int32 → Prop} {k1 : Int32} (hC : CH R s v a b) (hb : s b < 2 ^ 30) (hf : f = nI (s a)) :
    ∀ (n j c : Nat), j - a = n → a ≤ j → j ≤ b → c + n ≤ 13107 → post (sv s (fl v a j)) → wl_X0_lastRecordBefore_4 post R B f g e w o k1 (n + 1) (nI (s j)) (nI c) := by
  intro n
  induction n with
  | zero =>
    intro j c hn ha hj hc hp
    have hja : j = a := by omega
    subst hja
    rw [fl_none (Nat.le_refl j)] at hp
    rw [wl_X0_lastRecordBefore_4]
    exact ⟨fun _ => hp, fun _ => ⟨fun _ => hp, fun hh => absurd (by rw [hf]; exact Int32.le_refl _) hh⟩⟩
  | succ n ih =>
    intro j c hn ha hj hc hp
    obtain ⟨i, rfl⟩ : ∃ i, j = i + 1 := ⟨j - 1, by omega⟩
    obtain ⟨c1, c2, c3, c4⟩ := hC i (by omega) (by omega)
    have hm := hC.le (i := i + 1) (by omega) hj (Nat.le_refl b)
    have hm2 := hC.le (i := a) (Nat.le_refl a) (show a ≤ i by omega) (by omega)
    rw [wl_X0_lastRecordBefore_4]
    refine ⟨fun hh => absurd hh (by rw [q_13107]; exact nI_ge (by omega) (by omega)), fun _ => ⟨fun hh => absurd hh (by rw [hf]; exact nI_ge (by omega) (by omega)), fun _ => ?_⟩⟩
    rw [q_n1 (by omega)]
    refine q_wordAt (by omega) ?_
    rw [fl, if_neg (by omega)] at hp
    cases hv : v i
    · rw [hv, if_neg (by decide)] at hp c4
      rw [c4]
      intro v2 hv2
      have hpos : (0 : Int32) ≤ nI (s (i + 1) - s i) := nI_pos' (by omega)
      rw [if_pos hpos, pk_sub (by omega), show s (i + 1) - (s (i + 1) - s i) = s i by omega] at hv2
      subst hv2
      exact ⟨fun hh => absurd hh (nI_nle (by omega) (by omega)), fun _ => hp⟩
    · rw [hv, if_pos rfl] at hp c4
      rw [c4]
      intro v2 hv2
      rw [if_neg (q_neg0 (by omega) (by omega)), show (0 : Int32) - -nI (s (i + 1) - s i) = nI (s (i + 1) - s i) by simp, pk_sub (by omega), show s (i + 1) - (s (i + 1) - s i) = s i by omega] at hv2
      subst hv2
      refine ⟨fun _ => ?_, fun hh => absurd (q_neg1 (by omega)) hh⟩
      rw [nI_1]
      exact ih i (c + 1) (by omega) (by omega) (by omega) (by omega) hp
theorem q_lrb {post : Int32 → Prop} {j : Nat} (hC : CH R s v a b) (ha : a ≤ j) (hj : j ≤ b) (hb : s b < 2 ^ 30) (h16 : s b ≤ s a + 65536) (hf : f = nI (s a)) (h : post (sv s (fl v a j))) : wp_X0_lastRecordBefore post (nI (s j)) R B f g e w o := by
  unfold wp_X0_lastRecordBefore
  have hm := hC.le (Nat.le_refl a) (show a ≤ b by omega) (Nat.le_refl b)
  refine ⟨j - a + 1, ?_⟩
  exact q_lrb_l hC hb hf (j - a) j 0 rfl ha hj (by omega) h
/-- the first record from record i on, n records on -/
def ff (v : Nat → Bool) : Nat → Nat → Option Nat
  | 0, _ => none
  | n + 1, i => if v i = true then ff v n (i + 1) else some i
theorem q_frf_l {post : Int32 → Prop} {k1 : Int32} (hC : CH R s v a b) (hb : s b < 2 ^ 30) (he : e = nI (s b)) :
    ∀ (n i c : Nat), b - i = n → a ≤ i → i ≤ b → c + n ≤ 13107 → post (sv s (ff v n i)) → wl_X0_firstRecordFrom_4 post R B f g e w o k1 (n + 1) (nI (s i)) (nI c) := by
  intro n
  induction n with
  | zero =>
    intro i c hn ha hi hc hp
    have hib : i = b := by omega
    subst hib
    rw [wl_X0_firstRecordFrom_4]
    exact ⟨fun _ => hp, fun _ => ⟨fun _ => hp, fun hh => absurd (by rw [he]; exact Int32.le_refl _) hh⟩⟩
  | succ n ih =>
    intro i c hn ha hi hc hp
    obtain ⟨c1, c2, c3, c4⟩ := hC i ha (by omega)
    have hm := hC.le (i := i + 1) (by omega) (show i + 1 ≤ b by omega) (Nat.le_refl b)
    rw [wl_X0_firstRecordFrom_4]
    refine ⟨fun hh => absurd hh (by rw [q_13107]; exact nI_ge (by omega) (by omega)), fun _ => ⟨fun hh => absurd hh (by rw [he]; exact nI_ge (by omega) (by omega)), fun _ => ?_⟩⟩
    refine q_isVoid hC ha (by omega) hb ?_
    rw [ff] at hp
    cases hv : v i
    · rw [hv, if_neg (by decide)] at hp
      exact ⟨fun _ => hp, fun hh => absurd rfl hh⟩
    · rw [hv, if_pos rfl] at hp
      refine ⟨fun hh => absurd hh (by decide), fun _ => ?_⟩
      refine q_behind (L := s (i + 1) - s i) (by omega) c3 ?_
      rw [show s i + (s (i + 1) - s i) = s (i + 1) by omega, nI_1]
      exact ih (i + 1) (c + 1) (by omega) (by omega) (by omega) (by omega) hp
theorem q_frf {post : Int32 → Prop} {i : Nat} (hC : CH R s v a b) (ha : a ≤ i) (hi : i ≤ b) (hb : s b < 2 ^ 30) (h16 : s b ≤ s a + 65536) (he : e = nI (s b)) (h : post (sv s (ff v (b - i) i))) : wp_X0_firstRecordFrom post (nI (s i)) R B f g e w o := by
  unfold wp_X0_firstRecordFrom
  have hm := hC.le (Nat.le_refl a) (show a ≤ b by omega) (Nat.le_refl b)
  refine ⟨b - i + 1, ?_⟩
  exact q_frf_l hC hb he (b - i) i 0 rfl ha hi (by omega) h
end PB
