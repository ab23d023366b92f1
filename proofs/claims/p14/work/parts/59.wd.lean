section W0
variable {S : Nat → Nat} {v : Nat → Bool} {a b c k L : Nat} {R Bu : Nat → Int32} {f g e w o : Int32} {bu wd se le ki ow ol li vo : Nat → Int32} {th ba co fi fo en cl lf bg bl : Int32} {O : Nat → Int64} {x y z : Int32}
/-- the ring's words of a record that isn't void: kind and owner, older, link, content -/
def WD (S : Nat → Nat) (v : Nat → Bool) (a b : Nat) (R wd ki ow ol li : Nat → Int32) : Prop := ∀ i, a ≤ i → i < b → v i = false → ∃ K W : Nat, K < 16 ∧ W < 8 ∧ ki i = nI K ∧ ow i = nI W ∧ rd R (S i + 1) = nI (K + 16 * W) ∧ rd R (S i + 2) = ol i ∧ rd R (S i + 3) = li i ∧ ∀ j, S i + 5 + j < S (i + 1) → rd R (S i + 4 + j) = wd ((S i + 4 + j) % 65536)
theorem q_owner {post : Int32 → Prop} {i : Nat} (hD : WD S v a b R wd ki ow ol li) (h1 : a ≤ i) (h2 : i < b) (h3 : v i = false) (hS : S i < 2 ^ 30) (h : post (ow i)) : wp_X0_ownerAt post (nI (S i)) R Bu f g e w o := by
  obtain ⟨K, W, d1, d2, d3, d4, d5, -⟩ := hD i h1 h2 h3
  unfold wp_X0_ownerAt
  rw [nI_1]
  refine q_wordAt (by omega) ?_
  show post (rd R (S i + 1) / (16 : Int32))
  rw [d5, show (16 : Int32) = nI 16 from rfl, pk_div (by omega) (by omega) (by omega), show (K + 16 * W) / 16 = W by omega, ← d4]
  exact h
theorem q_kind {post : Int32 → Prop} {i : Nat} (hD : WD S v a b R wd ki ow ol li) (h1 : a ≤ i) (h2 : i < b) (h3 : v i = false) (hS : S i < 2 ^ 30) (h : post (ki i)) : wp_X0_kindAt post (nI (S i)) R Bu f g e w o := by
  obtain ⟨K, W, d1, d2, d3, d4, d5, -⟩ := hD i h1 h2 h3
  unfold wp_X0_kindAt
  rw [nI_1]
  refine q_wordAt (by omega) ?_
  show post (rd R (S i + 1) - rd R (S i + 1) / (16 : Int32) * (16 : Int32))
  rw [d5, show (16 : Int32) = nI 16 from rfl, pk_rem (by omega) (by omega) (by omega), show (K + 16 * W) % 16 = K by omega, ← d3]
  exact h
theorem flo_fl_none : ∀ {j : Nat}, fl v a j = none → flo v ow x a j = none := by
  intro j
  induction j with
  | zero => intro _; rfl
  | succ j ih =>
    intro h
    rw [fl] at h
    rw [flo]
    split at h
    · rename_i q; rw [if_pos q]
    · rename_i q
      rw [if_neg q]
      split at h
      · rename_i q2
        rw [if_neg (fun q3 => by rw [q2] at q3; cases q3.1)]
        exact ih h
      · cases h
theorem flo_fl_some : ∀ {j i : Nat}, fl v a j = some i → flo v ow x a j = if ow i = x then some i else flo v ow x a i := by
  intro j
  induction j with
  | zero => intro i h; cases h
  | succ j ih =>
    intro i h
    rw [fl] at h
    rw [flo]
    split at h
    · cases h
    · rename_i q
      rw [if_neg q]
      split at h
      · rename_i q2
        rw [if_neg (fun q3 => by rw [q2] at q3; cases q3.1)]
        exact ih h
      · rename_i q2
        cases h
        have q4 : v j = false := by simpa using q2
        by_cases q5 : ow j = x
        · rw [if_pos ⟨q4, q5⟩, if_pos q5]
        · rw [if_neg (fun q6 => q5 q6.2), if_neg q5]
theorem q_lro_l {post : Int32 → Prop} (hC : CH R S v a b) (hD : WD S v a b R wd ki ow ol li) (hb : S b < 2 ^ 30) (h16 : S b ≤ S a + 65536) (hf : f = nI (S a)) :
    ∀ (n j c : Nat), j - a ≤ n → a ≤ j → j ≤ b → c + n ≤ 13107 → post (sv S (flo v ow x a j)) → wl_X0_lastRecordOf_11 post R Bu f g e w o x (n + 1) (sv S (fl v a j)) (nI c) := by
  intro n
  induction n with
  | zero =>
    intro j c hn ha hj hc hp
    have hja : j = a := by omega
    subst hja
    rw [flo_none (Nat.le_refl j)] at hp
    rw [fl_none (Nat.le_refl j), wl_X0_lastRecordOf_11]
    exact ⟨fun _ => hp, fun _ => ⟨fun _ => hp, fun hh => absurd rfl hh⟩⟩
  | succ n ih =>
    intro j c hn ha hj hc hp
    cases hfl : fl v a j with
    | none =>
      rw [flo_fl_none hfl] at hp
      rw [wl_X0_lastRecordOf_11]
      exact ⟨fun _ => hp, fun _ => ⟨fun _ => hp, fun hh => absurd rfl hh⟩⟩
    | some i =>
      obtain ⟨i1, i2, i3⟩ := fl_some hfl
      have hup := hC.le (i := i) i1 (show i ≤ b by omega) (Nat.le_refl b)
      rw [flo_fl_some hfl] at hp
      rw [wl_X0_lastRecordOf_11]
      refine ⟨fun hh => absurd hh (by rw [q_13107]; exact nI_ge (by omega) (by omega)), fun _ => ⟨fun hh => absurd hh (q_nneg (by omega)), fun _ => ?_⟩⟩
      show wp_X0_ownerAt _ (nI (S i)) R Bu f g e w o
      refine q_owner hD i1 (by omega) i3 (by omega) ⟨fun hx => ?_, fun hx => ?_⟩
      · rw [if_pos hx] at hp
        exact hp
      · rw [if_neg hx] at hp
        refine q_lrb hC i1 (by omega) hb h16 hf ?_
        rw [nI_1]
        exact ih i (c + 1) (by omega) i1 (by omega) (by omega) hp
theorem q_lro {post : Int32 → Prop} (hC : CH R S v a b) (hD : WD S v a b R wd ki ow ol li) (hab : a ≤ b) (hb : S b < 2 ^ 30) (h16 : S b ≤ S a + 65536) (hf : f = nI (S a)) (he : e = nI (S b)) (h : post (sv S (flo v ow x a b))) : wp_X0_lastRecordOf post x R Bu f g e w o := by
  unfold wp_X0_lastRecordOf
  have hm := hC.le (Nat.le_refl a) hab (Nat.le_refl b)
  have key := q_lro_l (post := post) (x := x) (Bu := Bu) (g := g) (e := e) (w := w) (o := o) hC hD hb h16 hf (b - a) b 0 (Nat.le_refl _) hab (Nat.le_refl b) (by omega) h
  rw [he] at key ⊢
  exact q_lrb hC hab (Nat.le_refl b) hb h16 hf ⟨b - a + 1, key⟩
/-- the links lie before their records, and the ring's words are the reference's -/
def LNW (S : Nat → Nat) (v : Nat → Bool) (a b : Nat) (R wd ki ow ol li : Nat → Int32) : Prop := LNK S v a b li ol ∧ WD S v a b R wd ki ow ol li
theorem LNW.sub (h : LNW S v a b R wd ki ow ol li) {a' b' : Nat} (ha : a ≤ a') (hb : b' ≤ b) : LNW S v a' b' R wd ki ow ol li := ⟨fun i h1 h2 => h.1 i (by omega) (by omega), fun i h1 h2 => h.2 i (by omega) (by omega)⟩
theorem WD.frame {R' : Nat → Int32} (h : WD S v a b R wd ki ow ol li) (hC : INC S a b) (hk : ∀ p, S a ≤ p → p < S b → rd R' p = rd R p) : WD S v a b R' wd ki ow ol li := by
  intro i h1 h2 h3
  obtain ⟨K, W, d1, d2, d3, d4, d5, d6, d7, d8⟩ := h i h1 h2 h3
  have u1 := hC.up (Nat.le_refl a) h1 (by omega)
  have u2 := hC.up (i := i + 1) (by omega) (show i + 1 ≤ b by omega) (Nat.le_refl b)
  have u3 := hC i h1 h2
  exact ⟨K, W, d1, d2, d3, d4, by rw [hk _ (by omega) (by omega)]; exact d5, by rw [hk _ (by omega) (by omega)]; exact d6, by rw [hk _ (by omega) (by omega)]; exact d7, fun j hj => by rw [hk _ (by omega) (by omega)]; exact d8 j hj⟩
theorem LNW.frame {R' : Nat → Int32} (h : LNW S v a b R wd ki ow ol li) (hC : INC S a b) (hk : ∀ p, S a ≤ p → p < S b → rd R' p = rd R p) : LNW S v a b R' wd ki ow ol li := ⟨h.1, h.2.frame hC hk⟩
theorem flo_upd {y : Int32} : ∀ {j : Nat}, j ≤ b → flo v (upd ow b y) x a j = flo v ow x a j := by
  intro j
  induction j with
  | zero => intro _; rfl
  | succ j ih =>
    intro hj
    rw [flo, flo, pk_un (show j ≠ b by omega), ih (by omega)]
end W0
