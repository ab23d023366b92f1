section SU
variable {S : Nat → Nat} {v : Nat → Bool} {a b c k L : Nat} {R Bu : Nat → Int32} {f g e w o : Int32} {bu wd se le ki ow ol li vo : Nat → Int32} {th ba co fi fo en cl lf bg bl : Int32} {O : Nat → Int64} {xs : Nat → Int32}
theorem CH.sub (h : CH R S v a b) {a' b' : Nat} (ha : a ≤ a') (hb : b' ≤ b) : CH R S v a' b' := fun i h1 h2 => h i (by omega) (by omega)
theorem RO.sub (h : RO S v a b se le vo) {a' b' : Nat} (ha : a ≤ a') (hb : b' ≤ b) : RO S v a' b' se le vo := fun i h1 h2 => h i (by omega) (by omega)
theorem LNK.sub (h : LNK S v a b li ol) {a' b' : Nat} (ha : a ≤ a') (hb : b' ≤ b) : LNK S v a' b' li ol := fun i h1 h2 => h i (by omega) (by omega)
theorem find_c (hI : INC S a b) (hab : a ≤ b) {F : Nat} (h1 : S a ≤ F) (h2 : F ≤ S b) : ∃ c, a ≤ c ∧ c ≤ b ∧ S c ≤ F ∧ (c < b → F < S (c + 1)) := by
  have key : ∀ n d, d - a = n → a ≤ d → d ≤ b → (d < b → F < S (d + 1)) → ∃ c, a ≤ c ∧ c ≤ b ∧ S c ≤ F ∧ (c < b → F < S (c + 1)) := by
    intro n
    induction n with
    | zero =>
      intro d hn hd hdb hF
      have : d = a := by omega
      subst this
      exact ⟨d, hd, hdb, h1, hF⟩
    | succ n ih =>
      intro d hn hd hdb hF
      rcases Nat.lt_or_ge F (S d) with q | q
      · obtain ⟨m, rfl⟩ : ∃ m, d = m + 1 := ⟨d - 1, by omega⟩
        exact ih m (by omega) (by omega) (by omega) (fun _ => q)
      · exact ⟨d, hd, hdb, q, hF⟩
  exact key (b - a) b rfl hab (Nat.le_refl b) (fun h => by omega)
/-- power fails with F words forced: c records stay -/
theorem fail_inv {F : Nat} {Bz bz : Nat → Int32} (h : Inv k S v a b R Bu f g e w o bu wd se le ki ow ol li vo ba co fi fo en cl lf bg bl) (hca : a ≤ c) (hcb : c ≤ b) (h1 : S c ≤ F) (h2 : F ≤ S b) (h3 : c < b → F < S (c + 1)) (hz : ∀ j, j < 200 → Bz j = 0) (hz2 : ∀ j, j < 200 → bz j = 0) :
    Inv (k + 1) S v a c R Bz f (nI F) (nI F) (-1) 0 bz wd se le ki ow ol li vo ba (nI c) fi (nI F) (nI F) 1 (-1) (if S c < F ∧ c < b then nI (S c) else -1) (if S c < F ∧ c < b then nI (S (c + 1) - S c) else bl) := by
  obtain ⟨i1, i2, i3, i4, i5, i6, i7, i8, i9⟩ := h
  have hb := i9.bound
  refine ⟨hca, by omega, ⟨i3.1, rfl, i3.2.2.1, i3.2.2.2.1, rfl, rfl, rfl⟩, Or.inl rfl, ⟨fun j hj => by rw [hz j hj, hz2 j hj], fun _ => hz2⟩, i6.sub (Nat.le_refl a) hcb, i7.sub (Nat.le_refl a) hcb, i8.sub (Nat.le_refl a) hcb, ?_⟩
  have hup := i6.le hca hcb (Nat.le_refl b)
  by_cases hq : S c < F ∧ c < b
  · rw [if_pos hq, if_pos hq]
    obtain ⟨c1, c2, c3, c4⟩ := i6 c hca hq.2
    have hup2 := i6.le (i := c + 1) (by omega) (show c + 1 ≤ b by omega) (Nat.le_refl b)
    have hF := h3 hq.2
    exact Or.inr (Or.inr ⟨S (c + 1) - S c, F, rfl, rfl, rfl, rfl, rfl, by omega, by omega, hq.1, by omega, rfl, c3, by omega, by omega⟩)
  · rw [if_neg hq, if_neg hq]
    have hFc : F = S c := by
      rcases Nat.lt_or_ge c b with q | q
      · omega
      · have : c = b := by omega
        subst this
        omega
    exact Or.inr (Or.inl ⟨rfl, rfl, rfl, rfl, by rw [hFc], by omega, by omega⟩)
theorem st_20 (hrel : Rel k (R, Bu, f, g, e, w, o, th, bu, wd, se, le, ki, ow, ol, li, vo, ba, co, fi, fo, en, cl, lf, bg, bl, O)) (h5 : 5 * k + 5 ≤ L) (hL : L ≤ 2560) : wk_20 (fun st => Rel (k + 1) st) L xs (nI (5 * k)) R Bu f g e w o th bu wd se le ki ow ol li vo ba co fi fo en cl lf bg bl O := by
  obtain ⟨S, v, a, b, hI⟩ := hrel
  unfold wk_20 wp_X0_isOpen wp_X1_isOpen
  have ho : narrow .boolean (.int o) = .int o := by
    rcases hI.2.2.2.2.2.2.2.2 with ⟨_, h, _⟩ | ⟨_, h, _⟩ | ⟨_, _, _, h, _⟩ <;> rw [h] <;> rfl
  exact ⟨ho, fun _ => ⟨S, v, a, b, hI.mono⟩, fun _ => ⟨S, v, a, b, hI.mono⟩⟩
theorem st_17 (hrel : Rel k (R, Bu, f, g, e, w, o, th, bu, wd, se, le, ki, ow, ol, li, vo, ba, co, fi, fo, en, cl, lf, bg, bl, O)) (h5 : 5 * k + 5 ≤ L) (hL : L ≤ 2560) : wk_17 (fun st => Rel (k + 1) st) L xs (nI (5 * k)) R Bu f g e w o th bu wd se le ki ow ol li vo ba co fi fo en cl lf bg bl O := by
  obtain ⟨S, v, a, b, hI⟩ := hrel
  unfold wk_17
  refine ⟨vk1 h5 hL, ?_⟩
  generalize xs (nI (5 * k) + (1 : Int32)).toNatClampNeg = x
  unfold wp_L_cutAfter wp_X0_cutAfter
  have hsame := hI.mono
  refine ⟨fun hx => ⟨vk1 h5 hL, ?_⟩, fun hx => ⟨rfl, vk1 h5 hL, ?_⟩⟩
  · have hx' : x = -1 ∨ ∃ W : Nat, W < 2 ^ 31 ∧ x = nI W := by
      by_cases h0 : x < 0
      · left
        apply Int32.toInt_inj.mp
        have e1 := Int32.lt_iff_toInt_lt.mp h0
        have e2 := Int32.le_iff_toInt_le.mp hx
        have e3 : (0 : Int32).toInt = 0 := by decide
        have e4 : (-1 : Int32).toInt = -1 := by decide
        omega
      · exact Or.inr (nI_of h0)
    unfold wp_X1_cutAfter wc_X1_cutAfter_11
    refine ⟨fun _ => m_ref0 rfl rfl rfl ⟨fun _ => ⟨S, v, a, b, ?_⟩, fun hh => absurd rfl hh⟩, fun hh => absurd hx hh⟩
    obtain ⟨i1, i2, i3, i4, i5, i6, i7, i8, i9⟩ := hsame
    exact ⟨i1, i2, ⟨i3.1, i3.2.1, i3.2.2.1, i3.2.2.2.1, i3.2.2.2.2.1, i3.2.2.2.2.2.1, rfl⟩, hx', i5, i6, i7, i8, i9⟩
  · unfold wp_X1_cutAfter wc_X1_cutAfter_11
    exact ⟨fun hh => absurd hh hx, fun _ => m_ref1 (by decide) ⟨fun hh => absurd hh (by decide), fun _ => ⟨S, v, a, b, hsame⟩⟩⟩
theorem st_18 (hrel : Rel k (R, Bu, f, g, e, w, o, th, bu, wd, se, le, ki, ow, ol, li, vo, ba, co, fi, fo, en, cl, lf, bg, bl, O)) (h5 : 5 * k + 5 ≤ L) (hL : L ≤ 2560) : wk_18 (fun st => Rel (k + 1) st) L xs (nI (5 * k)) R Bu f g e w o th bu wd se le ki ow ol li vo ba co fi fo en cl lf bg bl O := by
  obtain ⟨S, v, a, b, hI⟩ := hrel
  have hM := hI.mf (by omega)
  unfold wk_18 wp_X0_cut wp_X1_cut
  have hsame := hI.mono
  have hclosed : cl = 1 → o = 0 → _ := fun (_ : cl = 1) (_ : o = 0) => (⟨S, v, a, b, hsame⟩ : Rel (k + 1) (R, Bu, f, g, e, w, o, 0, bu, wd, se, le, ki, ow, ol, li, vo, ba, co, fi, fo, en, cl, lf, bg, bl, O))
  have hI' := hI
  obtain ⟨i1, i2, i3, i4, i5, i6, i7, i8, i9⟩ := hI
  rcases i9 with ⟨p1, p2, p3, p4, ⟨c, q1, q2, q3⟩, p6, p7⟩ | ⟨p1, p2, _⟩ | ⟨_, _, p1, p2, _⟩
  · refine ⟨fun hh => absurd (p2.symm.trans hh) (by decide), fun _ => q_lose (fun Bz hz => ⟨fun _ => ?_, fun hh => absurd p1 hh⟩)⟩
    have hup := i6.le q1 q2 (Nat.le_refl b)
    refine m_fail (c := c) (Fo := S c) hM.1 hM.2.1 (by omega) (by omega) i3.1 i3.2.1 q3 q1 q2 (Nat.le_refl _) (by omega) (fun hcb => by have := (i6 c q1 hcb).1; omega) (fun bz hz2 => ⟨S, v, a, c, ?_⟩)
    have h9 := fail_inv (F := S c) hI' q1 q2 (Nat.le_refl _) (by omega) (fun hcb => by have := (i6 c q1 hcb).1; omega) hz hz2
    rw [p3, i3.2.2.2.2.1, q3]
    exact h9
  · exact ⟨fun _ => ⟨fun hh => absurd (p1.symm.trans hh) (by decide), fun _ => hclosed p1 p2⟩, fun hh => absurd p2 hh⟩
  · exact ⟨fun _ => ⟨fun hh => absurd (p1.symm.trans hh) (by decide), fun _ => hclosed p1 p2⟩, fun hh => absurd p2 hh⟩
end SU
