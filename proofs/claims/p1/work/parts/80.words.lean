section W0
variable {S : Nat → Nat} {v : Nat → Bool} {a b c k L : Nat} {R Bu : Nat → Int32} {f g e w o : Int32} {bu wd se le ki ow ol li vo : Nat → Int32} {th ba co fi fo en cl lf bg bl : Int32} {O : Nat → Int64} {x y z : Int32}
/-- the ring's words of a record that isn't void: kind and owner, older, link, content -/
def WD (S : Nat → Nat) (v : Nat → Bool) (a b : Nat) (R wd ki ow ol li : Nat → Int32) : Prop := ∀ i, a ≤ i → i < b → v i = false → ∃ K W : Nat, K < 16 ∧ W < 8 ∧ ki i = nI K ∧ ow i = nI W ∧ rd R (S i + 1) = nI (K + 16 * W) ∧ rd R (S i + 2) = ol i ∧ rd R (S i + 3) = li i ∧ ∀ j, S i + 5 + j < S (i + 1) → rd R (S i + 4 + j) = wd ((S i + 4 + j) % 65536)
theorem q_owner {post : Int32 → Prop} {i : Nat} (hD : WD S v a b R wd ki ow ol li) (h1 : a ≤ i) (h2 : i < b) (h3 : v i = false) (hS : S i < 2 ^ 30) (h : post (ow i)) : wp_X0_ownerAt post (nI (S i)) R Bu f g e w o := by
  obtain ⟨K, W, d1, d2, d3, d4, d5, -⟩ := hD i h1 h2 h3
  unfold wp_X0_ownerAt
  rw [nI_1]
  refine q_wordAt (by omega) ?_
  show post (rd R (S i + 1) / (16 : Int32))
  rw [d5, show (16 : Int32) = nI 16 from rfl, pk_div (by omega) (by omega) (by omega), show (K + 16 * W) / 16 = W by omega, ← d4]
  exact h
theorem q_kind {post : Int32 → Prop} {i : Nat} (hD : WD S v a b R wd ki ow ol li) (h1 : a ≤ i) (h2 : i < b) (h3 : v i = false) (hS : S i < 2 ^ 30) (h : post (ki i)) : wp_X0_kindAt post (nI (S i)) R Bu f g e w o := by
  obtain ⟨K, W, d1, d2, d3, d4, d5, -⟩ := hD i h1 h2 h3
  unfold wp_X0_kindAt
  rw [nI_1]
  refine q_wordAt (by omega) ?_
  show post (rd R (S i + 1) - rd R (S i + 1) / (16 : Int32) * (16 : Int32))
  rw [d5, show (16 : Int32) = nI 16 from rfl, pk_rem (by omega) (by omega) (by omega), show (K + 16 * W) % 16 = K by omega, ← d3]
  exact h
theorem flo_fl_none : ∀ {j : Nat}, fl v a j = none → flo v ow x a j = none := by
  intro j
  induction j with
  | zero => intro _; rfl
  | succ j ih =>
    intro h
    rw [fl] at h
    rw [flo]
    split at h
    · rename_i q; rw [if_pos q]
    · rename_i q
      rw [if_neg q]
      split at h
      · rename_i q2
        rw [if_neg (fun q3 => by rw [q2] at q3; cases q3.1)]
        exact ih h
      · cases h
theorem flo_fl_some : ∀ {j i : Nat}, fl v a j = some i → flo v ow x a j = if ow i = x then some i else flo v ow x a i := by
  intro j
  induction j with
  | zero => intro i h; cases h
  | succ j ih =>
    intro i h
    rw [fl] at h
    rw [flo]
    split at h
    · cases h
    · rename_i q
      rw [if_neg q]
      split at h
      · rename_i q2
        rw [if_neg (fun q3 => by rw [q2] at q3; cases q3.1)]
        exact ih h
      · rename_i q2
        cases h
        have q4 : v j = false := by simpa using q2
        by_cases q5 : ow j = x
        · rw [if_pos ⟨q4, q5⟩, if_pos q5]
        · rw [if_neg (fun q6 => q5 q6.2), if_neg q5]
theorem q_lro_l {post : Int32 → Prop} (hC : CH R S v a b) (hD : WD S v a b R wd ki ow ol li) (hb : S b < 2 ^ 30) (h16 : S b ≤ S a + 65536) (hf : f = nI (S a)) :
    ∀ (n j c : Nat), j - a ≤ n → a ≤ j → j ≤ b → c + n ≤ 13107 → post (sv S (flo v ow x a j)) → wl_X0_lastRecordOf_11 post R Bu f g e w o x (n + 1) (sv S (fl v a j)) (nI c) := by
  intro n
  induction n with
  | zero =>
    intro j c hn ha hj hc hp
    have hja : j = a := by omega
    subst hja
    rw [flo_none (Nat.le_refl j)] at hp
    rw [fl_none (Nat.le_refl j), wl_X0_lastRecordOf_11]
    exact ⟨fun _ => hp, fun _ => ⟨fun _ => hp, fun hh => absurd rfl hh⟩⟩
  | succ n ih =>
    intro j c hn ha hj hc hp
    cases hfl : fl v a j with
    | none =>
      rw [flo_fl_none hfl] at hp
      rw [wl_X0_lastRecordOf_11]
      exact ⟨fun _ => hp, fun _ => ⟨fun _ => hp, fun hh => absurd rfl hh⟩⟩
    | some i =>
      obtain ⟨i1, i2, i3⟩ := fl_some hfl
      have hup := hC.le (i := i) i1 (show i ≤ b by omega) (Nat.le_refl b)
      rw [flo_fl_some hfl] at hp
      rw [wl_X0_lastRecordOf_11]
      refine ⟨fun hh => absurd hh (by rw [q_13107]; exact nI_ge (by omega) (by omega)), fun _ => ⟨fun hh => absurd hh (q_nneg (by omega)), fun _ => ?_⟩⟩
      show wp_X0_ownerAt _ (nI (S i)) R Bu f g e w o
      refine q_owner hD i1 (by omega) i3 (by omega) ⟨fun hx => ?_, fun hx => ?_⟩
      · rw [if_pos hx] at hp
        exact hp
      · rw [if_neg hx] at hp
        refine q_lrb hC i1 (by omega) hb h16 hf ?_
        rw [nI_1]
        exact ih i (c + 1) (by omega) i1 (by omega) (by omega) hp
theorem q_lro {post : Int32 → Prop} (hC : CH R S v a b) (hD : WD S v a b R wd ki ow ol li) (hab : a ≤ b) (hb : S b < 2 ^ 30) (h16 : S b ≤ S a + 65536) (hf : f = nI (S a)) (he : e = nI (S b)) (h : post (sv S (flo v ow x a b))) : wp_X0_lastRecordOf post x R Bu f g e w o := by
  unfold wp_X0_lastRecordOf
  have hm := hC.le (Nat.le_refl a) hab (Nat.le_refl b)
  have key := q_lro_l (post := post) (x := x) (Bu := Bu) (g := g) (e := e) (w := w) (o := o) hC hD hb h16 hf (b - a) b 0 (Nat.le_refl _) hab (Nat.le_refl b) (by omega) h
  rw [he] at key ⊢
  exact q_lrb hC hab (Nat.le_refl b) hb h16 hf ⟨b - a + 1, key⟩
/-- the links lie before their records, and the ring's words are the reference's -/
def LNW (S : Nat → Nat) (v : Nat → Bool) (a b : Nat) (R wd ki ow ol li : Nat → Int32) : Prop := LNK S v a b li ol ∧ WD S v a b R wd ki ow ol li
theorem LNW.sub (h : LNW S v a b R wd ki ow ol li) {a' b' : Nat} (ha : a ≤ a') (hb : b' ≤ b) : LNW S v a' b' R wd ki ow ol li := ⟨fun i h1 h2 => h.1 i (by omega) (by omega), fun i h1 h2 => h.2 i (by omega) (by omega)⟩
end W0
section WD
variable {S : Nat → Nat} {v : Nat → Bool} {a b c k L : Nat} {R Bu : Nat → Int32} {f g e w o : Int32} {bu wd se le ki ow ol li vo : Nat → Int32} {th ba co fi fo en cl lf bg bl : Int32} {O : Nat → Int64} {x y z : Int32}
theorem q_7 (h : ¬ x < 8) : (7 : Int32) < x := by
  apply Int32.lt_iff_toInt_lt.mpr
  have h1 := mt Int32.lt_iff_toInt_lt.mpr h
  have h2 : (8 : Int32).toInt = 8 := by decide
  have h3 : (7 : Int32).toInt = 7 := by decide
  omega
theorem q_7' (h : x < 8) : ¬ (7 : Int32) < x := fun h9 => by
  have h1 := Int32.lt_iff_toInt_lt.mp h
  have h4 := Int32.lt_iff_toInt_lt.mp h9
  have h2 : (8 : Int32).toInt = 8 := by decide
  have h3 : (7 : Int32).toInt = 7 := by decide
  omega
theorem q_04 (h0 : ¬ y = 0) (h1 : ¬ y = 1) (h2 : ¬ y = 2) (h3 : ¬ y = 3) (h4 : ¬ y = 4) : y < 0 ∨ 4 < y := by
  by_cases hy : y < 0
  · exact Or.inl hy
  · obtain ⟨j, hj, rfl⟩ := nI_of hy
    rcases Nat.lt_or_ge 4 j with q | q
    · exact Or.inr (nI_lt (a := 4) q hj)
    · have h9 : j = 0 ∨ j = 1 ∨ j = 2 ∨ j = 3 ∨ j = 4 := by omega
      rcases h9 with rfl | rfl | rfl | rfl | rfl
      · exact absurd rfl h0
      · exact absurd rfl h1
      · exact absurd rfl h2
      · exact absurd rfl h3
      · exact absurd rfl h4
theorem l_lastOf {P : Int32 → St_AO → Prop} (hI : Inv k S v a b R Bu f g e w o bu se le ol li vo ba co fi fo en cl lf bg bl) (hD : WD S v a b R wd ki ow ol li) (hk : k < 512) (h0 : cl = 1 → P 1 (R, Bu, f, g, e, w, o, O)) (h2 : cl = 0 → (x < 0 ∨ 7 < x) → P 2 (R, Bu, f, g, e, w, o, O)) (h1 : cl = 0 → ¬ x < 0 → ¬ 7 < x → P 0 (R, Bu, f, g, e, w, o, vp_updL O (0 : Int32).toNatClampNeg (sv S (flo v ow x a b)).toInt64)) : wp_L_lastOf P x R Bu f g e w o O := by
  unfold wp_L_lastOf wp_X0_lastOf wp_X0_requireOpen wp_X0_requireOwner
  rcases hI.oc with ⟨q1, q2⟩ | ⟨q1, q2⟩
  · exact ⟨fun _ => Or.inl ⟨rfl, h0 q2⟩, fun hh => absurd q1 hh⟩
  · refine ⟨fun hh => absurd (q1.symm.trans hh) (by decide), fun _ => ?_⟩
    have hop := hI.op q2
    have hbd := hI.2.2.2.2.2.2.2.2.bound
    have hC := hI.2.2.2.2.2.1
    refine ⟨fun hx => Or.inr ⟨rfl, h2 q2 (Or.inl hx)⟩, fun hx => ⟨fun hx8 => ?_, fun hx8 => Or.inr ⟨rfl, h2 q2 (Or.inr (q_7 hx8))⟩⟩⟩
    exact q_lro hC hD hI.1 (by omega) hbd.2 hI.2.2.1.2.2.1 hop.1 ⟨v01, h1 q2 hx (q_7' hx8)⟩
theorem u_lastOf {P : Int32 → St_B → Prop} (hI : Inv k S v a b R Bu f g e w o bu se le ol li vo ba co fi fo en cl lf bg bl) (hk : k < 512) (h0 : cl = 1 → P 0 (1, bu, wd, se, le, ki, ow, ol, li, vo, ba, co, fi, fo, en, cl, lf, bg, bl)) (h2 : cl = 0 → (x < 0 ∨ 7 < x) → P 0 (2, bu, wd, se, le, ki, ow, ol, li, vo, ba, co, fi, fo, en, cl, lf, bg, bl)) (h1 : cl = 0 → ¬ x < 0 → ¬ 7 < x → P (sv S (flo v ow x a b)) (0, bu, wd, se, le, ki, ow, ol, li, vo, ba, co, fi, fo, en, cl, lf, bg, bl)) : wp_X1_lastOf P x th bu wd se le ki ow ol li vo ba co fi fo en cl lf bg bl := by
  have hM := hI.mf (by omega)
  have h44 := hM.2.2.2.2.1
  unfold wp_X1_lastOf wc_X1_lastOf_20
  rcases hI.oc with ⟨q1, q2⟩ | ⟨q1, q2⟩
  · exact m_in (fun _ => ⟨fun _ => m_ref1 (by rw [q2]; decide) ⟨fun hh => absurd hh (by decide), fun _ => h0 q2⟩, fun hh => absurd rfl hh⟩) (fun _ _ => ⟨fun hh => absurd hh (by decide), fun _ => m_ref1 (by rw [q2]; decide) ⟨fun hh => absurd hh (by decide), fun _ => h0 q2⟩⟩)
  · refine m_in (fun hx => ⟨fun _ => m_ref2 q2 (by decide) ⟨fun hh => absurd hh (by decide), fun _ => h2 q2 hx⟩, fun hh => absurd rfl hh⟩) (fun hx1 hx2 => ⟨fun hh => absurd hh (by decide), fun _ => m_ref0 q2 rfl rfl ⟨fun _ => ?_, fun hh => absurd rfl hh⟩⟩)
    exact m_latestOf hM.1 hI.1 (by omega) hI.2.2.1.1 hI.2.2.1.2.1 (h1 q2 hx1 hx2)
/-- what of answers at record i -/
def ofv (S : Nat → Nat) (ki ow ol li : Nat → Int32) (i : Nat) (y : Int32) : Int32 := if y = 0 then ki i else if y = 1 then ow i else if y = 2 then ol i else if y = 3 then li i else nI (S (i + 1) - S i) - 5
theorem l_of {P : Int32 → St_AO → Prop} (hI : Inv k S v a b R Bu f g e w o bu se le ol li vo ba co fi fo en cl lf bg bl) (hD : WD S v a b R wd ki ow ol li) (hk : k < 512) (h0 : cl = 1 → P 1 (R, Bu, f, g, e, w, o, O)) (h2 : cl = 0 → ¬ isr S v a b x → P 2 (R, Bu, f, g, e, w, o, O)) (h3 : cl = 0 → isr S v a b x → (y < 0 ∨ 4 < y) → P 3 (R, Bu, f, g, e, w, o, O)) (h1 : cl = 0 → ∀ i, a ≤ i → i < b → v i = false → x = nI (S i) → ¬ (y < 0 ∨ 4 < y) → P 0 (R, Bu, f, g, e, w, o, vp_updL O (0 : Int32).toNatClampNeg (ofv S ki ow ol li i y).toInt64)) : wp_L_of P x y R Bu f g e w o O := by
  unfold wp_L_of wp_X0_of wp_X0_requireOpen wp_X0_requireRecord
  rcases hI.oc with ⟨q1, q2⟩ | ⟨q1, q2⟩
  · exact ⟨fun _ => Or.inl ⟨rfl, h0 q2⟩, fun hh => absurd q1 hh⟩
  · refine ⟨fun hh => absurd (q1.symm.trans hh) (by decide), fun _ => ?_⟩
    have hop := hI.op q2
    have hbd := hI.2.2.2.2.2.2.2.2.bound
    have hC := hI.2.2.2.2.2.1
    refine q_isRecord hC hI.1 (by omega) hbd.2 hI.2.2.1.2.2.1 hop.1 (fun hno => ⟨fun _ => Or.inr (Or.inl ⟨rfl, h2 q2 hno⟩), fun hh => absurd rfl hh⟩) (fun hyes => ⟨fun hh => absurd hh (by decide), fun _ => ?_⟩)
    have h3' := h3 q2 hyes
    obtain ⟨i, j1, j2, j3, j4⟩ := hyes
    have h1' := h1 q2 i j1 j2 j3 j4
    obtain ⟨c1, c2, c3, c4⟩ := hC i j1 j2
    have hup := hC.le (i := i + 1) (by omega) (show i + 1 ≤ b by omega) (Nat.le_refl b)
    obtain ⟨K, W, d1, d2, d3, d4, d5, d6, d7, -⟩ := hD i j1 j2 j3
    rw [j4]
    refine ⟨fun hy => ?_, fun hy0 => ⟨fun hy => ?_, fun hy1 => ⟨fun hy => ?_, fun hy2 => ⟨fun hy => ?_, fun hy3 => ⟨fun hy => ?_, fun hy4 => Or.inr (Or.inr ⟨rfl, h3' (q_04 hy0 hy1 hy2 hy3 hy4)⟩)⟩⟩⟩⟩⟩
    · have h9 := h1' (by rw [hy]; decide)
      rw [ofv, if_pos hy] at h9
      exact q_kind hD j1 j2 j3 (by omega) ⟨v01, h9⟩
    · have h9 := h1' (by rw [hy]; decide)
      rw [ofv, if_neg hy0, if_pos hy] at h9
      exact q_owner hD j1 j2 j3 (by omega) ⟨v01, h9⟩
    · have h9 := h1' (by rw [hy]; decide)
      rw [ofv, if_neg hy0, if_neg hy1, if_pos hy] at h9
      rw [show (2 : Int32) = nI 2 from rfl, nI_add]
      refine q_wordAt (by omega) ⟨v01, ?_⟩
      rw [d6]
      exact h9
    · have h9 := h1' (by rw [hy]; decide)
      rw [ofv, if_neg hy0, if_neg hy1, if_neg hy2, if_pos hy] at h9
      rw [show (3 : Int32) = nI 3 from rfl, nI_add]
      refine q_wordAt (by omega) ⟨v01, ?_⟩
      rw [d7]
      exact h9
    · have h9 := h1' (by rw [hy]; decide)
      rw [ofv, if_neg hy0, if_neg hy1, if_neg hy2, if_neg hy3] at h9
      unfold wp_X0_contentWords
      refine q_wordAt (by omega) ⟨v01, ?_⟩
      rw [c3]
      exact h9
theorem u_of {P : Int32 → St_B → Prop} (hI : Inv k S v a b R Bu f g e w o bu se le ol li vo ba co fi fo en cl lf bg bl) (hk : k < 512) (h0 : cl = 1 → P 0 (1, bu, wd, se, le, ki, ow, ol, li, vo, ba, co, fi, fo, en, cl, lf, bg, bl)) (h2 : cl = 0 → ¬ isr S v a b x → P 0 (2, bu, wd, se, le, ki, ow, ol, li, vo, ba, co, fi, fo, en, cl, lf, bg, bl)) (h3 : cl = 0 → isr S v a b x → (y < 0 ∨ 4 < y) → P 0 (3, bu, wd, se, le, ki, ow, ol, li, vo, ba, co, fi, fo, en, cl, lf, bg, bl)) (h1 : cl = 0 → ∀ i, a ≤ i → i < b → v i = false → x = nI (S i) → ¬ (y < 0 ∨ 4 < y) → P (ofv S ki ow ol li i y) (0, bu, wd, se, le, ki, ow, ol, li, vo, ba, co, fi, fo, en, cl, lf, bg, bl)) : wp_X1_of P x y th bu wd se le ki ow ol li vo ba co fi fo en cl lf bg bl := by
  have hM := hI.mf (by omega)
  have h44 := hM.2.2.2.2.1
  unfold wp_X1_of
  rcases hI.oc with ⟨q1, q2⟩ | ⟨q1, q2⟩
  · refine ⟨fun hh => absurd (q2.symm.trans hh) (by decide), fun _ => ?_⟩
    have k45 : ∀ z0 : Int32, wc_X1_of_45 P x y (-1) z0 1 cl th bu wd se le ki ow ol li vo ba co fi fo en cl lf bg bl := fun z0 => by
      unfold wc_X1_of_45
      exact m_ref1 (by rw [q2]; decide) ⟨fun hh => absurd hh (by decide), fun _ => h0 q2⟩
    unfold wc_X1_of_16 wc_X1_of_31
    exact ⟨fun hh => absurd hh (by decide), fun _ => m_in (fun _ => ⟨fun _ => k45 _, fun _ => k45 _⟩) (fun _ _ => ⟨fun _ => k45 _, fun _ => k45 _⟩)⟩
  · refine ⟨fun _ => m_rowOf hM.1 hM.2.1 hI.1 (by omega) hM.2.2.2.2.2.1 hI.2.2.1.1 hI.2.2.1.2.1 (fun hno => ?_) (fun i j1 j2 j3 j4 => ?_), fun hh => absurd q2 hh⟩
    · have k45 : ∀ z0 : Int32, wc_X1_of_45 P x y (-1) z0 1 cl th bu wd se le ki ow ol li vo ba co fi fo en cl lf bg bl := fun z0 => by
        unfold wc_X1_of_45
        exact m_ref2 q2 (by decide) ⟨fun hh => absurd hh (by decide), fun _ => h2 q2 hno⟩
      unfold wc_X1_of_16 wc_X1_of_31
      exact ⟨fun hh => absurd hh (by decide), fun _ => m_in (fun _ => ⟨fun _ => k45 _, fun _ => k45 _⟩) (fun _ _ => ⟨fun _ => k45 _, fun _ => k45 _⟩)⟩
    · have hin : vp_in (nI i) 4400 := vp_in_nI (by omega) (by omega)
      obtain ⟨r1, r2, r3⟩ := hM.1 i j1 j2
      unfold wc_X1_of_16 wc_X1_of_31
      refine ⟨fun _ => m_in (fun hy => ⟨fun _ => ?_, fun hh => absurd rfl hh⟩) (fun hy1 hy2 => ⟨fun hh => absurd hh (by decide), fun _ => ?_⟩), fun hh => absurd (nI_pos' (by omega)) hh⟩
      · unfold wc_X1_of_45
        exact m_ref3 q2 rfl (by decide) ⟨fun hh => absurd hh (by decide), fun _ => h3 q2 ⟨i, j1, j2, j3, j4⟩ hy⟩
      · have h9 := h1 q2 i j1 j2 j3 j4 (fun hh => hh.elim hy1 hy2)
        unfold wc_X1_of_45
        refine m_ref0 q2 rfl rfl ⟨fun _ => ?_, fun hh => absurd rfl hh⟩
        rw [nI_clamp (by omega), r2]
        refine ⟨fun hy => ⟨hin, ?_⟩, fun hy0 => ⟨fun hy => ⟨hin, ?_⟩, fun hy1 => ⟨fun hy => ⟨hin, ?_⟩, fun hy2 => ⟨fun hy => ⟨hin, ?_⟩, fun hy3 => ⟨hin, ?_⟩⟩⟩⟩⟩
        · rw [ofv, if_pos hy] at h9; exact h9
        · rw [ofv, if_neg hy0, if_pos hy] at h9; exact h9
        · rw [ofv, if_neg hy0, if_neg hy1, if_pos hy] at h9; exact h9
        · rw [ofv, if_neg hy0, if_neg hy1, if_neg hy2, if_pos hy] at h9; exact h9
        · rw [ofv, if_neg hy0, if_neg hy1, if_neg hy2, if_neg hy3] at h9; exact h9
theorem l_word {P : Int32 → St_AO → Prop} (hI : Inv k S v a b R Bu f g e w o bu se le ol li vo ba co fi fo en cl lf bg bl) (hD : WD S v a b R wd ki ow ol li) (hk : k < 512) (h0 : cl = 1 → P 1 (R, Bu, f, g, e, w, o, O)) (h2 : cl = 0 → ¬ isr S v a b x → P 2 (R, Bu, f, g, e, w, o, O)) (h3 : cl = 0 → ∀ i, a ≤ i → i < b → v i = false → x = nI (S i) → (∀ j, y = nI j → ¬ S i + 5 + j < S (i + 1)) → P 3 (R, Bu, f, g, e, w, o, O)) (h1 : cl = 0 → ∀ i, a ≤ i → i < b → v i = false → x = nI (S i) → ∀ j, y = nI j → S i + 5 + j < S (i + 1) → P 0 (R, Bu, f, g, e, w, o, vp_updL O (0 : Int32).toNatClampNeg (wd ((S i + 4 + j) % 65536)).toInt64)) : wp_L_word P x y R Bu f g e w o O := by
  unfold wp_L_word wp_X0_word wp_X0_requireOpen wp_X0_requireRecord
  rcases hI.oc with ⟨q1, q2⟩ | ⟨q1, q2⟩
  · exact ⟨fun _ => Or.inl ⟨rfl, h0 q2⟩, fun hh => absurd q1 hh⟩
  · refine ⟨fun hh => absurd (q1.symm.trans hh) (by decide), fun _ => ?_⟩
    have hop := hI.op q2
    have hbd := hI.2.2.2.2.2.2.2.2.bound
    have hC := hI.2.2.2.2.2.1
    refine q_isRecord hC hI.1 (by omega) hbd.2 hI.2.2.1.2.2.1 hop.1 (fun hno => ⟨fun _ => Or.inr (Or.inl ⟨rfl, h2 q2 hno⟩), fun hh => absurd rfl hh⟩) (fun hyes => ⟨fun hh => absurd hh (by decide), fun _ => ?_⟩)
    obtain ⟨i, j1, j2, j3, j4⟩ := hyes
    have h1' := h1 q2 i j1 j2 j3 j4
    have h3' := h3 q2 i j1 j2 j3 j4
    obtain ⟨c1, c2, c3, c4⟩ := hC i j1 j2
    have hup := hC.le (i := i + 1) (by omega) (show i + 1 ≤ b by omega) (Nat.le_refl b)
    obtain ⟨K, W, d1, d2, d3, d4, d5, d6, d7, d8⟩ := hD i j1 j2 j3
    refine ⟨fun hy => Or.inr (Or.inr ⟨rfl, h3' (fun j hj hlt => ?_)⟩), fun hy => ?_⟩
    · rw [hj] at hy
      exact nI_pos (by omega) hy
    · obtain ⟨j, hj, hyj⟩ := nI_of hy
      rw [j4]
      unfold wp_X0_contentWords
      refine q_wordAt (by omega) ?_
      show (y < rd R (S i) - (5 : Int32) → _) ∧ (¬ y < rd R (S i) - (5 : Int32) → _)
      rw [c3, show (5 : Int32) = nI 5 from rfl, pk_sub (by omega), hyj]
      refine ⟨fun hlt => ?_, fun hlt => Or.inr (Or.inr ⟨rfl, h3' (fun j' hj' hlt' => hlt ?_)⟩)⟩
      · have hlt' := (nI_ltI hj (by omega)).mp hlt
        rw [show (4 : Int32) = nI 4 from rfl, nI_add, nI_add]
        refine q_wordAt (by omega) ⟨v01, ?_⟩
        rw [d8 j (by omega)]
        exact h1' j hyj (by omega)
      · have hjj : j = j' := (nI_eq hj (by omega)).mp (hyj.symm.trans hj')
        subst hjj
        exact nI_lt (by omega) (by omega)
theorem u_word {P : Int32 → St_B → Prop} (hI : Inv k S v a b R Bu f g e w o bu se le ol li vo ba co fi fo en cl lf bg bl) (hk : k < 512) (h0 : cl = 1 → P 0 (1, bu, wd, se, le, ki, ow, ol, li, vo, ba, co, fi, fo, en, cl, lf, bg, bl)) (h2 : cl = 0 → ¬ isr S v a b x → P 0 (2, bu, wd, se, le, ki, ow, ol, li, vo, ba, co, fi, fo, en, cl, lf, bg, bl)) (h3 : cl = 0 → ∀ i, a ≤ i → i < b → v i = false → x = nI (S i) → (∀ j, y = nI j → ¬ S i + 5 + j < S (i + 1)) → P 0 (3, bu, wd, se, le, ki, ow, ol, li, vo, ba, co, fi, fo, en, cl, lf, bg, bl)) (h1 : cl = 0 → ∀ i, a ≤ i → i < b → v i = false → x = nI (S i) → ∀ j, y = nI j → S i + 5 + j < S (i + 1) → P (wd ((S i + 4 + j) % 65536)) (0, bu, wd, se, le, ki, ow, ol, li, vo, ba, co, fi, fo, en, cl, lf, bg, bl)) : wp_X1_word P x y th bu wd se le ki ow ol li vo ba co fi fo en cl lf bg bl := by
  have hM := hI.mf (by omega)
  have h44 := hM.2.2.2.2.1
  have hb := hM.2.2.2.2.2.1
  unfold wp_X1_word
  rcases hI.oc with ⟨q1, q2⟩ | ⟨q1, q2⟩
  · refine ⟨fun hh => absurd (q2.symm.trans hh) (by decide), fun _ => ?_⟩
    unfold wc_X1_word_16 wc_X1_word_31 wc_X1_word_56 wc_X1_word_57
    exact ⟨fun hh => absurd hh (by decide), fun _ => ⟨fun _ => m_ref1 (by rw [q2]; decide) ⟨fun hh => absurd hh (by decide), fun _ => h0 q2⟩, fun hh => absurd (by decide) hh⟩⟩
  · refine ⟨fun _ => m_rowOf hM.1 hM.2.1 hI.1 (by omega) hb hI.2.2.1.1 hI.2.2.1.2.1 (fun hno => ?_) (fun i j1 j2 j3 j4 => ?_), fun hh => absurd q2 hh⟩
    · unfold wc_X1_word_16 wc_X1_word_31 wc_X1_word_56 wc_X1_word_57
      exact ⟨fun hh => absurd hh (by decide), fun _ => ⟨fun _ => m_ref2 q2 (by decide) ⟨fun hh => absurd hh (by decide), fun _ => h2 q2 hno⟩, fun hh => absurd (by decide) hh⟩⟩
    · have h1' := h1 q2 i j1 j2 j3 j4
      have h3' := h3 q2 i j1 j2 j3 j4
      obtain ⟨r1, r2, r3⟩ := hM.1 i j1 j2
      have hinc := hM.2.1 i j1 j2
      have hup := hM.2.1.up (i := i + 1) (by omega) (show i + 1 ≤ b by omega) (Nat.le_refl b)
      unfold wc_X1_word_16 wc_X1_word_31
      refine ⟨fun _ => ⟨fun hh => absurd hh (nI_pos (by omega)), fun _ => ⟨vp_in_nI (by omega) (by omega), ?_⟩⟩, fun hh => absurd (nI_pos' (by omega)) hh⟩
      rw [nI_clamp (by omega), r2]
      refine m_in (fun hy => ⟨fun _ => ?_, fun hh => absurd rfl hh⟩) (fun hy0 hy1 => ⟨fun hh => absurd hh (by decide), fun _ => ?_⟩)
      · unfold wc_X1_word_57
        refine m_ref3 q2 rfl (by decide) ⟨fun hh => absurd hh (by decide), fun _ => h3' (fun j hj hlt => ?_)⟩
        rcases hy with hy | hy
        · rw [hj] at hy
          exact nI_pos (by omega) hy
        · rw [hj, show (6 : Int32) = nI 6 from rfl, pk_sub (by omega)] at hy
          exact nI_nlt (by omega) (by omega) hy
      · obtain ⟨j, hj, hyj⟩ := nI_of hy0
        rw [hyj] at hy1
        have hle : ¬ nI (S (i + 1) - S i) - nI 6 < nI j := hy1
        have hj2 : j + 6 ≤ S (i + 1) - S i := by
          rcases Nat.lt_or_ge (S (i + 1) - S i) 6 with q | q
          · exact absurd (Int32.lt_of_lt_of_le (pk_sneg (by omega) q) (nI_pos' hj)) hle
          · rw [pk_sub q] at hle
            rcases Nat.lt_or_ge (S (i + 1) - S i - 6) j with q2 | q2
            · exact absurd (nI_lt q2 hj) hle
            · omega
        unfold wc_X1_word_56 wc_X1_word_57
        refine m_ref0 q2 rfl rfl ⟨fun _ => ?_, fun hh => absurd rfl hh⟩
        have h9 := h1' j hyj (by omega)
        rw [j4, hyj, show (4 : Int32) = nI 4 from rfl, nI_add, nI_add, show (65536 : Int32) = nI 65536 from rfl, pk_rem (by omega) (by omega) (by omega)]
        have h65 : (S i + 4 + j) % 65536 < 65536 := Nat.mod_lt _ (by omega)
        rw [nI_clamp (by omega)]
        exact ⟨vp_in_nI h65 (by omega), h9⟩
end WD
