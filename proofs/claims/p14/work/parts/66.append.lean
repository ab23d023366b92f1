section SY
variable {S : Nat → Nat} {v : Nat → Bool} {a b c k L : Nat} {R Bu : Nat → Int32} {f g e w o : Int32} {bu wd se le ki ow ol li vo : Nat → Int32} {th ba co fi fo en cl lf bg bl : Int32} {O : Nat → Int64} {xs : Nat → Int32} {x1 x2 x3 x4 : Int32}
/-- an argument of append is outside its bounds -/
def BAD (x1 x2 x3 x4 e : Int32) : Prop := x1 < 0 ∨ ¬ x1 < 16 ∨ x2 < 0 ∨ ¬ x2 < 8 ∨ x4 < 0 ∨ ¬ x4 ≤ 200 ∨ x3 < -1 ∨ ¬ x3 < e
theorem bd_lt {x y : Int32} (h : y < x) : ¬ x ≤ y := fun h9 => by
  have h1 := Int32.lt_iff_toInt_lt.mp h
  have h2 := Int32.le_iff_toInt_le.mp h9
  omega
theorem bd_16 {x : Int32} (h : (15 : Int32) < x) : ¬ x < 16 := fun h9 => by
  have h1 := Int32.lt_iff_toInt_lt.mp h
  have h2 := Int32.lt_iff_toInt_lt.mp h9
  rw [show (15 : Int32).toInt = 15 by decide] at h1
  rw [show (16 : Int32).toInt = 16 by decide] at h2
  omega
theorem bd_8 {x : Int32} (h : (7 : Int32) < x) : ¬ x < 8 := fun h9 => by
  have h1 := Int32.lt_iff_toInt_lt.mp h
  have h2 := Int32.lt_iff_toInt_lt.mp h9
  rw [show (7 : Int32).toInt = 7 by decide] at h1
  rw [show (8 : Int32).toInt = 8 by decide] at h2
  omega
theorem bd_16' {x : Int32} (h : ¬ (15 : Int32) < x) : x < 16 := by
  apply Int32.lt_iff_toInt_lt.mpr
  have h1 : ¬ (15 : Int32).toInt < x.toInt := fun h9 => h (Int32.lt_iff_toInt_lt.mpr h9)
  rw [show (15 : Int32).toInt = 15 by decide] at h1
  rw [show (16 : Int32).toInt = 16 by decide]
  omega
theorem bd_8' {x : Int32} (h : ¬ (7 : Int32) < x) : x < 8 := by
  apply Int32.lt_iff_toInt_lt.mpr
  have h1 : ¬ (7 : Int32).toInt < x.toInt := fun h9 => h (Int32.lt_iff_toInt_lt.mpr h9)
  rw [show (7 : Int32).toInt = 7 by decide] at h1
  rw [show (8 : Int32).toInt = 8 by decide]
  omega
theorem bd_le {x y : Int32} (h : ¬ y < x) : x ≤ y := by
  apply Int32.le_iff_toInt_le.mpr
  have h1 : ¬ y.toInt < x.toInt := fun h9 => h (Int32.lt_iff_toInt_lt.mpr h9)
  omega
theorem bd_nlt {x y : Int32} (h : ¬ y ≤ x) : x < y := by
  apply Int32.lt_iff_toInt_lt.mpr
  have h1 : ¬ y.toInt ≤ x.toInt := fun h9 => h (Int32.le_iff_toInt_le.mpr h9)
  omega
theorem bd_ge {x y : Int32} (h : y ≤ x) : ¬ x < y := fun h9 => by
  have h1 := Int32.le_iff_toInt_le.mp h
  have h2 := Int32.lt_iff_toInt_lt.mp h9
  omega
theorem m_app_w {post : Int32 → St_B → Prop} (hb : BAD x1 x2 x3 x4 en → wc_X1_append_50 post x1 x2 x3 x4 0 th bu wd se le ki ow ol li vo ba co fi fo en cl lf bg bl) (hg : ¬ BAD x1 x2 x3 x4 en → wc_X1_append_50 post x1 x2 x3 x4 1 th bu wd se le ki ow ol li vo ba co fi fo en cl lf bg bl) : wp_X1_append post x1 x2 x3 x4 th bu wd se le ki ow ol li vo ba co fi fo en cl lf bg bl := by
  unfold wp_X1_append
  refine m_in (fun h => ⟨fun _ => hb (h.elim Or.inl (fun q => Or.inr (Or.inl (bd_16 q)))), fun hh => absurd rfl hh⟩) (fun a1 a2 => ⟨fun hh => absurd hh (by decide), fun _ => ?_⟩)
  refine m_in (fun h => ⟨fun _ => hb (h.elim (fun q => Or.inr (Or.inr (Or.inl q))) (fun q => Or.inr (Or.inr (Or.inr (Or.inl (bd_8 q)))))), fun hh => absurd rfl hh⟩) (fun a3 a4 => ⟨fun hh => absurd hh (by decide), fun _ => ?_⟩)
  refine m_in (fun h => ⟨fun _ => hb (h.elim (fun q => Or.inr (Or.inr (Or.inr (Or.inr (Or.inl q))))) (fun q => Or.inr (Or.inr (Or.inr (Or.inr (Or.inr (Or.inl (bd_lt q)))))))), fun hh => absurd rfl hh⟩) (fun a5 a6 => ⟨fun hh => absurd hh (by decide), fun _ => ?_⟩)
  refine ⟨fun q => hb (Or.inr (Or.inr (Or.inr (Or.inr (Or.inr (Or.inr (Or.inl q))))))), fun a7 => ⟨fun q => hb (Or.inr (Or.inr (Or.inr (Or.inr (Or.inr (Or.inr (Or.inr (bd_ge q)))))))), fun a8 => hg ?_⟩⟩
  rintro (q | q | q | q | q | q | q | q)
  · exact a1 q
  · exact q (bd_16' a2)
  · exact a3 q
  · exact q (bd_8' a4)
  · exact a5 q
  · exact q (bd_le a6)
  · exact a7 q
  · exact q (bd_nlt a8)
theorem m_app1 {post : Int32 → St_B → Prop} (hcl : ¬ cl = 0) (h : post 0 (1, bu, wd, se, le, ki, ow, ol, li, vo, ba, co, fi, fo, en, cl, lf, bg, bl)) : wp_X1_append post x1 x2 x3 x4 th bu wd se le ki ow ol li vo ba co fi fo en cl lf bg bl := by
  have h67 : ∀ z y : Int32, wc_X1_append_67 post x1 x2 x3 x4 z y cl th bu wd se le ki ow ol li vo ba co fi fo en cl lf bg bl := fun z y => by
    unfold wc_X1_append_67
    exact m_ref1 hcl ⟨fun hh => absurd hh (by decide), fun _ => h⟩
  refine m_app_w (fun _ => ?_) (fun _ => ?_)
  · unfold wc_X1_append_50
    exact ⟨fun _ => h67 _ _, fun _ => h67 _ _⟩
  · unfold wc_X1_append_50
    exact ⟨fun _ => h67 _ _, fun _ => h67 _ _⟩
theorem sv_neg {n : Nat} (h : n < 2 ^ 31) : sv S none < nI n := Int32.lt_of_lt_of_le (show (-1 : Int32) < 0 by decide) (nI_pos' h)
theorem flo_lt {x : Int32} (hI : INC S a b) (hb : S b < 2 ^ 30) : ∀ j, j ≤ b → sv S (flo v ow x a j) < nI (S b) := by
  intro j
  induction j with
  | zero => intro _; exact sv_neg (by omega)
  | succ j ih =>
    intro hj
    rw [flo]
    split
    · exact sv_neg (by omega)
    · split
      · have := hI.up (i := j) (by omega) (show j ≤ b by omega) (Nat.le_refl b)
        exact nI_lt (by omega) (by omega)
      · exact ih (by omega)
theorem m_app {post : Int32 → St_B → Prop} (hR : RO S v a b se le vo) (hI : INC S a b) (hab : a ≤ b) (h4 : b < 4400) (hb : S b < 2 ^ 29) (hba : ba = nI a) (hco : co = nI b) (hfi : fi = nI (S a)) (hen : en = nI (S b)) (hcl : cl = 0)
    (h0 : BAD x1 x2 x3 x4 en → post 0 (2, bu, wd, se, le, ki, ow, ol, li, vo, ba, co, fi, fo, en, cl, lf, bg, bl))
    (h1 : ∀ n : Nat, n ≤ 200 → x4 = nI n → S a + 65536 < S b + n + 5 → post (-1) (0, bu, wd, se, le, ki, ow, ol, li, vo, ba, co, fi, fo, en, cl, lf, bg, bl))
    (h2 : ¬ BAD x1 x2 x3 x4 en → ∀ n : Nat, n ≤ 200 → x4 = nI n → S b + n + 5 ≤ S a + 65536 → ∀ (z : Int32) (wd' : Nat → Int32), (∀ j, j < n → wd' ((S b + 4 + j) % 65536) = bu j) → (∀ p, S a ≤ p → p < S b → wd' (p % 65536) = wd (p % 65536)) → sv S (flo v ow x2 a b) < nI (S b) → post z (0, bu, wd', upd se b (nI (S b)), upd le b (nI (n + 5)), upd ki b x1, upd ow b x2, upd ol b (sv S (flo v ow x2 a b)), upd li b x3, upd vo b (vp_nar .boolean 0), ba, nI (b + 1), fi, fo, nI (S b + (n + 5)), cl, lf, bg, bl)) : wp_X1_append post x1 x2 x3 x4 th bu wd se le ki ow ol li vo ba co fi fo en cl lf bg bl := by
  refine m_app_w (fun hB => ?_) (fun hB => ?_)
  · unfold wc_X1_append_50 wc_X1_append_67
    exact ⟨fun _ => m_ref2 hcl (by decide) ⟨fun hh => absurd hh (by decide), fun _ => h0 hB⟩, fun hh => absurd rfl hh⟩
  · obtain ⟨n, hn31, rfl⟩ := nI_of (show ¬ x4 < 0 from fun q => hB (Or.inr (Or.inr (Or.inr (Or.inr (Or.inl q))))))
    have hn : n ≤ 200 := by
      have : nI n ≤ (200 : Int32) := Decidable.byContradiction (fun q => hB (Or.inr (Or.inr (Or.inr (Or.inr (Or.inr (Or.inl q)))))))
      rw [q_200] at this
      exact (nI_leI hn31 (by omega)).mp this
    have haS := hI.up (Nat.le_refl a) hab (Nat.le_refl b)
    have hin : vp_in co 4400 := by rw [hco]; exact vp_in_nI (by omega) (by omega)
    have hroom : ((en - fi) + nI n) + (5 : Int32) = nI (S b - S a + n + 5) := by
      rw [hen, hfi, pk_sub (by omega), show (5 : Int32) = nI 5 from rfl, nI_add, nI_add]
    unfold wc_X1_append_50 wc_X1_append_67
    refine ⟨fun hh => absurd hh (by decide), fun _ => m_ref0 hcl rfl rfl ⟨fun _ => ?_, fun hh => absurd rfl hh⟩⟩
    rw [hroom, show (65536 : Int32) = nI 65536 from rfl]
    refine ⟨fun hle => ?_, fun hnle => h1 n hn rfl ?_⟩
    · have hle2 := (nI_leI (by omega) (by omega)).mp hle
      refine ⟨hin, hin, m_latestOf hR hab (by omega) hba hco ⟨hin, hin, n + 1, ?_⟩⟩
      have hcb : co.toNatClampNeg = b := by rw [hco, nI_clamp (by omega)]
      rw [hcb, flo_upd (Nat.le_refl b)]
      have hr := flo_lt (v := v) (ow := ow) (x := x2) hI (by omega) b (Nat.le_refl b)
      have h2r := fun (z : Int32) (wd' : Nat → Int32) p1 p2 => h2 hB n hn rfl (by omega) z wd' p1 p2 hr
      generalize sv S (flo v ow x2 a b) = r at h2r ⊢
      have key : ∀ (m j : Nat) (wd' : Nat → Int32), n - j = m → j ≤ n → (∀ i, i < j → wd' ((S b + 4 + i) % 65536) = bu i) → (∀ p, S a ≤ p → p < S b → wd' (p % 65536) = wd (p % 65536)) → wl_X1_append_144 post x1 x2 x3 (nI n) 1 (m + 1) (nI j) 0 bu wd' se le (upd ki b x1) (upd ow b x2) (upd ol b r) (upd li b x3) vo ba co fi fo en cl lf bg bl := by
        intro m
        induction m with
        | zero =>
          intro j wd' hm hj hA hB'
          have : j = n := by omega
          subst this
          rw [wl_X1_append_144]
          refine ⟨fun _ => m_addRow h4 hco ?_, fun hh => absurd (Int32.le_refl _) hh⟩
          have h9 := h2r ((((en + nI j) + (5 : Int32)) - nI j) - (5 : Int32)) wd' hA hB'
          have e1 : (en + nI j) + (5 : Int32) = nI (S b + (j + 5)) := by
            rw [hen, show (5 : Int32) = nI 5 from rfl, nI_add, nI_add, Nat.add_assoc]
          have e2 : nI j + (5 : Int32) = nI (j + 5) := by
            rw [show (5 : Int32) = nI 5 from rfl, nI_add]
          rw [← e1, ← e2, ← hen] at h9
          exact h9
        | succ m ih =>
          intro j wd' hm hj hA hB'
          have h65 : (S b + 4 + j) % 65536 < 65536 := Nat.mod_lt _ (by omega)
          have eix : (((en + (4 : Int32)) + nI j) - ((en + (4 : Int32)) + nI j) / (65536 : Int32) * (65536 : Int32)) = nI ((S b + 4 + j) % 65536) := by
            rw [hen, show (4 : Int32) = nI 4 from rfl, nI_add, nI_add, show (65536 : Int32) = nI 65536 from rfl, pk_rem (by omega) (by omega) (by omega)]
          rw [wl_X1_append_144, eix]
          refine ⟨fun hh => absurd hh (nI_ge (by omega) (by omega)), fun _ => ⟨vp_in_nI (by omega) (by omega), vp_in_nI h65 (by omega), ?_⟩⟩
          rw [nI_1, nI_clamp (show (S b + 4 + j) % 65536 < 2 ^ 31 by omega), nI_clamp (show j < 2 ^ 31 by omega)]
          refine ih (j + 1) _ (by omega) (by omega) (fun i hi => ?_) (fun p p1 p2 => ?_)
          · by_cases hij : i = j
            · subst hij; rw [pk_us]
            · rw [pk_un (by omega)]; exact hA i (by omega)
          · rw [pk_un (by omega)]; exact hB' p p1 p2
      exact key n 0 wd rfl (by omega) (fun i hi => by omega) (fun p _ _ => rfl)
    · rcases Nat.lt_or_ge (S a + 65536) (S b + n + 5) with q | q
      · exact q
      · exact absurd (nI_le (by omega) (by omega)) hnle
end SY
