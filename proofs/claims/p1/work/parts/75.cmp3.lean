section CO
variable {S : Nat → Nat} {v : Nat → Bool} {a b c k L : Nat} {R Bu : Nat → Int32} {f g e w o : Int32} {bu wd se le ki ow ol li vo : Nat → Int32} {th ba co fi fo en cl lf bg bl : Int32} {O : Nat → Int64} {x y : Int32} {xs : Nat → Int32} {x1 x2 x3 x4 : Int32}
theorem ct {r : Int32} {P : Prop} (h : P) : ((r = r → P) ∧ (¬ r = r → False)) := ⟨fun _ => h, fun hh => hh rfl⟩
theorem m_set1 {P : St_B → Prop} (hcl : ¬ cl = 0) (h : P (1, bu, wd, se, le, ki, ow, ol, li, vo, ba, co, fi, fo, en, cl, lf, bg, bl)) : wp_X1_set P x y th bu wd se le ki ow ol li vo ba co fi fo en cl lf bg bl := by
  unfold wp_X1_set wc_X1_set_21
  exact m_in (fun _ => ⟨fun _ => m_ref1 hcl ⟨fun hh => absurd hh (by decide), fun _ => h⟩, fun hh => absurd rfl hh⟩) (fun _ _ => ⟨fun hh => absurd hh (by decide), fun _ => m_ref1 hcl ⟨fun hh => absurd hh (by decide), fun _ => h⟩⟩)
theorem m_set2 {P : St_B → Prop} (hcl : cl = 0) (hb : x < 0 ∨ 199 < x) (h : P (2, bu, wd, se, le, ki, ow, ol, li, vo, ba, co, fi, fo, en, cl, lf, bg, bl)) : wp_X1_set P x y th bu wd se le ki ow ol li vo ba co fi fo en cl lf bg bl := by
  unfold wp_X1_set wc_X1_set_21
  refine m_in (fun _ => ⟨fun _ => m_ref2 hcl (by decide) ⟨fun hh => absurd hh (by decide), fun _ => h⟩, fun hh => absurd rfl hh⟩) (fun hx1 hx2 => ?_)
  rcases hb with q | q
  · exact absurd q hx1
  · exact absurd q hx2
theorem st_0 (hrel : Rel k (R, Bu, f, g, e, w, o, th, bu, wd, se, le, ki, ow, ol, li, vo, ba, co, fi, fo, en, cl, lf, bg, bl, O)) (h5 : 5 * k + 5 ≤ L) (hL : L ≤ 2560) : wk_0 (fun st => Rel (k + 1) st) L xs (nI (5 * k)) R Bu f g e w o th bu wd se le ki ow ol li vo ba co fi fo en cl lf bg bl O := by
  obtain ⟨S, v, a, b, hI⟩ := hrel
  have hsame := hI.mono
  unfold wk_0
  refine ⟨vk1 h5 hL, vk2 h5 hL, ?_⟩
  generalize xs (nI (5 * k) + (1 : Int32)).toNatClampNeg = x
  generalize xs (nI (5 * k) + (2 : Int32)).toNatClampNeg = y
  have hph : (o = 0 ∧ cl = 1) ∨ (o = 1 ∧ cl = 0) := by
    rcases hI.2.2.2.2.2.2.2.2 with ⟨h1, h2, _⟩ | ⟨h1, h2, _⟩ | ⟨_, _, h1, h2, _⟩
    · exact Or.inr ⟨h2, h1⟩
    · exact Or.inl ⟨h2, h1⟩
    · exact Or.inl ⟨h2, h1⟩
  have e3 : (0 : Int32).toInt = 0 := by decide
  have e4 : (199 : Int32).toInt = 199 := by decide
  have e5 : (200 : Int32).toInt = 200 := by decide
  unfold wp_X1_thrown wp_L_set wp_X0_set wp_X0_requireOpen
  rcases hph with ⟨h1, h2⟩ | ⟨h1, h2⟩
  · exact ⟨fun _ => Or.inl ⟨rfl, vk1 h5 hL, vk2 h5 hL, m_set1 (by rw [h2]; decide) (ct ⟨S, v, a, b, hsame⟩)⟩, fun hh => absurd h1 hh⟩
  · refine ⟨fun hh => absurd (h1.symm.trans hh) (by decide), fun _ => ⟨fun hx => Or.inr ⟨rfl, vk1 h5 hL, vk2 h5 hL, m_set2 h2 (Or.inl hx) (ct ⟨S, v, a, b, hsame⟩)⟩, fun hx => ⟨fun hx2 => ?_, fun hx2 => Or.inr ⟨rfl, vk1 h5 hL, vk2 h5 hL, m_set2 h2 (Or.inr ?_) (ct ⟨S, v, a, b, hsame⟩)⟩⟩⟩⟩
    · obtain ⟨j, hj, rfl⟩ := nI_of hx
      have hj2 : j < 200 := by rw [q_200] at hx2; exact (nI_ltI hj (by omega)).mp hx2
      have hin : vp_in (nI j) 200 := vp_in_nI hj2 (by omega)
      refine ⟨hin, vk1 h5 hL, vk2 h5 hL, m_setB h2 hx (by rw [show (199 : Int32) = nI 199 from rfl]; exact nI_nlt (by omega) (by omega)) hin (ct ⟨S, v, a, b, ?_⟩)⟩
      rw [nI_clamp hj]
      obtain ⟨i1, i2, i3, i4, i5, i6, i7, i8, i9⟩ := hsame
      refine ⟨i1, i2, i3, i4, ⟨fun i hi => ?_, fun hh => absurd (h2.symm.trans hh) (by decide)⟩, i6, i7, i8, i9⟩
      by_cases hij : i = j
      · subst hij; rw [pk_us, pk_us]
      · rw [pk_un hij, pk_un hij]; exact i5.1 i hi
    · apply Int32.lt_iff_toInt_lt.mpr
      have h9 : ¬ x.toInt < (200 : Int32).toInt := fun q => hx2 (Int32.lt_iff_toInt_lt.mpr q)
      omega
theorem st_1 (hrel : Rel k (R, Bu, f, g, e, w, o, th, bu, wd, se, le, ki, ow, ol, li, vo, ba, co, fi, fo, en, cl, lf, bg, bl, O)) (h5 : 5 * k + 5 ≤ L) (hL : L ≤ 2560) : wk_1 (fun st => Rel (k + 1) st) L xs (nI (5 * k)) R Bu f g e w o th bu wd se le ki ow ol li vo ba co fi fo en cl lf bg bl O := by
  obtain ⟨S, v, a, b, hI⟩ := hrel
  have hsame := hI.mono
  unfold wk_1
  refine ⟨vk1 h5 hL, vk2 h5 hL, ?_⟩
  generalize xs (nI (5 * k) + (1 : Int32)).toNatClampNeg = x
  generalize xs (nI (5 * k) + (2 : Int32)).toNatClampNeg = y
  unfold wp_X1_thrown wp_L_fill wp_X0_fill wp_X0_requireOpen
  rcases hI.oc with ⟨h1, h2⟩ | ⟨h1, h2⟩
  · exact ⟨fun _ => ⟨rfl, vk1 h5 hL, vk2 h5 hL, m_fillA (by rw [h2]; decide) (ct ⟨S, v, a, b, hsame⟩)⟩, fun hh => absurd h1 hh⟩
  · refine ⟨fun hh => absurd (h1.symm.trans hh) (by decide), fun _ => q_fill (fun B' hB => ⟨vk1 h5 hL, vk2 h5 hL, m_fillB h2 (fun bu' hb => ct ⟨S, v, a, b, ?_⟩)⟩)⟩
    obtain ⟨i1, i2, i3, i4, i5, i6, i7, i8, i9⟩ := hsame
    exact ⟨i1, i2, i3, i4, ⟨fun i hi => by rw [hB i hi, hb i hi], fun hh => absurd (h2.symm.trans hh) (by decide)⟩, i6, i7, i8, i9⟩
theorem st_17 (hrel : Rel k (R, Bu, f, g, e, w, o, th, bu, wd, se, le, ki, ow, ol, li, vo, ba, co, fi, fo, en, cl, lf, bg, bl, O)) (h5 : 5 * k + 5 ≤ L) (hL : L ≤ 2560) : wk_17 (fun st => Rel (k + 1) st) L xs (nI (5 * k)) R Bu f g e w o th bu wd se le ki ow ol li vo ba co fi fo en cl lf bg bl O := by
  obtain ⟨S, v, a, b, hI⟩ := hrel
  unfold wk_17
  refine ⟨vk1 h5 hL, ?_⟩
  generalize xs (nI (5 * k) + (1 : Int32)).toNatClampNeg = x
  unfold wp_X1_thrown wp_L_cutAfter wp_X0_cutAfter
  have hsame := hI.mono
  refine ⟨fun hx => ⟨vk1 h5 hL, ?_⟩, fun hx => ⟨rfl, vk1 h5 hL, ?_⟩⟩
  · have hx' : x = -1 ∨ ∃ W : Nat, W < 2 ^ 31 ∧ x = nI W := by
      by_cases h0 : x < 0
      · left
        apply Int32.toInt_inj.mp
        have e1 := Int32.lt_iff_toInt_lt.mp h0
        have e2 := Int32.le_iff_toInt_le.mp hx
        have e3 : (0 : Int32).toInt = 0 := by decide
        have e4 : (-1 : Int32).toInt = -1 := by decide
        omega
      · exact Or.inr (nI_of h0)
    unfold wp_X1_cutAfter wc_X1_cutAfter_11
    refine ⟨fun _ => m_ref0 rfl rfl rfl ⟨fun _ => ct ⟨S, v, a, b, ?_⟩, fun hh => absurd rfl hh⟩, fun hh => absurd hx hh⟩
    obtain ⟨i1, i2, i3, i4, i5, i6, i7, i8, i9⟩ := hsame
    exact ⟨i1, i2, ⟨i3.1, i3.2.1, i3.2.2.1, i3.2.2.2.1, i3.2.2.2.2.1, i3.2.2.2.2.2.1, rfl⟩, hx', i5, i6, i7, i8, i9⟩
  · unfold wp_X1_cutAfter wc_X1_cutAfter_11
    exact ⟨fun hh => absurd hh hx, fun _ => m_ref1 (by decide) ⟨fun hh => absurd hh (by decide), fun _ => ct ⟨S, v, a, b, hsame⟩⟩⟩
theorem st_20 (hrel : Rel k (R, Bu, f, g, e, w, o, th, bu, wd, se, le, ki, ow, ol, li, vo, ba, co, fi, fo, en, cl, lf, bg, bl, O)) (h5 : 5 * k + 5 ≤ L) (hL : L ≤ 2560) : wk_20 (fun st => Rel (k + 1) st) L xs (nI (5 * k)) R Bu f g e w o th bu wd se le ki ow ol li vo ba co fi fo en cl lf bg bl O := by
  obtain ⟨S, v, a, b, hI⟩ := hrel
  unfold wk_20 wp_X0_isOpen wp_X1_isOpen
  have ho : narrow .boolean (.int o) = .int o := by
    rcases hI.2.2.2.2.2.2.2.2 with ⟨_, h, _⟩ | ⟨_, h, _⟩ | ⟨_, _, _, h, _⟩ <;> rw [h] <;> rfl
  rcases hI.oc with ⟨q1, q2⟩ | ⟨q1, q2⟩
  · exact ⟨ho, fun hh => no10 q2 hh, fun _ => ⟨fun _ => ⟨S, v, a, b, hI.mono⟩, fun hh => hh q1⟩⟩
  · exact ⟨ho, fun _ => ⟨fun _ => ⟨S, v, a, b, hI.mono⟩, fun hh => hh q1⟩, fun hh => absurd q2 hh⟩
theorem m_appc {post : Int32 → St_B → Prop} (hR : RO S v a b se le vo) (hI : INC S a b) (hab : a ≤ b) (h4 : b < 4400) (hb : S b < 2 ^ 29) (hba : ba = nI a) (hco : co = nI b) (hfi : fi = nI (S a)) (hen : en = nI (S b)) (hcl : cl = 0)
    (h0 : BAD x1 x2 x3 x4 en → post 0 (2, bu, wd, se, le, ki, ow, ol, li, vo, ba, co, fi, fo, en, cl, lf, bg, bl))
    (h1 : ¬ BAD x1 x2 x3 x4 en → ∀ n : Nat, n ≤ 200 → x4 = nI n → S a + 65536 < S b + n + 5 → post (-1) (0, bu, wd, se, le, ki, ow, ol, li, vo, ba, co, fi, fo, en, cl, lf, bg, bl))
    (h2 : ¬ BAD x1 x2 x3 x4 en → ∀ n : Nat, n ≤ 200 → x4 = nI n → S b + n + 5 ≤ S a + 65536 → ∀ (r z : Int32) (ki' ow' wd' : Nat → Int32), z = nI (S b) → r < nI (S b) → post z (0, bu, wd', upd se b (nI (S b)), upd le b (nI (n + 5)), ki', ow', upd ol b r, upd li b x3, upd vo b (vp_nar .boolean 0), ba, nI (b + 1), fi, fo, nI (S b + (n + 5)), cl, lf, bg, bl)) : wp_X1_append post x1 x2 x3 x4 th bu wd se le ki ow ol li vo ba co fi fo en cl lf bg bl := by
  refine m_app_w (fun hB => ?_) (fun hB => ?_)
  · unfold wc_X1_append_50 wc_X1_append_67
    exact ⟨fun _ => m_ref2 hcl (by decide) ⟨fun hh => absurd hh (by decide), fun _ => h0 hB⟩, fun hh => absurd rfl hh⟩
  · obtain ⟨n, hn31, rfl⟩ := nI_of (show ¬ x4 < 0 from fun q => hB (Or.inr (Or.inr (Or.inr (Or.inr (Or.inl q))))))
    have hn : n ≤ 200 := by
      have : nI n ≤ (200 : Int32) := Decidable.byContradiction (fun q => hB (Or.inr (Or.inr (Or.inr (Or.inr (Or.inr (Or.inl q)))))))
      rw [q_200] at this
      exact (nI_leI hn31 (by omega)).mp this
    have haS := hI.up (Nat.le_refl a) hab (Nat.le_refl b)
    have hin : vp_in co 4400 := by rw [hco]; exact vp_in_nI (by omega) (by omega)
    have hroom : ((en - fi) + nI n) + (5 : Int32) = nI (S b - S a + n + 5) := by
      rw [hen, hfi, pk_sub (by omega), show (5 : Int32) = nI 5 from rfl, nI_add, nI_add]
    unfold wc_X1_append_50 wc_X1_append_67
    refine ⟨fun hh => absurd hh (by decide), fun _ => m_ref0 hcl rfl rfl ⟨fun _ => ?_, fun hh => absurd rfl hh⟩⟩
    rw [hroom, show (65536 : Int32) = nI 65536 from rfl]
    refine ⟨fun hle => ?_, fun hnle => h1 hB n hn rfl ?_⟩
    · have hle2 := (nI_leI (by omega) (by omega)).mp hle
      refine ⟨hin, hin, m_latestOf hR hab (by omega) hba hco ⟨hin, hin, n + 1, ?_⟩⟩
      have hr := flo_lt (v := v) (ow := upd ow co.toNatClampNeg x2) (x := x2) hI (by omega) b (Nat.le_refl b)
      generalize sv S (flo v (upd ow co.toNatClampNeg x2) x2 a b) = r at hr ⊢
      have hcb : co.toNatClampNeg = b := by rw [hco, nI_clamp (by omega)]
      rw [hcb]
      have key : ∀ (m j : Nat) (wd' : Nat → Int32), n - j = m → j ≤ n → wl_X1_append_144 post x1 x2 x3 (nI n) 1 (m + 1) (nI j) 0 bu wd' se le (upd ki b x1) (upd ow b x2) (upd ol b r) (upd li b x3) vo ba co fi fo en cl lf bg bl := by
        intro m
        induction m with
        | zero =>
          intro j wd' hm hj
          have : j = n := by omega
          subst this
          rw [wl_X1_append_144]
          refine ⟨fun _ => m_addRow h4 hco ?_, fun hh => absurd (Int32.le_refl _) hh⟩
          have hz : (((en + nI j) + (5 : Int32)) - nI j) - (5 : Int32) = nI (S b) := by
            rw [hen, show (5 : Int32) = nI 5 from rfl, nI_add, nI_add, pk_sub (by omega), pk_sub (by omega), show S b + j + 5 - j - 5 = S b by omega]
          have h9 := h2 hB j hn rfl (by omega) r ((((en + nI j) + (5 : Int32)) - nI j) - (5 : Int32)) (upd ki b x1) (upd ow b x2) wd' hz hr
          have e1 : (en + nI j) + (5 : Int32) = nI (S b + (j + 5)) := by
            rw [hen, show (5 : Int32) = nI 5 from rfl, nI_add, nI_add, Nat.add_assoc]
          have e2 : nI j + (5 : Int32) = nI (j + 5) := by
            rw [show (5 : Int32) = nI 5 from rfl, nI_add]
          rw [← e1, ← e2, ← hen] at h9
          exact h9
        | succ m ih =>
          intro j wd' hm hj
          rw [wl_X1_append_144]
          refine ⟨fun hh => absurd hh (nI_ge (by omega) (by omega)), fun _ => ⟨vp_in_nI (by omega) (by omega), ?_⟩⟩
          refine ⟨?_, ?_⟩
          · rw [hen, show (4 : Int32) = nI 4 from rfl, nI_add, nI_add, show (65536 : Int32) = nI 65536 from rfl, pk_rem (by omega) (by omega) (by omega)]
            exact vp_in_nI (Nat.mod_lt _ (by omega)) (by omega)
          · rw [nI_1]
            exact ih (j + 1) _ (by omega) (by omega)
      exact key n 0 wd rfl (by omega)
    · rcases Nat.lt_or_ge (S a + 65536) (S b + n + 5) with q | q
      · exact q
      · exact absurd (nI_le (by omega) (by omega)) hnle
theorem st_2 (hrel : Rel k (R, Bu, f, g, e, w, o, th, bu, wd, se, le, ki, ow, ol, li, vo, ba, co, fi, fo, en, cl, lf, bg, bl, O)) (h5 : 5 * k + 5 ≤ L) (hL : L ≤ 2560) : wk_2 (fun st => Rel (k + 1) st) L xs (nI (5 * k)) R Bu f g e w o th bu wd se le ki ow ol li vo ba co fi fo en cl lf bg bl O := by
  obtain ⟨S, v, a, b, hI⟩ := hrel
  have hsame := hI.mono
  have hM := hI.mf (by omega)
  unfold wk_2
  refine ⟨vk1 h5 hL, vk2 h5 hL, vk3 h5 hL, vk4 h5 hL, ?_⟩
  generalize xs (nI (5 * k) + (1 : Int32)).toNatClampNeg = x1
  generalize xs (nI (5 * k) + (2 : Int32)).toNatClampNeg = x2
  generalize xs (nI (5 * k) + (3 : Int32)).toNatClampNeg = x3
  generalize xs (nI (5 * k) + (4 : Int32)).toNatClampNeg = x4
  unfold wp_X1_thrown wp_L_append
  rcases hI.oc with ⟨h1, h2⟩ | ⟨h1, h2⟩
  · unfold wp_X0_append wp_X0_requireOpen
    refine ⟨fun _ => Or.inl ⟨rfl, vk1 h5 hL, vk2 h5 hL, vk3 h5 hL, vk4 h5 hL, ?_⟩, fun hh => absurd h1 hh⟩
    exact m_app1 (by rw [h2]; decide) (cj_bad (by decide) ⟨S, v, a, b, hsame⟩)
  · obtain ⟨i1, i2, i3, i4, i5, i6, i7, i8, i9⟩ := id hI
    have hbd := i9.bound
    obtain ⟨p3, hen, ⟨c, k1, k2, k3⟩⟩ : bg = -1 ∧ en = nI (S b) ∧ ∃ c, a ≤ c ∧ c ≤ b ∧ fo = nI (S c) := by
      rcases i9 with ⟨_, _, h0, h, h', _⟩ | ⟨h, _⟩ | ⟨_, _, h, _⟩
      · exact ⟨h0, h, h'⟩
      · exact absurd (h.symm.trans h2) (by decide)
      · exact absurd (h.symm.trans h2) (by decide)
    have hee : e = en := i3.2.2.2.2.2.1
    have hb29 : S b < 2 ^ 29 := by omega
    refine c_app (by rw [h1]; decide) i6 i1 hb29 i3.2.2.1 (hee.trans hen) (fun hB => Or.inr ⟨rfl, vk1 h5 hL, vk2 h5 hL, vk3 h5 hL, vk4 h5 hL, ?_⟩) (fun hB n hn hx hrm => ⟨v01, vk1 h5 hL, vk2 h5 hL, vk3 h5 hL, vk4 h5 hL, ?_⟩) (fun hB n hn hx hrm R' hR' => ⟨v01, vk1 h5 hL, vk2 h5 hL, vk3 h5 hL, vk4 h5 hL, ?_⟩)
    · rw [hee] at hB
      exact m_appc hM.1 hM.2.1 i1 (by omega) hb29 i3.1 i3.2.1 i3.2.2.2.1 hen h2 (fun _ => cj_bad (by decide) ⟨S, v, a, b, hsame⟩) (fun hN => absurd hB hN) (fun hN => absurd hB hN)
    · rw [hee] at hB
      refine m_appc hM.1 hM.2.1 i1 (by omega) hb29 i3.1 i3.2.1 i3.2.2.2.1 hen h2 (fun hN => absurd hN hB) (fun _ _ _ _ _ => cj_good ⟨S, v, a, b, hsame⟩) (fun _ n' hn' hx' hrm' => ?_)
      have : n' = n := (nI_eq (by omega) (by omega)).mp (hx'.symm.trans hx)
      omega
    · rw [hee] at hB
      refine m_appc hM.1 hM.2.1 i1 (by omega) hb29 i3.1 i3.2.1 i3.2.2.2.1 hen h2 (fun hN => absurd hN hB) (fun _ n' hn' hx' hrm' => ?_) (fun _ n' hn' hx' hrm' r z ki' ow' wd' hz hr => ?_)
      · have : n' = n := (nI_eq (by omega) (by omega)).mp (hx'.symm.trans hx)
        omega
      · have hnn : n' = n := (nI_eq (by omega) (by omega)).mp (hx'.symm.trans hx)
        subst hnn
        have hx3 : x3 < nI (S b) := Decidable.byContradiction (fun q => hB (Or.inr (Or.inr (Or.inr (Or.inr (Or.inr (Or.inr (Or.inr (by rw [hen]; exact q)))))))))
        refine gb ((hee.trans hen).trans hz.symm) ⟨sx S b (n' + 5), vx v b false, a, b + 1, by omega, by omega, ⟨i3.1, rfl, by rw [sx_le i1]; exact i3.2.2.1, by rw [sx_le i1]; exact i3.2.2.2.1, i3.2.2.2.2.1, rfl, i3.2.2.2.2.2.2⟩, i4, i5, hR', i7.more (by rw [if_neg (by decide)]; rfl), fun i j1 j2 j3 => ?_, Or.inl ⟨h2, h1, p3, by rw [sx_n], ⟨c, k1, by omega, by rw [sx_le k2]; exact k3⟩, by rw [sx_n, sx_le i1]; omega, by rw [sx_n]; omega⟩⟩
        by_cases hi : i = b
        · subst hi
          rw [pk_us, pk_us, sx_le (Nat.le_refl i)]
          exact ⟨hx3, hr⟩
        · rw [pk_un hi, pk_un hi, sx_le (show i ≤ b by omega)]
          rw [vx_ne hi] at j3
          exact i8 i j1 (by omega) j3
end CO
