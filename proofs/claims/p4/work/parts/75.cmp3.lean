section CO
variable {S : Nat → Nat} {v : Nat → Bool} {a b c k L : Nat} {R Bu : Nat → Int32} {f g e w o : Int32} {bu wd se le ki ow ol li vo : Nat → Int32} {th ba co fi fo en cl lf bg bl : Int32} {O : Nat → Int64} {x y : Int32} {xs : Nat → Int32} {x1 x2 x3 x4 : Int32}
theorem m_appc {post : Int32 → St_B → Prop} (hR : RO S v a b se le vo) (hI : INC S a b) (hab : a ≤ b) (h4 : b < 4400) (hb : S b < 2 ^ 29) (hba : ba = nI a) (hco : co = nI b) (hfi : fi = nI (S a)) (hen : en = nI (S b)) (hcl : cl = 0)
    (h0 : BAD x1 x2 x3 x4 en → post 0 (2, bu, wd, se, le, ki, ow, ol, li, vo, ba, co, fi, fo, en, cl, lf, bg, bl))
    (h1 : ¬ BAD x1 x2 x3 x4 en → ∀ n : Nat, n ≤ 200 → x4 = nI n → S a + 65536 < S b + n + 5 → post (-1) (0, bu, wd, se, le, ki, ow, ol, li, vo, ba, co, fi, fo, en, cl, lf, bg, bl))
    (h2 : ¬ BAD x1 x2 x3 x4 en → ∀ n : Nat, n ≤ 200 → x4 = nI n → S b + n + 5 ≤ S a + 65536 → ∀ (r z : Int32) (ki' ow' wd' : Nat → Int32), z = nI (S b) → r < nI (S b) → post z (0, bu, wd', upd se b (nI (S b)), upd le b (nI (n + 5)), ki', ow', upd ol b r, upd li b x3, upd vo b (vp_nar .boolean 0), ba, nI (b + 1), fi, fo, nI (S b + (n + 5)), cl, lf, bg, bl)) : wp_X1_append post x1 x2 x3 x4 th bu wd se le ki ow ol li vo ba co fi fo en cl lf bg bl := by
  refine m_app_w (fun hB => ?_) (fun hB => ?_)
  · unfold wc_X1_append_50 wc_X1_append_67
    exact ⟨fun _ => m_ref2 hcl (by decide) ⟨fun hh => absurd hh (by decide), fun _ => h0 hB⟩, fun hh => absurd rfl hh⟩
  · obtain ⟨n, hn31, rfl⟩ := nI_of (show ¬ x4 < 0 from fun q => hB (Or.inr (Or.inr (Or.inr (Or.inr (Or.inl q))))))
    have hn : n ≤ 200 := by
      have : nI n ≤ (200 : Int32) := Decidable.byContradiction (fun q => hB (Or.inr (Or.inr (Or.inr (Or.inr (Or.inr (Or.inl q)))))))
      rw [q_200] at this
      exact (nI_leI hn31 (by omega)).mp this
    have haS := hI.up (Nat.le_refl a) hab (Nat.le_refl b)
    have hin : vp_in co 4400 := by rw [hco]; exact vp_in_nI (by omega) (by omega)
    have hroom : ((en - fi) + nI n) + (5 : Int32) = nI (S b - S a + n + 5) := by
      rw [hen, hfi, pk_sub (by omega), show (5 : Int32) = nI 5 from rfl, nI_add, nI_add]
    unfold wc_X1_append_50 wc_X1_append_67
    refine ⟨fun hh => absurd hh (by decide), fun _ => m_ref0 hcl rfl rfl ⟨fun _ => ?_, fun hh => absurd rfl hh⟩⟩
    rw [hroom, show (65536 : Int32) = nI 65536 from rfl]
    refine ⟨fun hle => ?_, fun hnle => h1 hB n hn rfl ?_⟩
    · have hle2 := (nI_leI (by omega) (by omega)).mp hle
      refine ⟨hin, hin, m_latestOf hR hab (by omega) hba hco ⟨hin, hin, n + 1, ?_⟩⟩
      have hr := flo_lt (v := v) (ow := upd ow co.toNatClampNeg x2) (x := x2) hI (by omega) b (Nat.le_refl b)
      generalize sv S (flo v (upd ow co.toNatClampNeg x2) x2 a b) = r at hr ⊢
      have hcb : co.toNatClampNeg = b := by rw [hco, nI_clamp (by omega)]
      rw [hcb]
      have key : ∀ (m j : Nat) (wd' : Nat → Int32), n - j = m → j ≤ n → wl_X1_append_144 post x1 x2 x3 (nI n) 1 (m + 1) (nI j) 0 bu wd' se le (upd ki b x1) (upd ow b x2) (upd ol b r) (upd li b x3) vo ba co fi fo en cl lf bg bl := by
        intro m
        induction m with
        | zero =>
          intro j wd' hm hj
          have : j = n := by omega
          subst this
          rw [wl_X1_append_144]
          refine ⟨fun _ => m_addRow h4 hco ?_, fun hh => absurd (Int32.le_refl _) hh⟩
          have hz : (((en + nI j) + (5 : Int32)) - nI j) - (5 : Int32) = nI (S b) := by
            rw [hen, show (5 : Int32) = nI 5 from rfl, nI_add, nI_add, pk_sub (by omega), pk_sub (by omega), show S b + j + 5 - j - 5 = S b by omega]
          have h9 := h2 hB j hn rfl (by omega) r ((((en + nI j) + (5 : Int32)) - nI j) - (5 : Int32)) (upd ki b x1) (upd ow b x2) wd' hz hr
          have e1 : (en + nI j) + (5 : Int32) = nI (S b + (j + 5)) := by
            rw [hen, show (5 : Int32) = nI 5 from rfl, nI_add, nI_add, Nat.add_assoc]
          have e2 : nI j + (5 : Int32) = nI (j + 5) := by
            rw [show (5 : Int32) = nI 5 from rfl, nI_add]
          rw [← e1, ← e2, ← hen] at h9
          exact h9
        | succ m ih =>
          intro j wd' hm hj
          rw [wl_X1_append_144]
          refine ⟨fun hh => absurd hh (nI_ge (by omega) (by omega)), fun _ => ⟨vp_in_nI (by omega) (by omega), ?_⟩⟩
          refine ⟨?_, ?_⟩
          · rw [hen, show (4 : Int32) = nI 4 from rfl, nI_add, nI_add, show (65536 : Int32) = nI 65536 from rfl, pk_rem (by omega) (by omega) (by omega)]
            exact vp_in_nI (Nat.mod_lt _ (by omega)) (by omega)
          · rw [nI_1]
            exact ih (j + 1) _ (by omega) (by omega)
      exact key n 0 wd rfl (by omega)
    · rcases Nat.lt_or_ge (S a + 65536) (S b + n + 5) with q | q
      · exact q
      · exact absurd (nI_le (by omega) (by omega)) hnle
theorem st_2 (hrel : Rel k (R, Bu, f, g, e, w, o, th, bu, wd, se, le, ki, ow, ol, li, vo, ba, co, fi, fo, en, cl, lf, bg, bl, O)) (h5 : 5 * k + 5 ≤ L) (hL : L ≤ 2560) : wk_2 (fun st => Rel (k + 1) st) L xs (nI (5 * k)) R Bu f g e w o th bu wd se le ki ow ol li vo ba co fi fo en cl lf bg bl O := by
  obtain ⟨S, v, a, b, hI⟩ := hrel
  have hsame := hI.mono
  have hM := hI.mf (by omega)
  unfold wk_2
  refine ⟨vk1 h5 hL, vk2 h5 hL, vk3 h5 hL, vk4 h5 hL, ?_⟩
  generalize xs (nI (5 * k) + (1 : Int32)).toNatClampNeg = x1
  generalize xs (nI (5 * k) + (2 : Int32)).toNatClampNeg = x2
  generalize xs (nI (5 * k) + (3 : Int32)).toNatClampNeg = x3
  generalize xs (nI (5 * k) + (4 : Int32)).toNatClampNeg = x4
  unfold wp_X1_thrown wp_L_append
  rcases hI.oc with ⟨h1, h2⟩ | ⟨h1, h2⟩
  · unfold wp_X0_append wp_X0_requireOpen
    refine ⟨fun _ => Or.inl ⟨rfl, vk1 h5 hL, vk2 h5 hL, vk3 h5 hL, vk4 h5 hL, ?_⟩, fun hh => absurd h1 hh⟩
    exact m_app1 (by rw [h2]; decide) (cj_bad (by decide) ⟨S, v, a, b, hsame⟩)
  · obtain ⟨i1, i2, i3, i4, i5, i6, i7, i8, i9⟩ := id hI
    have hbd := i9.bound
    obtain ⟨p3, hen, ⟨c, k1, k2, k3⟩⟩ : bg = -1 ∧ en = nI (S b) ∧ ∃ c, a ≤ c ∧ c ≤ b ∧ fo = nI (S c) := by
      rcases i9 with ⟨_, _, h0, h, h', _⟩ | ⟨h, _⟩ | ⟨_, _, h, _⟩
      · exact ⟨h0, h, h'⟩
      · exact absurd (h.symm.trans h2) (by decide)
      · exact absurd (h.symm.trans h2) (by decide)
    have hee : e = en := i3.2.2.2.2.2.1
    have hb29 : S b < 2 ^ 29 := by omega
    refine c_app (by rw [h1]; decide) i6 i1 hb29 i3.2.2.1 (hee.trans hen) (fun hB => Or.inr ⟨rfl, vk1 h5 hL, vk2 h5 hL, vk3 h5 hL, vk4 h5 hL, ?_⟩) (fun hB n hn hx hrm => ⟨v01, vk1 h5 hL, vk2 h5 hL, vk3 h5 hL, vk4 h5 hL, ?_⟩) (fun hB n hn hx hrm R' hR' => ⟨v01, vk1 h5 hL, vk2 h5 hL, vk3 h5 hL, vk4 h5 hL, ?_⟩)
    · rw [hee] at hB
      exact m_appc hM.1 hM.2.1 i1 (by omega) hb29 i3.1 i3.2.1 i3.2.2.2.1 hen h2 (fun _ => cj_bad (by decide) ⟨S, v, a, b, hsame⟩) (fun hN => absurd hB hN) (fun hN => absurd hB hN)
    · rw [hee] at hB
      refine m_appc hM.1 hM.2.1 i1 (by omega) hb29 i3.1 i3.2.1 i3.2.2.2.1 hen h2 (fun hN => absurd hN hB) (fun _ _ _ _ _ => cj_good ⟨S, v, a, b, hsame⟩) (fun _ n' hn' hx' hrm' => ?_)
      have : n' = n := (nI_eq (by omega) (by omega)).mp (hx'.symm.trans hx)
      omega
    · rw [hee] at hB
      refine m_appc hM.1 hM.2.1 i1 (by omega) hb29 i3.1 i3.2.1 i3.2.2.2.1 hen h2 (fun hN => absurd hN hB) (fun _ n' hn' hx' hrm' => ?_) (fun _ n' hn' hx' hrm' r z ki' ow' wd' hz hr => ?_)
      · have : n' = n := (nI_eq (by omega) (by omega)).mp (hx'.symm.trans hx)
        omega
      · have hnn : n' = n := (nI_eq (by omega) (by omega)).mp (hx'.symm.trans hx)
        subst hnn
        have hx3 : x3 < nI (S b) := Decidable.byContradiction (fun q => hB (Or.inr (Or.inr (Or.inr (Or.inr (Or.inr (Or.inr (Or.inr (by rw [hen]; exact q)))))))))
        refine gb ((hee.trans hen).trans hz.symm) ⟨sx S b (n' + 5), vx v b false, a, b + 1, by omega, by omega, ⟨i3.1, rfl, by rw [sx_le i1]; exact i3.2.2.1, by rw [sx_le i1]; exact i3.2.2.2.1, i3.2.2.2.2.1, rfl, i3.2.2.2.2.2.2⟩, i4, i5, hR', i7.more (by rw [if_neg (by decide)]; rfl), fun i j1 j2 j3 => ?_, Or.inl ⟨h2, h1, p3, by rw [sx_n], ⟨c, k1, by omega, by rw [sx_le k2]; exact k3⟩, by rw [sx_n, sx_le i1]; omega, by rw [sx_n]; omega⟩⟩
        by_cases hi : i = b
        · subst hi
          rw [pk_us, pk_us, sx_le (Nat.le_refl i)]
          exact ⟨hx3, hr⟩
        · rw [pk_un hi, pk_un hi, sx_le (show i ≤ b by omega)]
          rw [vx_ne hi] at j3
          exact i8 i j1 (by omega) j3
end CO
