section MC
variable {bu wd se le ki ow ol li vo : Nat → Int32} {th ba co fi fo en cl lf bg bl : Int32} {S : Nat → Nat} {v : Nat → Bool} {a b : Nat}
theorem m_ref0 {post : Int32 → St_B → Prop} {x1 x2 x3 : Int32} (h1 : x1 = 0) (h2 : x2 = 0) (h3 : x3 = 0) (h : post 0 (0, bu, wd, se, le, ki, ow, ol, li, vo, ba, co, fi, fo, en, cl, lf, bg, bl)) : wp_X1_refused post x1 x2 x3 th bu wd se le ki ow ol li vo ba co fi fo en cl lf bg bl := by
  unfold wp_X1_refused wc_X1_refused_26
  exact ⟨fun _ => ⟨fun _ => ⟨fun _ => ⟨fun _ => h, fun hh => absurd (by decide) hh⟩, fun hh => absurd h3 hh⟩, fun hh => absurd h2 hh⟩, fun hh => absurd h1 hh⟩
theorem m_ref1 {post : Int32 → St_B → Prop} {x1 x2 x3 : Int32} (h1 : ¬ x1 = 0) (h : post 1 (1, bu, wd, se, le, ki, ow, ol, li, vo, ba, co, fi, fo, en, cl, lf, bg, bl)) : wp_X1_refused post x1 x2 x3 th bu wd se le ki ow ol li vo ba co fi fo en cl lf bg bl := by
  unfold wp_X1_refused wc_X1_refused_26
  exact ⟨fun hh => absurd hh h1, fun _ => ⟨fun hh => absurd hh (by decide), fun _ => h⟩⟩
theorem m_ref2 {post : Int32 → St_B → Prop} {x1 x2 x3 : Int32} (h1 : x1 = 0) (h2 : ¬ x2 = 0) (h : post 1 (2, bu, wd, se, le, ki, ow, ol, li, vo, ba, co, fi, fo, en, cl, lf, bg, bl)) : wp_X1_refused post x1 x2 x3 th bu wd se le ki ow ol li vo ba co fi fo en cl lf bg bl := by
  unfold wp_X1_refused wc_X1_refused_26
  exact ⟨fun _ => ⟨fun hh => absurd hh h2, fun _ => ⟨fun hh => absurd hh (by decide), fun _ => h⟩⟩, fun hh => absurd h1 hh⟩
theorem m_ref3 {post : Int32 → St_B → Prop} {x1 x2 x3 : Int32} (h1 : x1 = 0) (h2 : x2 = 0) (h3 : ¬ x3 = 0) (h : post 1 (3, bu, wd, se, le, ki, ow, ol, li, vo, ba, co, fi, fo, en, cl, lf, bg, bl)) : wp_X1_refused post x1 x2 x3 th bu wd se le ki ow ol li vo ba co fi fo en cl lf bg bl := by
  unfold wp_X1_refused wc_X1_refused_26
  exact ⟨fun _ => ⟨fun _ => ⟨fun hh => absurd hh h3, fun _ => ⟨fun hh => absurd hh (by decide), fun _ => h⟩⟩, fun hh => absurd h2 hh⟩, fun hh => absurd h1 hh⟩
/-- the rows behind what is forced go; c rows stay -/
theorem m_fail_l {post : St_B → Prop} {k1 : Int32} {c Fo : Nat} (hR : RO S v a b se le vo) (hI : INC S a b) (h4 : b ≤ 4400) (hb : S b < 2 ^ 30) (hba : ba = nI a) (hfo : fo = nI Fo) (hca : a ≤ c) (hcb : c ≤ b) (hSc : S c ≤ Fo) (hF : Fo < 2 ^ 30) (hSc1 : c < b → Fo < S (c + 1))
    (h : post (th, bu, wd, se, le, ki, ow, ol, li, vo, ba, nI c, fi, fo, en, cl, lf, (if S c < Fo ∧ c < b then nI (S c) else bg), (if S c < Fo ∧ c < b then nI (S (c + 1) - S c) else bl))) :
    ∀ (n j : Nat) (bg' bl' : Int32), j - c = n → c ≤ j → j ≤ b → (c < j → bg' = bg ∧ bl' = bl) → (c = j → bg' = (if S c < Fo ∧ c < b then nI (S c) else bg) ∧ bl' = (if S c < Fo ∧ c < b then nI (S (c + 1) - S c) else bl)) → wl_X1_fail_40 post k1 (n + 1) th bu wd se le ki ow ol li vo ba (nI j) fi fo en cl lf bg' bl' := by
  intro n
  induction n with
  | zero =>
    intro j bg' bl' hn hcj hjb _ he
    have hj : c = j := by omega
    subst hj
    obtain ⟨rfl, rfl⟩ := he rfl
    rw [wl_X1_fail_40]
    refine ⟨fun _ => h, fun hh => ?_⟩
    have hac : a < c := by
      rcases Nat.lt_or_ge a c with q | q
      · exact q
      · exact absurd (by rw [hba]; exact nI_le q (by omega)) hh
    rw [q_n1 (by omega)]
    refine m_endOf hR hI (i := c - 1) (by omega) (by omega) h4 ?_
    rw [show c - 1 + 1 = c by omega]
    have hm := hI.up hca hcb (Nat.le_refl b)
    refine ⟨fun _ => h, fun hh2 => absurd ?_ hh2⟩
    rw [hfo]
    exact nI_le hSc (by omega)
  | succ n ih =>
    intro j bg' bl' hn hcj hjb hlt' _
    obtain ⟨i, rfl⟩ : ∃ i, j = i + 1 := ⟨j - 1, by omega⟩
    obtain ⟨rfl, rfl⟩ := hlt' (by omega)
    have hia : a ≤ i := by omega
    have hib : i < b := by omega
    obtain ⟨r1, r2, r3⟩ := hR i hia hib
    have h1 := hSc1 (by omega)
    have hm1 := hI.up (i := c + 1) (by omega) (show c + 1 ≤ i + 1 by omega) (by omega)
    have hm2 := hI.up (i := i + 1) (by omega) (show i + 1 ≤ b by omega) (Nat.le_refl b)
    have i5 := (hI i hia hib).1
    have hin : vp_in (nI i) 4400 := vp_in_nI (by omega) (by omega)
    rw [wl_X1_fail_40]
    refine ⟨fun hh => absurd hh (by rw [hba]; exact nI_ge (by omega) (by omega)), fun _ => ?_⟩
    rw [nI_pred]
    refine m_endOf hR hI hia hib h4 ?_
    refine ⟨fun hh => absurd hh (by rw [hfo]; exact nI_ge (by omega) (by omega)), fun _ => ⟨hin, ?_⟩⟩
    rw [nI_clamp (by omega), r1, r2]
    refine ⟨fun hle => ?_, fun hnle => ⟨hin, hin, ?_⟩⟩
    · have hFi : Fo ≤ S i := by rw [hfo] at hle; exact (nI_leI (by omega) (by omega)).mp hle
      refine ih i bg' bl' (by omega) (by omega) (by omega) (fun _ => ⟨rfl, rfl⟩) ?_
      intro hci
      subst hci
      rw [if_neg (by omega), if_neg (by omega)]
      exact ⟨rfl, rfl⟩
    · have hFi : S i < Fo := by
        rcases Nat.lt_or_ge (S i) Fo with q | q
        · exact q
        · exact absurd (by rw [hfo]; exact nI_le q (by omega)) hnle
      have hci : c = i := by
        rcases Nat.lt_or_ge c i with q | q
        · have h2 := hI.up (i := c + 1) (by omega) (show c + 1 ≤ i by omega) (by omega)
          omega
        · omega
      subst hci
      refine ih c _ _ (by omega) (by omega) (by omega) (fun hh => by omega) ?_
      intro _
      rw [if_pos ⟨hFi, hib⟩, if_pos ⟨hFi, hib⟩]
      exact ⟨rfl, rfl⟩
theorem m_fail {post : St_B → Prop} {c Fo : Nat} (hR : RO S v a b se le vo) (hI : INC S a b) (h4 : b ≤ 4400) (hb : S b < 2 ^ 30) (hba : ba = nI a) (hco : co = nI b) (hfo : fo = nI Fo) (hca : a ≤ c) (hcb : c ≤ b) (hSc : S c ≤ Fo) (hFb : Fo ≤ S b) (hSc1 : c < b → Fo < S (c + 1))
    (h : ∀ bu' : Nat → Int32, (∀ j, j < 200 → bu' j = 0) → post (th, bu', wd, se, le, ki, ow, ol, li, vo, ba, nI c, fi, fo, fo, 1, -1, (if S c < Fo ∧ c < b then nI (S c) else bg), (if S c < Fo ∧ c < b then nI (S (c + 1) - S c) else bl))) : wp_X1_fail post th bu wd se le ki ow ol li vo ba co fi fo en cl lf bg bl := by
  unfold wp_X1_fail
  have key : ∀ (n j : Nat) (bu' : Nat → Int32), 200 - j = n → j ≤ 200 → (∀ i, i < j → bu' i = 0) → wl_X1_fail_20 post (n + 1) (nI j) th bu' wd se le ki ow ol li vo ba co fi fo fo 1 (-1) bg bl := by
    intro n
    induction n with
    | zero =>
      intro j bu' hn hj hB
      have : j = 200 := by omega
      subst this
      rw [wl_X1_fail_20]
      refine ⟨fun _ => ?_, fun hh => absurd (by rw [q_200]; exact Int32.le_refl _) hh⟩
      refine ⟨b - c + 1, ?_⟩
      rw [hco]
      exact m_fail_l hR hI h4 hb hba hfo hca hcb hSc (by omega) hSc1 (h bu' hB) (b - c) b bg bl rfl hcb (Nat.le_refl b) (fun _ => ⟨rfl, rfl⟩) (fun hcb => by
        subst hcb
        rw [if_neg (by omega), if_neg (by omega)]
        exact ⟨rfl, rfl⟩)
    | succ n ih =>
      intro j bu' hn hj hB
      rw [wl_X1_fail_20]
      refine ⟨fun hh => absurd hh (by rw [q_200]; exact nI_ge (by omega) (by omega)), fun _ => ⟨vp_in_nI (by omega) (by omega), ?_⟩⟩
      rw [nI_clamp (by omega), nI_1]
      refine ih (j + 1) _ (by omega) (by omega) ?_
      intro i hi
      rcases Nat.lt_or_ge i j with q | q
      · rw [pk_un (by omega)]; exact hB i q
      · have : i = j := by omega
        subst this
        exact pk_us
  exact ⟨201, key 200 0 bu rfl (by omega) (fun i hi => by omega)⟩
theorem q_nneg {n : Nat} (hn : n < 2 ^ 31) : nI n ≠ -1 := fun h9 => by
  have h8 := nI_toInt hn
  rw [h9] at h8
  have : (-1 : Int32).toInt = -1 := by decide
  omega
theorem m_forceTo {post : Int32 → St_B → Prop} {q Fo : Nat} (hq : q < 2 ^ 30) (hF : Fo < 2 ^ 30) (hfo : fo = nI Fo) (hlf : lf = -1 ∨ ∃ W : Nat, W < 2 ^ 31 ∧ lf = nI W)
    (h1 : lf = -1 → post (nI (q - Fo)) (th, bu, wd, se, le, ki, ow, ol, li, vo, ba, co, fi, nI (Fo + (q - Fo)), en, cl, -1, bg, bl))
    (h2 : ∀ W : Nat, lf = nI W → W < 2 ^ 31 → q - Fo ≤ W → post (nI (q - Fo)) (th, bu, wd, se, le, ki, ow, ol, li, vo, ba, co, fi, nI (Fo + (q - Fo)), en, cl, nI (W - (q - Fo)), bg, bl))
    (h3 : ∀ W : Nat, lf = nI W → W < q - Fo → ∀ Pf : St_B → Prop, (∀ u, post (-1) u → Pf u) → wp_X1_fail Pf th bu wd se le ki ow ol li vo ba co fi (nI (Fo + W)) en cl 0 bg bl) : wp_X1_forceTo post (nI q) th bu wd se le ki ow ol li vo ba co fi fo en cl lf bg bl := by
  unfold wp_X1_forceTo
  refine ⟨q - Fo + 1, ?_⟩
  rcases hlf with rfl | ⟨W, hW, rfl⟩
  · have key : ∀ (n j : Nat), q - Fo - j = n → j ≤ q - Fo → wl_X1_forceTo_2 post (nI q) (n + 1) (nI j) th bu wd se le ki ow ol li vo ba co fi (nI (Fo + j)) en cl (-1) bg bl := by
      intro n
      induction n with
      | zero =>
        intro j hn hj
        have : j = q - Fo := by omega
        subst this
        rw [wl_X1_forceTo_2]
        refine ⟨fun _ => h1 rfl, fun hh => absurd (nI_le (by omega) (by omega)) hh⟩
      | succ n ih =>
        intro j hn hj
        rw [wl_X1_forceTo_2]
        refine ⟨fun hh => absurd hh (nI_ge (by omega) (by omega)), fun _ => ?_⟩
        unfold wp_X1_canWrite
        refine ⟨fun hh => absurd hh (by decide), fun _ => ⟨fun _ => ?_, fun hh => absurd (by decide) hh⟩⟩
        refine ⟨fun hh => absurd hh (by decide), fun _ => ?_⟩
        rw [nI_1, nI_1]
        exact ih (j + 1) (by omega) (by omega)
    rw [hfo]
    exact key (q - Fo) 0 rfl (by omega)
  · have key : ∀ (n j : Nat), q - Fo - j = n → j ≤ q - Fo → j ≤ W → wl_X1_forceTo_2 post (nI q) (n + 1) (nI j) th bu wd se le ki ow ol li vo ba co fi (nI (Fo + j)) en cl (nI (W - j)) bg bl := by
      intro n
      induction n with
      | zero =>
        intro j hn hj hjW
        have : j = q - Fo := by omega
        subst this
        rw [wl_X1_forceTo_2]
        exact ⟨fun _ => h2 W rfl hW hjW, fun hh => absurd (nI_le (by omega) (by omega)) hh⟩
      | succ n ih =>
        intro j hn hj hjW
        rw [wl_X1_forceTo_2]
        refine ⟨fun hh => absurd hh (nI_ge (by omega) (by omega)), fun _ => ?_⟩
        unfold wp_X1_canWrite
        rcases Nat.lt_or_ge j W with hlt | hge
        · refine ⟨fun hh => absurd hh (nI_ne0 (by omega) (by omega)), fun _ => ⟨fun hh => absurd hh (nI_nle (by omega) (by omega)), fun _ => ?_⟩⟩
          refine ⟨fun hh => absurd hh (by decide), fun _ => ?_⟩
          rw [q_n1 (by omega), nI_1, nI_1, show W - j - 1 = W - (j + 1) by omega]
          exact ih (j + 1) (by omega) (by omega) (by omega)
        · have hjW2 : j = W := by omega
          subst hjW2
          rw [show j - j = 0 by omega]
          refine ⟨fun _ => ?_, fun hh => absurd rfl hh⟩
          refine h3 j rfl (by omega) _ ?_
          intro u hu
          obtain ⟨u1, u2, u3, u4, u5, u6, u7, u8, u9, u10, u11, u12, u13, u14, u15, u16, u17, u18, u19⟩ := u
          exact ⟨fun _ => hu, fun hh => absurd rfl hh⟩
    rw [hfo]
    exact key (q - Fo) 0 rfl (by omega) (by omega)
theorem m_addRow {post : St_B → Prop} {x1 x2 x3 : Int32} (h4 : b < 4400) (hco : co = nI b) (h : post (th, bu, wd, upd se b x1, upd le b x2, ki, ow, ol, li, upd vo b (vp_nar .boolean x3), ba, nI (b + 1), fi, fo, en, cl, lf, bg, bl)) : wp_X1_addRow post x1 x2 x3 th bu wd se le ki ow ol li vo ba co fi fo en cl lf bg bl := by
  unfold wp_X1_addRow
  have hin : vp_in co 4400 := by rw [hco]; exact vp_in_nI h4 (by omega)
  refine ⟨hin, hin, hin, ?_⟩
  rw [hco, nI_clamp (by omega), nI_1]
  exact h
end MC
