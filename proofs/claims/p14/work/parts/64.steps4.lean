def jn (A : St_A) (u : St_B) (O : Nat → Int64) : St_ABO := match A, u with
  | (R, Bu, f, g, e, w, o), (th, bu, wd, se, le, ki, ow, ol, li, vo, ba, co, fi, fo, en, cl, lf, bg, bl) => (R, Bu, f, g, e, w, o, th, bu, wd, se, le, ki, ow, ol, li, vo, ba, co, fi, fo, en, cl, lf, bg, bl, O)
section SW
variable {S : Nat → Nat} {v : Nat → Bool} {a b c k L : Nat} {R Bu : Nat → Int32} {f g e w o : Int32} {bu wd se le ki ow ol li vo : Nat → Int32} {th ba co fi fo en cl lf bg bl : Int32} {O : Nat → Int64} {xs : Nat → Int32}
/-- up to the end of record j - 1, in an open book: what the class comes to, and the reference with it -/
theorem wr_both (hI : Inv k S v a b R Bu f g e w o bu wd se le ki ow ol li vo ba co fi fo en cl lf bg bl) (hcl : cl = 0) (hk : k < 512) {j : Nat} (hja : a ≤ j) (hjb : j ≤ b) {Pc : Int32 → St_A → Prop}
    (H : ∀ (r : Int32) (A : St_A), (∀ (t : Int32) (Pm : Int32 → St_B → Prop), (∀ (r' : Int32) (u : St_B), r' = r → (∀ O, Rel (k + 1) (jn A u O)) → Pm r' u) → wp_X1_forceTo Pm (nI (S j)) t bu wd se le ki ow ol li vo ba co fi fo en cl lf bg bl) → Pc r A) : wp_X0_writeUpTo Pc (nI (S j)) R Bu f g e w o := by
  have hM := hI.mf (by omega)
  have hI' := hI
  obtain ⟨i1, i2, i3, i4, i5, i6, i7, i8, i9⟩ := hI
  rcases i9 with ⟨p1, p2, p3, p4, ⟨c, q1, q2, q3⟩, p6, p7⟩ | ⟨p1, _⟩ | ⟨_, _, p1, _⟩
  · have hjS := i6.le hja hjb (Nat.le_refl b)
    have hcS := i6.le q1 q2 (Nat.le_refl b)
    have haS := i6.le (Nat.le_refl a) q1 q2
    have hnewc : ∃ c', a ≤ c' ∧ c' ≤ b ∧ nI (S c + (S j - S c)) = nI (S c') := by
      rcases Nat.lt_or_ge (S j) (S c) with q | q
      · exact ⟨c, q1, q2, by rw [show S c + (S j - S c) = S c by omega]⟩
      · exact ⟨j, hja, hjb, by rw [show S c + (S j - S c) = S j by omega]⟩
    have okI : ∀ lf' : Int32, (lf' = -1 ∨ ∃ W : Nat, W < 2 ^ 31 ∧ lf' = nI W) → Inv (k + 1) S v a b R Bu f (nI (S c + (S j - S c))) e lf' o bu wd se le ki ow ol li vo ba co fi (nI (S c + (S j - S c))) en cl lf' bg bl := fun lf' hlf' =>
      ⟨i1, by omega, ⟨i3.1, i3.2.1, i3.2.2.1, i3.2.2.2.1, rfl, i3.2.2.2.2.2.1, rfl⟩, hlf', i5, i6, i7, i8, Or.inl ⟨p1, p2, p3, p4, hnewc, p6, by omega⟩⟩
    have hw : w = lf := i3.2.2.2.2.2.2
    have hg : g = nI (S c) := i3.2.2.2.2.1.trans q3
    refine q_write (q := S j) (Fo := S c) (by omega) (by omega) hg (by rw [hw]; exact i4) (fun h1 => ?_) (fun W h1 hW h2 => ?_) (fun W h1 h2 Bz hz => ?_)
    · refine H _ _ (fun t Pm hPm => ?_)
      have hlf : lf = -1 := hw.symm.trans h1
      refine m_forceTo (q := S j) (Fo := S c) (by omega) (by omega) q3 i4 (fun _ => hPm _ _ rfl (fun O => ⟨S, v, a, b, okI (-1) (Or.inl rfl)⟩)) (fun W h3 hW _ => absurd (h3.symm.trans hlf) (q_nneg hW)) (fun W h3 h4 => ?_)
      exact absurd (h3.symm.trans hlf) (q_nneg (by omega))
    · refine H _ _ (fun t Pm hPm => ?_)
      have hlf : lf = nI W := hw.symm.trans h1
      refine m_forceTo (q := S j) (Fo := S c) (by omega) (by omega) q3 i4 (fun h3 => absurd (hlf.symm.trans h3) (q_nneg hW)) (fun W' h3 hW' h4 => ?_) (fun W' h3 h4 => ?_)
      · have : W' = W := (nI_eq hW' hW).mp (h3.symm.trans hlf)
        subst this
        exact hPm _ _ rfl (fun O => ⟨S, v, a, b, okI _ (Or.inr ⟨_, by omega, rfl⟩)⟩)
      · have : W' = W := (nI_eq (by omega) hW).mp (h3.symm.trans hlf)
        omega
    · refine H _ _ (fun t Pm hPm => ?_)
      have hlf : lf = nI W := hw.symm.trans h1
      refine m_forceTo (q := S j) (Fo := S c) (by omega) (by omega) q3 i4 (fun h3 => absurd (hlf.symm.trans h3) (q_nneg (by omega))) (fun W' h3 hW' h4 => ?_) (fun W' h3 h4 Pf hPf => ?_)
      · have : W' = W := (nI_eq hW' (by omega)).mp (h3.symm.trans hlf)
        omega
      · have : W' = W := (nI_eq (by omega) (by omega)).mp (h3.symm.trans hlf)
        subst this
        obtain ⟨d, d1, d2, d3, d4⟩ := find_c hM.2.1 i1 (show S a ≤ S c + W' by omega) (show S c + W' ≤ S b by omega)
        refine m_fail (c := d) (Fo := S c + W') hM.1 hM.2.1 (by omega) (by omega) i3.1 i3.2.1 rfl d1 d2 d3 (by omega) d4 (fun bz hz2 => hPf _ (hPm _ _ rfl (fun O => ⟨S, v, a, d, ?_⟩)))
        have h9 := fail_inv (F := S c + W') hI' d1 d2 d3 (by omega) d4 hz hz2
        rw [p3]
        exact h9
  · exact absurd (p1.symm.trans hcl) (by decide)
  · exact absurd (p1.symm.trans hcl) (by decide)
theorem st_4 (hrel : Rel k (R, Bu, f, g, e, w, o, th, bu, wd, se, le, ki, ow, ol, li, vo, ba, co, fi, fo, en, cl, lf, bg, bl, O)) (h5 : 5 * k + 5 ≤ L) (hL : L ≤ 2560) : wk_4 (fun st => Rel (k + 1) st) L xs (nI (5 * k)) R Bu f g e w o th bu wd se le ki ow ol li vo ba co fi fo en cl lf bg bl O := by
  obtain ⟨S, v, a, b, hI⟩ := hrel
  have hsame := hI.mono
  unfold wk_4 wp_L_forceAll wp_X0_forceAll wp_X0_requireOpen
  rcases hI.oc with ⟨h1, h2⟩ | ⟨h1, h2⟩
  · refine ⟨fun _ => ⟨rfl, ?_⟩, fun hh => absurd h1 hh⟩
    unfold wp_X1_forceAll
    exact m_ref1 (by rw [h2]; decide) ⟨fun hh => absurd hh (by decide), fun _ => ⟨S, v, a, b, hsame⟩⟩
  · refine ⟨fun hh => absurd (h1.symm.trans hh) (by decide), fun _ => ?_⟩
    have hen : en = nI (S b) := by
      rcases hI.2.2.2.2.2.2.2.2 with ⟨_, _, _, h, _⟩ | ⟨h, _⟩ | ⟨_, _, h, _⟩
      · exact h
      · exact absurd (h.symm.trans h2) (by decide)
      · exact absurd (h.symm.trans h2) (by decide)
    have he : e = nI (S b) := hI.2.2.1.2.2.2.2.2.1.trans hen
    rw [he] at hI ⊢
    refine wr_both (wd := wd) (ki := ki) (ow := ow) hI h2 (by omega) hI.1 (Nat.le_refl b) (fun r A cap => ?_)
    obtain ⟨R', Bu', f', g', e', w', o'⟩ := A
    refine ⟨v01, ?_⟩
    unfold wp_X1_forceAll
    refine m_ref0 h2 rfl rfl ⟨fun _ => ?_, fun hh => absurd rfl hh⟩
    rw [hen] at cap ⊢
    refine cap _ _ (fun r' u _ hu => ?_)
    obtain ⟨u1, u2, u3, u4, u5, u6, u7, u8, u9, u10, u11, u12, u13, u14, u15, u16, u17, u18, u19⟩ := u
    exact hu _
theorem st_3 (hrel : Rel k (R, Bu, f, g, e, w, o, th, bu, wd, se, le, ki, ow, ol, li, vo, ba, co, fi, fo, en, cl, lf, bg, bl, O)) (h5 : 5 * k + 5 ≤ L) (hL : L ≤ 2560) : wk_3 (fun st => Rel (k + 1) st) L xs (nI (5 * k)) R Bu f g e w o th bu wd se le ki ow ol li vo ba co fi fo en cl lf bg bl O := by
  obtain ⟨S, v, a, b, hI⟩ := hrel
  have hsame := hI.mono
  have hM := hI.mf (by omega)
  unfold wk_3
  refine ⟨vk1 h5 hL, ?_⟩
  generalize xs (nI (5 * k) + (1 : Int32)).toNatClampNeg = x
  unfold wp_L_force wp_X0_force wp_X0_requireOpen
  rcases hI.oc with ⟨h1, h2⟩ | ⟨h1, h2⟩
  · refine ⟨fun _ => Or.inl ⟨rfl, vk1 h5 hL, ?_⟩, fun hh => absurd h1 hh⟩
    unfold wp_X1_force wc_X1_force_16 wc_X1_force_31
    exact ⟨fun hh => absurd (h2.symm.trans hh) (by decide), fun _ => ⟨fun hh => absurd hh (by decide), fun _ => m_ref1 (by rw [h2]; decide) ⟨fun hh => absurd hh (by decide), fun _ => ⟨S, v, a, b, hsame⟩⟩⟩⟩
  · refine ⟨fun hh => absurd (h1.symm.trans hh) (by decide), fun _ => ?_⟩
    obtain ⟨i1, i2, i3, i4, i5, i6, i7, i8, i9⟩ := id hI
    have hbd := i9.bound
    have hen : en = nI (S b) := by
      rcases i9 with ⟨_, _, _, h, _⟩ | ⟨h, _⟩ | ⟨_, _, h, _⟩
      · exact h
      · exact absurd (h.symm.trans h2) (by decide)
      · exact absurd (h.symm.trans h2) (by decide)
    unfold wp_X0_requireRecord
    refine q_isRecord i6 i1 (by omega) hbd.2 i3.2.2.1 (i3.2.2.2.2.2.1.trans hen) (fun hno => ⟨fun _ => Or.inr ⟨rfl, vk1 h5 hL, ?_⟩, fun hh => absurd rfl hh⟩) (fun hyes => ⟨fun hh => absurd hh (by decide), fun _ => ?_⟩)
    · unfold wp_X1_force
      refine ⟨fun _ => m_rowOf hM.1 hM.2.1 i1 (by omega) (by omega) i3.1 i3.2.1 (fun _ => ?_) (fun i q1 q2 q3 q4 => absurd ⟨i, q1, q2, q3, q4⟩ hno), fun hh => absurd h2 hh⟩
      unfold wc_X1_force_16 wc_X1_force_31
      exact ⟨fun hh => absurd hh (by decide), fun _ => m_ref2 h2 (by decide) ⟨fun hh => absurd hh (by decide), fun _ => ⟨S, v, a, b, hsame⟩⟩⟩
    · obtain ⟨i, q1, q2, q3, q4⟩ := hyes
      obtain ⟨c1, c2, c3, c4⟩ := i6 i q1 q2
      have hup := i6.le (i := i + 1) (by omega) (show i + 1 ≤ b by omega) (Nat.le_refl b)
      rw [q4]
      refine q_behind (L := S (i + 1) - S i) (by omega) c3 ?_
      rw [show S i + (S (i + 1) - S i) = S (i + 1) by omega]
      refine wr_both (wd := wd) (ki := ki) (ow := ow) hI h2 (by omega) (j := i + 1) (by omega) (by omega) (fun r A cap => ?_)
      obtain ⟨R', Bu', f', g', e', w', o'⟩ := A
      refine ⟨v01, vk1 h5 hL, ?_⟩
      unfold wp_X1_force
      refine ⟨fun _ => m_rowOf hM.1 hM.2.1 i1 (by omega) (by omega) i3.1 i3.2.1 (fun hno => absurd ⟨i, q1, q2, q3, rfl⟩ hno) (fun i' r1 r2 r3 r4 => ?_), fun hh => absurd h2 hh⟩
      have hii : i' = i := by
        have u1 := i6.le r1 (Nat.le_of_lt r2) (Nat.le_refl b)
        exact hM.2.1.inj r1 r2 q1 q2 ((nI_eq (by omega) (by omega)).mp r4.symm)
      subst hii
      unfold wc_X1_force_16 wc_X1_force_31
      refine ⟨fun _ => m_ref0 h2 rfl rfl ⟨fun _ => m_endOf hM.1 hM.2.1 q1 q2 (by omega) ?_, fun hh => absurd rfl hh⟩, fun hh => absurd (nI_pos' (by omega)) hh⟩
      refine cap _ _ (fun r' u _ hu => ?_)
      obtain ⟨u1, u2, u3, u4, u5, u6, u7, u8, u9, u10, u11, u12, u13, u14, u15, u16, u17, u18, u19⟩ := u
      exact hu _
theorem st_5 (hrel : Rel k (R, Bu, f, g, e, w, o, th, bu, wd, se, le, ki, ow, ol, li, vo, ba, co, fi, fo, en, cl, lf, bg, bl, O)) (h5 : 5 * k + 5 ≤ L) (hL : L ≤ 2560) : wk_5 (fun st => Rel (k + 1) st) L xs (nI (5 * k)) R Bu f g e w o th bu wd se le ki ow ol li vo ba co fi fo en cl lf bg bl O := by
  obtain ⟨S, v, a, b, hI⟩ := hrel
  have hsame := hI.mono
  have hM := hI.mf (by omega)
  unfold wk_5
  refine ⟨vk1 h5 hL, ?_⟩
  generalize xs (nI (5 * k) + (1 : Int32)).toNatClampNeg = x
  unfold wp_L_giveBack wp_X0_giveBack wp_X0_requireOpen
  rcases hI.oc with ⟨h1, h2⟩ | ⟨h1, h2⟩
  · refine ⟨fun _ => Or.inl ⟨rfl, vk1 h5 hL, ?_⟩, fun hh => absurd h1 hh⟩
    unfold wp_X1_giveBack wc_X1_giveBack_16 wc_X1_giveBack_41 wc_X1_giveBack_46 wc_X1_giveBack_55
    exact ⟨fun hh => absurd (h2.symm.trans hh) (by decide), fun _ => ⟨fun hh => absurd (h2.symm.trans hh) (by decide), fun _ => ⟨fun hh => absurd hh (by decide), fun _ => m_ref1 (by decide) ⟨fun hh => absurd hh (by decide), fun _ => ⟨S, v, a, b, hsame⟩⟩⟩⟩⟩
  · refine ⟨fun hh => absurd (h1.symm.trans hh) (by decide), fun _ => ?_⟩
    obtain ⟨i1, i2, i3, i4, i5, i6, i7, i8, i9⟩ := id hI
    have hbd := i9.bound
    obtain ⟨p3, hen, ⟨c, k1, k2, k3⟩⟩ : bg = -1 ∧ en = nI (S b) ∧ ∃ c, a ≤ c ∧ c ≤ b ∧ fo = nI (S c) := by
      rcases i9 with ⟨_, _, h0, h, h', _⟩ | ⟨h, _⟩ | ⟨_, _, h, _⟩
      · exact ⟨h0, h, h'⟩
      · exact absurd (h.symm.trans h2) (by decide)
      · exact absurd (h.symm.trans h2) (by decide)
    unfold wp_X0_requireRecord
    refine q_isRecord i6 i1 (by omega) hbd.2 i3.2.2.1 (i3.2.2.2.2.2.1.trans hen) (fun hno => ⟨fun _ => Or.inr ⟨rfl, vk1 h5 hL, ?_⟩, fun hh => absurd rfl hh⟩) (fun hyes => ⟨fun hh => absurd hh (by decide), fun _ => ?_⟩)
    · unfold wp_X1_giveBack
      refine ⟨fun _ => m_rowOf hM.1 hM.2.1 i1 (by omega) (by omega) i3.1 i3.2.1 (fun _ => ?_) (fun i q1 q2 q3 q4 => absurd ⟨i, q1, q2, q3, q4⟩ hno), fun hh => absurd h2 hh⟩
      unfold wc_X1_giveBack_16 wc_X1_giveBack_45 wc_X1_giveBack_46 wc_X1_giveBack_55
      exact ⟨fun _ => ⟨fun _ => ⟨fun hh => absurd hh (by decide), fun _ => m_ref2 rfl (by decide) ⟨fun hh => absurd hh (by decide), fun _ => ⟨S, v, a, b, hsame⟩⟩⟩, fun hh => absurd (by decide) hh⟩, fun hh => absurd h2 hh⟩
    · obtain ⟨i, q1, q2, q3, q4⟩ := hyes
      obtain ⟨c1, c2, c3, c4⟩ := i6 i q1 q2
      have hup := i6.le (i := i + 1) (by omega) (show i + 1 ≤ b by omega) (Nat.le_refl b)
      have hcup := i6.le k1 k2 (Nat.le_refl b)
      have haup := i6.le (Nat.le_refl a) q1 (Nat.le_of_lt q2)
      rw [q4]
      refine q_behind (L := S (i + 1) - S i) (by omega) c3 ?_
      rw [show S i + (S (i + 1) - S i) = S (i + 1) by omega]
      have hrow : ∀ P : Int32 → Prop, P (nI i) → wp_X1_rowOf P (nI (S i)) th bu wd se le ki ow ol li vo ba co fi fo en cl lf bg bl := fun P hP =>
        m_rowOf hM.1 hM.2.1 i1 (by omega) (by omega) i3.1 i3.2.1 (fun hno => absurd ⟨i, q1, q2, q3, rfl⟩ hno) (fun i' r1 r2 r3 r4 => by
          have u1 := i6.le r1 (Nat.le_of_lt r2) (Nat.le_refl b)
          have hii : i' = i := hM.2.1.inj r1 r2 q1 q2 ((nI_eq (by omega) (by omega)).mp r4.symm)
          rw [hii]
          exact hP)
      have hg : g = nI (S c) := i3.2.2.2.2.1.trans k3
      refine ⟨fun hle => ⟨v01, vk1 h5 hL, ?_⟩, fun hnle => Or.inl ⟨rfl, vk1 h5 hL, ?_⟩⟩
      · have hle2 : S (i + 1) ≤ S c := by rw [hg] at hle; exact (nI_leI (by omega) (by omega)).mp hle
        have hic : i + 1 ≤ c := by
          rcases Nat.lt_or_ge c (i + 1) with q | q
          · have := i6.le k1 (Nat.le_of_lt q) (by omega); omega
          · exact q
        unfold wp_X1_giveBack
        refine ⟨fun _ => hrow _ ?_, fun hh => absurd h2 hh⟩
        unfold wc_X1_giveBack_16 wc_X1_giveBack_45 wc_X1_giveBack_46 wc_X1_giveBack_55
        refine ⟨fun _ => ⟨fun hh => absurd hh (nI_pos (by omega)), fun _ => m_endOf hM.1 hM.2.1 q1 q2 (by omega) ⟨fun _ => ⟨fun _ => m_ref0 rfl rfl rfl ⟨fun _ => ⟨S, v, i, b, ?_⟩, fun hh => absurd rfl hh⟩, fun hh => absurd (nI_pos' (by omega)) hh⟩, fun hh => absurd (by rw [k3]; exact nI_le hle2 (by omega)) hh⟩⟩, fun hh => absurd h2 hh⟩
        exact ⟨by omega, by omega, ⟨rfl, i3.2.1, rfl, rfl, i3.2.2.2.2.1, i3.2.2.2.2.2.1, i3.2.2.2.2.2.2⟩, i4, i5, i6.sub q1 (Nat.le_refl b), i7.sub q1 (Nat.le_refl b), i8.sub q1 (Nat.le_refl b), Or.inl ⟨h2, h1, p3, hen, ⟨c, by omega, k2, k3⟩, by omega, by omega⟩⟩
      · unfold wp_X1_giveBack
        refine ⟨fun _ => hrow _ ?_, fun hh => absurd h2 hh⟩
        unfold wc_X1_giveBack_16 wc_X1_giveBack_41 wc_X1_giveBack_45 wc_X1_giveBack_46 wc_X1_giveBack_55
        have hk3 : g = fo := i3.2.2.2.2.1
        refine ⟨fun _ => ⟨fun hh => absurd hh (nI_pos (by omega)), fun _ => m_endOf hM.1 hM.2.1 q1 q2 (by omega) ⟨fun hh => absurd (by rw [hk3]; exact hh) hnle, fun _ => ⟨fun _ => m_ref1 (by decide) ⟨fun hh => absurd hh (by decide), fun _ => ⟨S, v, a, b, hsame⟩⟩, fun hh => absurd (nI_pos' (by omega)) hh⟩⟩⟩, fun hh => absurd h2 hh⟩
end SW
