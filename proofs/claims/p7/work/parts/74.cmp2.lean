section CN
variable {S : Nat → Nat} {v : Nat → Bool} {a b c k L : Nat} {R Bu : Nat → Int32} {f g e w o : Int32} {bu wd se le ki ow ol li vo : Nat → Int32} {th ba co fi fo en cl lf bg bl : Int32} {O : Nat → Int64} {x : Int32} {xs : Nat → Int32}
theorem gb {y z : Int32} {P : Prop} (hyz : y = z) (hP : P) : ((0 : Int32) = 0 → (((0 : Int32) = 0 → vp_in (0 : Int32) 1 ∧ (((lg_cmp (vp_updL O (0 : Int32).toNatClampNeg y.toInt64 (0 : Int32).toNatClampNeg) z.toInt64 = 0 → P) ∧ (¬ lg_cmp (vp_updL O (0 : Int32).toNatClampNeg y.toInt64 (0 : Int32).toNatClampNeg) z.toInt64 = 0 → False)))) ∧ (¬ (0 : Int32) = 0 → P))) ∧ (¬ (0 : Int32) = 0 → False) := by
  rw [hyz]
  exact cj_good hP
theorem st_5 (hrel : Rel k (R, Bu, f, g, e, w, o, th, bu, wd, se, le, ki, ow, ol, li, vo, ba, co, fi, fo, en, cl, lf, bg, bl, O)) (h5 : 5 * k + 5 ≤ L) (hL : L ≤ 2560) : wk_5 (fun st => Rel (k + 1) st) L xs (nI (5 * k)) R Bu f g e w o th bu wd se le ki ow ol li vo ba co fi fo en cl lf bg bl O := by
  obtain ⟨S, v, a, b, hI⟩ := hrel
  have hsame := hI.mono
  have hM := hI.mf (by omega)
  unfold wk_5
  refine ⟨vk1 h5 hL, ?_⟩
  generalize xs (nI (5 * k) + (1 : Int32)).toNatClampNeg = x
  unfold wp_L_giveBack wp_X1_thrown wp_X0_giveBack wp_X0_requireOpen
  rcases hI.oc with ⟨h1, h2⟩ | ⟨h1, h2⟩
  · refine ⟨fun _ => Or.inl ⟨rfl, vk1 h5 hL, ?_⟩, fun hh => absurd h1 hh⟩
    unfold wp_X1_giveBack wc_X1_giveBack_16 wc_X1_giveBack_41 wc_X1_giveBack_46 wc_X1_giveBack_55
    exact ⟨fun hh => absurd (h2.symm.trans hh) (by decide), fun _ => ⟨fun hh => absurd (h2.symm.trans hh) (by decide), fun _ => ⟨fun hh => absurd hh (by decide), fun _ => m_ref1 (by decide) ⟨fun hh => absurd hh (by decide), fun _ => cj_bad (by decide) ⟨S, v, a, b, hsame⟩⟩⟩⟩⟩
  · refine ⟨fun hh => absurd (h1.symm.trans hh) (by decide), fun _ => ?_⟩
    obtain ⟨i1, i2, i3, i4, i5, i6, i7, i8, i9⟩ := id hI
    have hbd := i9.bound
    obtain ⟨p3, hen, ⟨c, k1, k2, k3⟩⟩ : bg = -1 ∧ en = nI (S b) ∧ ∃ c, a ≤ c ∧ c ≤ b ∧ fo = nI (S c) := by
      rcases i9 with ⟨_, _, h0, h, h', _⟩ | ⟨h, _⟩ | ⟨_, _, h, _⟩
      · exact ⟨h0, h, h'⟩
      · exact absurd (h.symm.trans h2) (by decide)
      · exact absurd (h.symm.trans h2) (by decide)
    unfold wp_X0_requireRecord
    refine q_isRecord i6 i1 (by omega) hbd.2 i3.2.2.1 (i3.2.2.2.2.2.1.trans hen) (fun hno => ⟨fun _ => Or.inr ⟨rfl, vk1 h5 hL, ?_⟩, fun hh => absurd rfl hh⟩) (fun hyes => ⟨fun hh => absurd hh (by decide), fun _ => ?_⟩)
    · unfold wp_X1_giveBack
      refine ⟨fun _ => m_rowOf hM.1 hM.2.1 i1 (by omega) (by omega) i3.1 i3.2.1 (fun _ => ?_) (fun i q1 q2 q3 q4 => absurd ⟨i, q1, q2, q3, q4⟩ hno), fun hh => absurd h2 hh⟩
      unfold wc_X1_giveBack_16 wc_X1_giveBack_45 wc_X1_giveBack_46 wc_X1_giveBack_55
      exact ⟨fun _ => ⟨fun _ => ⟨fun hh => absurd hh (by decide), fun _ => m_ref2 rfl (by decide) ⟨fun hh => absurd hh (by decide), fun _ => cj_bad (by decide) ⟨S, v, a, b, hsame⟩⟩⟩, fun hh => absurd (by decide) hh⟩, fun hh => absurd h2 hh⟩
    · obtain ⟨i, q1, q2, q3, q4⟩ := hyes
      obtain ⟨c1, c2, c3, c4⟩ := i6 i q1 q2
      have hup := i6.le (i := i + 1) (by omega) (show i + 1 ≤ b by omega) (Nat.le_refl b)
      have hcup := i6.le k1 k2 (Nat.le_refl b)
      have haup := i6.le (Nat.le_refl a) q1 (Nat.le_of_lt q2)
      rw [q4]
      refine q_behind (L := S (i + 1) - S i) (by omega) c3 ?_
      rw [show S i + (S (i + 1) - S i) = S (i + 1) by omega]
      have hrow : ∀ P : Int32 → Prop, P (nI i) → wp_X1_rowOf P (nI (S i)) th bu wd se le ki ow ol li vo ba co fi fo en cl lf bg bl := fun P hP =>
        m_rowOf hM.1 hM.2.1 i1 (by omega) (by omega) i3.1 i3.2.1 (fun hno => absurd ⟨i, q1, q2, q3, rfl⟩ hno) (fun i' r1 r2 r3 r4 => by
          have u1 := i6.le r1 (Nat.le_of_lt r2) (Nat.le_refl b)
          have hii : i' = i := hM.2.1.inj r1 r2 q1 q2 ((nI_eq (by omega) (by omega)).mp r4.symm)
          rw [hii]
          exact hP)
      have hg : g = nI (S c) := i3.2.2.2.2.1.trans k3
      refine ⟨fun hle => ⟨v01, vk1 h5 hL, ?_⟩, fun hnle => Or.inl ⟨rfl, vk1 h5 hL, ?_⟩⟩
      · have hle2 : S (i + 1) ≤ S c := by rw [hg] at hle; exact (nI_leI (by omega) (by omega)).mp hle
        have hic : i + 1 ≤ c := by
          rcases Nat.lt_or_ge c (i + 1) with q | q
          · have := i6.le k1 (Nat.le_of_lt q) (by omega); omega
          · exact q
        unfold wp_X1_giveBack
        refine ⟨fun _ => hrow _ ?_, fun hh => absurd h2 hh⟩
        unfold wc_X1_giveBack_16 wc_X1_giveBack_45 wc_X1_giveBack_46 wc_X1_giveBack_55
        refine ⟨fun _ => ⟨fun hh => absurd hh (nI_pos (by omega)), fun _ => m_endOf hM.1 hM.2.1 q1 q2 (by omega) ⟨fun _ => ⟨fun _ => m_ref0 rfl rfl rfl ⟨fun _ => gb (by rw [i3.2.2.1, i3.2.2.2.1]) ⟨S, v, i, b, ?_⟩, fun hh => absurd rfl hh⟩, fun hh => absurd (nI_pos' (by omega)) hh⟩, fun hh => absurd (by rw [k3]; exact nI_le hle2 (by omega)) hh⟩⟩, fun hh => absurd h2 hh⟩
        exact ⟨by omega, by omega, ⟨rfl, i3.2.1, rfl, rfl, i3.2.2.2.2.1, i3.2.2.2.2.2.1, i3.2.2.2.2.2.2⟩, i4, i5, i6.sub q1 (Nat.le_refl b), i7.sub q1 (Nat.le_refl b), i8.sub q1 (Nat.le_refl b), Or.inl ⟨h2, h1, p3, hen, ⟨c, by omega, k2, k3⟩, by omega, by omega⟩⟩
      · unfold wp_X1_giveBack
        refine ⟨fun _ => hrow _ ?_, fun hh => absurd h2 hh⟩
        unfold wc_X1_giveBack_16 wc_X1_giveBack_41 wc_X1_giveBack_45 wc_X1_giveBack_46 wc_X1_giveBack_55
        have hk3 : g = fo := i3.2.2.2.2.1
        refine ⟨fun _ => ⟨fun hh => absurd hh (nI_pos (by omega)), fun _ => m_endOf hM.1 hM.2.1 q1 q2 (by omega) ⟨fun hh => absurd (by rw [hk3]; exact hh) hnle, fun _ => ⟨fun _ => m_ref1 (by decide) ⟨fun hh => absurd hh (by decide), fun _ => cj_bad (by decide) ⟨S, v, a, b, hsame⟩⟩, fun hh => absurd (nI_pos' (by omega)) hh⟩⟩⟩, fun hh => absurd h2 hh⟩
end CN
