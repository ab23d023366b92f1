section SZ
variable {S : Nat → Nat} {v : Nat → Bool} {a b c k L : Nat} {R Bu : Nat → Int32} {f g e w o : Int32} {bu wd se le ki ow ol li vo : Nat → Int32} {th ba co fi fo en cl lf bg bl : Int32} {O : Nat → Int64} {xs : Nat → Int32} {x1 x2 x3 x4 : Int32}
theorem c_app {post : Int32 → St_A → Prop} {px : String → St_A → Prop} (ho : ¬ o = 0) (hC : CH R S v a b) (hab : a ≤ b) (hD : WD S v a b R wd ki ow ol li) (hb : S b < 2 ^ 29) (h16 : S b ≤ S a + 65536) (hf : f = nI (S a)) (he : e = nI (S b))
    (h0 : BAD x1 x2 x3 x4 e → px "java/lang/IllegalArgumentException" (R, Bu, f, g, e, w, o))
    (h1 : ¬ BAD x1 x2 x3 x4 e → ∀ n : Nat, n ≤ 200 → x4 = nI n → S a + 65536 < S b + n + 5 → post (-1) (R, Bu, f, g, e, w, o))
    (h2 : ¬ BAD x1 x2 x3 x4 e → ∀ n : Nat, n ≤ 200 → x4 = nI n → S b + n + 5 ≤ S a + 65536 → ∀ R' : Nat → Int32, CH R' (sx S b (n + 5)) (vx v b false) a (b + 1) → (∀ p, S a ≤ p → p < S b → rd R' p = rd R p) → rd R' (S b + 1) = x1 + 16 * x2 → rd R' (S b + 2) = sv S (flo v ow x2 a b) → rd R' (S b + 3) = x3 → (∀ j, j < n → rd R' (S b + 4 + j) = Bu j) → post e (R', Bu, f, g, nI (S b + (n + 5)), w, o)) : wp_X0_append post px x1 x2 x3 x4 R Bu f g e w o := by
  unfold wp_X0_append wp_X0_requireOpen wp_X0_requireOwner
  refine ⟨fun hh => absurd hh ho, fun _ => ⟨fun q => h0 (Or.inr (Or.inr (Or.inl q))), fun a3 => ⟨fun a4 => ?_, fun q => h0 (Or.inr (Or.inr (Or.inr (Or.inl q))))⟩⟩⟩
  refine ⟨fun q => h0 (Or.inl q), fun a1 => ⟨fun a2 => ?_, fun q => h0 (Or.inr (Or.inl q))⟩⟩
  refine ⟨fun q => h0 (Or.inr (Or.inr (Or.inr (Or.inr (Or.inl q))))), fun a5 => ⟨fun a6 => ?_, fun q => h0 (Or.inr (Or.inr (Or.inr (Or.inr (Or.inr (Or.inl q))))))⟩⟩
  refine ⟨fun q => h0 (Or.inr (Or.inr (Or.inr (Or.inr (Or.inr (Or.inr (Or.inl q))))))), fun a7 => ⟨fun a8 => ?_, fun q => h0 (Or.inr (Or.inr (Or.inr (Or.inr (Or.inr (Or.inr (Or.inr q))))))) ⟩⟩
  have hB : ¬ BAD x1 x2 x3 x4 e := by
    rintro (q | q | q | q | q | q | q | q)
    · exact a1 q
    · exact q a2
    · exact a3 q
    · exact q a4
    · exact a5 q
    · exact q a6
    · exact a7 q
    · exact q a8
  obtain ⟨n, hn31, rfl⟩ := nI_of a5
  have hn : n ≤ 200 := by
    rw [q_200] at a6
    exact (nI_leI hn31 (by omega)).mp a6
  have haS := hC.le (Nat.le_refl a) hab (Nat.le_refl b)
  have e2 : nI n + (5 : Int32) = nI (n + 5) := by
    rw [show (5 : Int32) = nI 5 from rfl, nI_add]
  have hA := h1 hB n hn rfl
  have hG := h2 hB n hn rfl
  subst he
  refine ⟨fun hle => q_lro hC hD hab (by omega) h16 hf rfl ?_, fun hnle => hA ?_⟩
  · have hle2 : S b + n + 5 ≤ S a + 65536 := by
      rcases Nat.lt_or_ge (S a + 65536) (S b) with q | q
      · rw [hf, pk_sub (by omega), show (65536 : Int32) = nI 65536 from rfl, e2] at hle
        exact absurd (Int32.lt_of_le_of_lt hle (pk_sneg (by omega) (show 65536 < S b - S a by omega))) (nI_pos (by omega))
      · rw [hf, pk_sub (by omega), show (65536 : Int32) = nI 65536 from rfl, pk_sub (by omega), e2] at hle
        have := (nI_leI (by omega) (by omega)).mp hle
        omega
    rw [e2]
    refine q_addWord (by omega) ?_
    refine q_addWord (by omega) ?_
    refine q_addWord (by omega) ?_
    refine q_addWord (by omega) ?_
    refine q_cont hn (by omega) (fun R5 k5 k2 => ?_)
    refine q_addWord (by omega) ?_
    have hend : S b + 1 + 1 + 1 + 1 + n + 1 = S b + (n + 5) := by omega
    rw [hend]
    have hfr : ∀ p, S a ≤ p → p < S b → rd (upd R5 ((S b + 1 + 1 + 1 + 1 + n) % 65536) (nI (n + 5))) p = rd R p := fun p p1 p2 => by
      rw [rd_upd, if_neg (by omega), k2 p (by omega) (by omega), rd_upd, if_neg (by omega), rd_upd, if_neg (by omega), rd_upd, if_neg (by omega), rd_upd, if_neg (by omega)]
    refine hG hle2 _ (hC.more (by omega) (by omega) hfr ?_ ?_) hfr ?_ ?_ ?_ (fun j hj => ?_)
    · rw [rd_upd, if_neg (by omega), k2 _ (by omega) (by omega), rd_upd, if_neg (by omega), rd_upd, if_neg (by omega), rd_upd, if_neg (by omega), rd_upd, if_pos (by omega)]
    · rw [show S b + (n + 5) - 1 = S b + 1 + 1 + 1 + 1 + n by omega, rd_upd, if_pos rfl, if_neg (by decide)]
    · rw [rd_upd, if_neg (by omega), k2 _ (by omega) (by omega), rd_upd, if_neg (by omega), rd_upd, if_neg (by omega), rd_upd, if_pos (by omega)]
    · rw [rd_upd, if_neg (by omega), k2 _ (by omega) (by omega), rd_upd, if_neg (by omega), rd_upd, if_pos (by omega)]
    · rw [rd_upd, if_neg (by omega), k2 _ (by omega) (by omega), rd_upd, if_pos (by omega)]
    · rw [rd_upd, if_neg (by omega), show S b + 4 + j = S b + 1 + 1 + 1 + 1 + j by omega]
      exact k5 j hj
  · rcases Nat.lt_or_ge (S a + 65536) (S b + n + 5) with q | q
    · exact q
    · rw [hf, pk_sub (by omega), show (65536 : Int32) = nI 65536 from rfl, pk_sub (by omega), e2] at hnle
      exact absurd (nI_le (by omega) (by omega)) hnle
theorem st_2 (hrel : Rel k (R, Bu, f, g, e, w, o, th, bu, wd, se, le, ki, ow, ol, li, vo, ba, co, fi, fo, en, cl, lf, bg, bl, O)) (h5 : 5 * k + 5 ≤ L) (hL : L ≤ 2560) : wk_2 (fun st => Rel (k + 1) st) L xs (nI (5 * k)) R Bu f g e w o th bu wd se le ki ow ol li vo ba co fi fo en cl lf bg bl O := by
  obtain ⟨S, v, a, b, hI⟩ := hrel
  have hsame := hI.mono
  have hM := hI.mf (by omega)
  unfold wk_2
  refine ⟨vk1 h5 hL, vk2 h5 hL, vk3 h5 hL, vk4 h5 hL, ?_⟩
  generalize xs (nI (5 * k) + (1 : Int32)).toNatClampNeg = x1
  generalize xs (nI (5 * k) + (2 : Int32)).toNatClampNeg = x2
  generalize xs (nI (5 * k) + (3 : Int32)).toNatClampNeg = x3
  generalize xs (nI (5 * k) + (4 : Int32)).toNatClampNeg = x4
  unfold wp_L_append
  rcases hI.oc with ⟨h1, h2⟩ | ⟨h1, h2⟩
  · unfold wp_X0_append wp_X0_requireOpen
    refine ⟨fun _ => Or.inl ⟨rfl, vk1 h5 hL, vk2 h5 hL, vk3 h5 hL, vk4 h5 hL, ?_⟩, fun hh => absurd h1 hh⟩
    exact m_app1 (by rw [h2]; decide) ⟨S, v, a, b, hsame⟩
  · obtain ⟨i1, i2, i3, i4, i5, i6, i7, i8, i9⟩ := id hI
    have hbd := i9.bound
    obtain ⟨p3, hen, ⟨c, k1, k2, k3⟩⟩ : bg = -1 ∧ en = nI (S b) ∧ ∃ c, a ≤ c ∧ c ≤ b ∧ fo = nI (S c) := by
      rcases i9 with ⟨_, _, h0, h, h', _⟩ | ⟨h, _⟩ | ⟨_, _, h, _⟩
      · exact ⟨h0, h, h'⟩
      · exact absurd (h.symm.trans h2) (by decide)
      · exact absurd (h.symm.trans h2) (by decide)
    have hee : e = en := i3.2.2.2.2.2.1
    have hb29 : S b < 2 ^ 29 := by omega
    refine c_app (by rw [h1]; decide) i6 i1 i8.2 hb29 hbd.2 i3.2.2.1 (hee.trans hen) (fun hB => Or.inr ⟨rfl, vk1 h5 hL, vk2 h5 hL, vk3 h5 hL, vk4 h5 hL, ?_⟩) (fun hB n hn hx hrm => ⟨v01, vk1 h5 hL, vk2 h5 hL, vk3 h5 hL, vk4 h5 hL, ?_⟩) (fun hB n hn hx hrm R' hR' hfr f1 f2 f3 f4 => ⟨v01, vk1 h5 hL, vk2 h5 hL, vk3 h5 hL, vk4 h5 hL, ?_⟩)
    · rw [hee] at hB
      exact m_app hM.1 hM.2.1 i1 (by omega) hb29 i3.1 i3.2.1 i3.2.2.2.1 hen h2 (fun _ => ⟨S, v, a, b, hsame⟩) (fun _ _ _ _ => ⟨S, v, a, b, hsame⟩) (fun hN => absurd hB hN)
    · rw [hee] at hB
      refine m_app hM.1 hM.2.1 i1 (by omega) hb29 i3.1 i3.2.1 i3.2.2.2.1 hen h2 (fun hN => absurd hN hB) (fun _ _ _ _ => ⟨S, v, a, b, hsame⟩) (fun _ n' hn' hx' hrm' => ?_)
      have : n' = n := (nI_eq (by omega) (by omega)).mp (hx'.symm.trans hx)
      omega
    · rw [hee] at hB
      refine m_app hM.1 hM.2.1 i1 (by omega) hb29 i3.1 i3.2.1 i3.2.2.2.1 hen h2 (fun hN => absurd hN hB) (fun n' hn' hx' hrm' => ?_) (fun _ n' hn' hx' hrm' z wd' hw1 hw2 hr => ?_)
      · have : n' = n := (nI_eq (by omega) (by omega)).mp (hx'.symm.trans hx)
        omega
      · have hnn : n' = n := (nI_eq (by omega) (by omega)).mp (hx'.symm.trans hx)
        subst hnn
        have hx3 : x3 < nI (S b) := Decidable.byContradiction (fun q => hB (Or.inr (Or.inr (Or.inr (Or.inr (Or.inr (Or.inr (Or.inr (by rw [hen]; exact q)))))))))
        obtain ⟨K, hK31, rfl⟩ := nI_of (show ¬ x1 < 0 from fun q => hB (Or.inl q))
        obtain ⟨W, hW31, rfl⟩ := nI_of (show ¬ x2 < 0 from fun q => hB (Or.inr (Or.inr (Or.inl q))))
        have hK : K < 16 := (nI_ltI hK31 (by omega)).mp (show nI K < nI 16 from Decidable.byContradiction (fun q => hB (Or.inr (Or.inl q))))
        have hW : W < 8 := (nI_ltI hW31 (by omega)).mp (show nI W < nI 8 from Decidable.byContradiction (fun q => hB (Or.inr (Or.inr (Or.inr (Or.inl q))))))
        rw [show (16 : Int32) = nI 16 from rfl, pk_mul, nI_add] at f1
        refine ⟨sx S b (n' + 5), vx v b false, a, b + 1, by omega, by omega, ⟨i3.1, rfl, by rw [sx_le i1]; exact i3.2.2.1, by rw [sx_le i1]; exact i3.2.2.2.1, i3.2.2.2.2.1, rfl, i3.2.2.2.2.2.2⟩, i4, i5, hR', i7.more (by rw [if_neg (by decide)]; rfl), i8.moreR hM.2.1 hfr hw2 hK hW f1 f2 f3 (fun j hj => by rw [f4 j hj, hw1 j hj]; exact i5.1 j (by omega)) hx3 hr, Or.inl ⟨h2, h1, p3, by rw [sx_n], ⟨c, k1, by omega, by rw [sx_le k2]; exact k3⟩, by rw [sx_n, sx_le i1]; omega, by rw [sx_n]; omega⟩⟩
end SZ
