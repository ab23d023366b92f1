section SZ
variable {S : Nat → Nat} {v : Nat → Bool} {a b c k L : Nat} {R Bu : Nat → Int32} {f g e w o : Int32} {bu wd se le ki ow ol li vo : Nat → Int32} {th ba co fi fo en cl lf bg bl : Int32} {O : Nat → Int64} {xs : Nat → Int32} {x1 x2 x3 x4 : Int32}
theorem c_app {post : Int32 → St_A → Prop} {px : String → St_A → Prop} (ho : ¬ o = 0) (hC : CH R S v a b) (hab : a ≤ b) (hb : S b < 2 ^ 29) (hf : f = nI (S a)) (he : e = nI (S b))
    (h0 : BAD x1 x2 x3 x4 e → px "java/lang/IllegalArgumentException" (R, Bu, f, g, e, w, o))
    (h1 : ¬ BAD x1 x2 x3 x4 e → ∀ n : Nat, n ≤ 200 → x4 = nI n → S a + 65536 < S b + n + 5 → post (-1) (R, Bu, f, g, e, w, o))
    (h2 : ¬ BAD x1 x2 x3 x4 e → ∀ n : Nat, n ≤ 200 → x4 = nI n → S b + n + 5 ≤ S a + 65536 → ∀ R' : Nat → Int32, CH R' (sx S b (n + 5)) (vx v b false) a (b + 1) → post e (R', Bu, f, g, nI (S b + (n + 5)), w, o)) : wp_X0_append post px x1 x2 x3 x4 R Bu f g e w o := by
  unfold wp_X0_append wp_X0_requireOpen wp_X0_requireOwner
  refine ⟨fun hh => absurd hh ho, fun _ => ⟨fun q => h0 (Or.inr (Or.inr (Or.inl q))), fun a3 => ⟨fun a4 => ?_, fun q => h0 (Or.inr (Or.inr (Or.inr (Or.inl q))))⟩⟩⟩
  refine ⟨fun q => h0 (Or.inl q), fun a1 => ⟨fun a2 => ?_, fun q => h0 (Or.inr (Or.inl q))⟩⟩
  refine ⟨fun q => h0 (Or.inr (Or.inr (Or.inr (Or.inr (Or.inl q))))), fun a5 => ⟨fun a6 => ?_, fun q => h0 (Or.inr (Or.inr (Or.inr (Or.inr (Or.inr (Or.inl q))))))⟩⟩
  refine ⟨fun q => h0 (Or.inr (Or.inr (Or.inr (Or.inr (Or.inr (Or.inr (Or.inl q))))))), fun a7 => ⟨fun a8 => ?_, fun q => h0 (Or.inr (Or.inr (Or.inr (Or.inr (Or.inr (Or.inr (Or.inr q))))))) ⟩⟩
  have hB : ¬ BAD x1 x2 x3 x4 e := by
    rintro (q | q | q | q | q | q | q | q)
    · exact a1 q
    · exact q a2
    · exact a3 q
    · exact q a4
    · exact a5 q
    · exact q a6
    · exact a7 q
    · exact q a8
  obtain ⟨n, hn31, rfl⟩ := nI_of a5
  have hn : n ≤ 200 := by
    rw [q_200] at a6
    exact (nI_leI hn31 (by omega)).mp a6
  have haS := hC.le (Nat.le_refl a) hab (Nat.le_refl b)
  have e2 : nI n + (5 : Int32) = nI (n + 5) := by
    rw [show (5 : Int32) = nI 5 from rfl, nI_add]
  have hA := h1 hB n hn rfl
  have hG := h2 hB n hn rfl
  subst he
  refine ⟨fun hle => a_lro (fun r => ?_), fun hnle => hA ?_⟩
  · have hle2 : S b + n + 5 ≤ S a + 65536 := by
      rcases Nat.lt_or_ge (S a + 65536) (S b) with q | q
      · rw [hf, pk_sub (by omega), show (65536 : Int32) = nI 65536 from rfl, e2] at hle
        exact absurd (Int32.lt_of_le_of_lt hle (pk_sneg (by omega) (show 65536 < S b - S a by omega))) (nI_pos (by omega))
      · rw [hf, pk_sub (by omega), show (65536 : Int32) = nI 65536 from rfl, pk_sub (by omega), e2] at hle
        have := (nI_leI (by omega) (by omega)).mp hle
        omega
    rw [e2]
    refine q_addWord (by omega) ?_
    refine q_addWord (by omega) ?_
    refine q_addWord (by omega) ?_
    refine q_addWord (by omega) ?_
    refine q_cont hn (by omega) (fun R5 _ k2 => ?_)
    refine q_addWord (by omega) ?_
    have hend : S b + 1 + 1 + 1 + 1 + n + 1 = S b + (n + 5) := by omega
    rw [hend]
    refine hG hle2 _ ?_
    refine hC.more (by omega) (by omega) (fun p p1 p2 => ?_) ?_ ?_
    · rw [rd_upd, if_neg (by omega), k2 p (by omega) (by omega), rd_upd, if_neg (by omega), rd_upd, if_neg (by omega), rd_upd, if_neg (by omega), rd_upd, if_neg (by omega)]
    · rw [rd_upd, if_neg (by omega), k2 _ (by omega) (by omega), rd_upd, if_neg (by omega), rd_upd, if_neg (by omega), rd_upd, if_neg (by omega), rd_upd, if_pos rfl]
    · rw [show S b + (n + 5) - 1 = S b + 1 + 1 + 1 + 1 + n by omega, rd_upd, if_pos rfl, if_neg (by decide)]
  · rcases Nat.lt_or_ge (S a + 65536) (S b + n + 5) with q | q
    · exact q
    · rw [hf, pk_sub (by omega), show (65536 : Int32) = nI 65536 from rfl, pk_sub (by omega), e2] at hnle
      exact absurd (nI_le (by omega) (by omega)) hnle
end SZ
