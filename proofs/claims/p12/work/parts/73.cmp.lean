section CM
variable {S : Nat → Nat} {v : Nat → Bool} {a b c k L : Nat} {R Bu : Nat → Int32} {f g e w o : Int32} {bu wd se le ki ow ol li vo : Nat → Int32} {th ba co fi fo en cl lf bg bl : Int32} {O : Nat → Int64} {xs : Nat → Int32} {x : Int32}
theorem cj_bad {r : Int32} {X Y : Prop} {P : Prop} (hr : ¬ r = 0) (h : P) : ((r = r → ((r = (0 : Int32) → X ∧ Y) ∧ (¬ r = (0 : Int32) → P))) ∧ (¬ r = r → False)) := ⟨fun _ => ⟨fun hh => absurd hh hr, fun _ => h⟩, fun hh => hh rfl⟩
theorem cj_good {y : Int32} {P : Prop} (hP : P) : ((0 : Int32) = 0 → (((0 : Int32) = 0 → vp_in (0 : Int32) 1 ∧ (((lg_cmp (vp_updL O (0 : Int32).toNatClampNeg y.toInt64 (0 : Int32).toNatClampNeg) y.toInt64 = 0 → P) ∧ (¬ lg_cmp (vp_updL O (0 : Int32).toNatClampNeg y.toInt64 (0 : Int32).toNatClampNeg) y.toInt64 = 0 → False)))) ∧ (¬ (0 : Int32) = 0 → P))) ∧ (¬ (0 : Int32) = 0 → False) := by
  refine ⟨fun _ => ⟨fun _ => ⟨v01, fun _ => hP, fun hh => hh ?_⟩, fun _ => hP⟩, fun hh => hh rfl⟩
  rw [pk_uLs, cmp_self]
theorem no10 {P : Prop} (q : cl = 1) (h : cl = 0) : P := absurd (q.symm.trans h) (by decide)
theorem st_10 (hrel : Rel k (R, Bu, f, g, e, w, o, th, bu, wd, se, le, ki, ow, ol, li, vo, ba, co, fi, fo, en, cl, lf, bg, bl, O)) (h5 : 5 * k + 5 ≤ L) (hL : L ≤ 2560) : wk_10 (fun st => Rel (k + 1) st) L xs (nI (5 * k)) R Bu f g e w o th bu wd se le ki ow ol li vo ba co fi fo en cl lf bg bl O := by
  obtain ⟨S, v, a, b, hI⟩ := hrel
  have hsame := hI.mono
  have hM := hI.mf (by omega)
  unfold wk_10 wp_X1_thrown
  refine ⟨vk1 h5 hL, ?_⟩
  generalize xs (nI (5 * k) + (1 : Int32)).toNatClampNeg = x
  refine l_before hI (by omega) (fun q => ⟨vk1 h5 hL, ?_⟩) (fun q hno => ⟨vk1 h5 hL, ?_⟩) (fun q i j1 j2 j3 j4 => ⟨vk1 h5 hL, ?_⟩)
  · exact u_before hI (by omega) (fun _ => cj_bad (by decide) ⟨S, v, a, b, hsame⟩) (fun h => no10 q h) (fun h => no10 q h)
  · exact u_before hI (by omega) (fun h => no10 h q) (fun _ _ => cj_bad (by decide) ⟨S, v, a, b, hsame⟩) (fun _ i j1 j2 j3 j4 => absurd ⟨i, j1, j2, j3, j4⟩ hno)
  · refine u_before hI (by omega) (fun h => no10 h q) (fun _ hno => absurd ⟨i, j1, j2, j3, j4⟩ hno) (fun _ i' r1 r2 r3 r4 => ?_)
    have hii : i' = i := by
      have u1 := hM.2.1.up r1 (Nat.le_of_lt r2) (Nat.le_refl b)
      have u2 := hM.2.1.up j1 (Nat.le_of_lt j2) (Nat.le_refl b)
      have u3 := hM.2.2.2.2.2.1
      exact hM.2.1.inj r1 r2 j1 j2 ((nI_eq (by omega) (by omega)).mp (r4.symm.trans j4))
    subst hii
    exact cj_good ⟨S, v, a, b, hsame⟩
end CM
