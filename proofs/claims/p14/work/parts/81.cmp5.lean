section C5
variable {S : Nat → Nat} {v : Nat → Bool} {a b c k L : Nat} {R Bu : Nat → Int32} {f g e w o : Int32} {bu wd se le ki ow ol li vo : Nat → Int32} {th ba co fi fo en cl lf bg bl : Int32} {O : Nat → Int64} {xs : Nat → Int32} {x y : Int32}
theorem same_i (hI : Inv k S v a b R Bu f g e w o bu wd se le ki ow ol li vo ba co fi fo en cl lf bg bl) (hk : k < 512) {i j : Nat} (r1 : a ≤ i) (r2 : i < b) (r4 : x = nI (S i)) (j1 : a ≤ j) (j2 : j < b) (j4 : x = nI (S j)) : i = j := by
  have hM := hI.mf (by omega)
  have u1 := hM.2.1.up r1 (Nat.le_of_lt r2) (Nat.le_refl b)
  have u2 := hM.2.1.up j1 (Nat.le_of_lt j2) (Nat.le_refl b)
  have u3 := hM.2.2.2.2.2.1
  exact hM.2.1.inj r1 r2 j1 j2 ((nI_eq (by omega) (by omega)).mp (r4.symm.trans j4))
theorem cmp_12 {J : St_ABO → Prop} (hI : Inv k S v a b R Bu f g e w o bu wd se le ki ow ol li vo ba co fi fo en cl lf bg bl) (hD : WD S v a b R wd ki ow ol li) (h5 : 5 * k + 5 ≤ L) (hL : L ≤ 2560) (hJ : ∀ th' O', J (R, Bu, f, g, e, w, o, th', bu, wd, se, le, ki, ow, ol, li, vo, ba, co, fi, fo, en, cl, lf, bg, bl, O')) : wk_12 J L xs (nI (5 * k)) R Bu f g e w o th bu wd se le ki ow ol li vo ba co fi fo en cl lf bg bl O := by
  unfold wk_12 wp_X1_thrown
  refine ⟨vk1 h5 hL, vk2 h5 hL, ?_⟩
  generalize xs (nI (5 * k) + (1 : Int32)).toNatClampNeg = x
  generalize xs (nI (5 * k) + (2 : Int32)).toNatClampNeg = y
  refine l_of hI hD (by omega) (fun q => ⟨vk1 h5 hL, vk2 h5 hL, ?_⟩) (fun q hno => ⟨vk1 h5 hL, vk2 h5 hL, ?_⟩) (fun q hyes hy => ⟨vk1 h5 hL, vk2 h5 hL, ?_⟩) (fun q i j1 j2 j3 j4 hy => ⟨vk1 h5 hL, vk2 h5 hL, ?_⟩)
  · exact u_of hI (by omega) (fun _ => cj_bad (by decide) (hJ _ _)) (fun h => no10 q h) (fun h => no10 q h) (fun h => no10 q h)
  · exact u_of hI (by omega) (fun h => no10 h q) (fun _ _ => cj_bad (by decide) (hJ _ _)) (fun _ hyes => absurd hyes hno) (fun _ i j1 j2 j3 j4 => absurd ⟨i, j1, j2, j3, j4⟩ hno)
  · exact u_of hI (by omega) (fun h => no10 h q) (fun _ hno => absurd hyes hno) (fun _ _ _ => cj_bad (by decide) (hJ _ _)) (fun _ i j1 j2 j3 j4 hy' => absurd hy hy')
  · refine u_of hI (by omega) (fun h => no10 h q) (fun _ hno => absurd ⟨i, j1, j2, j3, j4⟩ hno) (fun _ _ hy' => absurd hy' hy) (fun _ i' r1 r2 r3 r4 _ => ?_)
    have hii : i' = i := same_i hI (by omega) r1 r2 r4 j1 j2 j4
    subst hii
    exact cj_good (hJ _ _)
end C5
