section C5
variable {S : Nat → Nat} {v : Nat → Bool} {a b c k L : Nat} {R Bu : Nat → Int32} {f g e w o : Int32} {bu wd se le ki ow ol li vo : Nat → Int32} {th ba co fi fo en cl lf bg bl : Int32} {O : Nat → Int64} {xs : Nat → Int32} {x y : Int32}
theorem cmp_11 {J : St_ABO → Prop} (hI : Inv k S v a b R Bu f g e w o bu wd se le ki ow ol li vo ba co fi fo en cl lf bg bl) (hD : WD S v a b R wd ki ow ol li) (h5 : 5 * k + 5 ≤ L) (hL : L ≤ 2560) (hJ : ∀ th' O', J (R, Bu, f, g, e, w, o, th', bu, wd, se, le, ki, ow, ol, li, vo, ba, co, fi, fo, en, cl, lf, bg, bl, O')) : wk_11 J L xs (nI (5 * k)) R Bu f g e w o th bu wd se le ki ow ol li vo ba co fi fo en cl lf bg bl O := by
  unfold wk_11 wp_X1_thrown
  refine ⟨vk1 h5 hL, ?_⟩
  generalize xs (nI (5 * k) + (1 : Int32)).toNatClampNeg = x
  refine l_lastOf hI hD (by omega) (fun q => ⟨vk1 h5 hL, ?_⟩) (fun q hx => ⟨vk1 h5 hL, ?_⟩) (fun q hx1 hx2 => ⟨vk1 h5 hL, ?_⟩)
  · exact u_lastOf hI (by omega) (fun _ => cj_bad (by decide) (hJ _ _)) (fun h => no10 q h) (fun h => no10 q h)
  · exact u_lastOf hI (by omega) (fun h => no10 h q) (fun _ _ => cj_bad (by decide) (hJ _ _)) (fun _ hx1 hx2 => absurd hx (fun hh => hh.elim hx1 hx2))
  · exact u_lastOf hI (by omega) (fun h => no10 h q) (fun _ hx => absurd hx (fun hh => hh.elim hx1 hx2)) (fun _ _ _ => cj_good (hJ _ _))
end C5
