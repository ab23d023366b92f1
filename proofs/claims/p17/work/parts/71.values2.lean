section VW
variable {S : Nat → Nat} {v : Nat → Bool} {a b c k L : Nat} {R Bu : Nat → Int32} {f g e w o : Int32} {bu wd se le ki ow ol li vo : Nat → Int32} {th ba co fi fo en cl lf bg bl : Int32} {O : Nat → Int64} {x : Int32}
/-- how many records, void ones left out, from a to before j -/
def nv (v : Nat → Bool) (a : Nat) : Nat → Nat
  | 0 => 0
  | j + 1 => if j < a then 0 else if v j = true then nv v a j else nv v a j + 1
theorem nv_low {j : Nat} (h : j ≤ a) : nv v a j = 0 := by
  cases j with
  | zero => rfl
  | succ j => rw [nv, if_pos (by omega)]
theorem nv_none : ∀ {j : Nat}, fl v a j = none → nv v a j = 0 := by
  intro j
  induction j with
  | zero => intro _; rfl
  | succ j ih =>
    intro h
    rw [fl] at h
    rw [nv]
    split
    · rfl
    · rename_i h1
      rw [if_neg h1] at h
      split at h
      · rename_i h2; rw [if_pos h2]; exact ih h
      · cases h
theorem nv_some : ∀ {j i : Nat}, fl v a j = some i → nv v a j = nv v a i + 1 := by
  intro j
  induction j with
  | zero => intro i h; cases h
  | succ j ih =>
    intro i h
    rw [fl] at h
    rw [nv]
    split at h
    · cases h
    · rename_i h1
      rw [if_neg h1]
      split at h
      · rename_i h2; rw [if_pos h2]; exact ih h
      · rename_i h2; rw [if_neg h2]; cases h; rfl
theorem q_count_l {post : Int32 → St_A → Prop} {px : String → St_A → Prop} (hC : CH R S v a b) (hb : S b < 2 ^ 30) (h16 : S b ≤ S a + 65536) (hf : f = nI (S a)) :
    ∀ (n j c : Nat), j ≤ n → a ≤ j → j ≤ b → c + j < 13107 → post (nI (c + nv v a j)) (R, Bu, f, g, e, w, o) → wl_X0_count_17 post px (n + 1) (nI c) (sv S (fl v a j)) (nI c) R Bu f g e w o := by
  intro n
  induction n with
  | zero =>
    intro j c hn ha hj hc h
    have : j = 0 := by omega
    subst this
    rw [wl_X0_count_17]
    exact ⟨fun hh => absurd hh (by rw [q_13107]; exact nI_ge (by omega) (by omega)), fun _ => ⟨fun _ => h, fun hh => absurd rfl hh⟩⟩
  | succ n ih =>
    intro j c hn ha hj hc h
    rw [wl_X0_count_17]
    refine ⟨fun hh => absurd hh (by rw [q_13107]; exact nI_ge (by omega) (by omega)), fun _ => ?_⟩
    cases hfl : fl v a j with
    | none =>
      rw [nv_none hfl] at h
      exact ⟨fun _ => h, fun hh => absurd rfl hh⟩
    | some i =>
      obtain ⟨f1, f2, f3⟩ := fl_some hfl
      have hup := hC.le f1 (show i ≤ b by omega) (Nat.le_refl b)
      refine ⟨fun hh => absurd hh (q_nneg (by omega)), fun _ => ?_⟩
      refine q_lrb hC f1 (by omega) hb h16 hf ?_
      rw [nI_1]
      refine ih i (c + 1) (by omega) f1 (by omega) (by omega) ?_
      rw [nv_some hfl] at h
      rw [show c + 1 + nv v a i = c + (nv v a i + 1) by omega]
      exact h
theorem l_count {P : Int32 → St_AO → Prop} (hI : Inv k S v a b R Bu f g e w o bu se le ol li vo ba co fi fo en cl lf bg bl) (hk : k < 512) (h0 : cl = 1 → P 1 (R, Bu, f, g, e, w, o, O)) (h1 : cl = 0 → P 0 (R, Bu, f, g, e, w, o, vp_updL O (0 : Int32).toNatClampNeg (nI (nv v a b)).toInt64)) : wp_L_count P R Bu f g e w o O := by
  unfold wp_L_count wp_X0_count wp_X0_requireOpen
  rcases hI.oc with ⟨q1, q2⟩ | ⟨q1, q2⟩
  · exact ⟨fun _ => ⟨rfl, h0 q2⟩, fun hh => absurd q1 hh⟩
  · refine ⟨fun hh => absurd (q1.symm.trans hh) (by decide), fun _ => ?_⟩
    obtain ⟨he, -⟩ := hI.op q2
    have hbd := hI.2.2.2.2.2.2.2.2.bound
    have hb5 := hI.2.1
    have h1' := h1 q2
    rw [he] at h1' ⊢
    refine q_lrb hI.2.2.2.2.2.1 hI.1 (Nat.le_refl b) (by omega) hbd.2 hI.2.2.1.2.2.1 ⟨b + 1, ?_⟩
    refine q_count_l hI.2.2.2.2.2.1 (by omega) hbd.2 hI.2.2.1.2.2.1 b b 0 (Nat.le_refl b) hI.1 (Nat.le_refl b) (by omega) ?_
    rw [Nat.zero_add]
    exact ⟨v01, h1'⟩
theorem m_count_l {P : Int32 → St_B → Prop} (hR : RO S v a b se le vo) (h4 : b ≤ 4400) (hco : co = nI b) (h : P (nI (nv v a b)) (th, bu, wd, se, le, ki, ow, ol, li, vo, ba, co, fi, fo, en, cl, lf, bg, bl)) :
    ∀ (n j : Nat), b - j = n → a ≤ j → j ≤ b → wl_X1_count_22 P (n + 1) (nI (nv v a j)) (nI j) th bu wd se le ki ow ol li vo ba co fi fo en cl lf bg bl := by
  intro n
  induction n with
  | zero =>
    intro j hn ha hj
    have : j = b := by omega
    subst this
    rw [wl_X1_count_22]
    exact ⟨fun _ => h, fun hh => absurd (by rw [hco]; exact Int32.le_refl _) hh⟩
  | succ n ih =>
    intro j hn ha hj
    obtain ⟨r1, r2, r3⟩ := hR j ha (by omega)
    have ih' := ih (j + 1) (by omega) (by omega) (by omega)
    rw [nv, if_neg (by omega)] at ih'
    rw [wl_X1_count_22]
    refine ⟨fun hh => absurd hh (by rw [hco]; exact nI_ge (by omega) (by omega)), fun _ => ⟨vp_in_nI (by omega) (by omega), ?_⟩⟩
    rw [nI_clamp (by omega), r3, nI_1, nI_1]
    cases hv : v j
    · rw [hv, if_neg (by decide)] at ih'
      exact ⟨fun _ => ih', fun hh => absurd (by simp) hh⟩
    · rw [hv, if_pos rfl] at ih'
      exact ⟨fun hh => absurd hh (by decide), fun _ => ih'⟩
theorem u_count {P : Int32 → St_B → Prop} (hI : Inv k S v a b R Bu f g e w o bu se le ol li vo ba co fi fo en cl lf bg bl) (hk : k < 512) (h0 : cl = 1 → P 0 (1, bu, wd, se, le, ki, ow, ol, li, vo, ba, co, fi, fo, en, cl, lf, bg, bl)) (h1 : cl = 0 → P (nI (nv v a b)) (0, bu, wd, se, le, ki, ow, ol, li, vo, ba, co, fi, fo, en, cl, lf, bg, bl)) : wp_X1_count P th bu wd se le ki ow ol li vo ba co fi fo en cl lf bg bl := by
  have hM := hI.mf (by omega)
  unfold wp_X1_count
  rcases hI.oc with ⟨q1, q2⟩ | ⟨q1, q2⟩
  · exact m_ref1 (by rw [q2]; decide) ⟨fun hh => absurd hh (by decide), fun _ => h0 q2⟩
  · refine m_ref0 q2 rfl rfl ⟨fun _ => ⟨b - a + 1, ?_⟩, fun hh => absurd rfl hh⟩
    have h9 := m_count_l (a := a) (th := 0) (bu := bu) (wd := wd) (ki := ki) (ow := ow) (ol := ol) (li := li) (ba := ba) (fi := fi) (fo := fo) (en := en) (cl := cl) (lf := lf) (bg := bg) (bl := bl) hM.1 (by have := hM.2.2.2.2.1; omega) hI.2.2.1.2.1 (h1 q2) (b - a) a rfl (Nat.le_refl a) hI.1
    rw [nv_low (Nat.le_refl a), ← hI.2.2.1.1] at h9
    exact h9
end VW
