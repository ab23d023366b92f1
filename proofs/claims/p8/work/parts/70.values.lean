section VV
variable {S : Nat → Nat} {v : Nat → Bool} {a b c k L : Nat} {R Bu : Nat → Int32} {f g e w o : Int32} {bu wd se le ki ow ol li vo : Nat → Int32} {th ba co fi fo en cl lf bg bl : Int32} {O : Nat → Int64} {x : Int32}
theorem Inv.op (hI : Inv k S v a b R Bu f g e w o bu se le ol li vo ba co fi fo en cl lf bg bl) (hcl : cl = 0) : e = nI (S b) ∧ en = nI (S b) ∧ ∃ c, a ≤ c ∧ c ≤ b ∧ fo = nI (S c) ∧ g = nI (S c) := by
  obtain ⟨i1, i2, i3, i4, i5, i6, i7, i8, i9⟩ := hI
  rcases i9 with ⟨p1, p2, p3, p4, ⟨c, q1, q2, q3⟩, p6, p7⟩ | ⟨h, _⟩ | ⟨_, _, h, _⟩
  · exact ⟨i3.2.2.2.2.2.1.trans p4, p4, c, q1, q2, q3, i3.2.2.2.2.1.trans q3⟩
  · exact absurd (h.symm.trans hcl) (by decide)
  · exact absurd (h.symm.trans hcl) (by decide)
/-- what is compared: the throw's number, and the answer where none is thrown -/
def OKc (r : Int32) (O' : Nat → Int64) (r' t : Int32) : Prop := t = r ∧ (r = 0 → O' 0 = r'.toInt64)
theorem l_first {P : Int32 → St_AO → Prop} (hI : Inv k S v a b R Bu f g e w o bu se le ol li vo ba co fi fo en cl lf bg bl) (hk : k < 512) (h0 : cl = 1 → P 1 (R, Bu, f, g, e, w, o, O)) (h1 : cl = 0 → P 0 (R, Bu, f, g, e, w, o, vp_updL O (0 : Int32).toNatClampNeg (sv S (ff v (b - a) a)).toInt64)) : wp_L_first P R Bu f g e w o O := by
  unfold wp_L_first wp_X0_first wp_X0_requireOpen
  rcases hI.oc with ⟨q1, q2⟩ | ⟨q1, q2⟩
  · exact ⟨fun _ => ⟨rfl, h0 q2⟩, fun hh => absurd q1 hh⟩
  · refine ⟨fun hh => absurd (q1.symm.trans hh) (by decide), fun _ => ?_⟩
    have hop := hI.op q2
    have hbd := hI.2.2.2.2.2.2.2.2.bound
    have hf : f = nI (S a) := hI.2.2.1.2.2.1
    have h1' := h1 q2
    rw [hf] at h1' ⊢
    exact q_frf hI.2.2.2.2.2.1 (Nat.le_refl a) hI.1 (by omega) hbd.2 hop.1 ⟨v01, h1'⟩
theorem u_first {P : Int32 → St_B → Prop} (hI : Inv k S v a b R Bu f g e w o bu se le ol li vo ba co fi fo en cl lf bg bl) (hk : k < 512) (h0 : cl = 1 → P 0 (1, bu, wd, se, le, ki, ow, ol, li, vo, ba, co, fi, fo, en, cl, lf, bg, bl)) (h1 : cl = 0 → P (sv S (ff v (b - a) a)) (0, bu, wd, se, le, ki, ow, ol, li, vo, ba, co, fi, fo, en, cl, lf, bg, bl)) : wp_X1_first P th bu wd se le ki ow ol li vo ba co fi fo en cl lf bg bl := by
  have hM := hI.mf (by omega)
  unfold wp_X1_first
  rcases hI.oc with ⟨q1, q2⟩ | ⟨q1, q2⟩
  · exact m_ref1 (by rw [q2]; decide) ⟨fun hh => absurd hh (by decide), fun _ => h0 q2⟩
  · obtain ⟨he, hen, -⟩ := hI.op q2
    have h1' := h1 q2
    have hba := hI.2.2.1.1
    refine m_ref0 q2 rfl rfl ⟨fun _ => ?_, fun hh => absurd rfl hh⟩
    have h9 := m_seekF (post := fun r_2 => P r_2 (0, bu, wd, se, le, ki, ow, ol, li, vo, ba, co, fi, fo, en, cl, lf, bg, bl)) (th := 0) (bu := bu) (wd := wd) (ki := ki) (ow := ow) (ol := ol) (li := li) (fi := fi) (fo := fo) (en := en) (cl := cl) (lf := lf) (bg := bg) (bl := bl) hM.1 hM.2.1 (by have := hM.2.2.2.2.1; omega) hM.2.2.2.2.2.1 hba hI.2.2.1.2.1 hen (Nat.le_refl a) hI.1 h1'
    rw [← hba] at h9
    exact h9
end VV
