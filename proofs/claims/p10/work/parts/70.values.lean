section VV
variable {S : Nat → Nat} {v : Nat → Bool} {a b c k L : Nat} {R Bu : Nat → Int32} {f g e w o : Int32} {bu wd se le ki ow ol li vo : Nat → Int32} {th ba co fi fo en cl lf bg bl : Int32} {O : Nat → Int64} {x : Int32}
theorem Inv.op (hI : Inv k S v a b R Bu f g e w o bu se le ol li vo ba co fi fo en cl lf bg bl) (hcl : cl = 0) : e = nI (S b) ∧ en = nI (S b) ∧ ∃ c, a ≤ c ∧ c ≤ b ∧ fo = nI (S c) ∧ g = nI (S c) := by
  obtain ⟨i1, i2, i3, i4, i5, i6, i7, i8, i9⟩ := hI
  rcases i9 with ⟨p1, p2, p3, p4, ⟨c, q1, q2, q3⟩, p6, p7⟩ | ⟨h, _⟩ | ⟨_, _, h, _⟩
  · exact ⟨i3.2.2.2.2.2.1.trans p4, p4, c, q1, q2, q3, i3.2.2.2.2.1.trans q3⟩
  · exact absurd (h.symm.trans hcl) (by decide)
  · exact absurd (h.symm.trans hcl) (by decide)
/-- what is compared: the throw's number, and the answer where none is thrown -/
def OKc (r : Int32) (O' : Nat → Int64) (r' t : Int32) : Prop := t = r ∧ (r = 0 → O' 0 = r'.toInt64)
theorem l_lastForced {P : Int32 → St_AO → Prop} (hI : Inv k S v a b R Bu f g e w o bu se le ol li vo ba co fi fo en cl lf bg bl) (hk : k < 512) (h0 : cl = 1 → P 1 (R, Bu, f, g, e, w, o, O)) (h1 : cl = 0 → ∀ c, a ≤ c → c ≤ b → fo = nI (S c) → P 0 (R, Bu, f, g, e, w, o, vp_updL O (0 : Int32).toNatClampNeg (sv S (fl v a c)).toInt64)) : wp_L_lastForced P R Bu f g e w o O := by
  unfold wp_L_lastForced wp_X0_lastForced wp_X0_requireOpen
  rcases hI.oc with ⟨q1, q2⟩ | ⟨q1, q2⟩
  · exact ⟨fun _ => ⟨rfl, h0 q2⟩, fun hh => absurd q1 hh⟩
  · refine ⟨fun hh => absurd (q1.symm.trans hh) (by decide), fun _ => ?_⟩
    obtain ⟨he, -, c, c1, c2, c3, c4⟩ := hI.op q2
    have hbd := hI.2.2.2.2.2.2.2.2.bound
    have h1' := h1 q2 c c1 c2 c3
    rw [c4] at h1' ⊢
    exact q_lrb hI.2.2.2.2.2.1 c1 c2 (by omega) hbd.2 hI.2.2.1.2.2.1 ⟨v01, h1'⟩
theorem u_lastForced {P : Int32 → St_B → Prop} (hI : Inv k S v a b R Bu f g e w o bu se le ol li vo ba co fi fo en cl lf bg bl) (hk : k < 512) {c : Nat} (c1 : a ≤ c) (c2 : c ≤ b) (c3 : cl = 0 → fo = nI (S c)) (h0 : cl = 1 → P 0 (1, bu, wd, se, le, ki, ow, ol, li, vo, ba, co, fi, fo, en, cl, lf, bg, bl)) (h1 : cl = 0 → P (sv S (fl v a c)) (0, bu, wd, se, le, ki, ow, ol, li, vo, ba, co, fi, fo, en, cl, lf, bg, bl)) : wp_X1_lastForced P th bu wd se le ki ow ol li vo ba co fi fo en cl lf bg bl := by
  have hM := hI.mf (by omega)
  unfold wp_X1_lastForced
  rcases hI.oc with ⟨q1, q2⟩ | ⟨q1, q2⟩
  · exact m_ref1 (by rw [q2]; decide) ⟨fun hh => absurd hh (by decide), fun _ => h0 q2⟩
  · exact m_ref0 q2 rfl rfl ⟨fun _ => m_seekB hM.1 hM.2.1 (by have := hM.2.2.2.2.1; omega) hM.2.2.2.2.2.1 hI.2.2.1.1 hI.2.2.1.2.1 c1 c2 (c3 q2) hI.1 (Nat.le_refl b) (Or.inl c2) (b_cm1 hM) (h1 q2), fun hh => absurd rfl hh⟩
end VV
