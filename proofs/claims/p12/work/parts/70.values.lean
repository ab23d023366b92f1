section VV
variable {S : Nat → Nat} {v : Nat → Bool} {a b c k L : Nat} {R Bu : Nat → Int32} {f g e w o : Int32} {bu wd se le ki ow ol li vo : Nat → Int32} {th ba co fi fo en cl lf bg bl : Int32} {O : Nat → Int64} {x : Int32}
theorem Inv.op (hI : Inv k S v a b R Bu f g e w o bu se le ol li vo ba co fi fo en cl lf bg bl) (hcl : cl = 0) : e = nI (S b) ∧ en = nI (S b) ∧ ∃ c, a ≤ c ∧ c ≤ b ∧ fo = nI (S c) ∧ g = nI (S c) := by
  obtain ⟨i1, i2, i3, i4, i5, i6, i7, i8, i9⟩ := hI
  rcases i9 with ⟨p1, p2, p3, p4, ⟨c, q1, q2, q3⟩, p6, p7⟩ | ⟨h, _⟩ | ⟨_, _, h, _⟩
  · exact ⟨i3.2.2.2.2.2.1.trans p4, p4, c, q1, q2, q3, i3.2.2.2.2.1.trans q3⟩
  · exact absurd (h.symm.trans hcl) (by decide)
  · exact absurd (h.symm.trans hcl) (by decide)
/-- what is compared: the throw's number, and the answer where none is thrown -/
def OKc (r : Int32) (O' : Nat → Int64) (r' t : Int32) : Prop := t = r ∧ (r = 0 → O' 0 = r'.toInt64)
theorem m_seekE_l {post : Int32 → Prop} {k1 M : Int32} (hR : RO S v a b se le vo) (hI : INC S a b) (h4 : b ≤ 4400) (hb : S b < 2 ^ 30) (hba : ba = nI a) (hco : co = nI b) (hM : M = nI (S b)) :
    ∀ (n j : Nat), j - a = n → a ≤ j → j ≤ b → post (sv S (fl v a j)) → wl_X1_seek_3 post th bu wd se le ki ow ol li vo ba co fi fo en cl lf bg bl k1 (-1) M (n + 1) (nI j + (-1)) := by
  intro n
  induction n with
  | zero =>
    intro j hn ha hj h
    have hja : j = a := by omega
    subst hja
    rw [fl_none (Nat.le_refl j)] at h
    have hlt : nI j + (-1) < ba := by
      rw [hba]
      cases j with
      | zero => decide
      | succ j => rw [pk_m1]; exact nI_lt (by omega) (by omega)
    have hc50 : wc_X1_seek_50 post th bu wd se le ki ow ol li vo ba co fi fo en cl lf bg bl k1 (-1) M (nI j + (-1)) := by
      unfold wc_X1_seek_50
      exact ⟨fun _ => h, fun hh => absurd hlt hh⟩
    rw [wl_X1_seek_3]
    exact ⟨fun _ => hc50, fun hh => absurd hlt hh⟩
  | succ n ih =>
    intro j hn ha hj h
    obtain ⟨i, rfl⟩ : ∃ i, j = i + 1 := ⟨j - 1, by omega⟩
    have hia : a ≤ i := by omega
    have hib : i < b := by omega
    obtain ⟨r1, r2, r3⟩ := hR i hia hib
    have hin : vp_in (nI i) 4400 := vp_in_nI (by omega) (by omega)
    have hnb : ¬ nI i < ba := by rw [hba]; exact nI_nlt hia (by omega)
    have hnc : ¬ co ≤ nI i := by rw [hco]; exact nI_ge hib (by omega)
    have hm := hI.up (i := i + 1) (by omega) (show i + 1 ≤ b by omega) (Nat.le_refl b)
    have ih' := ih i (by omega) hia (by omega)
    rw [fl, if_neg (by omega)] at h
    rw [pk_m1, wl_X1_seek_3]
    refine ⟨fun hh => absurd hh hnb, fun _ => ⟨fun hh => absurd hh hnc, fun _ => ⟨hin, ?_⟩⟩⟩
    rw [nI_clamp (by omega), r3]
    cases hv : v i
    · rw [hv, if_neg (by decide)] at h
      refine ⟨fun _ => m_endOf hR hI hia hib h4 ⟨fun _ => ?_, fun hnle => absurd (by rw [hM]; exact nI_le (by omega) (by omega)) hnle⟩, fun hh => absurd (by simp) hh⟩
      unfold wc_X1_seek_50
      refine ⟨fun hh => absurd hh hnb, fun _ => ⟨fun hh => absurd hh hnc, fun _ => ⟨hin, ?_⟩⟩⟩
      rw [nI_clamp (by omega), r1]
      exact h
    · rw [hv, if_pos rfl] at h
      exact ⟨fun hh => absurd hh (by decide), fun _ => ih' h⟩
theorem m_seekE {post : Int32 → Prop} {j : Nat} {M y : Int32} (hR : RO S v a b se le vo) (hI : INC S a b) (h4 : b ≤ 4400) (hb : S b < 2 ^ 30) (hba : ba = nI a) (hco : co = nI b) (hM : M = nI (S b)) (ha : a ≤ j) (hj : j ≤ b) (hx : y = nI j + (-1)) (h : post (sv S (fl v a j))) : wp_X1_seek post y (-1) M th bu wd se le ki ow ol li vo ba co fi fo en cl lf bg bl := by
  unfold wp_X1_seek
  rw [hx]
  exact ⟨j - a + 1, m_seekE_l hR hI h4 hb hba hco hM (j - a) j rfl ha hj h⟩
end VV
