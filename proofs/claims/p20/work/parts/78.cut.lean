section CS
variable {S : Nat → Nat} {v : Nat → Bool} {a b c k L : Nat} {R Bu : Nat → Int32} {f g e w o : Int32} {bu wd se le ki ow ol li vo : Nat → Int32} {th ba co fi fo en cl lf bg bl : Int32} {O : Nat → Int64} {xs : Nat → Int32}
theorem st_18 (hrel : Rel k (R, Bu, f, g, e, w, o, th, bu, wd, se, le, ki, ow, ol, li, vo, ba, co, fi, fo, en, cl, lf, bg, bl, O)) (h5 : 5 * k + 5 ≤ L) (hL : L ≤ 2560) : wk_18 (fun st => Rel (k + 1) st) L xs (nI (5 * k)) R Bu f g e w o th bu wd se le ki ow ol li vo ba co fi fo en cl lf bg bl O := by
  obtain ⟨S, v, a, b, hI⟩ := hrel
  have hM := hI.mf (by omega)
  unfold wk_18 wp_X0_cut wp_X1_cut
  have hsame := hI.mono
  have hclosed : cl = 1 → o = 0 → _ := fun (_ : cl = 1) (_ : o = 0) => (⟨S, v, a, b, hsame⟩ : Rel (k + 1) (R, Bu, f, g, e, w, o, 0, bu, wd, se, le, ki, ow, ol, li, vo, ba, co, fi, fo, en, cl, lf, bg, bl, O))
  have hI' := hI
  obtain ⟨i1, i2, i3, i4, i5, i6, i7, i8, i9⟩ := hI
  rcases i9 with ⟨p1, p2, p3, p4, ⟨c, q1, q2, q3⟩, p6, p7⟩ | ⟨p1, p2, _⟩ | ⟨_, _, p1, p2, _⟩
  · refine ⟨fun hh => absurd (p2.symm.trans hh) (by decide), fun _ => q_lose (fun Bz hz => ⟨fun _ => ?_, fun hh => absurd p1 hh⟩)⟩
    have hup := i6.le q1 q2 (Nat.le_refl b)
    refine m_fail (c := c) (Fo := S c) hM.1 hM.2.1 (by omega) (by omega) i3.1 i3.2.1 q3 q1 q2 (Nat.le_refl _) (by omega) (fun hcb => by have := (i6 c q1 hcb).1; omega) (fun bz hz2 => ct ⟨S, v, a, c, ?_⟩)
    have h9 := fail_inv (F := S c) hI' q1 q2 (Nat.le_refl _) (by omega) (fun hcb => by have := (i6 c q1 hcb).1; omega) hz hz2
    rw [p3, i3.2.2.2.2.1, q3]
    exact h9
  · exact ⟨fun _ => ⟨fun hh => absurd (p1.symm.trans hh) (by decide), fun _ => ct (hclosed p1 p2)⟩, fun hh => absurd p2 hh⟩
  · exact ⟨fun _ => ⟨fun hh => absurd (p1.symm.trans hh) (by decide), fun _ => ct (hclosed p1 p2)⟩, fun hh => absurd p2 hh⟩
end CS
