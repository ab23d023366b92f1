/-- the phase: open; closed between records; closed with a record of T words begun, Fo words there -/
def PH (k : Nat) (S : Nat → Nat) (a b : Nat) (R : Nat → Int32) (o fo en cl bg bl : Int32) : Prop :=
  (cl = 0 ∧ o = 1 ∧ bg = -1 ∧ en = nI (S b) ∧ (∃ c, a ≤ c ∧ c ≤ b ∧ fo = nI (S c)) ∧ S b ≤ S a + 65536 ∧ S b ≤ 205 * k)
  ∨ (cl = 1 ∧ o = 0 ∧ en = fo ∧ bg = -1 ∧ fo = nI (S b) ∧ S b ≤ S a + 65536 ∧ S b ≤ 205 * k)
  ∨ ∃ T Fo : Nat, cl = 1 ∧ o = 0 ∧ en = fo ∧ bg = nI (S b) ∧ bl = nI T ∧ 5 ≤ T ∧ T ≤ 205 ∧ S b < Fo ∧ Fo < S b + T ∧ fo = nI Fo ∧ rd R (S b) = nI T ∧ S b + T ≤ S a + 65536 ∧ S b + T ≤ 205 * k
/-- class and reference, k calls done -/
def Inv (k : Nat) (S : Nat → Nat) (v : Nat → Bool) (a b : Nat) (R Bu : Nat → Int32) (f g e w o : Int32) (bu wd se le ki ow ol li vo : Nat → Int32) (ba co fi fo en cl lf bg bl : Int32) : Prop :=
  a ≤ b ∧ b ≤ k ∧ (ba = nI a ∧ co = nI b ∧ f = nI (S a) ∧ fi = nI (S a) ∧ g = fo ∧ e = en ∧ w = lf) ∧ (lf = -1 ∨ ∃ W : Nat, W < 2 ^ 31 ∧ lf = nI W) ∧ ((∀ j, j < 200 → Bu j = bu j) ∧ (cl = 1 → ∀ j, j < 200 → bu j = 0)) ∧ CH R S v a b ∧ RO S v a b se le vo ∧ LNW S v a b R wd ki ow ol li ∧ PH k S a b R o fo en cl bg bl
def Rel (k : Nat) (st : St_ABO) : Prop := match st with
  | (R, Bu, f, g, e, w, o, _, bu, wd, se, le, ki, ow, ol, li, vo, ba, co, fi, fo, en, cl, lf, bg, bl, _) => ∃ (S : Nat → Nat) (v : Nat → Bool) (a b : Nat), Inv k S v a b R Bu f g e w o bu wd se le ki ow ol li vo ba co fi fo en cl lf bg bl
section IV
variable {S : Nat → Nat} {v : Nat → Bool} {a b k : Nat} {R Bu : Nat → Int32} {f g e w o : Int32} {bu wd se le ki ow ol li vo : Nat → Int32} {th ba co fi fo en cl lf bg bl : Int32}
theorem PH.bound (h : PH k S a b R o fo en cl bg bl) : S b ≤ 205 * k ∧ S b ≤ S a + 65536 := by
  rcases h with h | h | ⟨T, Fo, h⟩
  · exact ⟨h.2.2.2.2.2.2, h.2.2.2.2.2.1⟩
  · exact ⟨h.2.2.2.2.2.2, h.2.2.2.2.2.1⟩
  · obtain ⟨_, _, _, _, _, _, _, _, _, _, _, h1, h2⟩ := h
    omega
theorem PH.mono (h : PH k S a b R o fo en cl bg bl) : PH (k + 1) S a b R o fo en cl bg bl := by
  rcases h with ⟨h1, h2, h3, h4, h5, h6, h7⟩ | ⟨h1, h2, h3, h4, h5, h6, h7⟩ | ⟨T, Fo, h1, h2, h3, h4, h5, h6, h7, h8, h9, h10, h11, h12, h13⟩
  · exact Or.inl ⟨h1, h2, h3, h4, h5, h6, by omega⟩
  · exact Or.inr (Or.inl ⟨h1, h2, h3, h4, h5, h6, by omega⟩)
  · exact Or.inr (Or.inr ⟨T, Fo, h1, h2, h3, h4, h5, h6, h7, h8, h9, h10, h11, h12, by omega⟩)
theorem Inv.mono (h : Inv k S v a b R Bu f g e w o bu wd se le ki ow ol li vo ba co fi fo en cl lf bg bl) : Inv (k + 1) S v a b R Bu f g e w o bu wd se le ki ow ol li vo ba co fi fo en cl lf bg bl := by
  obtain ⟨h1, h2, h3, h4, h5, h6, h7, h8, h9⟩ := h
  exact ⟨h1, by omega, h3, h4, h5, h6, h7, h8, h9.mono⟩
theorem Inv.mf (h : Inv k S v a b R Bu f g e w o bu wd se le ki ow ol li vo ba co fi fo en cl lf bg bl) (hk : k ≤ 512) : MF S v a b se le vo li ol ba co := by
  obtain ⟨h1, h2, h3, h4, h5, h6, h7, h8, h9⟩ := h
  have := h9.bound
  exact ⟨h7, h6.inc, h8.1, h1, by omega, by omega, h3.1, h3.2.1⟩
theorem rel0 : Rel 0 ((fun _ => 0), (fun _ => 0), 0, 0, 0, -1, 1, 0, (fun _ => 0), (fun _ => 0), (fun _ => 0), (fun _ => 0), (fun _ => 0), (fun _ => 0), (fun _ => 0), (fun _ => 0), (fun _ => 0), 0, 0, 0, 0, 0, 0, -1, -1, 0, (fun _ => 0)) := by
  refine ⟨fun _ => 0, fun _ => false, 0, 0, Nat.le_refl 0, Nat.le_refl 0, ⟨rfl, rfl, rfl, rfl, rfl, rfl, rfl⟩, Or.inl rfl, ⟨fun _ _ => rfl, fun hh => absurd hh (by decide)⟩, fun i _ hi => by omega, fun i _ hi => by omega, ⟨fun i _ hi => by omega, fun i _ hi => by omega⟩, Or.inl ⟨rfl, rfl, rfl, rfl, ⟨0, Nat.le_refl 0, Nat.le_refl 0, rfl⟩, Nat.zero_le _, Nat.zero_le _⟩⟩
end IV
