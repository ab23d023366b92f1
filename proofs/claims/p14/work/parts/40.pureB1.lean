section MB
variable {bu wd se le ki ow ol li vo : Nat → Int32} {th ba co fi fo en cl lf bg bl : Int32} {S : Nat → Nat} {v : Nat → Bool} {a b : Nat}
/-- the reference's rows a .. b - 1 -/
def RO (S : Nat → Nat) (v : Nat → Bool) (a b : Nat) (se le vo : Nat → Int32) : Prop := ∀ i, a ≤ i → i < b → se i = nI (S i) ∧ le i = nI (S (i + 1) - S i) ∧ vo i = (if v i = true then 1 else 0)
def INC (S : Nat → Nat) (a b : Nat) : Prop := ∀ i, a ≤ i → i < b → S i + 5 ≤ S (i + 1) ∧ S (i + 1) ≤ S i + 205
theorem INC.up (h : INC S a b) {i : Nat} (hi : a ≤ i) : ∀ {j : Nat}, i ≤ j → j ≤ b → S i + 5 * (j - i) ≤ S j := by
  intro j hij
  induction j with
  | zero =>
    intro _
    have : i = 0 := by omega
    subst this
    simp
  | succ j ih =>
    intro hjb
    by_cases hc : i = j + 1
    · subst hc; simp
    · have h1 := ih (by omega) (by omega)
      have h2 := (h j (by omega) (by omega)).1
      omega
theorem INC.inj (h : INC S a b) {i j : Nat} (hi : a ≤ i) (hib : i < b) (hj : a ≤ j) (hjb : j < b) (e : S i = S j) : i = j := by
  rcases Nat.lt_trichotomy i j with q | q | q
  · have := h.up hi (Nat.le_of_lt q) (Nat.le_of_lt hjb); omega
  · exact q
  · have := h.up hj (Nat.le_of_lt q) (Nat.le_of_lt hib); omega
theorem CH.inc {R : Nat → Int32} (h : CH R S v a b) : INC S a b := fun i h1 h2 => ⟨(h i h1 h2).1, (h i h1 h2).2.1⟩
theorem m_endOf {post : Int32 → Prop} {i : Nat} (hR : RO S v a b se le vo) (hI : INC S a b) (ha : a ≤ i) (hb : i < b) (h4 : b ≤ 4400) (h : post (nI (S (i + 1)))) : wp_X1_endOf post (nI i) th bu wd se le ki ow ol li vo ba co fi fo en cl lf bg bl := by
  obtain ⟨r1, r2, r3⟩ := hR i ha hb
  have i1 := (hI i ha hb).1
  have hin : vp_in (nI i) 4400 := vp_in_nI (by omega) (by omega)
  unfold wp_X1_endOf
  refine ⟨hin, hin, ?_⟩
  rw [nI_clamp (by omega), r1, r2, nI_add, show S i + (S (i + 1) - S i) = S (i + 1) by omega]
  exact h
theorem m_in {post : Int32 → Prop} {x y z : Int32} (h0 : (x < y ∨ z < x) → post 0) (h1 : ¬ x < y → ¬ z < x → post 1) : wp_X1_in post x y z :=
  ⟨fun h => h0 (Or.inl h), fun h => ⟨fun h2 => h0 (Or.inr h2), fun h2 => h1 h h2⟩⟩
theorem m_rowOf_l {post : Int32 → Prop} {x : Int32} (hR : RO S v a b se le vo) (hI : INC S a b) (h4 : b ≤ 4400) (hb : S b < 2 ^ 30) (hco : co = nI b) (h0 : ¬ isr S v a b x → post (-1)) (h1 : ∀ i, a ≤ i → i < b → v i = false → x = nI (S i) → post (nI i)) :
    ∀ (n j : Nat) (y : Int32), b - j = n → a ≤ j → j ≤ b → ((y = -1 ∧ ∀ i, a ≤ i → i < j → v i = false → x ≠ nI (S i)) ∨ ∃ i, a ≤ i ∧ i < j ∧ v i = false ∧ x = nI (S i) ∧ y = nI i) → wl_X1_rowOf_7 post th bu wd se le ki ow ol li vo ba co fi fo en cl lf bg bl x (n + 1) y (nI j) := by
  intro n
  induction n with
  | zero =>
    intro j y hn ha hj hy
    have : j = b := by omega
    subst this
    rw [wl_X1_rowOf_7]
    refine ⟨fun _ => ?_, fun hh => absurd (by rw [hco]; exact Int32.le_refl _) hh⟩
    rcases hy with ⟨rfl, hno⟩ | ⟨i, i1, i2, i3, i4, rfl⟩
    · exact h0 (fun ⟨i, i1, i2, i3, i4⟩ => hno i i1 i2 i3 i4)
    · exact h1 i i1 i2 i3 i4
  | succ n ih =>
    intro j y hn ha hj hy
    have hlt : j < b := by omega
    obtain ⟨r1, r2, r3⟩ := hR j ha hlt
    have hmj := hI.up ha (Nat.le_of_lt hlt) (Nat.le_refl b)
    have hin : vp_in (nI j) 4400 := vp_in_nI (by omega) (by omega)
    rw [wl_X1_rowOf_7]
    refine ⟨fun hh => absurd hh (by rw [hco]; exact nI_ge hlt (by omega)), fun _ => ⟨hin, ?_⟩⟩
    rw [nI_clamp (by omega), r1, r3, nI_1]
    refine ⟨fun hx => ⟨hin, ?_⟩, fun hx => ?_⟩
    · cases hv : v j
      · refine ⟨fun _ => ?_, fun hh => absurd (by simp) hh⟩
        exact ih (j + 1) (nI j) (by omega) (by omega) (by omega) (Or.inr ⟨j, ha, by omega, hv, hx.symm, rfl⟩)
      · refine ⟨fun hh => absurd hh (by decide), fun _ => ?_⟩
        refine ih (j + 1) y (by omega) (by omega) (by omega) ?_
        rcases hy with ⟨rfl, hno⟩ | ⟨i, i1, i2, i3, i4, rfl⟩
        · refine Or.inl ⟨rfl, fun i i1 i2 i3 i4 => ?_⟩
          rcases Nat.lt_or_ge i j with q | q
          · exact hno i i1 q i3 i4
          · have : i = j := by omega
            subst this
            rw [hv] at i3
            cases i3
        · exact Or.inr ⟨i, i1, by omega, i3, i4, rfl⟩
    · refine ih (j + 1) y (by omega) (by omega) (by omega) ?_
      rcases hy with ⟨rfl, hno⟩ | ⟨i, i1, i2, i3, i4, rfl⟩
      · refine Or.inl ⟨rfl, fun i i1 i2 i3 i4 => ?_⟩
        rcases Nat.lt_or_ge i j with q | q
        · exact hno i i1 q i3 i4
        · have : i = j := by omega
          subst this
          exact hx i4.symm
      · exact Or.inr ⟨i, i1, by omega, i3, i4, rfl⟩
theorem m_rowOf {post : Int32 → Prop} {x : Int32} (hR : RO S v a b se le vo) (hI : INC S a b) (hab : a ≤ b) (h4 : b ≤ 4400) (hb : S b < 2 ^ 30) (hba : ba = nI a) (hco : co = nI b) (h0 : ¬ isr S v a b x → post (-1)) (h1 : ∀ i, a ≤ i → i < b → v i = false → x = nI (S i) → post (nI i)) : wp_X1_rowOf post x th bu wd se le ki ow ol li vo ba co fi fo en cl lf bg bl := by
  unfold wp_X1_rowOf
  refine ⟨b - a + 1, ?_⟩
  rw [hba]
  exact m_rowOf_l hR hI h4 hb hco h0 h1 (b - a) a (-1) rfl (Nat.le_refl a) hab (Or.inl ⟨rfl, fun i h1 h2 => by omega⟩)
/-- the last record of owner x before record j -/
def flo (v : Nat → Bool) (ow : Nat → Int32) (x : Int32) (a : Nat) : Nat → Option Nat
  | 0 => none
  | j + 1 => if j < a then none else if v j = false ∧ ow j = x then some j else flo v ow x a j
theorem flo_none {x : Int32} {j : Nat} (h : j ≤ a) : flo v ow x a j = none := by
  cases j with
  | zero => rfl
  | succ j => rw [flo, if_pos (by omega)]
theorem m_latestOf_l {post : Int32 → Prop} {x : Int32} (hR : RO S v a b se le vo) (h4 : b ≤ 4400) (hco : co = nI b) (h : post (sv S (flo v ow x a b))) :
    ∀ (n j : Nat), b - j = n → a ≤ j → j ≤ b → wl_X1_latestOf_7 post th bu wd se le ki ow ol li vo ba co fi fo en cl lf bg bl x (n + 1) (sv S (flo v ow x a j)) (nI j) := by
  intro n
  induction n with
  | zero =>
    intro j hn ha hj
    have : j = b := by omega
    subst this
    rw [wl_X1_latestOf_7]
    exact ⟨fun _ => h, fun hh => absurd (by rw [hco]; exact Int32.le_refl _) hh⟩
  | succ n ih =>
    intro j hn ha hj
    have hlt : j < b := by omega
    obtain ⟨r1, r2, r3⟩ := hR j ha hlt
    have hin : vp_in (nI j) 4400 := vp_in_nI (by omega) (by omega)
    have ih' := ih (j + 1) (by omega) (by omega) (by omega)
    rw [flo, if_neg (by omega)] at ih'
    rw [wl_X1_latestOf_7]
    refine ⟨fun hh => absurd hh (by rw [hco]; exact nI_ge hlt (by omega)), fun _ => ⟨hin, ?_⟩⟩
    rw [nI_clamp (by omega), r1, r3, nI_1]
    cases hv : v j
    · refine ⟨fun _ => ⟨hin, ?_⟩, fun hh => absurd (by simp) hh⟩
      refine ⟨fun hx => ⟨hin, ?_⟩, fun hx => ?_⟩
      · rw [if_pos ⟨hv, hx⟩] at ih'; exact ih'
      · rw [if_neg (fun q => hx q.2)] at ih'; exact ih'
    · refine ⟨fun hh => absurd hh (by decide), fun _ => ?_⟩
      rw [if_neg (fun q => by rw [hv] at q; cases q.1)] at ih'
      exact ih'
theorem m_latestOf {post : Int32 → Prop} {x : Int32} (hR : RO S v a b se le vo) (hab : a ≤ b) (h4 : b ≤ 4400) (hba : ba = nI a) (hco : co = nI b) (h : post (sv S (flo v ow x a b))) : wp_X1_latestOf post x th bu wd se le ki ow ol li vo ba co fi fo en cl lf bg bl := by
  unfold wp_X1_latestOf
  refine ⟨b - a + 1, ?_⟩
  have h9 := m_latestOf_l (post := post) (x := x) (th := th) (bu := bu) (wd := wd) (ki := ki) (ol := ol) (li := li) (ba := ba) (fi := fi) (fo := fo) (en := en) (cl := cl) (lf := lf) (bg := bg) (bl := bl) hR h4 hco h (b - a) a rfl (Nat.le_refl a) hab
  rw [flo_none (Nat.le_refl a)] at h9
  rw [hba] at h9 ⊢
  exact h9
/-- forward, nothing too far -/
theorem m_seekF_l {post : Int32 → Prop} {k1 M : Int32} (hR : RO S v a b se le vo) (hI : INC S a b) (h4 : b ≤ 4400) (hb : S b < 2 ^ 30) (hba : ba = nI a) (hco : co = nI b) (hM : M = nI (S b)) :
    ∀ (n i : Nat), b - i = n → a ≤ i → i ≤ b → post (sv S (ff v n i)) → wl_X1_seek_3 post th bu wd se le ki ow ol li vo ba co fi fo en cl lf bg bl k1 1 M (n + 1) (nI i) := by
  intro n
  induction n with
  | zero =>
    intro i hn ha hi hp
    have : i = b := by omega
    subst this
    have hle : co ≤ nI i := by rw [hco]; exact Int32.le_refl _
    have hc50 : wc_X1_seek_50 post th bu wd se le ki ow ol li vo ba co fi fo en cl lf bg bl k1 1 M (nI i) := by
      unfold wc_X1_seek_50
      exact ⟨fun _ => hp, fun _ => ⟨fun _ => hp, fun hh => absurd hle hh⟩⟩
    rw [wl_X1_seek_3]
    exact ⟨fun _ => hc50, fun _ => ⟨fun _ => hc50, fun hh => absurd hle hh⟩⟩
  | succ n ih =>
    intro i hn ha hi hp
    have hlt : i < b := by omega
    obtain ⟨r1, r2, r3⟩ := hR i ha hlt
    have hin : vp_in (nI i) 4400 := vp_in_nI (by omega) (by omega)
    have hnb : ¬ nI i < ba := by rw [hba]; exact nI_nlt ha (by omega)
    have hnc : ¬ co ≤ nI i := by rw [hco]; exact nI_ge hlt (by omega)
    have hm := hI.up (i := i + 1) (by omega) (show i + 1 ≤ b by omega) (Nat.le_refl b)
    rw [ff] at hp
    rw [wl_X1_seek_3]
    refine ⟨fun hh => absurd hh hnb, fun _ => ⟨fun hh => absurd hh hnc, fun _ => ⟨hin, ?_⟩⟩⟩
    rw [nI_clamp (by omega), r3]
    cases hv : v i
    · rw [hv, if_neg (by decide)] at hp
      refine ⟨fun _ => ?_, fun hh => absurd (by simp) hh⟩
      refine m_endOf hR hI ha hlt h4 ?_
      refine ⟨fun _ => ?_, fun hh => absurd (by rw [hM]; exact nI_le (by omega) (by omega)) hh⟩
      unfold wc_X1_seek_50
      refine ⟨fun hh => absurd hh hnb, fun _ => ⟨fun hh => absurd hh hnc, fun _ => ⟨hin, ?_⟩⟩⟩
      rw [nI_clamp (by omega), r1]
      exact hp
    · rw [hv, if_pos rfl] at hp
      refine ⟨fun hh => absurd hh (by decide), fun _ => ?_⟩
      rw [nI_1]
      exact ih (i + 1) (by omega) (by omega) (by omega) hp
theorem m_seekF {post : Int32 → Prop} {i : Nat} {M : Int32} (hR : RO S v a b se le vo) (hI : INC S a b) (h4 : b ≤ 4400) (hb : S b < 2 ^ 30) (hba : ba = nI a) (hco : co = nI b) (hM : M = nI (S b)) (ha : a ≤ i) (hi : i ≤ b) (h : post (sv S (ff v (b - i) i))) : wp_X1_seek post (nI i) 1 M th bu wd se le ki ow ol li vo ba co fi fo en cl lf bg bl := by
  unfold wp_X1_seek
  exact ⟨b - i + 1, m_seekF_l hR hI h4 hb hba hco hM (b - i) i rfl ha hi h⟩
/-- backward from before record j, records that end behind c's place passed over -/
theorem m_seekB_l {post : Int32 → Prop} {k1 M : Int32} {c : Nat} (hR : RO S v a b se le vo) (hI : INC S a b) (h4 : b ≤ 4400) (hb : S b < 2 ^ 30) (hba : ba = nI a) (hco : co = nI b) (hca : a ≤ c) (hcb : c ≤ b) (hM : M = nI (S c)) (h : post (sv S (fl v a c))) :
    ∀ (n j : Nat), j - a = n → a ≤ j → j ≤ b → (c ≤ j ∨ fl v a j = fl v a c) → wl_X1_seek_3 post th bu wd se le ki ow ol li vo ba co fi fo en cl lf bg bl k1 (-1) M (n + 1) (nI j + (-1)) := by
  intro n
  induction n with
  | zero =>
    intro j hn ha hj hcj
    have hja : j = a := by omega
    subst hja
    have hnone : fl v j c = none := by
      rcases hcj with q | q
      · exact fl_none q
      · rw [← q]; exact fl_none (Nat.le_refl j)
    rw [hnone] at h
    have hlt : nI j + (-1) < ba := by
      rw [hba]
      cases j with
      | zero => decide
      | succ j => rw [pk_m1]; exact nI_lt (by omega) (by omega)
    have hc50 : wc_X1_seek_50 post th bu wd se le ki ow ol li vo ba co fi fo en cl lf bg bl k1 (-1) M (nI j + (-1)) := by
      unfold wc_X1_seek_50
      exact ⟨fun _ => h, fun hh => absurd hlt hh⟩
    rw [wl_X1_seek_3]
    exact ⟨fun _ => hc50, fun hh => absurd hlt hh⟩
  | succ n ih =>
    intro j hn ha hj hcj
    obtain ⟨i, rfl⟩ : ∃ i, j = i + 1 := ⟨j - 1, by omega⟩
    have hia : a ≤ i := by omega
    have hib : i < b := by omega
    obtain ⟨r1, r2, r3⟩ := hR i hia hib
    have hin : vp_in (nI i) 4400 := vp_in_nI (by omega) (by omega)
    have hnb : ¬ nI i < ba := by rw [hba]; exact nI_nlt hia (by omega)
    have hnc : ¬ co ≤ nI i := by rw [hco]; exact nI_ge hib (by omega)
    have hm := hI.up (i := i + 1) (by omega) (show i + 1 ≤ b by omega) (Nat.le_refl b)
    have hmc := hI.up hca hcb (Nat.le_refl b)
    have ih' := ih i (by omega) hia (by omega)
    rw [pk_m1, wl_X1_seek_3]
    refine ⟨fun hh => absurd hh hnb, fun _ => ⟨fun hh => absurd hh hnc, fun _ => ⟨hin, ?_⟩⟩⟩
    rw [nI_clamp (by omega), r3]
    cases hv : v i
    · refine ⟨fun _ => ?_, fun hh => absurd (by simp) hh⟩
      refine m_endOf hR hI hia hib h4 ?_
      refine ⟨fun hle => ?_, fun hnle => ?_⟩
      · have hle' : S (i + 1) ≤ S c := by rw [hM] at hle; exact (nI_leI (by omega) (by omega)).mp hle
        have hic : i + 1 ≤ c := by
          rcases Nat.lt_or_ge c (i + 1) with q | q
          · have := hI.up hca (Nat.le_of_lt q) (by omega); omega
          · exact q
        have hfl : fl v a c = some i := by
          rcases hcj with q | q
          · have : c = i + 1 := by omega
            rw [this, fl, if_neg (by omega), hv, if_neg (by decide)]
          · rw [← q, fl, if_neg (by omega), hv, if_neg (by decide)]
        rw [hfl] at h
        unfold wc_X1_seek_50
        refine ⟨fun hh => absurd hh hnb, fun _ => ⟨fun hh => absurd hh hnc, fun _ => ⟨hin, ?_⟩⟩⟩
        rw [nI_clamp (by omega), r1]
        exact h
      · refine ih' ?_
        rcases Nat.lt_or_ge i c with q | q
        · exfalso
          apply hnle
          rw [hM]
          have := hI.up (i := i + 1) (by omega) (show i + 1 ≤ c by omega) hcb
          exact nI_le (by omega) (by omega)
        · exact Or.inl q
    · refine ⟨fun hh => absurd hh (by decide), fun _ => ih' ?_⟩
      rcases hcj with q | q
      · rcases Nat.lt_or_ge i c with q2 | q2
        · right
          have : c = i + 1 := by omega
          rw [this, fl, if_neg (by omega), hv, if_pos rfl]
        · exact Or.inl q2
      · right
        rw [← q, fl, if_neg (by omega), hv, if_pos rfl]
theorem m_seekB {post : Int32 → Prop} {j c : Nat} {M x : Int32} (hR : RO S v a b se le vo) (hI : INC S a b) (h4 : b ≤ 4400) (hb : S b < 2 ^ 30) (hba : ba = nI a) (hco : co = nI b) (hca : a ≤ c) (hcb : c ≤ b) (hM : M = nI (S c)) (ha : a ≤ j) (hj : j ≤ b) (hcj : c ≤ j ∨ fl v a j = fl v a c) (hx : x = nI j + (-1)) (h : post (sv S (fl v a c))) : wp_X1_seek post x (-1) M th bu wd se le ki ow ol li vo ba co fi fo en cl lf bg bl := by
  unfold wp_X1_seek
  rw [hx]
  exact ⟨j - a + 1, m_seekB_l hR hI h4 hb hba hco hca hcb hM h (j - a) j rfl ha hj hcj⟩
end MB
