section AB
variable {bu wd se le ki ow ol li vo : Nat → Int32} {th ba co fi fo en cl lf bg bl : Int32} {S : Nat → Nat} {v : Nat → Bool} {a b : Nat}
def LNK (S : Nat → Nat) (v : Nat → Bool) (a b : Nat) (li ol : Nat → Int32) : Prop := ∀ i, a ≤ i → i < b → v i = false → li i < nI (S i) ∧ ol i < nI (S i)
/-- what the reference's reads need of its rows -/
def MF (S : Nat → Nat) (v : Nat → Bool) (a b : Nat) (se le vo li ol : Nat → Int32) (ba co : Int32) : Prop := RO S v a b se le vo ∧ INC S a b ∧ LNK S v a b li ol ∧ a ≤ b ∧ b < 4400 ∧ S b < 2 ^ 30 ∧ ba = nI a ∧ co = nI b
theorem m_refA {post : Int32 → St_B → Prop} {x1 x2 x3 : Int32} (h0 : x1 = 0 → x2 = 0 → x3 = 0 → post 0 (0, bu, wd, se, le, ki, ow, ol, li, vo, ba, co, fi, fo, en, cl, lf, bg, bl)) (h1 : ∀ t, post 1 (t, bu, wd, se, le, ki, ow, ol, li, vo, ba, co, fi, fo, en, cl, lf, bg, bl)) : wp_X1_refused post x1 x2 x3 th bu wd se le ki ow ol li vo ba co fi fo en cl lf bg bl := by
  by_cases h1' : x1 = 0
  · by_cases h2' : x2 = 0
    · by_cases h3' : x3 = 0
      · exact m_ref0 h1' h2' h3' (h0 h1' h2' h3')
      · exact m_ref3 h1' h2' h3' (h1 3)
    · exact m_ref2 h1' h2' (h1 2)
  · exact m_ref1 h1' (h1 1)
theorem b_seekF {post : Int32 → Prop} {M : Int32} {i : Nat} (hM : MF S v a b se le vo li ol ba co) (ha : a ≤ i) (hi : i ≤ b) (h : ∀ r, post r) : wp_X1_seek post (nI i) 1 M th bu wd se le ki ow ol li vo ba co fi fo en cl lf bg bl := by
  obtain ⟨hR, hI, -, hab, h4, hb, hba, hco⟩ := hM
  have hc : ∀ j : Nat, a ≤ j → j ≤ b → wc_X1_seek_50 post th bu wd se le ki ow ol li vo ba co fi fo en cl lf bg bl (nI i) 1 M (nI j) := fun j h1 h2 => by
    unfold wc_X1_seek_50
    exact ⟨fun _ => h _, fun _ => ⟨fun _ => h _, fun _ => ⟨vp_in_nI (by omega) (by omega), h _⟩⟩⟩
  have key : ∀ (n j : Nat), b - j = n → a ≤ j → j ≤ b → wl_X1_seek_3 post th bu wd se le ki ow ol li vo ba co fi fo en cl lf bg bl (nI i) 1 M (n + 1) (nI j) := by
    intro n
    induction n with
    | zero =>
      intro j hn h1 h2
      rw [wl_X1_seek_3]
      refine ⟨fun _ => hc j h1 h2, fun _ => ⟨fun _ => hc j h1 h2, fun hh => absurd (by rw [hco]; exact nI_le (by omega) (by omega)) hh⟩⟩
    | succ n ih =>
      intro j hn h1 h2
      have ih' := ih (j + 1) (by omega) (by omega) (by omega)
      rw [wl_X1_seek_3, nI_1]
      exact ⟨fun _ => hc j h1 h2, fun _ => ⟨fun _ => hc j h1 h2, fun _ => ⟨vp_in_nI (by omega) (by omega), fun _ => m_endOf hR hI h1 (by omega) (by omega) ⟨fun _ => hc j h1 h2, fun _ => ih'⟩, fun _ => ih'⟩⟩⟩
  unfold wp_X1_seek
  exact ⟨b - i + 1, key (b - i) i rfl ha hi⟩
theorem b_seekB {post : Int32 → Prop} {M x : Int32} {i : Nat} (hM : MF S v a b se le vo li ol ba co) (ha : a ≤ i) (hi : i ≤ b) (hx : x = nI i + (-1)) (h : ∀ r, post r) : wp_X1_seek post x (-1) M th bu wd se le ki ow ol li vo ba co fi fo en cl lf bg bl := by
  obtain ⟨hR, hI, -, hab, h4, hb, hba, hco⟩ := hM
  subst hx
  have hc : ∀ j : Nat, j ≤ b → wc_X1_seek_50 post th bu wd se le ki ow ol li vo ba co fi fo en cl lf bg bl (nI i + (-1)) (-1) M (nI j + (-1)) := fun j h2 => by
    unfold wc_X1_seek_50
    refine ⟨fun _ => h _, fun hnb => ⟨fun _ => h _, fun _ => ?_⟩⟩
    cases j with
    | zero => exact absurd (by rw [hba]; cases a with
        | zero => decide
        | succ a => exact Int32.lt_of_lt_of_le (by decide : (nI 0 + (-1) : Int32) < 0) (nI_pos' (by omega))) hnb
    | succ j => rw [pk_m1]; exact ⟨vp_in_nI (by omega) (by omega), h _⟩
  have key : ∀ (n j : Nat), j - a = n → a ≤ j → j ≤ b → wl_X1_seek_3 post th bu wd se le ki ow ol li vo ba co fi fo en cl lf bg bl (nI i + (-1)) (-1) M (n + 1) (nI j + (-1)) := by
    intro n
    induction n with
    | zero =>
      intro j hn h1 h2
      have : j = a := by omega
      subst this
      have hlt : nI j + (-1) < ba := by
        rw [hba]
        cases j with
        | zero => decide
        | succ j => rw [pk_m1]; exact nI_lt (by omega) (by omega)
      rw [wl_X1_seek_3]
      exact ⟨fun _ => hc j h2, fun hh => absurd hlt hh⟩
    | succ n ih =>
      intro j hn h1 h2
      obtain ⟨k, rfl⟩ : ∃ k, j = k + 1 := ⟨j - 1, by omega⟩
      have ih' := ih k (by omega) (by omega) (by omega)
      have hck := hc (k + 1) h2
      rw [pk_m1] at hck ⊢
      rw [wl_X1_seek_3]
      exact ⟨fun _ => hck, fun _ => ⟨fun _ => hck, fun _ => ⟨vp_in_nI (by omega) (by omega), fun _ => m_endOf hR hI (by omega) (by omega) (by omega) ⟨fun _ => hck, fun _ => ih'⟩, fun _ => ih'⟩⟩⟩
  unfold wp_X1_seek
  exact ⟨i - a + 1, key (i - a) i rfl ha hi⟩
theorem b_rowOf {post : Int32 → Prop} {x : Int32} (hM : MF S v a b se le vo li ol ba co) (h0 : post (-1)) (h1 : ∀ i, a ≤ i → i < b → v i = false → x = nI (S i) → post (nI i)) : wp_X1_rowOf post x th bu wd se le ki ow ol li vo ba co fi fo en cl lf bg bl := by
  obtain ⟨hR, hI, -, hab, h4, hb, hba, hco⟩ := hM
  exact m_rowOf hR hI hab (by omega) hb hba hco (fun _ => h0) h1
theorem b_latestOf {post : Int32 → Prop} {x : Int32} (hM : MF S v a b se le vo li ol ba co) (h : ∀ r, post r) : wp_X1_latestOf post x th bu wd se le ki ow ol li vo ba co fi fo en cl lf bg bl := by
  obtain ⟨hR, hI, -, hab, h4, hb, hba, hco⟩ := hM
  exact m_latestOf hR hab (by omega) hba hco (h _)
theorem n1_first {P : Int32 → St_B → Prop} (hM : MF S v a b se le vo li ol ba co) (h : ∀ r t, P r (t, bu, wd, se, le, ki, ow, ol, li, vo, ba, co, fi, fo, en, cl, lf, bg, bl)) : wp_X1_first P th bu wd se le ki ow ol li vo ba co fi fo en cl lf bg bl := by
  unfold wp_X1_first
  refine m_refA (fun _ _ _ => ⟨fun _ => ?_, fun hh => absurd rfl hh⟩) (fun t => ⟨fun hh => absurd hh (by decide), fun _ => h _ _⟩)
  rw [hM.2.2.2.2.2.2.1]
  exact b_seekF (i := a) (by have := hM; rw [hM.2.2.2.2.2.2.1] at this; exact this) (Nat.le_refl a) hM.2.2.2.1 (fun r => by rw [← hM.2.2.2.2.2.2.1]; exact h _ _)
theorem b_cm1 (hM : MF S v a b se le vo li ol ba co) : co - (1 : Int32) = nI b + (-1) := by
  rw [hM.2.2.2.2.2.2.2, Int32.sub_eq_add_neg]
theorem n1_last {P : Int32 → St_B → Prop} (hM : MF S v a b se le vo li ol ba co) (h : ∀ r t, P r (t, bu, wd, se, le, ki, ow, ol, li, vo, ba, co, fi, fo, en, cl, lf, bg, bl)) : wp_X1_last P th bu wd se le ki ow ol li vo ba co fi fo en cl lf bg bl := by
  unfold wp_X1_last
  exact m_refA (fun _ _ _ => ⟨fun _ => b_seekB hM hM.2.2.2.1 (Nat.le_refl b) (b_cm1 hM) (fun r => h _ _), fun hh => absurd rfl hh⟩) (fun t => ⟨fun hh => absurd hh (by decide), fun _ => h _ _⟩)
theorem n1_lastForced {P : Int32 → St_B → Prop} (hM : MF S v a b se le vo li ol ba co) (h : ∀ r t, P r (t, bu, wd, se, le, ki, ow, ol, li, vo, ba, co, fi, fo, en, cl, lf, bg, bl)) : wp_X1_lastForced P th bu wd se le ki ow ol li vo ba co fi fo en cl lf bg bl := by
  unfold wp_X1_lastForced
  exact m_refA (fun _ _ _ => ⟨fun _ => b_seekB hM hM.2.2.2.1 (Nat.le_refl b) (b_cm1 hM) (fun r => h _ _), fun hh => absurd rfl hh⟩) (fun t => ⟨fun hh => absurd hh (by decide), fun _ => h _ _⟩)
theorem n1_next {P : Int32 → St_B → Prop} {x : Int32} (hM : MF S v a b se le vo li ol ba co) (h : ∀ r t, P r (t, bu, wd, se, le, ki, ow, ol, li, vo, ba, co, fi, fo, en, cl, lf, bg, bl)) : wp_X1_next P x th bu wd se le ki ow ol li vo ba co fi fo en cl lf bg bl := by
  have hno : wc_X1_next_16 P x (-1) th bu wd se le ki ow ol li vo ba co fi fo en cl lf bg bl := by
    unfold wc_X1_next_16 wc_X1_next_31
    exact ⟨fun hh => absurd hh (by decide), fun _ => m_refA (fun _ hh _ => absurd hh (by decide)) (fun t => ⟨fun hh => absurd hh (by decide), fun _ => h _ _⟩)⟩
  unfold wp_X1_next
  refine ⟨fun _ => b_rowOf hM hno (fun i i1 i2 i3 i4 => ?_), fun _ => hno⟩
  unfold wc_X1_next_16 wc_X1_next_31
  have h4 := hM.2.2.2.2.1
  rw [nI_1]
  exact ⟨fun _ => m_refA (fun _ _ _ => ⟨fun _ => b_seekF hM (by omega) (by omega) (fun r => h _ _), fun hh => absurd rfl hh⟩) (fun t => ⟨fun hh => absurd hh (by decide), fun _ => h _ _⟩), fun hh => absurd (nI_pos' (by omega)) hh⟩
theorem n1_before {P : Int32 → St_B → Prop} {x : Int32} (hM : MF S v a b se le vo li ol ba co) (h : ∀ r t, P r (t, bu, wd, se, le, ki, ow, ol, li, vo, ba, co, fi, fo, en, cl, lf, bg, bl)) : wp_X1_before P x th bu wd se le ki ow ol li vo ba co fi fo en cl lf bg bl := by
  have hno : wc_X1_before_16 P x (-1) th bu wd se le ki ow ol li vo ba co fi fo en cl lf bg bl := by
    unfold wc_X1_before_16 wc_X1_before_31
    exact ⟨fun hh => absurd hh (by decide), fun _ => m_refA (fun _ hh _ => absurd hh (by decide)) (fun t => ⟨fun hh => absurd hh (by decide), fun _ => h _ _⟩)⟩
  unfold wp_X1_before
  refine ⟨fun _ => b_rowOf hM hno (fun i i1 i2 i3 i4 => ?_), fun _ => hno⟩
  unfold wc_X1_before_16 wc_X1_before_31
  have h4 := hM.2.2.2.2.1
  exact ⟨fun _ => m_refA (fun _ _ _ => ⟨fun _ => b_seekB hM i1 (by omega) (Int32.sub_eq_add_neg _ _) (fun r => h _ _), fun hh => absurd rfl hh⟩) (fun t => ⟨fun hh => absurd hh (by decide), fun _ => h _ _⟩), fun hh => absurd (nI_pos' (by omega)) hh⟩
theorem n1_lastOf {P : Int32 → St_B → Prop} {x : Int32} (hM : MF S v a b se le vo li ol ba co) (h : ∀ r t, P r (t, bu, wd, se, le, ki, ow, ol, li, vo, ba, co, fi, fo, en, cl, lf, bg, bl)) : wp_X1_lastOf P x th bu wd se le ki ow ol li vo ba co fi fo en cl lf bg bl := by
  unfold wp_X1_lastOf wc_X1_lastOf_20
  have k1 : ∀ z : Int32, wp_X1_refused (fun r_1 u_1 => match u_1 with | (t1, bu, wd, se, le, ki, ow, ol, li, vo, ba, co, fi, fo, en, cl, lf, bg, bl) => ((r_1 = (0 : Int32) → wp_X1_latestOf (fun r_2 => P r_2 (t1, bu, wd, se, le, ki, ow, ol, li, vo, ba, co, fi, fo, en, cl, lf, bg, bl)) x t1 bu wd se le ki ow ol li vo ba co fi fo en cl lf bg bl) ∧ (¬ r_1 = (0 : Int32) → P (0 : Int32) (t1, bu, wd, se, le, ki, ow, ol, li, vo, ba, co, fi, fo, en, cl, lf, bg, bl)))) cl z (0 : Int32) th bu wd se le ki ow ol li vo ba co fi fo en cl lf bg bl := fun z =>
    m_refA (fun _ _ _ => ⟨fun _ => b_latestOf hM (fun r => h _ _), fun hh => absurd rfl hh⟩) (fun t => ⟨fun hh => absurd hh (by decide), fun _ => h _ _⟩)
  exact m_in (fun _ => ⟨fun _ => k1 _, fun _ => k1 _⟩) (fun _ _ => ⟨fun _ => k1 _, fun _ => k1 _⟩)
theorem n1_count {P : Int32 → St_B → Prop} (hM : MF S v a b se le vo li ol ba co) (h : ∀ r t, P r (t, bu, wd, se, le, ki, ow, ol, li, vo, ba, co, fi, fo, en, cl, lf, bg, bl)) : wp_X1_count P th bu wd se le ki ow ol li vo ba co fi fo en cl lf bg bl := by
  unfold wp_X1_count
  have key : ∀ (n j : Nat) (y : Int32), b - j = n → a ≤ j → j ≤ b → wl_X1_count_22 P (n + 1) y (nI j) 0 bu wd se le ki ow ol li vo ba co fi fo en cl lf bg bl := by
    have h4 := hM.2.2.2.2.1
    intro n
    induction n with
    | zero =>
      intro j y hn h1 h2
      rw [wl_X1_count_22]
      exact ⟨fun _ => h _ _, fun hh => absurd (by rw [hM.2.2.2.2.2.2.2]; exact nI_le (by omega) (by omega)) hh⟩
    | succ n ih =>
      intro j y hn h1 h2
      rw [wl_X1_count_22, nI_1]
      exact ⟨fun _ => h _ _, fun _ => ⟨vp_in_nI (by omega) (by omega), fun _ => ih (j + 1) _ (by omega) (by omega) (by omega), fun _ => ih (j + 1) _ (by omega) (by omega) (by omega)⟩⟩
  refine m_refA (fun _ _ _ => ⟨fun _ => ⟨b - a + 1, ?_⟩, fun hh => absurd rfl hh⟩) (fun t => ⟨fun hh => absurd hh (by decide), fun _ => h _ _⟩)
  have h9 := key (b - a) a 0 rfl (Nat.le_refl a) hM.2.2.2.1
  rw [← hM.2.2.2.2.2.2.1] at h9
  exact h9
end AB
