section AN
variable {R B : Nat → Int32} {f g e w o : Int32} {O : Nat → Int64}
theorem v01 : vp_in (0 : Int32) 1 := by unfold vp_in; decide
theorem a_wordAt {post : Int32 → Prop} {x : Int32} (h : ∀ r, post r) : wp_X0_wordAt post x R B f g e w o := by
  unfold wp_X0_wordAt
  exact ⟨pk_andIn x 16 (by decide) (by decide), h _⟩
theorem a_behind {post : Int32 → Prop} {x : Int32} (h : ∀ r, post r) : wp_X0_behind post x R B f g e w o := by
  unfold wp_X0_behind
  exact a_wordAt (fun r => h _)
theorem a_isVoid {post : Int32 → Prop} {x : Int32} (h : ∀ r, post r) : wp_X0_isVoid post x R B f g e w o := by
  unfold wp_X0_isVoid
  exact a_behind (fun r => a_wordAt (fun r => ⟨fun _ => h _, fun _ => h _⟩))
theorem a_kindAt {post : Int32 → Prop} {x : Int32} (h : ∀ r, post r) : wp_X0_kindAt post x R B f g e w o := by
  unfold wp_X0_kindAt
  exact a_wordAt (fun r => h _)
theorem a_ownerAt {post : Int32 → Prop} {x : Int32} (h : ∀ r, post r) : wp_X0_ownerAt post x R B f g e w o := by
  unfold wp_X0_ownerAt
  exact a_wordAt (fun r => h _)
theorem a_contentWords {post : Int32 → Prop} {x : Int32} (h : ∀ r, post r) : wp_X0_contentWords post x R B f g e w o := by
  unfold wp_X0_contentWords
  exact a_wordAt (fun r => h _)
theorem a_stopBehind {post : Int32 → Prop} {x : Int32} (h : ∀ r, post r) : wp_X0_stopBehind post x R B f g e w o := by
  unfold wp_X0_stopBehind
  exact a_wordAt (fun r => ⟨fun _ => a_wordAt (fun r => h _), fun _ => h _⟩)
theorem a_isAskedFor {post : Int32 → Prop} {x y z : Int32} (h : ∀ r, post r) : wp_X0_isAskedFor post x y z R B f g e w o := by
  unfold wp_X0_isAskedFor
  exact a_ownerAt (fun r => ⟨fun _ => a_kindAt (fun r => ⟨fun _ => h _, fun _ => h _⟩), fun _ => h _⟩)
theorem a_13107 : ¬ ¬ (13107 : Int32) ≤ nI 13107 := fun h => h (by rw [q_13107]; exact Int32.le_refl _)
theorem a_isRecord {post : Int32 → Prop} {x : Int32} (h : ∀ r, post r) : wp_X0_isRecord post x R B f g e w o := by
  unfold wp_X0_isRecord
  have hc : ∀ y z : Int32, wc_X0_isRecord_39 post R B f g e w o x y z := fun y z => by
    unfold wc_X0_isRecord_39
    exact ⟨fun _ => ⟨fun _ => h _, fun _ => a_isVoid (fun r => ⟨fun _ => h _, fun _ => h _⟩)⟩, fun _ => h _⟩
  have key : ∀ (n c : Nat) (y : Int32), 13107 - c = n → c ≤ 13107 → wl_X0_isRecord_7 post R B f g e w o x (n + 1) y (nI c) := by
    intro n
    induction n with
    | zero =>
      intro c y hn hc'
      have : c = 13107 := by omega
      subst this
      rw [wl_X0_isRecord_7]
      exact ⟨fun _ => hc _ _, fun hh => absurd hh a_13107⟩
    | succ n ih =>
      intro c y hn hc'
      rw [wl_X0_isRecord_7]
      refine ⟨fun _ => hc _ _, fun _ => ⟨fun _ => hc _ _, fun _ => ⟨fun _ => hc _ _, fun _ => a_behind (fun r => ?_)⟩⟩⟩
      rw [nI_1]
      exact ih (c + 1) r (by omega) (by omega)
  exact ⟨13108, key 13107 0 f rfl (by omega)⟩
theorem a_frf {post : Int32 → Prop} {x : Int32} (h : ∀ r, post r) : wp_X0_firstRecordFrom post x R B f g e w o := by
  unfold wp_X0_firstRecordFrom
  have key : ∀ (n c : Nat) (y : Int32), 13107 - c = n → c ≤ 13107 → wl_X0_firstRecordFrom_4 post R B f g e w o x (n + 1) y (nI c) := by
    intro n
    induction n with
    | zero =>
      intro c y hn hc'
      have : c = 13107 := by omega
      subst this
      rw [wl_X0_firstRecordFrom_4]
      exact ⟨fun _ => h _, fun hh => absurd hh a_13107⟩
    | succ n ih =>
      intro c y hn hc'
      rw [wl_X0_firstRecordFrom_4]
      refine ⟨fun _ => h _, fun _ => ⟨fun _ => h _, fun _ => a_isVoid (fun r => ⟨fun _ => h _, fun _ => a_behind (fun r => ?_)⟩)⟩⟩
      rw [nI_1]
      exact ih (c + 1) r (by omega) (by omega)
  exact ⟨13108, key 13107 0 x rfl (by omega)⟩
theorem a_lrb {post : Int32 → Prop} {x : Int32} (h : ∀ r, post r) : wp_X0_lastRecordBefore post x R B f g e w o := by
  unfold wp_X0_lastRecordBefore
  have key : ∀ (n c : Nat) (y : Int32), 13107 - c = n → c ≤ 13107 → wl_X0_lastRecordBefore_4 post R B f g e w o x (n + 1) y (nI c) := by
    intro n
    induction n with
    | zero =>
      intro c y hn hc'
      have : c = 13107 := by omega
      subst this
      rw [wl_X0_lastRecordBefore_4]
      exact ⟨fun _ => h _, fun hh => absurd hh a_13107⟩
    | succ n ih =>
      intro c y hn hc'
      rw [wl_X0_lastRecordBefore_4]
      refine ⟨fun _ => h _, fun _ => ⟨fun _ => h _, fun _ => a_wordAt (fun r v2 _ => ⟨fun _ => ?_, fun _ => h _⟩)⟩⟩
      rw [nI_1]
      exact ih (c + 1) v2 (by omega) (by omega)
  exact ⟨13108, key 13107 0 x rfl (by omega)⟩
theorem a_lro {post : Int32 → Prop} {x : Int32} (h : ∀ r, post r) : wp_X0_lastRecordOf post x R B f g e w o := by
  unfold wp_X0_lastRecordOf
  have key : ∀ (n c : Nat) (y : Int32), 13107 - c = n → c ≤ 13107 → wl_X0_lastRecordOf_11 post R B f g e w o x (n + 1) y (nI c) := by
    intro n
    induction n with
    | zero =>
      intro c y hn hc'
      have : c = 13107 := by omega
      subst this
      rw [wl_X0_lastRecordOf_11]
      exact ⟨fun _ => h _, fun hh => absurd hh a_13107⟩
    | succ n ih =>
      intro c y hn hc'
      rw [wl_X0_lastRecordOf_11]
      refine ⟨fun _ => h _, fun _ => ⟨fun _ => h _, fun _ => a_ownerAt (fun r => ⟨fun _ => h _, fun _ => a_lrb (fun r => ?_)⟩)⟩⟩
      rw [nI_1]
      exact ih (c + 1) r (by omega) (by omega)
  exact a_lrb (fun r => ⟨13108, key 13107 0 r rfl (by omega)⟩)
theorem a_kth {post : Int32 → Prop} {x y z : Int32} (h : ∀ r, post r) : wp_X0_kthOnTheWay post x y z R B f g e w o := by
  unfold wp_X0_kthOnTheWay
  have key : ∀ (n c : Nat) (y4 y5 y6 : Int32), 13107 - c = n → c ≤ 13107 → wl_X0_kthOnTheWay_17 post R B f g e w o x y z (n + 1) y4 y5 y6 (nI c) := by
    intro n
    induction n with
    | zero =>
      intro c y4 y5 y6 hn hc'
      have : c = 13107 := by omega
      subst this
      rw [wl_X0_kthOnTheWay_17]
      exact ⟨fun _ => h _, fun hh => absurd hh a_13107⟩
    | succ n ih =>
      intro c y4 y5 y6 hn hc'
      have ih' := fun p q r => ih (c + 1) p q r (by omega) (by omega)
      rw [wl_X0_kthOnTheWay_17, nI_1]
      exact ⟨fun _ => h _, fun _ => ⟨fun _ => h _, fun _ => ⟨fun _ => h _, fun _ =>
        ⟨fun _ => a_isAskedFor (fun r => ⟨fun _ => a_stopBehind (fun r => ⟨fun _ => ih' _ _ _, fun _ => a_lrb (fun r => ih' _ _ _)⟩), fun _ => ⟨fun _ => h _, fun _ => a_stopBehind (fun r => ⟨fun _ => ih' _ _ _, fun _ => a_lrb (fun r => ih' _ _ _)⟩)⟩⟩),
         fun _ => ⟨fun _ => ih' _ _ _, fun _ => a_lrb (fun r => ih' _ _ _)⟩⟩⟩⟩⟩
  exact a_lro (fun r => ⟨13108, key 13107 0 r r z rfl (by omega)⟩)
theorem a_rec {post : St_A → Prop} {px : String → St_A → Prop} {x : Int32} (h0 : px "java/util/NoSuchElementException" (R, B, f, g, e, w, o)) (h1 : post (R, B, f, g, e, w, o)) : wp_X0_requireRecord post px x R B f g e w o := by
  unfold wp_X0_requireRecord
  exact a_isRecord (fun r => ⟨fun _ => h0, fun _ => h1⟩)
theorem a_own {post : St_A → Prop} {px : String → St_A → Prop} {x : Int32} (h0 : px "java/lang/IllegalArgumentException" (R, B, f, g, e, w, o)) (h1 : post (R, B, f, g, e, w, o)) : wp_X0_requireOwner post px x R B f g e w o := by
  unfold wp_X0_requireOwner
  exact ⟨fun _ => h0, fun _ => ⟨fun _ => h1, fun _ => h0⟩⟩
theorem a_opn {post : St_A → Prop} {px : String → St_A → Prop} (h0 : px "java/lang/IllegalStateException" (R, B, f, g, e, w, o)) (h1 : post (R, B, f, g, e, w, o)) : wp_X0_requireOpen post px R B f g e w o := by
  unfold wp_X0_requireOpen
  exact ⟨fun _ => h0, fun _ => h1⟩
/-! the law's wrappers of the reads: whatever they answer, the book stays -/
theorem n_first {P : Int32 → St_AO → Prop} (h : ∀ r O', P r (R, B, f, g, e, w, o, O')) : wp_L_first P R B f g e w o O := by
  unfold wp_L_first wp_X0_first
  exact a_opn ⟨rfl, h _ _⟩ (a_frf (fun r => ⟨v01, h _ _⟩))
theorem n_last {P : Int32 → St_AO → Prop} (h : ∀ r O', P r (R, B, f, g, e, w, o, O')) : wp_L_last P R B f g e w o O := by
  unfold wp_L_last wp_X0_last
  exact a_opn ⟨rfl, h _ _⟩ (a_lrb (fun r => ⟨v01, h _ _⟩))
theorem n_lastForced {P : Int32 → St_AO → Prop} (h : ∀ r O', P r (R, B, f, g, e, w, o, O')) : wp_L_lastForced P R B f g e w o O := by
  unfold wp_L_lastForced wp_X0_lastForced
  exact a_opn ⟨rfl, h _ _⟩ (a_lrb (fun r => ⟨v01, h _ _⟩))
theorem n_next {P : Int32 → St_AO → Prop} {x : Int32} (h : ∀ r O', P r (R, B, f, g, e, w, o, O')) : wp_L_next P x R B f g e w o O := by
  unfold wp_L_next wp_X0_next
  exact a_opn (Or.inl ⟨rfl, h _ _⟩) (a_rec (Or.inr ⟨rfl, h _ _⟩) (a_behind (fun r => a_frf (fun r => ⟨v01, h _ _⟩))))
theorem n_before {P : Int32 → St_AO → Prop} {x : Int32} (h : ∀ r O', P r (R, B, f, g, e, w, o, O')) : wp_L_before P x R B f g e w o O := by
  unfold wp_L_before wp_X0_before
  exact a_opn (Or.inl ⟨rfl, h _ _⟩) (a_rec (Or.inr ⟨rfl, h _ _⟩) (a_lrb (fun r => ⟨v01, h _ _⟩)))
theorem n_lastOf {P : Int32 → St_AO → Prop} {x : Int32} (h : ∀ r O', P r (R, B, f, g, e, w, o, O')) : wp_L_lastOf P x R B f g e w o O := by
  unfold wp_L_lastOf wp_X0_lastOf
  exact a_opn (Or.inl ⟨rfl, h _ _⟩) (a_own (Or.inr ⟨rfl, h _ _⟩) (a_lro (fun r => ⟨v01, h _ _⟩)))
theorem n_of {P : Int32 → St_AO → Prop} {x y : Int32} (h : ∀ r O', P r (R, B, f, g, e, w, o, O')) : wp_L_of P x y R B f g e w o O := by
  unfold wp_L_of wp_X0_of
  exact a_opn (Or.inl ⟨rfl, h _ _⟩) (a_rec (Or.inr (Or.inl ⟨rfl, h _ _⟩)) ⟨fun _ => a_kindAt (fun r => ⟨v01, h _ _⟩), fun _ => ⟨fun _ => a_ownerAt (fun r => ⟨v01, h _ _⟩), fun _ => ⟨fun _ => a_wordAt (fun r => ⟨v01, h _ _⟩), fun _ => ⟨fun _ => a_wordAt (fun r => ⟨v01, h _ _⟩), fun _ => ⟨fun _ => a_contentWords (fun r => ⟨v01, h _ _⟩), fun _ => Or.inr (Or.inr ⟨rfl, h _ _⟩)⟩⟩⟩⟩⟩)
theorem n_word {P : Int32 → St_AO → Prop} {x y : Int32} (h : ∀ r O', P r (R, B, f, g, e, w, o, O')) : wp_L_word P x y R B f g e w o O := by
  unfold wp_L_word wp_X0_word
  exact a_opn (Or.inl ⟨rfl, h _ _⟩) (a_rec (Or.inr (Or.inl ⟨rfl, h _ _⟩)) ⟨fun _ => Or.inr (Or.inr ⟨rfl, h _ _⟩), fun _ => a_contentWords (fun r => ⟨fun _ => a_wordAt (fun r => ⟨v01, h _ _⟩), fun _ => Or.inr (Or.inr ⟨rfl, h _ _⟩)⟩)⟩)
theorem n_back {P : Int32 → St_AO → Prop} {x y z : Int32} (h : ∀ r O', P r (R, B, f, g, e, w, o, O')) : wp_L_back P x y z R B f g e w o O := by
  unfold wp_L_back wp_X0_back
  exact a_opn (Or.inl ⟨rfl, h _ _⟩) (a_own (Or.inr ⟨rfl, h _ _⟩) ⟨fun _ => a_kth (fun r => ⟨v01, h _ _⟩), fun _ => Or.inr ⟨rfl, h _ _⟩⟩)
theorem n_count {P : Int32 → St_AO → Prop} (h : ∀ r O', P r (R, B, f, g, e, w, o, O')) : wp_L_count P R B f g e w o O := by
  unfold wp_L_count wp_X0_count
  refine a_opn ⟨rfl, h _ _⟩ (a_lrb (fun r => ?_))
  generalize hpx : (fun E9 u9 => _ : String → St_A → Prop) = px
  have key : ∀ (n c : Nat) (y1 y2 : Int32), 13107 - c = n → c ≤ 13107 → wl_X0_count_17 (fun r_1 u_1 => match u_1 with | (A_ring_1, A_buffer_1, A_firstPlace_1, A_forcedPlace_1, A_endPlace_1, A_wordsToFailure_1, A_opened_1) => vp_in (0 : Int32) 1 ∧ (P (0 : Int32) (A_ring_1, A_buffer_1, A_firstPlace_1, A_forcedPlace_1, A_endPlace_1, A_wordsToFailure_1, A_opened_1, vp_updL O (0 : Int32).toNatClampNeg r_1.toInt64))) px (n + 1) y1 y2 (nI c) R B f g e w o := by
    intro n
    induction n with
    | zero =>
      intro c y1 y2 hn hc'
      have : c = 13107 := by omega
      subst this
      rw [wl_X0_count_17]
      exact ⟨fun _ => ⟨v01, h _ _⟩, fun hh => absurd hh a_13107⟩
    | succ n ih =>
      intro c y1 y2 hn hc'
      rw [wl_X0_count_17, nI_1]
      exact ⟨fun _ => ⟨v01, h _ _⟩, fun _ => ⟨fun _ => ⟨v01, h _ _⟩, fun _ => a_lrb (fun r => ih (c + 1) _ r (by omega) (by omega))⟩⟩
  exact ⟨13108, key 13107 0 0 r rfl (by omega)⟩
end AN
