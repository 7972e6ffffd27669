/-! ===== the places of the grammar, every token being right ===== -/
def e_ok (g : ZT) : Prop := (∀ i, i < g.1 → (e_step g i (e_st g i)).1 = true) ∧ e_st g g.1 = (0, [])
theorem e_ok_of {g : ZT} (h : e_R g 0 (0, []) = none) (hs : ∀ i, i < g.1 → (e_step g i (e_st g i)).1 = true) : e_ok g := by
  refine ⟨hs, ?_⟩
  have : ∀ t, t ≤ g.1 → e_R g t (e_st g t) = none := by
    intro t
    induction t with
    | zero => intro _; exact h
    | succ t ih =>
      intro ht
      have := ih (by omega)
      rw [e_R_go (by omega), if_pos (hs t (by omega))] at this
      exact this
  have h2 := this g.1 (Nat.le_refl _)
  rw [e_R_end rfl] at h2
  by_cases q : (e_st g g.1).1 = 0 ∧ (e_st g g.1).2 = []
  · exact Prod.ext q.1 q.2
  · rw [if_neg q] at h2
    cases h2
/-- the first byte of a token -/
def e_b0 (g : ZT) (t : Nat) : Int32 := g.2.1 (g.2.2.1 t)
theorem e_mark_b0 {g : ZT} {t : Nat} {m : Int32} (h : e_mark g t m = true) : t < g.1 ∧ e_b0 g t = m := by
  rw [e_mark, k_mark, Bool.and_eq_true, decide_eq_true_eq, decide_eq_true_eq] at h
  exact h
theorem e_mark_iff {g : ZT} {t : Nat} {m : Int32} (ht : t < g.1) : e_mark g t m = decide (e_b0 g t = m) := by
  rw [e_mark, k_mark, decide_eq_true ht, Bool.true_and]
  rfl
theorem z_nam_b0 {B : Nat → Int32} {u v : Nat} {f : Int32} (h : z_nam B u v f = true) : f ≤ B u ∧ B u ≤ f + 25 := by
  simp only [z_nam, Bool.and_eq_true, decide_eq_true_eq] at h
  exact ⟨h.2.2.1, h.2.2.2.1⟩
theorem e_nam_b0 {g : ZT} {t : Nat} {f : Int32} (h : e_nam g t f = true) : t < g.1 ∧ f ≤ e_b0 g t ∧ e_b0 g t ≤ f + 25 := by
  rw [e_nam, k_nam, Bool.and_eq_true, decide_eq_true_eq] at h
  have h2 := z_nam_b0 h.2
  exact ⟨h.1, h2⟩
theorem e_word_b0 {g : ZT} {t : Nat} {c : Int32} {w : List Int32} (h : e_word g t (c :: w) = true) : t < g.1 ∧ e_b0 g t = c := by
  rw [e_word, k_word, Bool.and_eq_true, decide_eq_true_eq] at h
  have := (z_txt_get h.2).2 0 (by simp)
  rw [Nat.add_zero] at this
  exact ⟨h.1, this⟩
theorem e_typ_b0 {g : ZT} {t : Nat} (h : e_typ g t = true) : t < g.1 ∧ (e_b0 g t = 105 ∨ ((65 : Int32) ≤ e_b0 g t ∧ e_b0 g t ≤ 65 + 25)) := by
  rw [e_typ, k_typ, Bool.and_eq_true, decide_eq_true_eq, Bool.or_eq_true] at h
  refine ⟨h.1, h.2.imp (fun q => ?_) (fun q => ?_)⟩
  · have := (z_txt_get q).2 0 (by simp)
    rw [Nat.add_zero] at this
    exact this
  · have := z_nam_b0 q
    exact this
theorem e_ref_b0 {g : ZT} {t : Nat} (h : e_ref g t = true) : t < g.1 ∧ (65 : Int32) ≤ e_b0 g t ∧ e_b0 g t ≤ 65 + 25 := by
  rw [e_ref, k_ref, Bool.and_eq_true, decide_eq_true_eq, Bool.and_eq_true] at h
  have h2 := z_nam_b0 h.2.1
  exact ⟨h.1, h2⟩
theorem e_num_b0 {g : ZT} {t : Nat} (h : e_num g t = true) : t < g.1 ∧ (e_b0 g t = 45 ∨ ((48 : Int32) ≤ e_b0 g t ∧ e_b0 g t ≤ 57)) := by
  simp only [e_num, k_num, Bool.and_eq_true, decide_eq_true_eq] at h
  obtain ⟨h1, h2, h3, h4⟩ := h
  refine ⟨h1, ?_⟩
  by_cases q : e_b0 g t = 45
  · exact Or.inl q
  · right
    have hl : k_lo g.2.1 g.2.2.1 t = g.2.2.1 t := by rw [k_lo, if_neg (show ¬ g.2.1 (g.2.2.1 t) = 45 from q)]
    rw [hl] at h2 h4
    obtain ⟨m, hm⟩ : ∃ m, g.2.2.2 t - g.2.2.1 t = m + 1 := ⟨g.2.2.2 t - g.2.2.1 t - 1, by omega⟩
    rw [hm, z_ff] at h4
    by_cases d : z_dig (g.2.1 (g.2.2.1 t)) = true
    · rw [z_dig, Bool.and_eq_true, decide_eq_true_eq, decide_eq_true_eq] at d
      exact d
    · rw [if_neg d] at h4
      cases h4
theorem e_rng {x lo hi m : Int32} (h1 : lo ≤ x) (h2 : x ≤ hi) (h : hi < m ∨ m < lo) : x ≠ m := by
  intro e
  rw [e] at h1 h2
  rw [Int32.le_iff_toInt_le] at h1 h2
  rw [Int32.lt_iff_toInt_lt, Int32.lt_iff_toInt_lt] at h
  omega
/-- a part that is not a mark -/
theorem e_okp_b0 {g : ZT} {t : Nat} {c : Int32} (h : e_okp g t c = true) (hc : c ≠ 80) (hm : c ≠ 125) : e_b0 g t ≠ 125 ∧ (e_b0 g t = 123 ↔ c = 123) := by
  have key : ∀ {f : Int32}, (f = 65 ∨ f = 97) → e_nam g t f = true → e_b0 g t ≠ 125 ∧ e_b0 g t ≠ 123 := by
    intro f hf hn
    have := (e_nam_b0 hn).2
    rcases hf with rfl | rfl
    · exact ⟨e_rng this.1 this.2 (by decide), e_rng this.1 this.2 (by decide)⟩
    · exact ⟨e_rng this.1 this.2 (by decide), e_rng this.1 this.2 (by decide)⟩
  have keyw : ∀ {d : Int32} {w : List Int32}, (d ≠ 125 ∧ d ≠ 123) → e_word g t (d :: w) = true → e_b0 g t ≠ 125 ∧ e_b0 g t ≠ 123 := by
    intro d w hd hn
    rw [(e_word_b0 hn).2]
    exact hd
  have keyt : e_typ g t = true → e_b0 g t ≠ 125 ∧ e_b0 g t ≠ 123 := by
    intro hn
    rcases (e_typ_b0 hn).2 with q | q
    · rw [q]; decide
    · exact ⟨e_rng q.1 q.2 (by decide), e_rng q.1 q.2 (by decide)⟩
  have fin : c ≠ 123 → (e_b0 g t ≠ 125 ∧ e_b0 g t ≠ 123) → e_b0 g t ≠ 125 ∧ (e_b0 g t = 123 ↔ c = 123) := fun q x => ⟨x.1, ⟨fun y => absurd y x.2, fun y => absurd y q⟩⟩
  rw [e_okp] at h
  by_cases c1 : c = 67
  · rw [if_pos c1] at h
    exact fin (by rw [c1]; decide) (key (Or.inl rfl) h)
  rw [if_neg c1] at h
  by_cases c2 : c = 69
  · rw [if_pos c2, Bool.or_eq_true] at h
    exact fin (by rw [c2]; decide) (h.elim (key (Or.inl rfl)) (keyw (by decide)))
  rw [if_neg c2] at h
  by_cases c3 : c = 70
  · rw [if_pos c3] at h
    have q := (e_ref_b0 h).2
    exact fin (by rw [c3]; decide) ⟨e_rng q.1 q.2 (by decide), e_rng q.1 q.2 (by decide)⟩
  rw [if_neg c3] at h
  by_cases c4 : c = 78
  · rw [if_pos c4] at h
    refine fin (by rw [c4]; decide) ?_
    rcases (e_num_b0 h).2 with q | q
    · rw [q]; decide
    · exact ⟨e_rng q.1 q.2 (by decide), e_rng q.1 q.2 (by decide)⟩
  rw [if_neg c4, if_neg hc] at h
  by_cases c6 : c = 82
  · rw [if_pos c6, Bool.or_eq_true] at h
    exact fin (by rw [c6]; decide) (h.elim keyt (keyw (by decide)))
  rw [if_neg c6] at h
  by_cases c7 : c = 84
  · rw [if_pos c7] at h
    exact fin (by rw [c7]; decide) (keyt h)
  rw [if_neg c7] at h
  by_cases c8 : c = 89
  · rw [if_pos c8, Bool.and_eq_true] at h
    exact fin (by rw [c8]; decide) (keyt h.1)
  rw [if_neg c8] at h
  by_cases c9 : c = 110
  · rw [if_pos c9] at h
    exact fin (by rw [c9]; decide) (key (Or.inr rfl) h)
  rw [if_neg c9] at h
  by_cases c10 : c = 111
  · rw [if_pos c10] at h
    exact fin (by rw [c10]; decide) (keyw (by decide) h)
  rw [if_neg c10] at h
  rw [(e_mark_b0 h).2]
  exact ⟨hm, Iff.rfl⟩
theorem e_ops_nm (op : Int32) : ∀ c ∈ e_ops op, c ≠ 125 ∧ c ≠ 80 ∧ c ≠ 123 := by
  rw [e_ops]
  repeat' split
  all_goals decide
theorem e_line_nm (g : ZT) (t : Nat) : ∀ c ∈ (e_line g t).2.2, c ≠ 125 ∧ c ≠ 80 ∧ c ≠ 123 := by
  rw [e_line]
  split
  · show ∀ c ∈ ([58] : List Int32), _
    decide
  · split
    · show ∀ c ∈ ([110, 110, 110, 67] : List Int32), _
      decide
    · split
      · exact e_ops_nm _
      · show ∀ c ∈ ([58] : List Int32), _
        decide
theorem e_mem_nm (g : ZT) (t : Nat) : ∀ c ∈ (e_mem g t).2.2, c ≠ 125 := by
  rw [e_mem]
  split
  · decide
  · split
    · decide
    · show ∀ c ∈ ([110, 40, 80, 82, 78, 123] : List Int32), _
      decide
theorem e_step_nm (g : ZT) (t : Nat) (s : Nat × List Int32) (h : ∀ c ∈ s.2, c ≠ 125) : ∀ c ∈ (e_step g t s).2.2.2, c ≠ 125 := by
  obtain ⟨l, cs⟩ := s
  cases cs with
  | cons c cs =>
    unfold e_step
    show ∀ x ∈ (if c = 80 ∧ e_mark g t 41 = false then _ else _ : Bool × Int32 × Nat × List Int32).2.2.2, x ≠ 125
    split
    · exact h
    · exact fun x hx => h x (List.mem_cons_of_mem _ hx)
  | nil =>
    unfold e_step
    show ∀ x ∈ (if 0 < l ∧ e_mark g t 125 = true then _ else if l = 0 then _ else if l = 1 then _ else _ : Bool × Int32 × Nat × List Int32).2.2.2, x ≠ 125
    split
    · exact h
    · split
      · show ∀ x ∈ ([67, 111, 67, 123] : List Int32), x ≠ 125
        decide
      · split
        · exact e_mem_nm g t
        · exact fun x hx => (e_line_nm g t x hx).1
theorem e_st_nm (g : ZT) : ∀ t, ∀ c ∈ (e_st g t).2, c ≠ 125
  | 0 => by intro c hc; cases hc
  | t + 1 => e_step_nm g t _ (e_st_nm g t)
theorem e_line_nam {g : ZT} {t : Nat} (h : (e_line g t).1 = true) : e_nam g t 97 = true := by
  rw [e_line] at h
  split at h
  · exact h
  · split at h
    · exact h
    · split at h
      · next q => exact q.1
      · exact h
section EPOS
variable {g : ZT}
theorem e_part {t l : Nat} {c : Int32} {cs : List Int32} (ho : e_ok g) (ht : t ≤ g.1) (h : e_st g t = (l, c :: cs)) (hc : c ≠ 80) : t < g.1 ∧ e_okp g t c = true ∧ e_st g (t + 1) = (l + (if c = 123 then 1 else 0), cs) ∧ e_kind g t = 53 := by
  have hlt : t < g.1 := by
    rcases Nat.lt_or_ge t g.1 with q | q
    · exact q
    · have e : t = g.1 := by omega
      rw [e, ho.2] at h
      cases h
  have hs : e_step g t (l, c :: cs) = (e_okp g t c, 53, l + (if c = 123 then 1 else 0), cs) := by
    unfold e_step
    show (if c = 80 ∧ e_mark g t 41 = false then _ else _) = _
    rw [if_neg (fun x => hc x.1)]
  have h1 := ho.1 t hlt
  rw [h, hs] at h1
  refine ⟨hlt, h1, ?_, ?_⟩
  · rw [e_st, h, hs]
  · rw [e_kind, h, hs]
theorem e_at0 {t : Nat} (ho : e_ok g) (ht : t < g.1) (h : e_st g t = (0, [])) : e_word g t w_class = true ∧ e_kind g t = 48 ∧ e_st g (t + 1) = (0, [67, 111, 67, 123]) := by
  have hs : e_step g t (0, []) = (e_word g t w_class, 48, 0, [67, 111, 67, 123]) := rfl
  have h1 := ho.1 t ht
  rw [h, hs] at h1
  refine ⟨h1, ?_, ?_⟩
  · rw [e_kind, h, hs]
  · rw [e_st, h, hs]
theorem e_atc {t l : Nat} (ho : e_ok g) (hl : 0 < l) (h : e_st g t = (l, [])) (hm : e_mark g t 125 = true) : t < g.1 ∧ e_kind g t = (if l = 2 then 52 else 53) ∧ e_st g (t + 1) = (l - 1, []) := by
  have hs : e_step g t (l, []) = (true, (if l = 2 then 52 else 53), l - 1, []) := by
    unfold e_step
    show (if 0 < l ∧ e_mark g t 125 = true then _ else _) = _
    rw [if_pos ⟨hl, hm⟩]
  refine ⟨(e_mark_b0 hm).1, ?_, ?_⟩
  · rw [e_kind, h, hs]
  · rw [e_st, h, hs]
theorem e_at1 {t : Nat} (ho : e_ok g) (ht : t ≤ g.1) (h : e_st g t = (1, [])) (hm : e_mark g t 125 = false) : t < g.1 ∧ (e_mem g t).1 = true ∧ e_kind g t = (e_mem g t).2.1 ∧ e_st g (t + 1) = (1, (e_mem g t).2.2) := by
  have hlt : t < g.1 := by
    rcases Nat.lt_or_ge t g.1 with q | q
    · exact q
    · have e : t = g.1 := by omega
      rw [e, ho.2] at h
      cases h
  have hs : e_step g t (1, []) = ((e_mem g t).1, (e_mem g t).2.1, 1, (e_mem g t).2.2) := by
    unfold e_step
    show (if 0 < 1 ∧ e_mark g t 125 = true then _ else if 1 = 0 then _ else if 1 = 1 then _ else _) = _
    rw [if_neg (by rw [hm]; simp), if_neg (by omega), if_pos rfl]
  have h1 := ho.1 t hlt
  rw [h, hs] at h1
  refine ⟨hlt, h1, ?_, ?_⟩
  · rw [e_kind, h, hs]
  · rw [e_st, h, hs]
theorem e_at2 {t : Nat} (ho : e_ok g) (ht : t ≤ g.1) (h : e_st g t = (2, [])) (hm : e_mark g t 125 = false) : t < g.1 ∧ (e_line g t).1 = true ∧ e_kind g t = (e_line g t).2.1 ∧ e_st g (t + 1) = (2, (e_line g t).2.2) := by
  have hlt : t < g.1 := by
    rcases Nat.lt_or_ge t g.1 with q | q
    · exact q
    · have e : t = g.1 := by omega
      rw [e, ho.2] at h
      cases h
  have hs : e_step g t (2, []) = ((e_line g t).1, (e_line g t).2.1, 2, (e_line g t).2.2) := by
    unfold e_step
    show (if 0 < 2 ∧ e_mark g t 125 = true then _ else if 2 = 0 then _ else if 2 = 1 then _ else _) = _
    rw [if_neg (by rw [hm]; simp), if_neg (by omega), if_neg (by omega)]
  have h1 := ho.1 t hlt
  rw [h, hs] at h1
  refine ⟨hlt, h1, ?_, ?_⟩
  · rw [e_kind, h, hs]
  · rw [e_st, h, hs]
/-- inside the parameters -/
theorem e_atP {t l : Nat} {cs : List Int32} (ho : e_ok g) (ht : t ≤ g.1) (h : e_st g t = (l, 80 :: cs)) : t < g.1 ∧ e_kind g t = 53 ∧ ((e_mark g t 41 = true ∧ e_st g (t + 1) = (l, cs)) ∨ (e_mark g t 41 = false ∧ e_typ g t = true ∧ e_st g (t + 1) = (l, 80 :: cs))) := by
  have hlt : t < g.1 := by
    rcases Nat.lt_or_ge t g.1 with q | q
    · exact q
    · have e : t = g.1 := by omega
      rw [e, ho.2] at h
      cases h
  have h1 := ho.1 t hlt
  by_cases m : e_mark g t 41 = true
  · have hs : e_step g t (l, 80 :: cs) = (true, 53, l, cs) := by
      unfold e_step
      show (if (80 : Int32) = 80 ∧ e_mark g t 41 = false then _ else _) = _
      rw [if_neg (fun x => by rw [m] at x; cases x.2)]
      rfl
    refine ⟨hlt, ?_, Or.inl ⟨m, ?_⟩⟩
    · rw [e_kind, h, hs]
    · rw [e_st, h, hs]
  · have m' := Bool.eq_false_iff.mpr m
    have hs : e_step g t (l, 80 :: cs) = (e_typ g t, 53, l, 80 :: cs) := by
      unfold e_step
      show (if (80 : Int32) = 80 ∧ e_mark g t 41 = false then _ else _) = _
      rw [if_pos ⟨rfl, m'⟩]
    rw [h, hs] at h1
    refine ⟨hlt, ?_, Or.inr ⟨m', h1, ?_⟩⟩
    · rw [e_kind, h, hs]
    · rw [e_st, h, hs]
/-- how many are open -/
theorem e_bal {t : Nat} (ho : e_ok g) (ht : t < g.1) : (e_st g (t + 1)).1 + (if e_mark g t 125 = true then 1 else 0) = (e_st g t).1 + (if e_mark g t 123 = true then 1 else 0) ∧ (e_mark g t 125 = true → (e_st g (t + 1)).2 = []) ∧ (e_mark g t 123 = true → e_mark g t 125 = false) := by
  have hm : ∀ m, e_mark g t m = decide (e_b0 g t = m) := fun m => e_mark_iff ht
  have no : e_b0 g t ≠ 125 → e_b0 g t ≠ 123 → (e_st g (t + 1)).1 = (e_st g t).1 → (e_st g (t + 1)).1 + (if e_mark g t 125 = true then 1 else 0) = (e_st g t).1 + (if e_mark g t 123 = true then 1 else 0) ∧ (e_mark g t 125 = true → (e_st g (t + 1)).2 = []) ∧ (e_mark g t 123 = true → e_mark g t 125 = false) := by
    intro h1 h2 h3
    rw [hm, hm, decide_eq_false h1, decide_eq_false h2, h3]
    simp
  rcases hst : e_st g t with ⟨l, s⟩
  cases s with
  | cons c cs =>
    have hc125 : c ≠ 125 := e_st_nm g t c (by rw [hst]; exact List.mem_cons_self)
    by_cases hc : c = 80
    · subst hc
      rcases (e_atP ho (Nat.le_of_lt ht) hst).2.2 with ⟨q1, q2⟩ | ⟨q1, q2, q3⟩
      · have := (e_mark_b0 q1).2
        rw [← hst]
        exact no (by rw [this]; decide) (by rw [this]; decide) (by rw [q2, hst])
      · rw [← hst]
        rcases (e_typ_b0 q2).2 with x | x
        · exact no (by rw [x]; decide) (by rw [x]; decide) (by rw [q3, hst])
        · exact no (e_rng x.1 x.2 (by decide)) (e_rng x.1 x.2 (by decide)) (by rw [q3, hst])
    · obtain ⟨q1, q2, q3, -⟩ := e_part ho (Nat.le_of_lt ht) hst hc
      obtain ⟨x1, x2⟩ := e_okp_b0 q2 hc hc125
      rw [q3, hm, hm, decide_eq_false x1]
      refine ⟨?_, fun y => (by cases y), fun _ => rfl⟩
      by_cases c3 : c = 123
      · rw [if_pos c3, decide_eq_true (x2.mpr c3)]
        simp
      · rw [if_neg c3, decide_eq_false (fun y => c3 (x2.mp y))]
        simp
  | nil =>
    by_cases q : 0 < l ∧ e_mark g t 125 = true
    · obtain ⟨y1, -, y2⟩ := e_atc ho q.1 hst q.2
      have := (e_mark_b0 q.2).2
      have h3 : e_mark g t 123 = false := by rw [hm, this]; decide
      rw [y2, q.2, h3]
      refine ⟨?_, fun _ => rfl, fun y => by cases y⟩
      simp only [if_true, Bool.false_eq_true, if_false]
      omega
    · have h1 := ho.1 t ht
      rw [hst] at h1
      rw [← hst]
      have hs : e_step g t (l, []) = (if l = 0 then (e_word g t w_class, 48, 0, [67, 111, 67, 123]) else if l = 1 then ((e_mem g t).1, (e_mem g t).2.1, 1, (e_mem g t).2.2) else ((e_line g t).1, (e_line g t).2.1, l, (e_line g t).2.2)) := by
        unfold e_step
        show (if 0 < l ∧ e_mark g t 125 = true then _ else _) = _
        rw [if_neg q]
      have hnx : e_st g (t + 1) = (e_step g t (l, [])).2.2 := by rw [e_st, hst]
      by_cases l0 : l = 0
      · rw [hs, if_pos l0] at h1
        have := (e_word_b0 h1).2
        exact no (by rw [this]; decide) (by rw [this]; decide) (by rw [hnx, hs, if_pos l0, hst]; exact l0.symm)
      · by_cases l1 : l = 1
        · rw [hs, if_neg l0, if_pos l1] at h1
          have hb : e_b0 g t ≠ 125 ∧ e_b0 g t ≠ 123 := by
            dsimp only at h1
            rw [e_mem] at h1
            split at h1
            · next w => rw [(e_word_b0 w).2]; decide
            · split at h1
              · next w => rw [(e_word_b0 w).2]; decide
              · rw [(e_word_b0 h1).2]; decide
          exact no hb.1 hb.2 (by rw [hnx, hs, if_neg l0, if_pos l1, hst]; exact l1.symm)
        · rw [hs, if_neg l0, if_neg l1] at h1
          have := (e_nam_b0 (e_line_nam h1)).2
          exact no (e_rng this.1 this.2 (by decide)) (e_rng this.1 this.2 (by decide)) (by rw [hnx, hs, if_neg l0, if_neg l1, hst])
end EPOS
section EBEH
variable {D : QS} {n : Nat} {g : ZT}
theorem z_behind_loop {l m : Nat} (hD : z_D D n g) (hG : z_G n g) (ho : e_ok g) : ∀ r k o, k + r = g.1 → k < g.1 → (e_st g k).1 = l + o → ((k = m ∧ o = 0 ∧ e_mark g k 123 = true) ∨ (m < k ∧ 0 < o)) → ∃ t', q_run (tX12_behind_20 D) (nI k, nI o) = some (nI t') ∧ k < t' ∧ t' ≤ g.1 ∧ e_st g t' = (l, []) ∧ ∀ i, k < i → i < t' → l < (e_st g i).1 := by
  have b1 := hG.1
  have b2 := hG.2.1
  intro r
  induction r with
  | zero => intro k o h1 h2; omega
  | succ r ih =>
    intro k o h1 h2 h3 h4
    have w1 : fX12_is D (nI k) 1000062 = some (e_mark g k 123) := by rw [z_is hD hG z_sOpen (by omega)]; exact congrArg some (e_mark_word hG (by decide))
    have w2 : fX12_is D (nI k) 1000064 = some (e_mark g k 125) := by rw [z_is hD hG z_sClose (by omega)]; exact congrArg some (e_mark_word hG (by decide))
    obtain ⟨bal, b3, b4⟩ := e_bal ho h2
    have ev : (if e_mark g k 123 = true then some (nI (o + 1)) else some (nI o)) = some (nI (o + (if e_mark g k 123 = true then 1 else 0))) := by
      split
      · rfl
      · rfl
    have pos : e_mark g k 125 = true → 0 < o := by
      intro q
      rcases h4 with ⟨_, _, h5⟩ | h5
      · rw [b4 h5] at q; cases q
      · exact h5.2
    have ew : (if e_mark g k 125 = true then some (nI (o + (if e_mark g k 123 = true then 1 else 0)) - 1) else some (nI (o + (if e_mark g k 123 = true then 1 else 0)))) = some (nI (o + (if e_mark g k 123 = true then 1 else 0) - (if e_mark g k 125 = true then 1 else 0))) := by
      by_cases q : e_mark g k 125 = true
      · have := pos q
        rw [if_pos q, if_pos q, z_sub1 (by omega)]
      · rw [if_neg q, if_neg q, Nat.sub_zero]
    have hb2 : (e_st g (k + 1)).1 = l + (o + (if e_mark g k 123 = true then 1 else 0) - (if e_mark g k 125 = true then 1 else 0)) := by
      by_cases q : e_mark g k 125 = true
      · have := pos q
        rw [if_pos q] at bal ⊢
        omega
      · rw [if_neg q] at bal ⊢
        omega
    generalize ho' : o + (if e_mark g k 123 = true then 1 else 0) - (if e_mark g k 125 = true then 1 else 0) = o' at *
    have hlv := e_st_lv g (k + 1)
    have st : tX12_behind_20 D (nI k, nI o) = if 0 < nI o' then some (.inr (nI (k + 1), nI o')) else some (.inl (nI (k + 1))) := by
      simp only [tX12_behind_20, w1, w2, Option.bind_some, ev, ew, nI_1]
    by_cases q : 0 < o'
    · have e1 : (0 : Int32) < nI o' := by rw [show (0 : Int32) = nI 0 from rfl, z_ltN (by decide) (by omega)]; exact q
      rw [if_pos e1] at st
      rw [q_run_go st]
      have hk : k + 1 < g.1 := by
        rcases Nat.lt_or_ge (k + 1) g.1 with x | x
        · exact x
        · have e : k + 1 = g.1 := by omega
          rw [e, ho.2] at hb2
          simp only at hb2
          omega
      obtain ⟨t', r1, r2, r3, r4, r5⟩ := ih (k + 1) o' (by omega) hk hb2 (Or.inr ⟨by rcases h4 with x | x <;> omega, q⟩)
      refine ⟨t', r1, by omega, r3, r4, fun i i1 i2 => ?_⟩
      by_cases e : i = k + 1
      · rw [e, hb2]; omega
      · exact r5 i (by omega) i2
    · have e1 : ¬ (0 : Int32) < nI o' := by rw [show (0 : Int32) = nI 0 from rfl, z_ltN (by decide) (by omega)]; exact q
      rw [if_neg e1] at st
      refine ⟨k + 1, q_run_ret st, by omega, by omega, ?_, fun i i1 i2 => by omega⟩
      have hq : e_mark g k 125 = true := by
        refine Decidable.byContradiction (fun x => ?_)
        rw [if_neg x] at ho'
        rcases h4 with ⟨_, _, h5⟩ | h5
        · rw [if_pos h5] at ho'; omega
        · omega
      refine Prod.ext ?_ (b3 hq)
      rw [hb2]
      show l + o' = l
      omega
theorem z_behind {t l m : Nat} (hD : z_D D n g) (hG : z_G n g) (ho : e_ok g) (h1 : t ≤ m) (hm : m < g.1) (h2 : ∀ k, t ≤ k → k < m → e_mark g k 123 = false) (h3 : e_mark g m 123 = true) (hl : (e_st g m).1 = l) : ∃ t', fX12_behind D (nI t) = some (nI t') ∧ m < t' ∧ t' ≤ g.1 ∧ e_st g t' = (l, []) ∧ ∀ i, m < i → i < t' → l < (e_st g i).1 := by
  have b1 := hG.1
  have b2 := hG.2.1
  obtain ⟨t', r1, r2, r3, r4, r5⟩ := z_behind_loop (l := l) (m := m) hD hG ho (g.1 - m) m 0 (by omega) hm (by omega) (Or.inl ⟨rfl, rfl, h3⟩)
  refine ⟨t', ?_, r2, r3, r4, r5⟩
  rw [fX12_behind, fX12_behind_2]
  have : ∀ d k, k + d = m → t ≤ k → q_run (tX12_behind_2 D) (nI k) = some (nI t') := by
    intro d
    induction d with
    | zero =>
      intro k hk _
      have e : k = m := by omega
      subst e
      have w1 : fX12_is D (nI k) 1000062 = some true := by rw [z_is hD hG z_sOpen (by omega), ← h3]; exact congrArg some (e_mark_word hG (by decide))
      refine q_run_ret ?_
      simp only [tX12_behind_2, w1, Option.bind_some, if_true, fX12_behind_20]
      rw [show (0 : Int32) = nI 0 from rfl, r1, Option.bind_some]
    | succ d ih =>
      intro k hk hk2
      have w1 : fX12_is D (nI k) 1000062 = some false := by rw [z_is hD hG z_sOpen (by omega), ← h2 k hk2 (by omega)]; exact congrArg some (e_mark_word hG (by decide))
      have st : tX12_behind_2 D (nI k) = some (.inr (nI (k + 1))) := by
        simp only [tX12_behind_2, w1, Option.bind_some, Bool.false_eq_true, if_false, nI_1]
      rw [q_run_go st]
      exact ih (k + 1) (by omega) (by omega)
  exact this (m - t) t (by omega) (Nat.le_refl _)
/-- a class's head -/
theorem e_class {t : Nat} (ho : e_ok g) (ht : t < g.1) (h : e_st g t = (0, [])) : t + 4 < g.1 ∧ e_word g t w_class = true ∧ e_nam g (t + 1) 65 = true ∧ e_word g (t + 2) w_of = true ∧ e_nam g (t + 3) 65 = true ∧ e_mark g (t + 4) 123 = true ∧ e_kind g t = 48 ∧ e_st g (t + 5) = (1, []) ∧ (∀ i, t < i → i < t + 5 → e_kind g i = 53 ∧ (e_st g i).1 = 0 ∧ (e_st g i).2 ≠ []) := by
  obtain ⟨a1, a2, a3⟩ := e_at0 ho ht h
  obtain ⟨c1, c2, c3, c4⟩ := e_part ho (show t + 1 ≤ g.1 by omega) a3 (by decide)
  obtain ⟨d1, d2, d3, d4⟩ := e_part ho (show t + 1 + 1 ≤ g.1 by omega) c3 (by decide)
  obtain ⟨f1, f2, f3, f4⟩ := e_part ho (show t + 1 + 1 + 1 ≤ g.1 by omega) d3 (by decide)
  obtain ⟨i1, i2, i3, i4⟩ := e_part ho (show t + 1 + 1 + 1 + 1 ≤ g.1 by omega) f3 (by decide)
  refine ⟨i1, a1, c2, d2, f2, i2, a2, i3, fun i h1 h2 => ?_⟩
  have : i = t + 1 ∨ i = t + 1 + 1 ∨ i = t + 1 + 1 + 1 ∨ i = t + 1 + 1 + 1 + 1 := by omega
  rcases this with rfl | rfl | rfl | rfl
  · exact ⟨c4, by rw [a3], by rw [a3]; simp⟩
  · exact ⟨d4, by rw [c3]; rfl, by rw [c3]; simp⟩
  · exact ⟨f4, by rw [d3]; rfl, by rw [d3]; simp⟩
  · exact ⟨i4, by rw [f3]; rfl, by rw [f3]; simp⟩
/-- a token of the kind of a class: nothing is open, nothing must follow -/
theorem e_kind48 {t : Nat} (ho : e_ok g) (ht : t < g.1) : e_kind g t = 48 ↔ e_st g t = (0, []) := by
  refine ⟨fun h => ?_, fun h => (e_at0 ho ht h).2.1⟩
  rcases hst : e_st g t with ⟨l, s⟩
  cases s with
  | cons c cs =>
    exfalso
    by_cases hc : c = 80
    · subst hc
      rw [(e_atP ho (Nat.le_of_lt ht) hst).2.1] at h
      exact absurd h (by decide)
    · rw [(e_part ho (Nat.le_of_lt ht) hst hc).2.2.2] at h
      exact absurd h (by decide)
  | nil =>
    have lv := e_st_lv g t
    rw [hst] at lv
    simp only [List.count_nil, Nat.add_zero] at lv
    by_cases l0 : l = 0
    · rw [l0]
    · exfalso
      by_cases m : e_mark g t 125 = true
      · rw [(e_atc ho (by omega) hst m).2.1] at h
        split at h <;> exact absurd h (by decide)
      · have m' := Bool.eq_false_iff.mpr m
        by_cases l1 : l = 1
        · subst l1
          rw [(e_at1 ho (Nat.le_of_lt ht) hst m').2.2.1, e_mem] at h
          repeat' split at h
          all_goals
            dsimp only at h
            exact absurd h (by decide)
        · have l2 : l = 2 := by omega
          subst l2
          rw [(e_at2 ho (Nat.le_of_lt ht) hst m').2.2.1, e_line] at h
          repeat' split at h
          · dsimp only at h
            exact absurd h (by decide)
          · dsimp only at h
            exact absurd h (by decide)
          · next q =>
            rcases e_op_rng g t with x | ⟨k, k1, x⟩
            · exact q.2 x
            · dsimp only at h
              rw [x, show (48 : Int32) = nI 48 from rfl, z_eqN (by omega) (by decide)] at h
              omega
          · dsimp only at h
            exact absurd h (by decide)
end EBEH
