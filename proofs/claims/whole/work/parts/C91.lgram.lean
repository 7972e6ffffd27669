/-! ===== lines and bodies in the grammar ===== -/
theorem k_cnt_none {P : Nat → Bool} {a : Nat} : ∀ b, a ≤ b → (∀ i, a ≤ i → i < b → P i = false) → k_cnt P b = k_cnt P a
  | 0, h, _ => by rw [show a = 0 by omega]
  | b + 1, h, hn => by
    by_cases e : a = b + 1
    · rw [e]
    · rw [k_cnt, k_cnt_none b (by omega) (fun i i1 i2 => hn i i1 (by omega)), hn b (by omega) (by omega)]
      rfl
section ELIN
variable {g : ZT}
theorem e_lt_of {t : Nat} {s : Nat × List Int32} (ho : e_ok g) (ht : t ≤ g.1) (h : e_st g t = s) (hs : s ≠ (0, [])) : t < g.1 := by
  by_cases c : t < g.1
  · exact c
  · rw [show t = g.1 by omega, ho.2] at h
    exact absurd h.symm hs
theorem e_parts (ho : e_ok g) : ∀ (L : List Int32) (t : Nat), t ≤ g.1 → e_st g t = (2, L) → (∀ c ∈ L, c ≠ 125 ∧ c ≠ 80 ∧ c ≠ 123) → e_st g (t + L.length) = (2, []) ∧ t + L.length < g.1 ∧ ∀ j, j < L.length → e_okp g (t + j) (L.getD j 0) = true ∧ e_kind g (t + j) = 53 ∧ (e_st g (t + j)).1 = 2 ∧ (e_st g (t + j)).2 ≠ []
  | [], t, ht, h, _ => ⟨h, e_lt_of ho ht h (by decide), fun j hj => absurd hj (Nat.not_lt_zero _)⟩
  | c :: cs, t, ht, h, hL => by
    obtain ⟨c1, c2, c3⟩ := hL c (List.mem_cons_self ..)
    obtain ⟨a1, a2, a3, a4⟩ := e_part ho ht h c2
    rw [if_neg c3, Nat.add_zero] at a3
    obtain ⟨r1, r2, r3⟩ := e_parts ho cs (t + 1) (by omega) a3 (fun x hx => hL x (List.mem_cons_of_mem _ hx))
    rw [List.length_cons]
    refine ⟨by rw [show t + (cs.length + 1) = t + 1 + cs.length by omega]; exact r1, by omega, fun j hj => ?_⟩
    cases j with
    | zero => exact ⟨a2, a4, by rw [Nat.add_zero, h], by rw [Nat.add_zero, h]; simp⟩
    | succ j =>
      have := r3 j (by omega)
      rw [show t + (j + 1) = t + 1 + j by omega, List.getD_cons_succ]
      exact this
/-- the tokens of a line -/
def e_ln (g : ZT) (t : Nat) : Nat := 1 + (e_line g t).2.2.length
def e_insT (g : ZT) (t k : Nat) : Prop := k < 46 ∧ e_op g t = nI k ∧ e_line g t = (true, nI k, e_ops (nI k)) ∧ e_kind g t = nI k ∧ e_mark g (t + 1) 58 = false ∧ e_word g t w_catch = false ∧ ∀ j, j < (e_ops (nI k)).length → e_okp g (t + 1 + j) ((e_ops (nI k)).getD j 0) = true
def e_labT (g : ZT) (t : Nat) : Prop := e_mark g (t + 1) 58 = true ∧ e_line g t = (true, 47, [58]) ∧ e_kind g t = 47
def e_catT (g : ZT) (t : Nat) : Prop := e_mark g (t + 1) 58 = false ∧ e_word g t w_catch = true ∧ e_line g t = (true, 46, [110, 110, 110, 67]) ∧ e_kind g t = 46 ∧ e_nam g (t + 1) 97 = true ∧ e_nam g (t + 2) 97 = true ∧ e_nam g (t + 3) 97 = true ∧ e_nam g (t + 4) 65 = true
theorem e_lineT {t : Nat} (ho : e_ok g) (ht : t ≤ g.1) (h : e_st g t = (2, [])) (hm : e_mark g t 125 = false) : t + e_ln g t < g.1 ∧ e_st g (t + e_ln g t) = (2, []) ∧ (∀ i, t < i → i < t + e_ln g t → e_kind g i = 53 ∧ (e_st g i).1 = 2 ∧ (e_st g i).2 ≠ []) ∧ (e_labT g t ∨ e_catT g t ∨ ∃ k, e_insT g t k) := by
  obtain ⟨a1, a2, a3, a4⟩ := e_at2 ho ht h hm
  obtain ⟨r1, r2, r3⟩ := e_parts ho _ (t + 1) (by omega) a4 (e_line_nm g t)
  have e1 : t + e_ln g t = t + 1 + (e_line g t).2.2.length := by rw [e_ln]; omega
  rw [e1]
  refine ⟨r2, r1, fun i i1 i2 => ?_, ?_⟩
  · have := r3 (i - (t + 1)) (by omega)
    rw [show t + 1 + (i - (t + 1)) = i by omega] at this
    exact this.2
  · have hl : e_line g t = if e_mark g (t + 1) 58 = true then (e_nam g t 97, 47, [58]) else if e_word g t w_catch = true then (e_nam g t 97, 46, [110, 110, 110, 67]) else if e_nam g t 97 = true ∧ e_op g t ≠ -1 then (true, e_op g t, e_ops (e_op g t)) else (e_nam g t 97, 47, [58]) := rfl
    by_cases c1 : e_mark g (t + 1) 58 = true
    · rw [if_pos c1] at hl
      refine Or.inl ⟨c1, ?_, ?_⟩
      · rw [hl] at a2 ⊢
        have a2 : e_nam g t 97 = true := a2
        rw [a2]
      · rw [a3, hl]
    · rw [if_neg c1] at hl
      by_cases c2 : e_word g t w_catch = true
      · rw [if_pos c2] at hl
        rw [hl] at r3
        refine Or.inr (Or.inl ⟨Bool.eq_false_iff.mpr c1, c2, ?_, ?_, (r3 0 (by simp)).1, (r3 1 (by simp)).1, (r3 2 (by simp)).1, (r3 3 (by simp)).1⟩)
        · rw [hl] at a2 ⊢
          have a2 : e_nam g t 97 = true := a2
          rw [a2]
        · rw [a3, hl]
      · rw [if_neg c2] at hl
        by_cases c3 : e_nam g t 97 = true ∧ e_op g t ≠ -1
        · rw [if_pos c3] at hl
          rcases e_op_rng g t with h' | ⟨k, k1, k2⟩
          · exact absurd h' c3.2
          · rw [k2] at hl
            rw [hl] at r3
            exact Or.inr (Or.inr ⟨k, k1, k2, hl, by rw [a3, hl], Bool.eq_false_iff.mpr c1, Bool.eq_false_iff.mpr c2, fun j hj => (r3 j hj).1⟩)
        · rw [if_neg c3] at hl
          exfalso
          rw [hl] at r3
          exact c1 (r3 0 (by simp)).1
/-- where a body ends -/
def e_be (g : ZT) (t te : Nat) : Prop := t ≤ te ∧ te < g.1 ∧ e_st g te = (2, []) ∧ e_mark g te 125 = true ∧ ∀ i, t ≤ i → i < te → (e_st g i).1 = 2 ∧ (e_st g i = (2, []) → e_mark g i 125 = false)
theorem e_bend (ho : e_ok g) : ∀ m t, t + m = g.1 → e_st g t = (2, []) → ∃ te, e_be g t te := by
  intro m
  induction m using Nat.strongRecOn with
  | _ m ih =>
    intro t hm h
    by_cases hk : e_mark g t 125 = true
    · exact ⟨t, Nat.le_refl _, e_lt_of ho (by omega) h (by decide), h, hk, fun i i1 i2 => by omega⟩
    · have hk' := Bool.eq_false_iff.mpr hk
      obtain ⟨a1, a2, a3, -⟩ := e_lineT ho (by omega) h hk'
      have l1 : 1 ≤ e_ln g t := by rw [e_ln]; omega
      obtain ⟨te, b1, b2, b3, b4, b5⟩ := ih (g.1 - (t + e_ln g t)) (by omega) (t + e_ln g t) (by omega) a2
      refine ⟨te, by omega, b2, b3, b4, fun i i1 i2 => ?_⟩
      by_cases c : i = t
      · rw [c]; exact ⟨by rw [h], fun _ => hk'⟩
      · by_cases c2 : i < t + e_ln g t
        · have := a3 i (by omega) c2
          exact ⟨this.2.1, fun x => absurd (by rw [x]) this.2.2⟩
        · exact b5 i (by omega) i2
theorem e_be.next {t te : Nat} (hb : e_be g t te) (ho : e_ok g) (h : e_st g t = (2, [])) (hk : e_mark g t 125 = false) : e_be g (t + e_ln g t) te ∧ t < te := by
  obtain ⟨b1, b2, b3, b4, b5⟩ := hb
  obtain ⟨a1, a2, a3, -⟩ := e_lineT ho (by omega) h hk
  have hlt : t < te := by
    by_cases c : t = te
    · rw [c, b4] at hk; cases hk
    · omega
  have hle : t + e_ln g t ≤ te := by
    by_cases c : te < t + e_ln g t
    · have := (a3 te hlt c).2.2
      rw [b3] at this
      exact absurd rfl this
    · omega
  exact ⟨⟨hle, b2, b3, b4, fun i i1 i2 => b5 i (by omega) i2⟩, hlt⟩
/-- an instruction begins -/
def e_ik (g : ZT) (i : Nat) : Bool := decide (e_kind g i < 46)
theorem e_ik53 {i : Nat} (h : e_kind g i = 53) : e_ik g i = false := by rw [e_ik, h]; decide
theorem e_ikL {t : Nat} (h : e_labT g t) : e_ik g t = false := by rw [e_ik, h.2.2]; decide
theorem e_ikC {t : Nat} (h : e_catT g t) : e_ik g t = false := by rw [e_ik, h.2.2.2.1]; decide
theorem e_ikI {t k : Nat} (h : e_insT g t k) : e_ik g t = true := by
  rw [e_ik, h.2.2.2.1]
  refine decide_eq_true ?_
  rw [show (46 : Int32) = nI 46 from rfl, z_ltN (by have := h.1; omega) (by decide)]
  exact h.1
theorem e_cnt_line {t : Nat} (ho : e_ok g) (ht : t ≤ g.1) (h : e_st g t = (2, [])) (hm : e_mark g t 125 = false) : k_cnt (e_ik g) (t + e_ln g t) = k_cnt (e_ik g) t + (if e_ik g t = true then 1 else 0) := by
  obtain ⟨a1, a2, a3, -⟩ := e_lineT ho ht h hm
  have l1 : 1 ≤ e_ln g t := by rw [e_ln]; omega
  rw [k_cnt_none (P := e_ik g) (a := t + 1) (t + e_ln g t) (by omega) (fun i i1 i2 => e_ik53 (a3 i (by omega) i2).1), k_cnt]
/-- outside of the bodies and of their heads -/
def e_low (g : ZT) (t : Nat) : Prop := (e_st g t).1 + (e_st g t).2.count 123 ≤ 1
theorem e_low_kind {t : Nat} (ho : e_ok g) (ht : t < g.1) (h : e_low g t) : (e_kind g t = 48 ∨ e_kind g t = 49 ∨ e_kind g t = 53 ∨ ((e_kind g t = 50 ∨ e_kind g t = 51) ∧ e_st g t = (1, []))) ∧ (e_kind g t ≠ 50 → e_kind g t ≠ 51 → e_low g (t + 1)) := by
  rcases hst : e_st g t with ⟨l, s⟩
  rw [e_low, hst] at h
  simp only at h
  cases s with
  | cons c cs =>
    by_cases hc : c = 80
    · subst hc
      obtain ⟨-, a1, a2⟩ := e_atP ho (Nat.le_of_lt ht) hst
      refine ⟨Or.inr (Or.inr (Or.inl a1)), fun _ _ => ?_⟩
      rw [List.count_cons] at h
      rcases a2 with ⟨-, a2⟩ | ⟨-, -, a2⟩
      · rw [e_low, a2]; simp only; omega
      · rw [e_low, a2]
        simp only [List.count_cons]
        exact h
    · obtain ⟨-, -, a1, a2⟩ := e_part ho (Nat.le_of_lt ht) hst hc
      refine ⟨Or.inr (Or.inr (Or.inl a2)), fun _ _ => ?_⟩
      rw [e_low, a1]
      simp only [List.count_cons, beq_iff_eq] at h ⊢
      omega
  | nil =>
    simp only [List.count_nil, Nat.add_zero] at h
    by_cases l0 : l = 0
    · subst l0
      obtain ⟨-, a1, a2⟩ := e_at0 ho ht hst
      refine ⟨Or.inl a1, fun _ _ => ?_⟩
      rw [e_low, a2]; decide
    · have l1 : l = 1 := by omega
      subst l1
      by_cases m : e_mark g t 125 = true
      · obtain ⟨-, a1, a2⟩ := e_atc ho (by omega) hst m
        refine ⟨Or.inr (Or.inr (Or.inl a1)), fun _ _ => ?_⟩
        rw [e_low, a2]; decide
      · obtain ⟨-, -, a1, a2⟩ := e_at1 ho (Nat.le_of_lt ht) hst (Bool.eq_false_iff.mpr m)
        rw [e_mem] at a1 a2
        by_cases hf : e_word g t w_field = true
        · rw [if_pos hf] at a1 a2
          refine ⟨Or.inr (Or.inl a1), fun _ _ => ?_⟩
          rw [e_low, a2]; decide
        · rw [if_neg hf] at a1
          by_cases hs : e_word g t w_static = true
          · rw [if_pos hs] at a1
            exact ⟨Or.inr (Or.inr (Or.inr ⟨Or.inl a1, rfl⟩)), fun x _ => absurd a1 x⟩
          · rw [if_neg hs] at a1
            exact ⟨Or.inr (Or.inr (Or.inr ⟨Or.inr a1, rfl⟩)), fun _ x => absurd a1 x⟩
end ELIN
