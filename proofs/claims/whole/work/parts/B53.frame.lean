/-! ===== which numbers a method may write ===== -/
def q_base (p : Nat) : Nat → Nat
  | 0 => 0
  | _ + 1 => p
/-- an atom: (0: a fixed object, 1: one of the program), which object, which cell (999: any) -/
def q_hit (p : Nat) (a : Nat × Nat × Nat) (o j : Nat) : Bool := (o == q_base p a.1 + a.2.1) && (a.2.2 == 999 || j == a.2.2)
def q_W (l : List (Nat × Nat × Nat)) (p o j : Nat) : Bool := l.any (fun a => q_hit p a o j)
/-- no array of bytes -/
def q_nB (o : Nat) : Bool := !([3, 6, 85, 88, 97, 159, 160].contains o)
def q_byt (v : Int32) : Prop := -128 ≤ v.toInt ∧ v.toInt ≤ 127
def q_By (S : QS) : Prop := ∀ o, q_nB o = false → ∀ j, q_byt (S.2.1 o j)
def q_Fw (l : List (Nat × Nat × Nat)) (p : Nat) (S S' : QS) : Prop := (∀ o j, q_W l p o j = false → S'.2.1 o j = S.2.1 o j ∧ S'.2.2.1 o j = S.2.2.1 o j) ∧ (q_By S → q_By S')
theorem q_Fw.rf {l : List (Nat × Nat × Nat)} {p : Nat} (S : QS) : q_Fw l p S S := ⟨fun _ _ _ => ⟨rfl, rfl⟩, fun h => h⟩
theorem q_Fw.tr {l : List (Nat × Nat × Nat)} {p : Nat} {S S' S'' : QS} (h : q_Fw l p S S') (h' : q_Fw l p S' S'') : q_Fw l p S S'' := ⟨fun o j w => ⟨((h'.1 o j w).1).trans (h.1 o j w).1, ((h'.1 o j w).2).trans (h.1 o j w).2⟩, fun b => h'.2 (h.2 b)⟩
theorem q_W_hit {l : List (Nat × Nat × Nat)} {p o j i b k jj : Nat} (hi : l[i]? = some (b, k, jj)) (ho : o = q_base p b + k) (hj : jj = 999 ∨ j = jj) : q_W l p o j = true := by
  refine List.any_eq_true.mpr ⟨(b, k, jj), List.mem_of_getElem? hi, ?_⟩
  rcases hj with q | q <;> simp [q_hit, ho, q]
theorem q_sI_I (S : QS) (o j : Nat) (v : Int32) (o' j' : Nat) : (q_sI S o j v).2.1 o' j' = if o' = o ∧ j' = j then v else S.2.1 o' j' := by
  by_cases h : o' = o
  · subst h
    by_cases h2 : j' = j
    · subst h2; simp [q_sI, upd]
    · simp [q_sI, upd, h2]
  · simp [q_sI, h]
theorem q_sJ_J (S : QS) (o j : Nat) (v : Int64) (o' j' : Nat) : (q_sJ S o j v).2.2.1 o' j' = if o' = o ∧ j' = j then v else S.2.2.1 o' j' := by
  by_cases h : o' = o
  · subst h
    by_cases h2 : j' = j
    · subst h2; simp [q_sJ, vp_updL]
    · simp [q_sJ, vp_updL, h2]
  · simp [q_sJ, h]
theorem q_narB (x : Int32) : q_byt (vp_nar .byte x) := by
  rw [vp_nar_byte, q_byt, Int8.toInt_toInt32]
  have a := Int8.le_toInt x.toInt8
  have b := Int8.toInt_lt x.toInt8
  constructor <;> omega
theorem q_nBp {p k : Nat} (h : q_pok p) (hk : k < 35) : q_nB (p + k) = true := by
  rcases h with rfl | rfl
  · rcases Nat.lt_or_ge k 36 with q | q
    · revert q; revert k; intro k _; revert k; decide
    · omega
  · rcases Nat.lt_or_ge k 36 with q | q
    · revert q; revert k; intro k _; revert k; decide
    · omega
theorem q_nBq {p k : Nat} (h : q_qok p) (hk : k < 28) : q_nB (p + k) = true := by
  rcases h with rfl | rfl
  · revert hk; revert k; decide
  · revert hk; revert k; decide
theorem q_Fw.sI {l : List (Nat × Nat × Nat)} {p : Nat} {S S' : QS} {o j : Nat} {v : Int32} {i b k jj : Nat} (h : q_Fw l p S S') (hi : l[i]? = some (b, k, jj)) (ho : o = q_base p b + k) (hj : jj = 999 ∨ j = jj) (hB : q_nB o = true ∨ q_byt v) : q_Fw l p S (q_sI S' o j v) := by
  refine ⟨fun o' j' w => ?_, fun b o' hb j' => ?_⟩
  · rw [q_sI_I, if_neg]
    · exact h.1 o' j' w
    · rintro ⟨rfl, rfl⟩
      rw [q_W_hit hi ho hj] at w
      cases w
  · rw [q_sI_I]
    by_cases q : o' = o ∧ j' = j
    · rw [if_pos q]
      rcases hB with hB | hB
      · rw [q.1, hB] at hb
        cases hb
      · exact hB
    · rw [if_neg q]
      exact h.2 b o' hb j'
theorem q_Fw.sJ {l : List (Nat × Nat × Nat)} {p : Nat} {S S' : QS} {o j : Nat} {v : Int64} {i b k jj : Nat} (h : q_Fw l p S S') (hi : l[i]? = some (b, k, jj)) (ho : o = q_base p b + k) (hj : jj = 999 ∨ j = jj) : q_Fw l p S (q_sJ S' o j v) := by
  refine ⟨fun o' j' w => ⟨(h.1 o' j' w).1, ?_⟩, fun b => h.2 b⟩
  rw [q_sJ_J, if_neg]
  · exact (h.1 o' j' w).2
  · rintro ⟨rfl, rfl⟩
    rw [q_W_hit hi ho hj] at w
    cases w
theorem q_cpI_I (S : QS) (a sp b dp n : Nat) (o' j' : Nat) : (q_cpI S a sp b dp n).2.1 o' j' = if o' = b ∧ dp ≤ j' ∧ j' < dp + n then S.2.1 a (sp + (j' - dp)) else S.2.1 o' j' := by
  by_cases h : o' = b
  · subst h
    by_cases h2 : dp ≤ j' ∧ j' < dp + n
    · simp [q_cpI, va_cpy, h2]
    · simp [q_cpI, va_cpy, h2]
  · simp [q_cpI, h]
theorem q_Fw.cp {l : List (Nat × Nat × Nat)} {p : Nat} {S S' : QS} {a sp bb dp n : Nat} {i b k : Nat} (h : q_Fw l p S S') (hi : l[i]? = some (b, k, 999)) (ho : bb = q_base p b + k) (hB : q_nB bb = true ∨ q_nB a = false) : q_Fw l p S (q_cpI S' a sp bb dp n) := by
  refine ⟨fun o' j' w => ?_, fun b o' hb j' => ?_⟩
  · rw [q_cpI_I, if_neg]
    · exact h.1 o' j' w
    · rintro ⟨rfl, -⟩
      rw [q_W_hit hi ho (Or.inl rfl)] at w
      cases w
  · rw [q_cpI_I]
    by_cases q : o' = bb ∧ dp ≤ j' ∧ j' < dp + n
    · rw [if_pos q]
      rcases hB with hB | hB
      · rw [q.1, hB] at hb
        cases hb
      · exact h.2 b a hB _
    · rw [if_neg q]
      exact h.2 b o' hb j'
theorem q_Fw.sR {l : List (Nat × Nat × Nat)} {p : Nat} {S S' : QS} {o j r : Nat} (h : q_Fw l p S S') : q_Fw l p S (q_sR S' o j r) := h
theorem q_Fw.up {l l' : List (Nat × Nat × Nat)} {p : Nat} {S S' : QS} (h : q_Fw l p S S') (hs : l.all (fun a => l'.contains a) = true) : q_Fw l' p S S' := by
  refine ⟨fun o j w => h.1 o j ?_, h.2⟩
  cases hl : q_W l p o j with
  | false => rfl
  | true =>
    obtain ⟨a, ha, hh⟩ := List.any_eq_true.mp hl
    have h2 := List.all_eq_true.mp hs a ha
    have h3 : q_W l' p o j = true := List.any_eq_true.mpr ⟨a, by simpa using h2, hh⟩
    rw [h3] at w
    cases w
theorem q_Fw.arr {l : List (Nat × Nat × Nat)} {p a : Nat} {S S' : QS} {i b k : Nat} (h : q_Fw [(1, 0, 999)] a S S') (hi : l[i]? = some (b, k, 999)) (ho : a = q_base p b + k) : q_Fw l p S S' := by
  refine ⟨fun o j w => h.1 o j ?_, h.2⟩
  cases hl : q_W [(1, 0, 999)] a o j with
  | false => rfl
  | true =>
    have e : o = a := by simpa [q_W, q_hit, q_base] using hl
    rw [q_W_hit hi (e.trans ho) (Or.inl rfl)] at w
    cases w
theorem q_Fw.nov {l : List (Nat × Nat × Nat)} {p p' : Nat} {S S' : QS} (h : q_Fw l p S S') (hs : l.all (fun a => a.1 == 0) = true) : q_Fw l p' S S' := by
  refine ⟨fun o j w => h.1 o j ?_, h.2⟩
  cases hl : q_W l p o j with
  | false => rfl
  | true =>
    obtain ⟨a, ha, hh⟩ := List.any_eq_true.mp hl
    have h2 : a.1 = 0 := by simpa using List.all_eq_true.mp hs a ha
    have h3 : q_W l p' o j = true := List.any_eq_true.mpr ⟨a, ha, by rw [← hh]; simp only [q_hit, h2, q_base]⟩
    rw [h3] at w
    cases w
theorem q_run_fw {X R : Type} {l : List (Nat × Nat × Nat)} {p : Nat} {f : X → Option (R ⊕ X)} (sx : X → QS) (sr : R → QS) (hf : ∀ x z, f x = some z → q_Fw l p (sx x) (Sum.elim sr sx z)) {x : X} {r : R} (h : q_run f x = some r) : q_Fw l p (sx x) (sr r) := by
  obtain ⟨c, hc⟩ := q_run_it h
  clear h
  induction c generalizing x with
  | zero => cases hc
  | succ c ih =>
    simp only [q_it] at hc
    cases hz : f x with
    | none => rw [hz] at hc; cases hc
    | some z =>
      rw [hz] at hc
      have h1 := hf x z hz
      rcases z with z | y
      · cases hc; exact h1
      · exact h1.tr (ih hc)
/-! what is not written stays -/
theorem q_Fw.c {l : List (Nat × Nat × Nat)} {p : Nat} {S S' : QS} {o j : Nat} (h : q_Fw l p S S') (hp : q_pok p) (a : q_W l 7 o j = false) (b : q_W l 42 o j = false) : S'.2.1 o j = S.2.1 o j := by
  rcases hp with rfl | rfl
  · exact (h.1 o j a).1
  · exact (h.1 o j b).1
theorem q_Fw.v {l : List (Nat × Nat × Nat)} {p : Nat} {S S' : QS} {k j : Nat} (h : q_Fw l p S S') (hp : q_pok p) (a : q_W l 7 (7 + k) j = false) (b : q_W l 42 (42 + k) j = false) : S'.2.1 (p + k) j = S.2.1 (p + k) j := by
  rcases hp with rfl | rfl
  · exact (h.1 _ j a).1
  · exact (h.1 _ j b).1
theorem q_Fw.qc {l : List (Nat × Nat × Nat)} {p : Nat} {S S' : QS} {o j : Nat} (h : q_Fw l p S S') (hp : q_qok p) (a : q_W l 103 o j = false) (b : q_W l 131 o j = false) : S'.2.1 o j = S.2.1 o j := by
  rcases hp with rfl | rfl
  · exact (h.1 o j a).1
  · exact (h.1 o j b).1
theorem q_Fw.qv {l : List (Nat × Nat × Nat)} {p : Nat} {S S' : QS} {k j : Nat} (h : q_Fw l p S S') (hp : q_qok p) (a : q_W l 103 (103 + k) j = false) (b : q_W l 131 (131 + k) j = false) : S'.2.1 (p + k) j = S.2.1 (p + k) j := by
  rcases hp with rfl | rfl
  · exact (h.1 _ j a).1
  · exact (h.1 _ j b).1
