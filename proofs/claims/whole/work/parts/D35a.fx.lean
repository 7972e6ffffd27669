/-! ===== only numbers change ===== -/
/-- nothing has changed but numbers, and the text that Syntax (77) still wants -/
def q_Fx (S S' : QS) : Prop := S'.1 = S.1 ∧ ∀ o j, ¬ (o = 77 ∧ j = 1) → S'.2.2.2 o j = S.2.2.2 o j
theorem q_Fx.rf (S : QS) : q_Fx S S := ⟨rfl, fun _ _ _ => rfl⟩
theorem q_Fx.tr {S S' S'' : QS} (h : q_Fx S S') (h' : q_Fx S' S'') : q_Fx S S'' := ⟨h'.1.trans h.1, fun o j n => (h'.2 o j n).trans (h.2 o j n)⟩
theorem q_Fx.sI {S S' : QS} {o j : Nat} {v : Int32} (h : q_Fx S S') : q_Fx S (q_sI S' o j v) := h
theorem q_Fx.sJ {S S' : QS} {o j : Nat} {v : Int64} (h : q_Fx S S') : q_Fx S (q_sJ S' o j v) := h
theorem q_Fx.cp {S S' : QS} {a sp b dp c : Nat} (h : q_Fx S S') : q_Fx S (q_cpI S' a sp b dp c) := h
theorem q_Fx.sT {S S' : QS} {r : Nat} (h : q_Fx S S') : q_Fx S (q_sR S' 77 1 r) := by
  refine ⟨h.1, fun o j n => ?_⟩
  rw [← h.2 o j n]
  by_cases e : o = 77
  · have e2 : ¬ j = 1 := fun q => n ⟨e, q⟩
    simp [q_sR, e, va_up, e2]
  · simp [q_sR, e]
theorem q_run_fx {X R : Type} {f : X → Option (R ⊕ X)} (sx : X → QS) (sr : R → QS) (hf : ∀ x z, f x = some z → q_Fx (sx x) (Sum.elim sr sx z)) {x : X} {r : R} (h : q_run f x = some r) : q_Fx (sx x) (sr r) := by
  obtain ⟨c, hc⟩ := q_run_it h
  clear h
  induction c generalizing x with
  | zero => cases hc
  | succ c ih =>
    simp only [q_it] at hc
    cases hz : f x with
    | none => rw [hz] at hc; cases hc
    | some z =>
      rw [hz] at hc
      have h1 := hf x z hz
      rcases z with z | y
      · cases hc; exact h1
      · exact h1.tr (ih hc)
