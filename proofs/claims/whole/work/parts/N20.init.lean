/-! ===== the law: its start ===== -/
def w_z (S : QS) : Prop := ∀ o j, o ≠ 0 → o ≠ 89 → o ≠ 102 → S.2.1 o j = 0
theorem w_z.nw {S : QS} {sp : QSp} (h : w_z S) : w_z (q_nw S sp) := by
  intro o j a b c
  show (if o = S.1.length then fun _ => (0 : Int32) else S.2.1 o) j = 0
  split
  · rfl
  · exact h o j a b c
theorem w_z.sR {S : QS} {o j r : Nat} (h : w_z S) : w_z (q_sR S o j r) := h
theorem w_z.sI {S : QS} {o j : Nat} {v : Int32} (h : w_z S) (ho : o = 0 ∨ o = 89 ∨ o = 102) : w_z (q_sI S o j v) := by
  intro y k a b c
  rw [q_sI_I, if_neg (by omega)]
  exact h y k a b c
theorem w_z0 {S : QS} (h : w_z S) (o : Nat) : w_z (fX0_init S o) := by
  unfold fX0_init
  repeat with_reducible first | exact h | apply w_z.sR | apply w_z.nw
theorem w_z1 {S : QS} (h : w_z S) (o : Nat) : w_z (fX1_init S o) := by
  unfold fX1_init
  repeat with_reducible first | exact h | apply w_z.sR | apply w_z.nw
theorem w_z5 {S : QS} (h : w_z S) (o : Nat) : w_z (fX5_init S o) := by
  unfold fX5_init
  repeat with_reducible first | exact h | apply w_z.sR | apply w_z.nw | apply w_z1 | apply w_z0
theorem w_z8 {S : QS} (h : w_z S) (o : Nat) : w_z (fX8_init S o) := by
  unfold fX8_init
  repeat with_reducible first | exact h | apply w_z.sR | apply w_z.nw
theorem w_z7 {S : QS} (h : w_z S) (o a : Nat) : w_z (fX7_init S o a) := by
  unfold fX7_init
  repeat with_reducible first | exact h | apply w_z.sR | apply w_z.nw
theorem w_z4 {S : QS} (h : w_z S) (o a b : Nat) : w_z (fX4_init S o a b) := by
  unfold fX4_init
  repeat with_reducible first | exact h | apply w_z.sR | apply w_z.nw
theorem w_z3 {S : QS} (h : w_z S) (o a : Nat) : w_z (fX3_init S o a) := by
  unfold fX3_init
  repeat with_reducible first | exact h | apply w_z.sR | apply w_z.nw
theorem w_z9 {S : QS} (h : w_z S) (o a : Nat) : w_z (fX9_init S o a) := by
  unfold fX9_init
  repeat with_reducible first | exact h | apply w_z.sR | apply w_z.nw
theorem w_z2 {S : QS} (h : w_z S) (o : Nat) : w_z (fX2_init S o) := by
  unfold fX2_init
  repeat with_reducible first | exact h | apply w_z.sR | apply w_z.nw
theorem w_z6 {S : QS} (h : w_z S) (o a : Nat) (ho : o = 0 ∨ o = 89 ∨ o = 102) : w_z (fX6_init S o a) := by
  unfold fX6_init
  repeat with_reducible first | exact h | exact ho | apply w_z.sR | apply w_z.nw | apply w_z.sI | apply w_z2
theorem w_z11 {S : QS} (h : w_z S) (o : Nat) : w_z (fX11_init S o) := by
  unfold fX11_init
  repeat with_reducible first | exact h | apply w_z.sR | apply w_z.nw
theorem w_z10 {S : QS} (h : w_z S) (hl : S.1.length = 1) : w_z (fX10_init S 0) := by
  unfold fX10_init
  refine w_z.sR (w_z.sR (w_z.sR ?_))
  refine w_z6 ?_ _ _ (Or.inr (Or.inl (by rw [hl])))
  repeat with_reducible first | exact h | exact Or.inl rfl | apply w_z.sR | apply w_z.nw | apply w_z.sI | apply w_z9 | apply w_z3 | apply w_z4 | apply w_z7 | apply w_z5 | apply w_z8
theorem w_z12 {S : QS} (h : w_z S) : w_z (fX12_init S 102) := by
  unfold fX12_init
  repeat with_reducible first | exact h | exact Or.inr (Or.inr rfl) | apply w_z.sR | apply w_z.nw | apply w_z.sI | apply w_z11
theorem w_zS : w_z q_Sinit := by
  have h0 : w_z q_Z0 := fun _ _ _ _ _ => rfl
  exact w_z12 (w_z.nw (w_z10 (w_z.nw h0) rfl))
theorem w_cells : (q_Sinit.2.1 0 1 = 0 ∧ q_Sinit.2.1 0 2 = 0 ∧ q_Sinit.2.1 0 11 = 0 ∧ q_Sinit.2.1 0 12 = -1) ∧ (q_Sinit.2.1 89 11 = 0 ∧ q_Sinit.2.1 89 14 = 0 ∧ q_Sinit.2.1 89 15 = 0 ∧ q_Sinit.2.1 89 16 = q_Sinit.2.1 102 42 ∧ q_Sinit.2.1 89 17 = q_Sinit.2.1 102 43 ∧ q_Sinit.2.1 89 18 = 0) ∧ (q_Sinit.2.1 102 2 = 0 ∧ q_Sinit.2.1 102 4 = 0 ∧ q_Sinit.2.1 102 5 = 0 ∧ q_Sinit.2.1 102 7 = 0 ∧ q_Sinit.2.1 102 12 = -1 ∧ q_Sinit.2.1 102 36 = 0 ∧ q_Sinit.2.1 102 37 = 0 ∧ q_Sinit.2.1 102 38 = 0 ∧ q_Sinit.2.1 102 40 = 0 ∧ q_Sinit.2.1 102 41 = 0 ∧ q_Sinit.2.1 102 45 = 0) := by decide +kernel
theorem w_Linit : w_L q_Sinit := by
  have z := w_zS
  obtain ⟨⟨a1, a2, a3, a4⟩, ⟨b1, b2, b3, b4, b5, b6⟩, c1, c2, c3, c4, c5, c6, c7, c8, c9, c10, c11⟩ := w_cells
  have z0 : q_byt 0 := by constructor <;> decide
  refine ⟨7, 42, 103, 131, q_Sinit_ok, by decide, by decide, ⟨0, 0, a1, c2, by decide, by decide, a2, c3, by decide, fun k hk => absurd hk (Nat.not_lt_zero _)⟩, ⟨0, fun _ => 0, ?_, c4, by decide, fun k hk => absurd hk (Nat.not_lt_zero _), fun _ => z0⟩, ⟨0, b1, c8, by decide, fun k hk => absurd hk (Nat.not_lt_zero _)⟩, ⟨fun i _ => ?_, ?_⟩, ⟨fun i _ => ?_, ?_, fun j => ⟨?_, ?_⟩⟩, ⟨b3.trans c10.symm, b4, b5, ?_, ?_, b2.trans c9.symm, b6.trans c11.symm, 0, b2, by decide, fun i hi => absurd hi (Nat.not_lt_zero _)⟩, a4.trans c5.symm, Or.inl ⟨a3, c1⟩⟩
  · exact z 2 1 (by decide) (by decide) (by decide)
  · exact z 83 i (by decide) (by decide) (by decide)
  · exact z 81 4 (by decide) (by decide) (by decide)
  · exact z 87 i (by decide) (by decide) (by decide)
  · exact z 84 6 (by decide) (by decide) (by decide)
  · rw [z 85 j (by decide) (by decide) (by decide)]; exact z0
  · rw [z 88 j (by decide) (by decide) (by decide)]; exact z0
  · exact (z 90 5 (by decide) (by decide) (by decide)).trans c6.symm
  · exact (z 90 6 (by decide) (by decide) (by decide)).trans c7.symm
/-- the law answers true to every script -/
theorem w_want {L : Nat} {xs : Nat → Int32} (hL : L ≤ 3072) : ∃ S, fL_law_18 q_Sinit L xs 0 = some (true, S) := w_law hL L 0 q_Sinit (by omega) (by decide) w_Linit
