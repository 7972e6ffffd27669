/-! ===== input ===== -/
def w_I (C D : QS) (i : Nat) : Prop := C.2.1 89 11 = nI i ∧ D.2.1 102 38 = nI i ∧ i ≤ 256 ∧ ∀ k, k < i → C.2.1 100 k = D.2.1 181 k
theorem z_input {C D : QS} {i : Nat} (h : w_I C D i) (x : Int32) : ∃ r r' i', fX10_input C x = some r ∧ fX12_input D x = some r' ∧ r.1 = r'.1 ∧ w_I r.2 r'.2 i' ∧ (∀ o j, ¬ (o = 89 ∧ j = 11) → o ≠ 100 → r.2.2.1 o j = C.2.1 o j) ∧ r.2.1 = C.1 ∧ r.2.2.2 = C.2.2 ∧ (∀ o j, ¬ (o = 102 ∧ j = 38) → o ≠ 181 → r'.2.2.1 o j = D.2.1 o j) ∧ r'.2.1 = D.1 ∧ r'.2.2.2 = D.2.2 := by
  obtain ⟨h1, h2, h3, h4⟩ := h
  have e : (nI i = (256 : Int32)) = (i = 256) := by rw [show (256 : Int32) = nI 256 from rfl, z_eqN (by omega) (by decide)]
  simp only [fX10_input, fX6_addInput, fX12_input, h1, h2, e]
  by_cases c : i = 256
  · rw [if_pos c, if_pos c]
    exact ⟨_, _, i, rfl, rfl, rfl, ⟨h1, h2, h3, h4⟩, fun _ _ _ _ => rfl, rfl, rfl, fun _ _ _ _ => rfl, rfl, rfl⟩
  · have k1 : (q_sI C 100 i x).2.1 89 11 = nI i := by rw [q_sI_I, if_neg (by omega)]; exact h1
    have k2 : (q_sI D 181 i x).2.1 102 38 = nI i := by rw [q_sI_I, if_neg (by omega)]; exact h2
    simp only [if_neg c, z_inbN (show i < 256 by omega) (by decide), if_true, z_cl (show i < 2147483648 by omega), Option.bind_some, k1, k2, nI_1]
    refine ⟨_, _, i + 1, rfl, rfl, rfl, ⟨?_, ?_, by omega, fun k hk => ?_⟩, fun o j a b => ?_, rfl, rfl, fun o j a b => ?_, rfl, rfl⟩
    · show (q_sI (q_sI C 100 i x) 89 11 (nI (i + 1))).2.1 89 11 = _
      rw [q_sI_I, if_pos ⟨rfl, rfl⟩]
    · show (q_sI (q_sI D 181 i x) 102 38 (nI (i + 1))).2.1 102 38 = _
      rw [q_sI_I, if_pos ⟨rfl, rfl⟩]
    · show (q_sI (q_sI C 100 i x) 89 11 (nI (i + 1))).2.1 100 k = (q_sI (q_sI D 181 i x) 102 38 (nI (i + 1))).2.1 181 k
      rw [q_sI_I, q_sI_I, q_sI_I, q_sI_I, if_neg (show ¬ (100 = 89 ∧ k = 11) by omega), if_neg (show ¬ (181 = 102 ∧ k = 38) by omega)]
      by_cases ek : k = i
      · rw [if_pos ⟨rfl, ek⟩, if_pos ⟨rfl, ek⟩]
      · rw [if_neg (by omega), if_neg (by omega)]; exact h4 k (by omega)
    · show (q_sI (q_sI C 100 i x) 89 11 (nI (i + 1))).2.1 o j = _
      rw [q_sI_I, if_neg a, q_sI_I, if_neg (by omega)]
    · show (q_sI (q_sI D 181 i x) 102 38 (nI (i + 1))).2.1 o j = _
      rw [q_sI_I, if_neg a, q_sI_I, if_neg (by omega)]
