/-! ===== end ===== -/
section ZEN
variable {C D : QS} {f t : Nat}
theorem z_take30 {k : Nat} (hk : k ≤ 16000) : ∀ d i C, i + d = k → C.2.1 2 1 = nI k → ∃ C', q_run tX8_take_30 (nI i, C) = some C' ∧ (∀ y j, C'.2.1 y j = if y = 3 ∧ i ≤ j ∧ j < k then w_by (C.2.1 1 (j / 4)) (j % 4) else C.2.1 y j) ∧ C'.1 = C.1 ∧ C'.2.2 = C.2.2 := by
  intro d
  induction d with
  | zero =>
    intro i C hi h
    refine ⟨C, q_run_ret ?_, fun y j => by rw [if_neg (by omega)], rfl, rfl⟩
    simp only [tX8_take_30, h]
    rw [if_pos (by rw [z_leN (by omega) (by omega)]; omega)]
  | succ d ih =>
    intro i C hi h
    have g1 : ¬ nI k ≤ nI i := by rw [z_leN (by omega) (by omega)]; omega
    obtain ⟨w1, w2, -⟩ := w_idx (show i ≤ 16000 by omega)
    have e : (24 : Int32) - (8 : Int32) * nI (i % 4) = nI (8 * (3 - i % 4)) := by
      rw [show (24 : Int32) = nI 24 from rfl, show (8 : Int32) = nI 8 from rfl, nI_mulN, z_subN (by omega)]
      congr 1; omega
    have st : tX8_take_30 (nI i, C) = some (.inr (nI (i + 1), q_sI C 3 i (w_by (C.2.1 1 (i / 4)) (i % 4)))) := by
      simp only [tX8_take_30, h, if_neg g1, w1, w2, z_inbN (show i / 4 < 4000 by omega) (by decide), z_inbN (show i < 16000 by omega) (by decide), if_true, z_cl (show i / 4 < 2147483648 by omega), z_cl (show i < 2147483648 by omega), e, w_nar, Option.bind_some, nI_1]
    obtain ⟨C', z1, z2, z3, z4⟩ := ih (i + 1) (q_sI C 3 i (w_by (C.2.1 1 (i / 4)) (i % 4))) (by omega) (by rw [q_sI_I, if_neg (by omega)]; exact h)
    refine ⟨C', (q_run_go st).trans z1, fun y j => ?_, z3, z4⟩
    rw [z2, q_sI_I, q_sI_I, if_neg (show ¬ (1 = 3 ∧ j / 4 = i) by omega)]
    by_cases c : y = 3 ∧ i + 1 ≤ j ∧ j < k
    · rw [if_pos c, if_pos (by omega)]
    · rw [if_neg c]
      by_cases c2 : y = 3 ∧ j = i
      · rw [if_pos c2, if_pos (by omega), c2.2]
      · rw [if_neg c2, if_neg (by omega)]
theorem z_end16 {k : Nat} (hk : k ≤ 16000) : ∀ d i D, i + d = k → (∀ j, j < k → q_byt (D.2.1 159 j)) → ∃ D', q_run (tX12_end_16 (nI k)) (nI i, D) = some (true, D') ∧ (∀ y j, D'.2.1 y j = if y = 102 ∧ j = 4 then 0 else if y = 102 ∧ j = 7 then nI k else if y = 160 ∧ i ≤ j ∧ j < k then D.2.1 159 j else D.2.1 y j) ∧ D'.1 = D.1 ∧ D'.2.2 = D.2.2 := by
  intro d
  induction d with
  | zero =>
    intro i D hi hb
    refine ⟨q_sI (q_sI D 102 7 (nI k)) 102 4 0, q_run_ret ?_, fun y j => ?_, rfl, rfl⟩
    · simp only [tX12_end_16]
      rw [if_pos (by rw [z_leN (by omega) (by omega)]; omega)]
      rfl
    · rw [q_sI_I, q_sI_I, if_neg (show ¬ (y = 160 ∧ i ≤ j ∧ j < k) by omega)]
  | succ d ih =>
    intro i D hi hb
    have g1 : ¬ nI k ≤ nI i := by rw [z_leN (by omega) (by omega)]; omega
    have st : tX12_end_16 (nI k) (nI i, D) = some (.inr (nI (i + 1), q_sI D 160 i (D.2.1 159 i))) := by
      simp only [tX12_end_16, if_neg g1, z_inbN (show i < 16000 by omega) (by decide), if_true, z_cl (show i < 2147483648 by omega), z_bytn (hb i (by omega)), Option.bind_some, nI_1]
    obtain ⟨D', z1, z2, z3, z4⟩ := ih (i + 1) (q_sI D 160 i (D.2.1 159 i)) (by omega) (fun j hj => by rw [q_sI_I, if_neg (by omega)]; exact hb j hj)
    refine ⟨D', (q_run_go st).trans z1, fun y j => ?_, z3, z4⟩
    rw [z2, q_sI_I, q_sI_I, if_neg (show ¬ (159 = 160 ∧ j = i) by omega)]
    by_cases c0 : y = 102 ∧ j = 4
    · rw [if_pos c0, if_pos c0]
    · rw [if_neg c0, if_neg c0]
      by_cases c1 : y = 102 ∧ j = 7
      · rw [if_pos c1, if_pos c1]
      · rw [if_neg c1, if_neg c1]
        by_cases c : y = 160 ∧ i + 1 ≤ j ∧ j < k
        · rw [if_pos c, if_pos (by omega)]
        · rw [if_neg c]
          by_cases c2 : y = 160 ∧ j = i
          · rw [if_pos c2, if_pos (by omega), c2.2]
          · rw [if_neg c2, if_neg (by omega)]
theorem z_end (h : w_F C D f t) (x : Int32) : ∃ r r', fX10_end C x = some r ∧ fX12_end D x = some r' ∧ r.1 = r'.1 ∧ ((r.2 = C ∧ r'.2 = D) ∨ ∃ k B, z_tx r.2 r'.2 k B ∧ w_F r.2 r'.2 0 t ∧ (∀ o j, ¬ (o = 0 ∧ j = 1) → ¬ (o = 2 ∧ j = 1) → o ≠ 3 → r.2.2.1 o j = C.2.1 o j) ∧ r.2.1 = C.1 ∧ r.2.2.2 = C.2.2 ∧ (∀ o j, ¬ (o = 102 ∧ (j = 4 ∨ j = 7)) → o ≠ 160 → r'.2.2.1 o j = D.2.1 o j) ∧ r'.2.1 = D.1 ∧ r'.2.2.2 = D.2.2) := by
  obtain ⟨h1, h2, h3, h4, h5, h6, h7, h8⟩ := h
  simp only [fX10_end, fX12_end, h1, h2]
  by_cases c0 : x < 0
  · rw [if_pos c0, if_pos c0]; exact ⟨_, _, rfl, rfl, rfl, Or.inl ⟨rfl, rfl⟩⟩
  rw [if_neg c0, if_neg c0]
  by_cases c1 : x ≤ nI f
  · rw [if_pos c1, if_pos c1]
    have hx0 : 0 ≤ x.toInt := by
      rw [Int32.lt_iff_toInt_lt] at c0
      have : (0 : Int32).toInt = 0 := rfl
      omega
    obtain ⟨k, hk⟩ : ∃ k : Nat, x = nI k ∧ k < 2147483648 := ⟨x.toInt.toNat, z_toN hx0, by have := Int32.toInt_lt x; omega⟩
    obtain ⟨rfl, hk31⟩ := hk
    rw [z_leN hk31 (by omega)] at c1
    have hk : k ≤ 16000 := by omega
    have l1 : ¬ (16000 : Int32) < nI k := by rw [show (16000 : Int32) = nI 16000 from rfl, z_ltN (by decide) (by omega)]; omega
    have l2 : nI k ≤ (4 : Int32) * nI 4000 := by rw [show (4 : Int32) * nI 4000 = nI 16000 from rfl, z_leN (by omega) (by decide)]; exact hk
    obtain ⟨C', z1, z2, z3, z4⟩ := z_take30 hk k 0 (q_sI C 2 1 (nI k)) (by omega) (by rw [q_sI_I, if_pos ⟨rfl, rfl⟩])
    obtain ⟨D', y1, y2, y3, y4⟩ := z_end16 hk k 0 D (by omega) (fun j hj => by rw [h8 j (by omega)]; exact w_by_byt _ _)
    have gC : ∀ y j, (q_sI C' 0 1 0).2.1 y j = if y = 0 ∧ j = 1 then 0 else if y = 3 ∧ j < k then w_by (C.2.1 1 (j / 4)) (j % 4) else if y = 2 ∧ j = 1 then nI k else C.2.1 y j := by
      intro y j
      rw [q_sI_I, z2, q_sI_I, q_sI_I, if_neg (show ¬ (1 = 2 ∧ j / 4 = 1) by omega)]
      simp only [Nat.zero_le, true_and]
    refine ⟨(true, q_sI C' 0 1 0), (true, D'), ?_, y1, rfl, Or.inr ⟨k, fun j => w_by (C.2.1 1 (j / 4)) (j % 4), ⟨?_, ?_, hk, fun j hj => ⟨?_, ?_⟩, fun j => w_by_byt _ _⟩, ⟨?_, ?_, rfl, by omega, ?_, ?_, h7, fun j hj => by omega⟩, fun o j a b c => ?_, z3, z4, fun o j a b => ?_, y3, y4⟩⟩
    · simp only [fX8_take, if_neg c0, if_neg l1, if_pos l2, Option.bind_some]
      show (Option.bind (q_run tX8_take_30 (nI 0, q_sI C 2 1 (nI k))) _) = _
      rw [z1]; rfl
    · rw [gC, if_neg (by omega), if_neg (by omega), if_pos ⟨rfl, rfl⟩]
    · show D'.2.1 102 7 = _
      rw [y2, if_neg (by omega), if_pos ⟨rfl, rfl⟩]
    · rw [gC, if_neg (by omega), if_pos ⟨rfl, hj⟩]
    · show D'.2.1 160 j = _
      rw [y2, if_neg (by omega), if_neg (by omega), if_pos (by omega), h8 j (by omega)]
    · rw [gC, if_pos ⟨rfl, rfl⟩]; rfl
    · show D'.2.1 102 4 = _
      rw [y2, if_pos ⟨rfl, rfl⟩]; rfl
    · rw [gC, if_neg (by omega), if_neg (by omega), if_neg (by omega)]; exact h5
    · show D'.2.1 102 5 = _
      rw [y2, if_neg (by omega), if_neg (by omega), if_neg (by omega)]; exact h6
    · rw [gC, if_neg a, if_neg (by omega), if_neg b]
    · show D'.2.1 o j = _
      rw [y2, if_neg (by omega), if_neg (by omega), if_neg (by omega)]
  · rw [if_neg c1, if_neg c1]; exact ⟨_, _, rfl, rfl, rfl, Or.inl ⟨rfl, rfl⟩⟩
end ZEN
