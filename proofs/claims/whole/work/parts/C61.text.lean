/-! ===== the text is cut into tokens on both sides ===== -/
def z_mk (c : Int32) : Bool := decide (c = 40) || decide (c = 41) || decide (c = 123) || decide (c = 125) || decide (c = 58)
def z_bad (c : Int32) : Bool := (decide (c < 32) && !decide (c = 9) && !decide (c = 10) && !decide (c = 13)) || decide (c = 127)
def z_rm (r : Bool) (c : Int32) : Bool := decide (c = 59) || (r && !decide (c = 10))
def z_bl (r : Bool) (c : Int32) : Bool := z_rm r c || decide (c ≤ 32)
def z_nC (C : QS) (T k : Nat) : QS := q_sI (q_sI (q_sI C 4 T (nI k)) 2 5 (nI (T + 1))) 5 T (nI (k + 1))
def z_nD (D : QS) (T k : Nat) : QS := q_sI (q_sI (q_sI D 161 T (nI k)) 102 10 (nI (T + 1))) 162 T (nI (k + 1))
def z_stC (C : QS) (T k : Nat) (r w : Bool) (c : Int32) : QS := if z_bl r c = true then C else if (z_mk c || !w) = true then z_nC C T k else q_sI C 5 (T - 1) (nI (k + 1))
def z_stD (D : QS) (T k : Nat) (r w : Bool) (c : Int32) : QS := if z_bl r c = true then D else if (z_mk c || !w) = true then z_nD D T k else q_sI D 162 (T - 1) (nI (k + 1))
theorem z_sub1 {T : Nat} (h : 0 < T) : nI T - 1 = nI (T - 1) := by
  obtain ⟨t, rfl⟩ : ∃ t, T = t + 1 := ⟨T - 1, by omega⟩
  exact nI_pred t
theorem z_chars (c : Int32) : (c = 9 ∨ c = 10 ∨ c = 13 ∨ c = 127 ∨ c = 59 ∨ c = 40 ∨ c = 41 ∨ c = 123 ∨ c = 125 ∨ c = 58 ∨ c = 32) ∨ (c ≠ 9 ∧ c ≠ 10 ∧ c ≠ 13 ∧ c ≠ 127 ∧ c ≠ 59 ∧ c ≠ 40 ∧ c ≠ 41 ∧ c ≠ 123 ∧ c ≠ 125 ∧ c ≠ 58 ∧ c ≠ 32) := by
  by_cases q : c = 9 ∨ c = 10 ∨ c = 13 ∨ c = 127 ∨ c = 59 ∨ c = 40 ∨ c = 41 ∨ c = 123 ∨ c = 125 ∨ c = 58 ∨ c = 32
  · exact .inl q
  · simp only [not_or] at q
    exact .inr q
theorem z_split_u {C : QS} {k T : Nat} {c : Int32} {r w : Bool} (hk : k < 16000) (hT : C.2.1 2 5 = nI T) (hTk : T ≤ k) (hw : w = true → 0 < T) (hb : z_bad c = false) : uX8_split_55 C (q_b r) (q_b w) (nI k) c = some (.inr (q_b (z_rm r c), q_b (!z_bl r c && !z_mk c), nI (k + 1), z_stC C T k r w c)) := by
  have h127 : c ≠ 127 := by rintro rfl; revert hb; decide
  have i1 : q_inb (nI T) 16000 = true := z_inbN (by omega) (by decide)
  have c1 : (nI T).toNatClampNeg = T := z_cl (by omega)
  have n1 : nI T + 1 - 1 = nI T := by rw [nI_1, nI_pred]
  have b0 : ¬ q_b true = 0 := by decide
  have b1 : q_b false = 0 := rfl
  have b2 : q_b true = 1 := rfl
  have e1 : (q_sI (q_sI C 4 T (nI k)) 2 5 (nI (T + 1))).2.1 2 5 = nI (T + 1) := by simp [q_sI_I]
  have e2 : (q_sI C 4 T (nI k)).2.1 2 5 = nI T := by simp [q_sI_I, hT]
  by_cases hw0 : w = true
  · have h0 := hw hw0
    subst hw0
    have s1 := z_sub1 h0
    have i2 : q_inb (nI (T - 1)) 16000 = true := z_inbN (by omega) (by decide)
    have c2 : (nI (T - 1)).toNatClampNeg = T - 1 := z_cl (by omega)
    rcases z_chars c with (rfl | rfl | rfl | rfl | rfl | rfl | rfl | rfl | rfl | rfl | rfl) | ⟨a1, a2, a3, a4, a5, a6, a7, a8, a9, a10, a11⟩
    iterate 11 · cases r <;> first | exact absurd rfl h127 | simp [uX8_split_55, b0, b1, b2, i1, i2, c1, c2, s1, n1, hT, e1, e2, z_stC, z_nC, z_bl, z_rm, z_mk, nI_1, nI_pred]
    · have hlt : ¬ c ≤ 32 := by
        intro q
        have : c < 32 := Int32.lt_of_le_of_ne q a11
        simp [z_bad, this, a1, a2, a3] at hb
      have hgt : 32 < c := Int32.not_le.mp hlt
      cases r <;> simp [uX8_split_55, b0, b1, b2, i1, i2, c1, c2, s1, n1, hT, e1, e2, z_stC, z_nC, z_bl, z_rm, z_mk, nI_1, nI_pred, a1, a2, a3, a4, a5, a6, a7, a8, a9, a10, a11, hlt, hgt]
  · have hw1 : w = false := by cases w with | false => rfl | true => exact absurd rfl hw0
    subst hw1
    rcases z_chars c with (rfl | rfl | rfl | rfl | rfl | rfl | rfl | rfl | rfl | rfl | rfl) | ⟨a1, a2, a3, a4, a5, a6, a7, a8, a9, a10, a11⟩
    iterate 11 · cases r <;> first | exact absurd rfl h127 | simp [uX8_split_55, b0, b1, b2, i1, c1, n1, hT, e1, e2, z_stC, z_nC, z_bl, z_rm, z_mk, nI_1, nI_pred]
    · have hlt : ¬ c ≤ 32 := by
        intro q
        have : c < 32 := Int32.lt_of_le_of_ne q a11
        simp [z_bad, this, a1, a2, a3] at hb
      have hgt : 32 < c := Int32.not_le.mp hlt
      cases r <;> simp [uX8_split_55, b0, b1, b2, i1, c1, n1, hT, e1, e2, z_stC, z_nC, z_bl, z_rm, z_mk, nI_1, nI_pred, a1, a2, a3, a4, a5, a6, a7, a8, a9, a10, a11, hlt, hgt]
theorem z_split_step {C : QS} {n k T : Nat} {r w : Bool} (hn : C.2.1 2 1 = nI n) (hk : k < n) (hn2 : n ≤ 16000) (hT : C.2.1 2 5 = nI T) (hTk : T ≤ k) (hw : w = true → 0 < T) : tX8_split_11 (q_b r, q_b w, nI k, C) = if z_bad (C.2.1 3 k) = true then some (.inl (false, C)) else some (.inr (q_b (z_rm r (C.2.1 3 k)), q_b (!z_bl r (C.2.1 3 k) && !z_mk (C.2.1 3 k)), nI (k + 1), z_stC C T k r w (C.2.1 3 k))) := by
  have g1 : ¬ nI n ≤ nI k := by rw [z_leN (by omega) (by omega)]; omega
  have i1 : q_inb (nI k) 16000 = true := z_inbN (by omega) (by decide)
  have c1 : (nI k).toNatClampNeg = k := z_cl (by omega)
  unfold tX8_split_11
  simp only [hn, c1, i1, if_true]
  rw [if_neg g1]
  generalize hc : C.2.1 3 k = c
  have K := fun hb => z_split_u (C := C) (k := k) (T := T) (c := c) (r := r) (w := w) (by omega) hT hTk hw hb
  by_cases hb : z_bad c = true
  · rw [if_pos hb]
    simp only [z_bad, Bool.or_eq_true, Bool.and_eq_true, decide_eq_true_eq, Bool.not_eq_true', decide_eq_false_iff_not] at hb
    rcases hb with ⟨⟨⟨h1, h2⟩, h3⟩, h4⟩ | rfl
    · rw [if_neg (Int32.not_le.mpr h1), if_neg h2, if_neg h3, if_neg h4]
    · rw [if_pos (by decide)]
      rfl
  · rw [if_neg hb]
    have hb1 : z_bad c = false := by simpa using hb
    rw [K hb1]
    simp only [z_bad, Bool.or_eq_false_iff, Bool.and_eq_false_iff, decide_eq_false_iff_not, Bool.not_eq_false', decide_eq_true_eq] at hb1
    by_cases h1 : (32 : Int32) ≤ c
    · rw [if_pos h1]
    · rw [if_neg h1]
      by_cases h2 : c = 9
      · rw [if_pos h2]
      · rw [if_neg h2]
        by_cases h3 : c = 10
        · rw [if_pos h3]
        · rw [if_neg h3]
          by_cases h4 : c = 13
          · rw [if_pos h4]
          · exfalso
            have := hb1.1
            simp only [h2, h3, h4, or_false] at this
            exact this (Int32.not_le.mp h1)
theorem z_cut_u {D : QS} {k T : Nat} {c : Int32} {r w : Bool} (hk : k < 16000) (hT : D.2.1 102 10 = nI T) (hTk : T ≤ k) (hw : w = true → 0 < T) (hb : z_bad c = false) : uX12_cut_64 D (q_b w) (q_b r) (nI k) c = some (.inr (q_b (!z_bl r c && !z_mk c), q_b (z_rm r c), nI (k + 1), z_stD D T k r w c)) := by
  have h127 : c ≠ 127 := by rintro rfl; revert hb; decide
  have i1 : q_inb (nI T) 16002 = true := z_inbN (by omega) (by decide)
  have c1 : (nI T).toNatClampNeg = T := z_cl (by omega)
  have n1 : nI T + 1 - 1 = nI T := by rw [nI_1, nI_pred]
  have b0 : ¬ q_b true = 0 := by decide
  have b1 : q_b false = 0 := rfl
  have b2 : q_b true = 1 := rfl
  have e1 : (q_sI (q_sI D 161 T (nI k)) 102 10 (nI (T + 1))).2.1 102 10 = nI (T + 1) := by simp [q_sI_I]
  have e2 : (q_sI D 161 T (nI k)).2.1 102 10 = nI T := by simp [q_sI_I, hT]
  by_cases hw0 : w = true
  · have h0 := hw hw0
    subst hw0
    have s1 := z_sub1 h0
    have i2 : q_inb (nI (T - 1)) 16002 = true := z_inbN (by omega) (by decide)
    have c2 : (nI (T - 1)).toNatClampNeg = T - 1 := z_cl (by omega)
    rcases z_chars c with (rfl | rfl | rfl | rfl | rfl | rfl | rfl | rfl | rfl | rfl | rfl) | ⟨a1, a2, a3, a4, a5, a6, a7, a8, a9, a10, a11⟩
    iterate 11 · cases r <;> first | exact absurd rfl h127 | simp [uX12_cut_64, b0, b1, b2, i1, i2, c1, c2, s1, n1, hT, e1, e2, z_stD, z_nD, z_bl, z_rm, z_mk, nI_1, nI_pred]
    · have hlt : ¬ c ≤ 32 := by
        intro q
        have : c < 32 := Int32.lt_of_le_of_ne q a11
        simp [z_bad, this, a1, a2, a3] at hb
      have hgt : 32 < c := Int32.not_le.mp hlt
      cases r <;> simp [uX12_cut_64, b0, b1, b2, i1, i2, c1, c2, s1, n1, hT, e1, e2, z_stD, z_nD, z_bl, z_rm, z_mk, nI_1, nI_pred, a1, a2, a3, a4, a5, a6, a7, a8, a9, a10, a11, hlt, hgt]
  · have hw1 : w = false := by cases w with | false => rfl | true => exact absurd rfl hw0
    subst hw1
    rcases z_chars c with (rfl | rfl | rfl | rfl | rfl | rfl | rfl | rfl | rfl | rfl | rfl) | ⟨a1, a2, a3, a4, a5, a6, a7, a8, a9, a10, a11⟩
    iterate 11 · cases r <;> first | exact absurd rfl h127 | simp [uX12_cut_64, b0, b1, b2, i1, c1, n1, hT, e1, e2, z_stD, z_nD, z_bl, z_rm, z_mk, nI_1, nI_pred]
    · have hlt : ¬ c ≤ 32 := by
        intro q
        have : c < 32 := Int32.lt_of_le_of_ne q a11
        simp [z_bad, this, a1, a2, a3] at hb
      have hgt : 32 < c := Int32.not_le.mp hlt
      cases r <;> simp [uX12_cut_64, b0, b1, b2, i1, c1, n1, hT, e1, e2, z_stD, z_nD, z_bl, z_rm, z_mk, nI_1, nI_pred, a1, a2, a3, a4, a5, a6, a7, a8, a9, a10, a11, hlt, hgt]
theorem z_cut_step {D : QS} {n k T : Nat} {r w : Bool} (hn : D.2.1 102 7 = nI n) (hk : k < n) (hn2 : n ≤ 16000) (hT : D.2.1 102 10 = nI T) (hTk : T ≤ k) (hw : w = true → 0 < T) (hc : q_byt (D.2.1 160 k)) : tX12_cut_11 (q_b w, q_b r, nI k, D) = if z_bad (D.2.1 160 k) = true then some (.inl (false, D)) else some (.inr (q_b (!z_bl r (D.2.1 160 k) && !z_mk (D.2.1 160 k)), q_b (z_rm r (D.2.1 160 k)), nI (k + 1), z_stD D T k r w (D.2.1 160 k))) := by
  have g1 : ¬ nI n ≤ nI k := by rw [z_leN (by omega) (by omega)]; omega
  have i1 : q_inb (nI k) 16000 = true := z_inbN (by omega) (by decide)
  have c1 : (nI k).toNatClampNeg = k := z_cl (by omega)
  unfold tX12_cut_11
  simp only [hn, c1, i1, if_true]
  rw [if_neg g1]
  generalize hcc : D.2.1 160 k = c at hc ⊢
  have K := fun hb => z_cut_u (D := D) (k := k) (T := T) (c := c) (r := r) (w := w) (by omega) hT hTk hw hb
  by_cases hb : z_bad c = true
  · rw [if_pos hb]
    simp only [z_bad, Bool.or_eq_true, Bool.and_eq_true, decide_eq_true_eq, Bool.not_eq_true', decide_eq_false_iff_not] at hb
    rcases hb with ⟨⟨⟨h1, h2⟩, h3⟩, h4⟩ | rfl
    · rw [if_neg h2, if_neg h3, if_neg h4, if_pos h1]
    · rfl
  · rw [if_neg hb]
    have hb1 : z_bad c = false := by simpa using hb
    rw [K hb1]
    simp only [z_bad, Bool.or_eq_false_iff, Bool.and_eq_false_iff, decide_eq_false_iff_not, Bool.not_eq_false', decide_eq_true_eq] at hb1
    by_cases h2 : c = 9
    · rw [if_pos h2]
    · rw [if_neg h2]
      by_cases h3 : c = 10
      · rw [if_pos h3]
      · rw [if_neg h3]
        by_cases h4 : c = 13
        · rw [if_pos h4]
        · rw [if_neg h4]
          have h5 := hb1.1
          simp only [h2, h3, h4, or_false] at h5
          rw [if_neg h5, if_pos]
          have h6 := hb1.2
          have h7 : c.toInt ≠ 127 := fun q => h6 (Int32.toInt_inj.mp q)
          rw [Int32.le_iff_toInt_le]
          have := hc.2
          rw [show (126 : Int32).toInt = 126 from rfl]
          omega
