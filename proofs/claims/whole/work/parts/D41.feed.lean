/-! ===== feed ===== -/
def w_by (x : Int32) (i : Nat) : Int32 := (x >>> (nI (8 * (3 - i)) &&& 31)).toInt8.toInt32
theorem w_by_byt (x : Int32) (i : Nat) : q_byt (w_by x i) := by
  have := q_narB (x >>> (nI (8 * (3 - i)) &&& 31))
  rw [vp_nar_byte] at this
  exact this
theorem w_nar (x : Int32) (i : Nat) : vp_nar .byte (x >>> (nI (8 * (3 - i)) &&& 31)).toInt8.toInt32 = w_by x i := by rw [pk_vb]; rfl
theorem w_idx0 : ∀ a : Fin 126, ∀ b : Fin 128, nI (a * 128 + b) &&& 3 = nI ((a * 128 + b) % 4) ∧ nI (a * 128 + b) >>> ((2 : Int32) &&& 31) = nI ((a * 128 + b) / 4) ∧ nI (a * 128 + b) / 4 = nI ((a * 128 + b) / 4) := by decide +kernel
theorem w_idx {k : Nat} (h : k ≤ 16000) : nI k &&& 3 = nI (k % 4) ∧ nI k >>> ((2 : Int32) &&& 31) = nI (k / 4) ∧ nI k / 4 = nI (k / 4) := by
  have := w_idx0 ⟨k / 128, by omega⟩ ⟨k % 128, by omega⟩
  have e : k / 128 * 128 + k % 128 = k := by omega
  simp only [e] at this
  exact this
/-- what is fed and not yet ended -/
def w_F (C D : QS) (f t : Nat) : Prop := C.2.1 0 1 = nI f ∧ D.2.1 102 4 = nI f ∧ f % 20 = 0 ∧ f ≤ 16000 ∧ C.2.1 0 2 = nI t ∧ D.2.1 102 5 = nI t ∧ t ≤ 65536 ∧ ∀ k, k < f → D.2.1 159 k = w_by (C.2.1 1 (k / 4)) (k % 4)
section ZFD
variable {C D : QS} {f t : Nat}
theorem z_word2 {x : Int32} : ∀ d D, d ≤ 4 → ∀ f, f + d ≤ 16000 → D.2.1 102 4 = nI f → ∃ D', q_run (tX12_word_2 x) (nI d - 1, D) = some D' ∧ (∀ y j, D'.2.1 y j = if y = 102 ∧ j = 4 then nI (f + d) else if y = 159 ∧ f ≤ j ∧ j < f + d then w_by x (4 - d + (j - f)) else D.2.1 y j) ∧ D'.1 = D.1 ∧ D'.2.2 = D.2.2 := by
  intro d
  induction d with
  | zero =>
    intro D hd f hf h
    refine ⟨D, q_run_ret ?_, fun y j => ?_, rfl, rfl⟩
    · have : (nI 0 - 1 : Int32) < 0 := by decide
      simp only [tX12_word_2, if_pos this]
    · by_cases c : y = 102 ∧ j = 4
      · rw [if_pos c, c.1, c.2, h]; rfl
      · rw [if_neg c, if_neg (by omega)]
  | succ d ih =>
    intro D hd f hf h
    have e1 : nI (d + 1) - 1 = nI d := by rw [show (1 : Int32) = nI 1 from rfl, z_subN (by omega)]; rfl
    have e8 : (8 : Int32) * nI d = nI (8 * (3 - (3 - d))) := by rw [show (8 : Int32) = nI 8 from rfl, nI_mulN, show 3 - (3 - d) = d by omega]
    let D1 : QS := q_sI (q_sI D 159 f (w_by x (3 - d))) 102 4 (nI (f + 1))
    have gD : ∀ y j, D1.2.1 y j = if y = 102 ∧ j = 4 then nI (f + 1) else if y = 159 ∧ j = f then w_by x (3 - d) else D.2.1 y j := by intro y j; simp only [D1, q_sI_I]
    have st : tX12_word_2 x (nI (d + 1) - 1, D) = some (.inr (nI d - 1, D1)) := by
      have h2 : (q_sI D 159 f (w_by x (3 - d))).2.1 102 4 = nI f := by rw [q_sI_I, if_neg (by omega)]; exact h
      simp only [tX12_word_2, e1, z_negN (show d < 2147483648 by omega), if_false, h, z_inbN (show f < 16000 by omega) (by decide), if_true, z_cl (show f < 2147483648 by omega), e8, w_nar, Option.bind_some, h2, nI_1, D1]
    obtain ⟨D', z1, z2, z3, z4⟩ := ih D1 (by omega) (f + 1) (by omega) (by rw [gD, if_pos ⟨rfl, rfl⟩])
    refine ⟨D', (q_run_go st).trans z1, fun y j => ?_, z3, z4⟩
    rw [z2, gD]
    by_cases c : y = 102 ∧ j = 4
    · rw [if_pos c, if_pos c, show f + 1 + d = f + (d + 1) by omega]
    · rw [if_neg c, if_neg c, if_neg c]
      by_cases c2 : y = 159 ∧ f + 1 ≤ j ∧ j < f + 1 + d
      · rw [if_pos c2, if_pos (by omega), show 4 - d + (j - (f + 1)) = 4 - (d + 1) + (j - f) by omega]
      · rw [if_neg c2]
        by_cases c3 : y = 159 ∧ j = f
        · rw [if_pos c3, if_pos (by omega), show 4 - (d + 1) + (j - f) = 3 - d by omega]
        · rw [if_neg c3, if_neg (by omega)]
theorem z_word {x : Int32} (hf : f + 4 ≤ 16000) (h : D.2.1 102 4 = nI f) : ∃ D', fX12_word D x = some D' ∧ (∀ y j, D'.2.1 y j = if y = 102 ∧ j = 4 then nI (f + 4) else if y = 159 ∧ f ≤ j ∧ j < f + 4 then w_by x (j - f) else D.2.1 y j) ∧ D'.1 = D.1 ∧ D'.2.2 = D.2.2 := by
  obtain ⟨D', z1, z2, z3, z4⟩ := z_word2 (x := x) 4 D (Nat.le_refl _) f hf h
  refine ⟨D', z1, fun y j => ?_, z3, z4⟩
  rw [z2, show 4 - 4 + (j - f) = j - f by omega]
theorem z_feed (h : w_F C D f t) (x1 x2 x3 x4 x5 : Int32) : ∃ r r' f' t', fX10_feed C x1 x2 x3 x4 x5 = some r ∧ fX12_feed D x1 x2 x3 x4 x5 = some r' ∧ r.1 = r'.1 ∧ w_F r.2 r'.2 f' t' ∧ (∀ o j, ¬ (o = 0 ∧ (j = 1 ∨ j = 2)) → o ≠ 1 → r.2.2.1 o j = C.2.1 o j) ∧ r.2.1 = C.1 ∧ r.2.2.2 = C.2.2 ∧ (∀ o j, ¬ (o = 102 ∧ (j = 4 ∨ j = 5)) → o ≠ 159 → r'.2.2.1 o j = D.2.1 o j) ∧ r'.2.1 = D.1 ∧ r'.2.2.2 = D.2.2 := by
  obtain ⟨h1, h2, h3, h4, h5, h6, h7, h8⟩ := h
  have l1 : ((15980 : Int32) < nI f) = (15980 < f) := by rw [show (15980 : Int32) = nI 15980 from rfl, z_ltN (by decide) (by omega)]
  have l2 : (nI t ≤ (65516 : Int32)) = (t ≤ 65516) := by rw [show (65516 : Int32) = nI 65516 from rfl, z_leN (by omega) (by decide)]
  have l3 : ((16000 : Int32) < nI (f + 20)) = (16000 < f + 20) := by rw [show (16000 : Int32) = nI 16000 from rfl, z_ltN (by decide) (by omega)]
  have l4 : (nI (t + 20) ≤ (65536 : Int32)) = (t + 20 ≤ 65536) := by rw [show (65536 : Int32) = nI 65536 from rfl, z_leN (by omega) (by decide)]
  have p20 : ∀ k, nI k + (20 : Int32) = nI (k + 20) := fun k => nI_add k 20
  have same : ∃ r r' f' t', some ((-1 : Int32), C) = some r ∧ some ((-1 : Int32), D) = some r' ∧ r.1 = r'.1 ∧ w_F r.2 r'.2 f' t' ∧ (∀ o j, ¬ (o = 0 ∧ (j = 1 ∨ j = 2)) → o ≠ 1 → r.2.2.1 o j = C.2.1 o j) ∧ r.2.1 = C.1 ∧ r.2.2.2 = C.2.2 ∧ (∀ o j, ¬ (o = 102 ∧ (j = 4 ∨ j = 5)) → o ≠ 159 → r'.2.2.1 o j = D.2.1 o j) ∧ r'.2.1 = D.1 ∧ r'.2.2.2 = D.2.2 := ⟨_, _, f, t, rfl, rfl, rfl, ⟨h1, h2, h3, h4, h5, h6, h7, h8⟩, fun _ _ _ _ => rfl, rfl, rfl, fun _ _ _ _ => rfl, rfl, rfl⟩
  simp only [fX10_feed, fX12_feed, h1, h2, h5, h6, p20, l1, l2, l3, l4]
  by_cases c1 : 15980 < f
  · rw [if_pos c1, if_pos (show 16000 < f + 20 by omega)]; exact same
  rw [if_neg c1, if_neg (show ¬ 16000 < f + 20 by omega)]
  by_cases c2 : t ≤ 65516
  · rw [if_pos c2, if_pos (show t + 20 ≤ 65536 by omega)]
    have d4 := (w_idx h4).2.2
    have a1 : nI (f / 4) + (1 : Int32) = nI (f / 4 + 1) := nI_add _ 1
    have a2 : nI (f / 4) + (2 : Int32) = nI (f / 4 + 2) := nI_add _ 2
    have a3 : nI (f / 4) + (3 : Int32) = nI (f / 4 + 3) := nI_add _ 3
    have a4 : nI (f / 4) + (4 : Int32) = nI (f / 4 + 4) := nI_add _ 4
    obtain ⟨D1, w1, v1, s1, t1⟩ := z_word (x := x1) (show f + 4 ≤ 16000 by omega) h2
    obtain ⟨D2, w2, v2, s2, t2⟩ := z_word (x := x2) (show f + 4 + 4 ≤ 16000 by omega) (by rw [v1, if_pos ⟨rfl, rfl⟩] : D1.2.1 102 4 = nI (f + 4))
    obtain ⟨D3, w3, v3, s3, t3⟩ := z_word (x := x3) (show f + 4 + 4 + 4 ≤ 16000 by omega) (by rw [v2, if_pos ⟨rfl, rfl⟩] : D2.2.1 102 4 = nI (f + 4 + 4))
    obtain ⟨D4, w4, v4, s4, t4⟩ := z_word (x := x4) (show f + 4 + 4 + 4 + 4 ≤ 16000 by omega) (by rw [v3, if_pos ⟨rfl, rfl⟩] : D3.2.1 102 4 = nI (f + 4 + 4 + 4))
    obtain ⟨D5, w5, v5, s5, t5⟩ := z_word (x := x5) (show f + 4 + 4 + 4 + 4 + 4 ≤ 16000 by omega) (by rw [v4, if_pos ⟨rfl, rfl⟩] : D4.2.1 102 4 = nI (f + 4 + 4 + 4 + 4))
    have gD : ∀ y j, D5.2.1 y j = if y = 102 ∧ j = 4 then nI (f + 20) else if y = 159 ∧ f ≤ j ∧ j < f + 20 then w_by (if j < f + 4 then x1 else if j < f + 8 then x2 else if j < f + 12 then x3 else if j < f + 16 then x4 else x5) ((j - f) % 4) else D.2.1 y j := by
      intro y j
      rw [v5, v4, v3, v2, v1]
      by_cases c : y = 102 ∧ j = 4
      · rw [if_pos c, if_pos c]
      · simp only [if_neg c]
        by_cases e : y = 159 ∧ f ≤ j ∧ j < f + 20
        · rw [if_pos e]
          by_cases e1 : j < f + 4
          · rw [if_neg (by omega), if_neg (by omega), if_neg (by omega), if_neg (by omega), if_pos (by omega), if_pos e1, show (j - f) % 4 = j - f by omega]
          · rw [if_neg e1]
            by_cases e2 : j < f + 8
            · rw [if_neg (by omega), if_neg (by omega), if_neg (by omega), if_pos (by omega), if_pos e2, show (j - f) % 4 = j - (f + 4) by omega]
            · rw [if_neg e2]
              by_cases e3 : j < f + 12
              · rw [if_neg (by omega), if_neg (by omega), if_pos (by omega), if_pos e3, show (j - f) % 4 = j - (f + 4 + 4) by omega]
              · rw [if_neg e3]
                by_cases e4 : j < f + 16
                · rw [if_neg (by omega), if_pos (by omega), if_pos e4, show (j - f) % 4 = j - (f + 4 + 4 + 4) by omega]
                · rw [if_neg e4, if_pos (by omega), show (j - f) % 4 = j - (f + 4 + 4 + 4 + 4) by omega]
        · rw [if_neg e, if_neg (by omega), if_neg (by omega), if_neg (by omega), if_neg (by omega), if_neg (by omega)]
    let C5 : QS := q_sI (q_sI (q_sI (q_sI (q_sI C 1 (f / 4) x1) 1 (f / 4 + 1) x2) 1 (f / 4 + 2) x3) 1 (f / 4 + 3) x4) 1 (f / 4 + 4) x5
    let C7 : QS := q_sI (q_sI C5 0 1 (nI (f + 20))) 0 2 (nI (t + 20))
    let D6 : QS := q_sI D5 102 5 (nI (t + 20))
    have gC : ∀ y j, C7.2.1 y j = if y = 0 ∧ j = 2 then nI (t + 20) else if y = 0 ∧ j = 1 then nI (f + 20) else if y = 1 ∧ j = f / 4 + 4 then x5 else if y = 1 ∧ j = f / 4 + 3 then x4 else if y = 1 ∧ j = f / 4 + 2 then x3 else if y = 1 ∧ j = f / 4 + 1 then x2 else if y = 1 ∧ j = f / 4 then x1 else C.2.1 y j := by intro y j; simp only [C7, C5, q_sI_I]
    have hD6 : ∀ y j, D6.2.1 y j = if y = 102 ∧ j = 5 then nI (t + 20) else D5.2.1 y j := by intro y j; simp only [D6, q_sI_I]
    have k1 : C5.2.1 0 1 = nI f := by simp only [C5, q_sI_I]; simp (disch := omega) only [if_neg]; exact h1
    have k2 : (q_sI C5 0 1 (nI (f + 20))).2.1 0 2 = nI t := by simp only [C5, q_sI_I]; simp (disch := omega) only [if_neg]; exact h5
    have k3 : C7.2.1 0 1 = nI (f + 20) := by rw [gC, if_neg (by omega), if_pos ⟨rfl, rfl⟩]
    have k4 : D5.2.1 102 5 = nI t := by rw [gD, if_neg (by omega), if_neg (by omega)]; exact h6
    have k5 : D6.2.1 102 4 = nI (f + 20) := by rw [hD6, if_neg (by omega), gD, if_pos ⟨rfl, rfl⟩]
    refine ⟨(nI (f + 20), C7), (nI (f + 20), D6), f + 20, t + 20, ?_, ?_, rfl, ⟨k3, k5, by omega, by omega, ?_, ?_, by omega, fun k hk => ?_⟩, fun o j a b => ?_, rfl, rfl, fun o j a b => ?_, s5.trans (s4.trans (s3.trans (s2.trans s1))), t5.trans (t4.trans (t3.trans (t2.trans t1)))⟩
    · simp only [d4, a1, a2, a3, a4, z_inbN (show f / 4 < 4000 by omega) (by decide), z_inbN (show f / 4 + 1 < 4000 by omega) (by decide), z_inbN (show f / 4 + 2 < 4000 by omega) (by decide), z_inbN (show f / 4 + 3 < 4000 by omega) (by decide), z_inbN (show f / 4 + 4 < 4000 by omega) (by decide), if_true, Option.bind_some, z_cl (show f / 4 < 2147483648 by omega), z_cl (show f / 4 + 1 < 2147483648 by omega), z_cl (show f / 4 + 2 < 2147483648 by omega), z_cl (show f / 4 + 3 < 2147483648 by omega), z_cl (show f / 4 + 4 < 2147483648 by omega)]
      show some ((q_sI (q_sI C5 0 1 (C5.2.1 0 1 + 20)) 0 2 ((q_sI C5 0 1 (C5.2.1 0 1 + 20)).2.1 0 2 + 20)).2.1 0 1, q_sI (q_sI C5 0 1 (C5.2.1 0 1 + 20)) 0 2 ((q_sI C5 0 1 (C5.2.1 0 1 + 20)).2.1 0 2 + 20)) = _
      rw [k1, p20, k2, p20]
      show some (C7.2.1 0 1, C7) = _
      rw [k3]
    · simp only [w1, w2, w3, w4, w5, Option.bind_some, k4, p20]
      show some (D6.2.1 102 4, D6) = _
      rw [k5]
    · show C7.2.1 0 2 = _
      rw [gC, if_pos ⟨rfl, rfl⟩]
    · show D6.2.1 102 5 = _
      rw [hD6, if_pos ⟨rfl, rfl⟩]
    · show D6.2.1 159 k = w_by (C7.2.1 1 (k / 4)) (k % 4)
      rw [hD6, if_neg (show ¬ (159 = 102 ∧ k = 5) by omega), gD, if_neg (show ¬ (159 = 102 ∧ k = 4) by omega), gC, if_neg (show ¬ (1 = 0 ∧ k / 4 = 2) by omega), if_neg (show ¬ (1 = 0 ∧ k / 4 = 1) by omega)]
      by_cases c : k < f
      · rw [if_neg (by omega), if_neg (by omega), if_neg (by omega), if_neg (by omega), if_neg (by omega), if_neg (by omega)]; exact h8 k c
      · rw [if_pos (by omega), show (k - f) % 4 = k % 4 by omega]
        congr 1
        by_cases e1 : k < f + 4
        · rw [if_pos e1, if_neg (by omega), if_neg (by omega), if_neg (by omega), if_neg (by omega), if_pos (by omega)]
        · rw [if_neg e1]
          by_cases e2 : k < f + 8
          · rw [if_pos e2, if_neg (by omega), if_neg (by omega), if_neg (by omega), if_pos (by omega)]
          · rw [if_neg e2]
            by_cases e3 : k < f + 12
            · rw [if_pos e3, if_neg (by omega), if_neg (by omega), if_pos (by omega)]
            · rw [if_neg e3]
              by_cases e4 : k < f + 16
              · rw [if_pos e4, if_neg (by omega), if_pos (by omega)]
              · rw [if_neg e4, if_pos (by omega)]
    · show C7.2.1 o j = _
      rw [gC]; simp (disch := omega) only [if_neg]
    · show D6.2.1 o j = _
      rw [hD6, if_neg (by omega), gD, if_neg (by omega), if_neg (by omega)]
  · rw [if_neg c2, if_neg (show ¬ t + 20 ≤ 65536 by omega)]; exact same
end ZFD
