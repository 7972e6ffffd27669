/-! ===== types: does a row suit (class) ===== -/
def k_xb (P : ZP) (i : Nat) : Nat := (P.xb i).toNatClampNeg
def k_told (M : ZM) (P : ZP) (i j : Nat) : Nat :=
  if P.op i = 3 ∨ P.op i = 5 ∨ P.op i = 6 ∨ P.op i = 7 then 67
  else if P.op i = 26 ∨ P.op i = 27 ∨ P.op i = 28 ∨ P.op i = 29 ∨ P.op i = 37 ∨ P.op i = 38 then 0
  else if P.op i = 32 then 69
  else if P.op i = 33 then (if j = 0 then 69 else 66)
  else if P.op i = 34 then (if j = 0 then 69 else if j = 1 then 66 else 67)
  else if P.op i = 35 then k_xb P i
  else if P.op i = 36 then (if j = 0 then k_xb P i else M.ft (k_xa P i))
  else if P.op i = 39 then M.bp (k_fb P i) j
  else if P.op i = 40 then (if j = 0 then k_xb P i else M.bp (k_fb P i) j)
  else if P.op i = 41 then 1
  else if P.op i = 42 then M.br (P.bd i)
  else 66
def k_fit (K : ZK) (t x : Nat) : Bool := if t = 69 then k_ar x else k_blw K x t
def k_elm (K : ZK) (v a : Nat) : Bool := if a = 65 then decide (v ≠ 67) else k_blw K v (k_el a)
/-- the row suits the instruction -/
def k_ft (K : ZK) (M : ZM) (P : ZP) (hh : Nat → Int32) (i : Nat) (r : Nat → Nat) : Prop :=
  if P.op i = 2 then r (k_xa P i) ≠ 67 else if P.op i = 4 then r (k_xa P i) = 66 else if P.op i = 43 then M.br (P.bd i) = 68
  else (∀ j, j < k_tk M P i → k_fit K (k_told M P i j) (r (k_wd hh i - k_tk M P i + j)) = true) ∧ (P.op i = 34 → k_elm K (r (k_wd hh i - 1)) (r (k_wd hh i - 3)) = true)
section ZTF
variable {C D : QS} {n p q m b : Nat} {g : ZT} {K : ZK} {M : ZM} {P : ZP} {hh : Nat → Int32}
theorem z_told {i j : Nat} (hG : z_G n g) (hK : k_K g K) (S : c_S p q n g K M P C D) (hi : i < P.n) (hj : j < k_tk M P i) : fX5_told C p (nI i) (nI j) = some (nI (k_told M P i j)) ∧ k_told M P i j ≤ 69 := by
  have w := S.wI i hi
  have h48 := S.mJ.mB.1
  have f48 := S.mJ.mF.1
  have h32 := hK.2.1
  have h8 := hK.1
  have bn := S.bn
  have tk12 := (k_tk_le S hi).1
  have hj12 : j < 12 := by omega
  obtain ⟨y1, y2, y3, -, y5, -⟩ := S.iC i hi
  have hop := w.op
  have i1 := z_inbN (show i < 1024 by omega) (by decide)
  have c1 := z_cl (show i < 2147483648 by omega)
  have e : ∀ m, m < 100 → (nI (P.op i) = nI m) = (P.op i = m) := fun m hm => z_nk46 hop hm
  have e3 : (nI (P.op i) = 3) = (P.op i = 3) := e 3 (by decide)
  have e5 : (nI (P.op i) = 5) = (P.op i = 5) := e 5 (by decide)
  have e6 : (nI (P.op i) = 6) = (P.op i = 6) := e 6 (by decide)
  have e7 : (nI (P.op i) = 7) = (P.op i = 7) := e 7 (by decide)
  have e26 : (nI (P.op i) = 26) = (P.op i = 26) := e 26 (by decide)
  have e27 : (nI (P.op i) = 27) = (P.op i = 27) := e 27 (by decide)
  have e28 : (nI (P.op i) = 28) = (P.op i = 28) := e 28 (by decide)
  have e29 : (nI (P.op i) = 29) = (P.op i = 29) := e 29 (by decide)
  have e37 : (nI (P.op i) = 37) = (P.op i = 37) := e 37 (by decide)
  have e38 : (nI (P.op i) = 38) = (P.op i = 38) := e 38 (by decide)
  have e32 : (nI (P.op i) = 32) = (P.op i = 32) := e 32 (by decide)
  have e33 : (nI (P.op i) = 33) = (P.op i = 33) := e 33 (by decide)
  have e34 : (nI (P.op i) = 34) = (P.op i = 34) := e 34 (by decide)
  have e35 : (nI (P.op i) = 35) = (P.op i = 35) := e 35 (by decide)
  have e36 : (nI (P.op i) = 36) = (P.op i = 36) := e 36 (by decide)
  have e39 : (nI (P.op i) = 39) = (P.op i = 39) := e 39 (by decide)
  have e40 : (nI (P.op i) = 40) = (P.op i = 40) := e 40 (by decide)
  have e41 : (nI (P.op i) = 41) = (P.op i = 41) := e 41 (by decide)
  have e42 : (nI (P.op i) = 42) = (P.op i = 42) := e 42 (by decide)
  have j0 : (nI j = 0) = (j = 0) := by rw [show (0 : Int32) = nI 0 from rfl, z_eqN (by omega) (by decide)]
  have j1 : (nI j = 1) = (j = 1) := by rw [show (1 : Int32) = nI 1 from rfl, z_eqN (by omega) (by decide)]
  simp only [fX5_told, i1, if_true, c1, y1, y2, y3, y5, e3, e5, e6, e7, e26, e27, e28, e29, e37, e38, e32, e33, e34, e35, e36, e39, e40, e41, e42, j0, j1, k_told]
  by_cases q1 : P.op i = 3 ∨ P.op i = 5 ∨ P.op i = 6 ∨ P.op i = 7
  · rw [if_pos q1, if_pos q1]; exact ⟨rfl, by decide⟩
  rw [if_neg q1, if_neg q1]
  by_cases q2 : P.op i = 26 ∨ P.op i = 27 ∨ P.op i = 28 ∨ P.op i = 29 ∨ P.op i = 37 ∨ P.op i = 38
  · rw [if_pos q2, if_pos q2]; exact ⟨rfl, by decide⟩
  rw [if_neg q2, if_neg q2]
  by_cases q3 : P.op i = 32
  · rw [if_pos q3, if_pos q3]; exact ⟨rfl, by decide⟩
  rw [if_neg q3, if_neg q3]
  by_cases q4 : P.op i = 33
  · rw [if_pos q4, if_pos q4]
    by_cases c : j = 0
    · rw [if_pos c, if_pos c]; exact ⟨rfl, by decide⟩
    · rw [if_neg c, if_neg c]; exact ⟨rfl, by decide⟩
  rw [if_neg q4, if_neg q4]
  by_cases q5 : P.op i = 34
  · rw [if_pos q5, if_pos q5]
    by_cases c : j = 0
    · rw [if_pos c, if_pos c]; exact ⟨rfl, by decide⟩
    · rw [if_neg c, if_neg c]
      by_cases c' : j = 1
      · rw [if_pos c', if_pos c']; exact ⟨rfl, by decide⟩
      · rw [if_neg c', if_neg c']; exact ⟨rfl, by decide⟩
  rw [if_neg q5, if_neg q5]
  by_cases q6 : P.op i = 35
  · obtain ⟨f, cc, x1, x2, x3, x4, x5, -⟩ := w.oF (Or.inl q6)
    rw [if_pos q6, if_pos q6, k_xb, x3, z_cl (by omega)]; exact ⟨rfl, by omega⟩
  rw [if_neg q6, if_neg q6]
  by_cases q7 : P.op i = 36
  · obtain ⟨f, cc, x1, x2, x3, x4, x5, -⟩ := w.oF (Or.inr q7)
    rw [if_pos q7, if_pos q7, k_xb, x3, z_cl (show cc < 2147483648 by omega), k_xa, x1, z_cl (show f < 2147483648 by omega)]
    by_cases c : j = 0
    · rw [if_pos c, if_pos c]; exact ⟨rfl, by omega⟩
    · rw [if_neg c, if_neg c, if_pos (z_inbN (show f < 48 by omega) (by decide)), (S.mJ.cF.2 f x4).2.2.1]
      have := k_tok_lt hK (S.mJ.ft f x4)
      exact ⟨rfl, by omega⟩
  rw [if_neg q7, if_neg q7]
  have e12 : ∀ f, nI f * (12 : Int32) = nI (f * 12) := fun f => nI_mulN f 12
  by_cases q8 : P.op i = 39
  · obtain ⟨f, cc, x1, x2, x3, x4, x5, x6, x7⟩ := w.oB (Or.inl q8)
    obtain ⟨r1, r2, r3, r4, r5, r6, -⟩ := m_root hG S.mJ f x4
    have hbm : M.bm f = false := by rw [x7, q8]; rfl
    have ht := r6 hbm
    have hf := k_fb_of (P := P) (by omega) x1
    rw [k_tk, if_pos (Or.inl q8), hf] at hj
    have := k_tok_lt hK (k_bp_tok hK S.mJ x4 hj)
    rw [if_pos q8, if_pos q8, x2, ht, e12, nI_add, if_pos (z_inbN (show f * 12 + j < 576 by omega) (by decide)), z_cl (show f * 12 + j < 2147483648 by omega), (S.mJ.cB.2 f x4).2.2.2.2.2.2.2 j hj, hf]
    exact ⟨rfl, by omega⟩
  rw [if_neg q8, if_neg q8]
  by_cases q9 : P.op i = 40
  · obtain ⟨f, cc, x1, x2, x3, x4, x5, x6, x7⟩ := w.oB (Or.inr q9)
    obtain ⟨r1, r2, r3, r4, r5, r6, -⟩ := m_root hG S.mJ f x4
    have hf := k_fb_of (P := P) (by omega) x1
    rw [k_tk, if_pos (Or.inr q9), hf] at hj
    rw [if_pos q9, if_pos q9, k_xb, x3, z_cl (show cc < 2147483648 by omega)]
    by_cases c : j = 0
    · rw [if_pos c, if_pos c]; exact ⟨rfl, by omega⟩
    · have := k_tok_lt hK (k_bp_tok hK S.mJ x4 hj)
      rw [if_neg c, if_neg c, x2, e12, nI_add, if_pos (z_inbN (show M.bt f * 12 + j < 576 by omega) (by decide)), z_cl (show M.bt f * 12 + j < 2147483648 by omega), (S.mJ.cB.2 (M.bt f) (by omega)).2.2.2.2.2.2.2 j (by omega), r4 j (by omega) hj, hf]
      exact ⟨rfl, by omega⟩
  rw [if_neg q9, if_neg q9]
  by_cases q10 : P.op i = 41
  · rw [if_pos q10, if_pos q10]; exact ⟨rfl, by decide⟩
  rw [if_neg q10, if_neg q10]
  by_cases q11 : P.op i = 42
  · have hbd := w.bd
    rw [if_pos q11, if_pos q11, if_pos (z_inbN (show P.bd i < 48 by omega) (by decide)), z_cl (show P.bd i < 2147483648 by omega), (S.mJ.cB.2 (P.bd i) hbd).2.2.2.2.1]
    rcases k_br_rng hK S.mJ hbd with h | h
    · exact ⟨rfl, by omega⟩
    · have := k_tok_lt hK h
      exact ⟨rfl, by omega⟩
  rw [if_neg q11, if_neg q11]
  exact ⟨rfl, by decide⟩
theorem z_tfit {x t : Nat} (hK : k_K g K) (hk : k_C C p K) (hx : x ≤ 67) (ht : t ≤ 69) : fX0_isBelow C p (nI x) (nI t) = some (k_fit K t x) := by
  rw [k_fit]
  by_cases c : t = 69
  · rw [if_pos c, c]; exact z_isBelow69 (by omega)
  · rw [if_neg c]; exact z_isBelow hK hk (by omega) (by omega)
theorem z_suits127 {i base : Nat} {r : Nat → Nat} (hG : z_G n g) (hK : k_K g K) (S : c_S p q n g K M P C D) (hi : i < P.n) (hbase : base + k_tk M P i ≤ 20480) (hc : ∀ j, j < k_tk M P i → C.2.1 85 (base + j) = nI (r j) ∧ r j ≤ 67) : ∀ d k, k + d = k_tk M P i → (∀ j, j < k → k_fit K (k_told M P i j) (r j) = true) → ∃ x, q_run (tX5_suits_127 C p 85 20480 (nI i) (nI base) (nI (k_tk M P i))) (nI k) = some x ∧ (x = true ↔ ∀ j, j < k_tk M P i → k_fit K (k_told M P i j) (r j) = true) := by
  have tk12 := (k_tk_le S hi).1
  intro d
  induction d with
  | zero =>
    intro k hk hall
    refine ⟨true, q_run_ret ?_, ⟨fun _ j hj => hall j (by omega), fun _ => rfl⟩⟩
    simp only [tX5_suits_127]
    rw [if_pos (by rw [z_leN (by omega) (by omega)]; omega)]
  | succ d ih =>
    intro k hk hall
    have g1 : ¬ nI (k_tk M P i) ≤ nI k := by rw [z_leN (by omega) (by omega)]; omega
    obtain ⟨t1, t2⟩ := z_told hG hK S hi (show k < k_tk M P i by omega)
    obtain ⟨x1, x2⟩ := hc k (by omega)
    have ft := z_tfit hK S.mJ.kC x2 t2
    have st : ∀ v, k_fit K (k_told M P i k) (r k) = v → tX5_suits_127 C p 85 20480 (nI i) (nI base) (nI (k_tk M P i)) (nI k) = if v = true then some (.inr (nI (k + 1))) else some (.inl false) := by
      intro v hv
      simp only [tX5_suits_127, if_neg g1, nI_add, z_inbN (show base + k < 20480 by omega) (by decide), if_true, z_cl (show base + k < 2147483648 by omega), t1, Option.bind_some, x1, ft, hv, nI_1]
    cases hv : k_fit K (k_told M P i k) (r k) with
    | true =>
      obtain ⟨x, z1, z2⟩ := ih (k + 1) (by omega) (fun j hj => by
        by_cases e : j = k
        · rw [e]; exact hv
        · exact hall j (by omega))
      exact ⟨x, (q_run_go (st true hv)).trans z1, z2⟩
    | false =>
      refine ⟨false, q_run_ret (st false hv), ⟨(fun h => by cases h), fun h => ?_⟩⟩
      rw [h k (by omega)] at hv; cases hv
theorem z_isElem {v a : Nat} (hK : k_K g K) (hk : k_C C p K) (hv : v ≤ 67) (ha : a ≤ 67) : fX0_isElement C p (nI v) (nI a) = some (k_elm K v a) := by
  have e65 : (nI a = 65) = (a = 65) := by rw [show (65 : Int32) = nI 65 from rfl, z_eqN (by omega) (by decide)]
  have e67 : (nI v = 67) = (v = 67) := by rw [show (67 : Int32) = nI 67 from rfl, z_eqN (by omega) (by decide)]
  simp only [fX0_isElement, e65, e67, k_elm, z_elementOf ha, Option.bind_some]
  by_cases c : a = 65
  · rw [if_pos c, if_pos c]
    by_cases c2 : v = 67
    · rw [if_pos c2, decide_eq_false (fun h => h c2)]
    · rw [if_neg c2, decide_eq_true c2]
  · have hel : k_el a ≤ 67 := by
      rw [k_el, if_neg c]
      split
      · omega
      · split <;> omega
    simp only [if_neg c, z_isBelow hK hk (show v ≤ 68 by omega) (show k_el a ≤ 68 by omega), Option.bind_some]
theorem z_isRight {i : Nat} {r : Nat → Nat} (hG : z_G n g) (hK : k_K g K) (N : s_N p q n g K M P m C D) (hi : i < P.n) (hh1 : C.2.1 (p + 17) i = nI (k_hN hh i)) (hH : k_hi M P hh i) (hc : ∀ s, s < k_wd hh i → C.2.1 85 (i * 20 + s) = nI (r s)) (hv : k_rvt K (k_wd hh i) r) : ∃ x, fX9_isRight C p (nI i) = some x ∧ (x = true ↔ k_ft K M P hh i r) := by
  obtain ⟨h1, h2, h3, h4⟩ := hH
  have bn := N.S.bn
  have w := N.S.wI i hi
  have hop := w.op
  have h48 := N.S.mJ.mB.1
  have hw : k_wd hh i = 12 + k_hN hh i := rfl
  obtain ⟨y1, y2, -, -, y5, -⟩ := N.S.iC i hi
  have i1 := z_inbN (show i < 1024 by omega) (by decide)
  have c1 := z_cl (show i < 2147483648 by omega)
  have e20 : nI i * (20 : Int32) = nI (i * 20) := nI_mulN i 20
  have eb : nI (i * 20) + (12 : Int32) + nI (k_hN hh i) - nI (k_tk M P i) = nI (i * 20 + (k_wd hh i - k_tk M P i)) := by
    rw [show (12 : Int32) = nI 12 from rfl, nI_add, nI_add, z_subN (by omega)]
    congr 1; omega
  have eb2 : nI (i * 20 + (k_wd hh i - k_tk M P i)) + (2 : Int32) = nI (i * 20 + (k_wd hh i - k_tk M P i) + 2) := nI_add _ 2
  have e2 : (nI (P.op i) = 2) = (P.op i = 2) := z_nk46 hop (m := 2) (by omega)
  have e4 : (nI (P.op i) = 4) = (P.op i = 4) := z_nk46 hop (m := 4) (by omega)
  have e43 : (nI (P.op i) = 43) = (P.op i = 43) := z_nk46 hop (m := 43) (by omega)
  have e34 : (nI (P.op i) = 34) = (P.op i = 34) := z_nk46 hop (m := 34) (by omega)
  have hl : ∀ s, s < k_wd hh i → r s ≤ 67 := fun s hs => k_vt_lt hK (hv s hs)
  have hsu : ∃ x, fX5_suits C p (nI i) 85 20480 (nI (i * 20)) (nI (i * 20 + (k_wd hh i - k_tk M P i))) = some x ∧ (x = true ↔ (if P.op i = 2 then r (k_xa P i) ≠ 67 else if P.op i = 4 then r (k_xa P i) = 66 else if P.op i = 43 then M.br (P.bd i) = 68 else ∀ j, j < k_tk M P i → k_fit K (k_told M P i j) (r (k_wd hh i - k_tk M P i + j)) = true)) := by
    simp only [fX5_suits, i1, if_true, c1, y1, y2, y5, e2, e4, e43, z_takes5 hG N.S hi, Option.bind_some]
    by_cases q2 : P.op i = 2
    · obtain ⟨a1, a2, -⟩ := k_xa_12 N hi (Or.inl q2)
      have hx := hl (k_xa P i) (by omega)
      have e67 : (nI (r (k_xa P i)) = 67) = (r (k_xa P i) = 67) := by rw [show (67 : Int32) = nI 67 from rfl, z_eqN (by omega) (by decide)]
      simp only [if_pos q2, a2, nI_add, z_inbN (show i * 20 + k_xa P i < 20480 by omega) (by decide), if_true, z_cl (show i * 20 + k_xa P i < 2147483648 by omega), hc _ (show k_xa P i < k_wd hh i by omega), e67]
      by_cases c : r (k_xa P i) = 67
      · rw [if_pos c]; exact ⟨false, rfl, ⟨(fun h => by cases h), fun h => absurd c h⟩⟩
      · rw [if_neg c]; exact ⟨true, rfl, ⟨fun _ => c, fun _ => rfl⟩⟩
    rw [if_neg q2, if_neg q2]
    by_cases q4 : P.op i = 4
    · obtain ⟨a1, a2, -⟩ := k_xa_12 N hi (Or.inr (Or.inr q4))
      have hx := hl (k_xa P i) (by omega)
      have e66 : (nI (r (k_xa P i)) = 66) = (r (k_xa P i) = 66) := by rw [show (66 : Int32) = nI 66 from rfl, z_eqN (by omega) (by decide)]
      simp only [if_pos q4, a2, nI_add, z_inbN (show i * 20 + k_xa P i < 20480 by omega) (by decide), if_true, z_cl (show i * 20 + k_xa P i < 2147483648 by omega), hc _ (show k_xa P i < k_wd hh i by omega), e66]
      by_cases c : r (k_xa P i) = 66
      · rw [if_pos c]; exact ⟨true, rfl, ⟨fun _ => c, fun _ => rfl⟩⟩
      · rw [if_neg c]; exact ⟨false, rfl, ⟨(fun h => by cases h), fun h => absurd h c⟩⟩
    rw [if_neg q4, if_neg q4]
    by_cases q43 : P.op i = 43
    · have hbd := w.bd
      have hr : M.br (P.bd i) < 69 := by
        rcases k_br_rng hK N.S.mJ hbd with h | h
        · omega
        · have := k_tok_lt hK h; omega
      have e68 : (nI (M.br (P.bd i)) = 68) = (M.br (P.bd i) = 68) := by rw [show (68 : Int32) = nI 68 from rfl, z_eqN (by omega) (by decide)]
      simp only [if_pos q43, z_inbN (show P.bd i < 48 by omega) (by decide), if_true, z_cl (show P.bd i < 2147483648 by omega), (N.S.mJ.cB.2 (P.bd i) hbd).2.2.2.2.1, e68]
      by_cases c : M.br (P.bd i) = 68
      · rw [if_pos c]; exact ⟨true, rfl, ⟨fun _ => c, fun _ => rfl⟩⟩
      · rw [if_neg c]; exact ⟨false, rfl, ⟨(fun h => by cases h), fun h => absurd h c⟩⟩
    rw [if_neg q43, if_neg q43]
    exact z_suits127 (r := fun j => r (k_wd hh i - k_tk M P i + j)) hG hK N.S hi (by omega) (fun j hj => ⟨by rw [Nat.add_assoc]; exact hc _ (by omega), hl _ (by omega)⟩) (k_tk M P i) 0 (by omega) (fun j hj => by omega)
  obtain ⟨x, s1, s2⟩ := hsu
  simp only [fX9_isRight, i1, if_true, z_takes5 hG N.S hi, Option.bind_some, c1, hh1, e20, eb, s1, y1, e34, eb2]
  rw [k_ft]
  cases x with
  | false =>
    refine ⟨false, rfl, ⟨(fun h => by cases h), fun h => ?_⟩⟩
    rw [s2]
    split
    · next q => rw [if_pos q] at h; exact h
    · next q =>
      rw [if_neg q] at h
      split
      · next q => rw [if_pos q] at h; exact h
      · next q =>
        rw [if_neg q] at h
        split
        · next q => rw [if_pos q] at h; exact h
        · next q => rw [if_neg q] at h; exact h.1
  | true =>
    have s3 := s2.mp rfl
    simp only [if_true]
    by_cases q34 : P.op i = 34
    · have t1 : k_tk M P i = 3 := (k_tk_at (M := M) 34 q34 (by decide) (by decide)).1
      have a1 := hc (k_wd hh i - 1) (by omega)
      have a3 := hc (k_wd hh i - 3) (by omega)
      rw [if_neg (show ¬ P.op i = 2 by omega), if_neg (show ¬ P.op i = 4 by omega), if_neg (show ¬ P.op i = 43 by omega)] at s3 ⊢
      rw [t1, if_pos q34, if_pos (z_inbN (show i * 20 + (k_wd hh i - 3) + 2 < 20480 by omega) (by decide)), if_pos (z_inbN (show i * 20 + (k_wd hh i - 3) < 20480 by omega) (by decide)), z_cl (show i * 20 + (k_wd hh i - 3) + 2 < 2147483648 by omega), z_cl (show i * 20 + (k_wd hh i - 3) < 2147483648 by omega), show i * 20 + (k_wd hh i - 3) + 2 = i * 20 + (k_wd hh i - 1) by omega, a1, a3, z_isElem hK N.S.mJ.kC (hl _ (by omega)) (hl _ (by omega)), Option.bind_some]
      rw [t1] at s3
      cases he : k_elm K (r (k_wd hh i - 1)) (r (k_wd hh i - 3)) with
      | true => exact ⟨true, rfl, ⟨fun _ => ⟨s3, fun _ => rfl⟩, fun _ => rfl⟩⟩
      | false => exact ⟨false, rfl, ⟨(fun h => by cases h), fun h => by cases h.2 q34⟩⟩
    · rw [if_neg q34]
      refine ⟨true, rfl, ⟨fun _ => ?_, fun _ => rfl⟩⟩
      split
      · next q => rw [if_pos q] at s3; exact s3
      · next q =>
        rw [if_neg q] at s3
        split
        · next q => rw [if_pos q] at s3; exact s3
        · next q =>
          rw [if_neg q] at s3
          split
          · next q => rw [if_pos q] at s3; exact s3
          · next q => rw [if_neg q] at s3; exact ⟨s3, fun h => absurd h q34⟩
end ZTF
