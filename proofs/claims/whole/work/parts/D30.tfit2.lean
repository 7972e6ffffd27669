/-! ===== types: does a row suit (reference) ===== -/
section ZTF2
variable {C D : QS} {n p q m b : Nat} {g : ZT} {K : ZK} {M : ZM} {P : ZP} {hh : Nat → Int32} {R : Nat → Bool} {T : Nat → Nat → Nat}
theorem z_isRef {x : Nat} (hx : x ≤ 67) (S : QS) : fX12_isReferenceType S (k_y x) = some (decide (x ≤ 65)) := by
  have : ∀ x : Fin 68, (if k_y x = 1 then true else if k_y x < 8 then false else true) = decide (x.1 ≤ 65) := by decide +kernel
  have h := this ⟨x, by omega⟩
  rw [fX12_isReferenceType]
  by_cases c1 : k_y x = 1
  · rw [if_pos c1] at h ⊢; rw [h]
  · rw [if_neg c1] at h ⊢
    by_cases c2 : k_y x < 8
    · rw [if_pos c2] at h ⊢; rw [h]
    · rw [if_neg c2] at h ⊢; rw [h]
theorem z_isArr12 {x : Nat} (hx : x ≤ 67) (S : QS) : fX12_isArrayType S (k_y x) = some (decide (32 ≤ x) && decide (x ≤ 64)) := by
  have : ∀ x : Fin 68, (if k_y x < 40 then false else true) = (decide (32 ≤ x.1) && decide (x.1 ≤ 64)) := by decide +kernel
  have h := this ⟨x, by omega⟩
  rw [fX12_isArrayType]
  by_cases c1 : k_y x < 40
  · rw [if_pos c1] at h ⊢; rw [h]
  · rw [if_neg c1] at h ⊢; rw [h]
theorem k_y_0 {x : Nat} (hx : x ≤ 67) : (k_y x = 0) = (x = 66) := by
  rw [← k_y_eq (show x < 69 by omega) (show 66 < 69 by decide)]; rfl
theorem k_y_1 {x : Nat} (hx : x ≤ 67) : (k_y x = 1) = (x = 65) := by
  rw [← k_y_eq (show x < 69 by omega) (show 65 < 69 by decide)]; rfl
theorem k_y_2 {x : Nat} (hx : x ≤ 67) : (k_y x = 2) = (x = 67) := by
  rw [← k_y_eq (show x < 69 by omega) (show 67 < 69 by decide)]; rfl
theorem k_fit66 {x : Nat} : k_fit K 66 x = true ↔ x = 66 := by
  rw [k_fit, if_neg (by decide), k_blw_iff]; omega
theorem k_fit67 (x : Nat) : k_fit K 67 x = true := by
  rw [k_fit, if_neg (by decide)]; exact k_blw_67 x
theorem k_fit0 {x : Nat} (hx : x ≤ 67) : k_fit K 0 x = true ↔ x ≤ 65 := by
  rw [k_fit, if_neg (by decide), k_blw_iff]; omega
theorem k_fit69 {x : Nat} : k_fit K 69 x = k_ar x := by rw [k_fit, if_pos rfl]
theorem k_ar_iff {x : Nat} : k_ar x = true ↔ x = 65 ∨ (32 ≤ x ∧ x ≤ 64) := by
  rw [k_ar, Bool.or_eq_true, Bool.and_eq_true, decide_eq_true_eq, decide_eq_true_eq, decide_eq_true_eq]
theorem k_ft_o {i : Nat} {r : Nat → Nat} (h2 : P.op i ≠ 2) (h4 : P.op i ≠ 4) (h43 : P.op i ≠ 43) (h34 : P.op i ≠ 34) : k_ft K M P hh i r ↔ ∀ j, j < k_tk M P i → k_fit K (k_told M P i j) (r (k_wd hh i - k_tk M P i + j)) = true := by
  rw [k_ft, if_neg h2, if_neg h4, if_neg h43]
  exact ⟨fun h => h.1, fun h => ⟨h, fun x => absurd x h34⟩⟩
theorem k_ft_0 {i : Nat} {r : Nat → Nat} (h2 : P.op i ≠ 2) (h4 : P.op i ≠ 4) (h43 : P.op i ≠ 43) (h34 : P.op i ≠ 34) (ht : k_tk M P i = 0) : k_ft K M P hh i r := (k_ft_o h2 h4 h43 h34).mpr (fun j hj => by omega)
theorem k_ft_1 {i : Nat} {r : Nat → Nat} (h2 : P.op i ≠ 2) (h4 : P.op i ≠ 4) (h43 : P.op i ≠ 43) (h34 : P.op i ≠ 34) (ht : k_tk M P i = 1) (hw : 1 ≤ k_wd hh i) : k_ft K M P hh i r ↔ k_fit K (k_told M P i 0) (r (k_wd hh i - 1)) = true := by
  rw [k_ft_o h2 h4 h43 h34, ht]
  refine ⟨fun h => h 0 (by omega), fun h j hj => ?_⟩
  have : j = 0 := by omega
  subst this; exact h
theorem k_ft_2 {i : Nat} {r : Nat → Nat} (h2 : P.op i ≠ 2) (h4 : P.op i ≠ 4) (h43 : P.op i ≠ 43) (h34 : P.op i ≠ 34) (ht : k_tk M P i = 2) (hw : 2 ≤ k_wd hh i) : k_ft K M P hh i r ↔ k_fit K (k_told M P i 0) (r (k_wd hh i - 2)) = true ∧ k_fit K (k_told M P i 1) (r (k_wd hh i - 1)) = true := by
  rw [k_ft_o h2 h4 h43 h34, ht]
  refine ⟨fun h => ⟨h 0 (by omega), ?_⟩, fun h j hj => ?_⟩
  · have := h 1 (by omega)
    rw [show k_wd hh i - 2 + 1 = k_wd hh i - 1 by omega] at this
    exact this
  · by_cases e : j = 0
    · subst e; exact h.1
    · have : j = 1 := by omega
      subst this
      rw [show k_wd hh i - 2 + 1 = k_wd hh i - 1 by omega]
      exact h.2
theorem k_told66 {i j : Nat} (h : P.op i = 0 ∨ P.op i = 1 ∨ (8 ≤ P.op i ∧ P.op i ≤ 25) ∨ P.op i = 30 ∨ P.op i = 31 ∨ 43 ≤ P.op i) : k_told M P i j = 66 := by
  rw [k_told, if_neg (by omega), if_neg (by omega), if_neg (by omega), if_neg (by omega), if_neg (by omega), if_neg (by omega), if_neg (by omega), if_neg (by omega), if_neg (by omega), if_neg (by omega), if_neg (by omega)]
theorem k_told0 {i j : Nat} (h : P.op i = 26 ∨ P.op i = 27 ∨ P.op i = 28 ∨ P.op i = 29 ∨ P.op i = 37 ∨ P.op i = 38) : k_told M P i j = 0 := by
  rw [k_told, if_neg (by omega), if_pos h]
theorem k_told67 {i j : Nat} (h : P.op i = 3 ∨ P.op i = 5 ∨ P.op i = 6 ∨ P.op i = 7) : k_told M P i j = 67 := by
  rw [k_told, if_pos h]
/-- arguments -/
theorem z_areArgs {i f : Nat} {r : Nat → Nat} (hK : k_K g K) (S : c_S p q n g K M P C D) (hi : i < P.n) (hop : P.op i = 39 ∨ P.op i = 40) (hf : P.ya i = nI f) (hfb : f < M.bc) (ht : D.2.1 102 23 = nI (k_wd hh i)) (htk : k_tk M P i ≤ k_wd hh i) (hw : k_wd hh i ≤ 20) (hc : ∀ s, s < k_wd hh i → D.2.1 171 s = k_y (r s)) (hv : k_rvt K (k_wd hh i) r) : ∀ d k, k + d = k_tk M P i → (∀ j, j < k → k_fit K (k_told M P i j) (r (k_wd hh i - k_tk M P i + j)) = true) → ∃ x, q_run (tX12_areArguments_11 D q (nI i) (nI f) (nI (k_tk M P i))) (nI k) = some x ∧ (x = true ↔ ∀ j, j < k_tk M P i → k_fit K (k_told M P i j) (r (k_wd hh i - k_tk M P i + j)) = true) := by
  have h48 := S.mJ.mB.1
  have h32 := hK.2.1
  have bn := S.bn
  have tk12 := (k_tk_le S hi).1
  obtain ⟨y1, y2, y3, -⟩ := S.iD i hi
  have w := S.wI i hi
  have hfb' := k_fb_of (P := P) (by omega) hf
  have hba : k_tk M P i = M.ba f := by rw [k_tk, if_pos hop, hfb']
  have i1 := z_inbN (show i < 1024 by omega) (by decide)
  have c1 := z_cl (show i < 2147483648 by omega)
  have e40 : (nI (P.op i) = 40) = (P.op i = 40) := z_nk46 w.op (m := 40) (by omega)
  intro d
  induction d with
  | zero =>
    intro k hk hall
    refine ⟨true, q_run_ret ?_, ⟨fun _ j hj => hall j (by omega), fun _ => rfl⟩⟩
    simp only [tX12_areArguments_11]
    rw [if_pos (by rw [z_leN (by omega) (by omega)]; omega)]
  | succ d ih =>
    intro k hk hall
    have g1 : ¬ nI (k_tk M P i) ≤ nI k := by rw [z_leN (by omega) (by omega)]; omega
    have e12 : nI f * (12 : Int32) = nI (f * 12) := nI_mulN f 12
    have k0 : (nI k = 0) = (k = 0) := by rw [show (0 : Int32) = nI 0 from rfl, z_eqN (by omega) (by decide)]
    have ix : nI (k_wd hh i) - nI (k_tk M P i) + nI k = nI (k_wd hh i - k_tk M P i + k) := by rw [z_subN htk, nI_add]
    have hbp := (S.mJ.dB.2 f hfb).2.2.2.2.2.2.2 k (by omega)
    have htok := k_bp_tok hK S.mJ hfb (show k < M.ba f by omega)
    obtain ⟨hvt, h5⟩ : k_vt K (k_told M P i k) ∧ (if nI k = 0 then if q_inb (nI i) 1024 = true then if nI (P.op i) = 40 then if q_inb (nI i) 1024 = true then some ((8 : Int32) + P.xb i) else none else if q_inb (nI (f * 12 + k)) 576 = true then some (D.2.1 (q + 9) (f * 12 + k)) else none else none else if q_inb (nI (f * 12 + k)) 576 = true then some (D.2.1 (q + 9) (f * 12 + k)) else none) = some (k_y (k_told M P i k)) := by
      simp only [k0, i1, if_true, e40, z_inbN (show f * 12 + k < 576 by omega) (by decide), hbp]
      obtain ⟨f', cc, x1, x2, x3, x4, x5, -⟩ := w.oB hop
      rcases hop with o | o
      · have ht : k_told M P i k = M.bp f k := by
          rw [k_told, if_neg (by omega), if_neg (by omega), if_neg (by omega), if_neg (by omega), if_neg (by omega), if_neg (by omega), if_neg (by omega), if_pos o, hfb']
        rw [ht]
        refine ⟨Or.inl htok, ?_⟩
        by_cases c : k = 0
        · rw [if_pos c, if_neg (by omega)]
        · rw [if_neg c]
      · by_cases c : k = 0
        · have ht : k_told M P i k = cc := by
            rw [k_told, if_neg (by omega), if_neg (by omega), if_neg (by omega), if_neg (by omega), if_neg (by omega), if_neg (by omega), if_neg (by omega), if_neg (by omega), if_pos o, if_pos c, k_xb, x3, z_cl (by omega)]
          rw [ht, if_pos c, if_pos o, x3, k_y_c (by omega), show (8 : Int32) = nI 8 from rfl, nI_add, Nat.add_comm]
          exact ⟨Or.inl (Or.inl x5), rfl⟩
        · have ht : k_told M P i k = M.bp f k := by
            rw [k_told, if_neg (by omega), if_neg (by omega), if_neg (by omega), if_neg (by omega), if_neg (by omega), if_neg (by omega), if_neg (by omega), if_neg (by omega), if_pos o, if_neg c, hfb']
          rw [ht, if_neg c]
          exact ⟨Or.inl htok, rfl⟩
    have hne : k_told M P i k ≠ 69 := by have := k_vt_lt hK hvt; omega
    have isb := z_isBelow12 hK S.mJ.kD (hv (k_wd hh i - k_tk M P i + k) (by omega)) hvt
    have st : ∀ v, k_fit K (k_told M P i k) (r (k_wd hh i - k_tk M P i + k)) = v → tX12_areArguments_11 D q (nI i) (nI f) (nI (k_tk M P i)) (nI k) = if v = true then some (.inr (nI (k + 1))) else some (.inl false) := by
      intro v hv'
      rw [k_fit, if_neg hne] at hv'
      simp only [tX12_areArguments_11, if_neg g1, c1, y1, y3, e12, nI_add, z_cl (show f * 12 + k < 2147483648 by omega), ht, ix, z_inbN (show k_wd hh i - k_tk M P i + k < 24 by omega) (by decide), z_cl (show k_wd hh i - k_tk M P i + k < 2147483648 by omega), hc _ (show k_wd hh i - k_tk M P i + k < k_wd hh i by omega), nI_1]
      rw [h5]
      simp only [Option.bind_some, if_true, isb, hv']
    cases hv' : k_fit K (k_told M P i k) (r (k_wd hh i - k_tk M P i + k)) with
    | true =>
      obtain ⟨x, z1, z2⟩ := ih (k + 1) (by omega) (fun j hj => by
        by_cases e : j = k
        · rw [e]; exact hv'
        · exact hall j (by omega))
      exact ⟨x, (q_run_go (st true hv')).trans z1, z2⟩
    | false =>
      refine ⟨false, q_run_ret (st false hv'), ⟨(fun h => by cases h), fun h => ?_⟩⟩
      rw [h k (by omega)] at hv'; cases hv'
end ZTF2
