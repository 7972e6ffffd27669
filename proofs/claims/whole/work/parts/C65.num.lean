/-! ===== numbers in the text ===== -/
def z_lv (B : Nat → Int32) : Int64 → Nat → Nat → Int64
  | acc, _, 0 => acc
  | acc, k, m + 1 => z_lv B (acc * 10 + (B k - 48).toInt64) (k + 1) m
def k_lo (B : Nat → Int32) (a : Nat → Nat) (t : Nat) : Nat := if B (a t) = 45 then a t + 1 else a t
def k_val (B : Nat → Int32) (a b : Nat → Nat) (t : Nat) : Int64 := if B (a t) = 45 then - z_lv B 0 (k_lo B a t) (b t - k_lo B a t) else z_lv B 0 (k_lo B a t) (b t - k_lo B a t)
def z_dig (c : Int32) : Bool := decide (48 ≤ c) && decide (c ≤ 57)
def z_fit (v : Int64) : Bool := decide (v = v.toInt32.toInt64)
def k_num (T : Nat) (B : Nat → Int32) (a b : Nat → Nat) (t : Nat) : Bool := decide (t < T) && (decide (k_lo B a t + 1 ≤ b t) && (decide (b t ≤ k_lo B a t + 10) && z_ff (fun k => if z_dig (B k) = true then none else some false) (z_fit (k_val B a b t)) (k_lo B a t) (b t - k_lo B a t)))
theorem z_dig64 {c : Int32} (h : q_byt c) : (c - 48).toInt64 = c.toInt64 - 48 := by
  apply Int64.toInt_inj.mp
  have h1 : (c - 48).toInt = c.toInt - 48 := by
    rw [Int32.toInt_sub, show (48 : Int32).toInt = 48 from rfl]
    have := h.1
    have := h.2
    rw [Int.bmod_eq_of_le (by omega) (by omega)]
  rw [Int32.toInt_toInt64, h1, Int64.toInt_sub, Int32.toInt_toInt64, show (48 : Int64).toInt = 48 from rfl]
  have := h.1
  have := h.2
  rw [Int.bmod_eq_of_le (by omega) (by omega)]
theorem z_acc64 {c : Int32} (h : q_byt c) (x : Int64) : (10 * x + c.toInt64) - 48 = x * 10 + (c - 48).toInt64 := by
  rw [z_dig64 h, Int64.mul_comm, Int64.sub_eq_add_neg, Int64.sub_eq_add_neg, Int64.add_assoc]
theorem z_fit_rng (v : Int64) : z_fit v = true ↔ -2147483648 ≤ v ∧ v ≤ 2147483647 := by
  have h1 := Int64.le_toInt v
  have h2 := Int64.toInt_lt v
  rw [z_fit, decide_eq_true_eq, Int64.le_iff_toInt_le, Int64.le_iff_toInt_le, show (-2147483648 : Int64).toInt = -2147483648 from rfl, show (2147483647 : Int64).toInt = 2147483647 from rfl, ← Int64.toInt_inj, Int32.toInt_toInt64, Int64.toInt_toInt32]
  constructor
  · intro h
    have a := @Int.le_bmod v.toInt (2 ^ 32) (by decide)
    have b := @Int.bmod_lt v.toInt (2 ^ 32) (by decide)
    omega
  · rintro ⟨a, b⟩
    rw [Int.bmod_eq_of_le (by omega) (by omega)]
section ZNUM
variable {C D : QS} {n T : Nat} {B : Nat → Int32} {a b : Nat → Nat}
theorem z_long_loop {t : Nat} (hC : z_cX C n T B a b) (hG : z_gX n T B a b) (ht : t < T) (w : Bool) : ∀ m k acc, k + m = b t → q_run (tX8_longOf_47 C (nI t) (q_b w)) (acc, nI k) = some (if w = true then - z_lv B acc k m else z_lv B acc k m) := by
  have hn := hG.1
  have hT := hG.2.1
  have g := hG.2.2.2 t ht
  intro m
  induction m with
  | zero =>
    intro k acc hk
    refine q_run_ret ?_
    simp only [tX8_longOf_47, z_inbN (show t < 16000 by omega) (by decide), if_true, z_cl (show t < 2147483648 by omega), hC.2.2.2 t ht, z_leN (show b t < 2147483648 by omega) (show k < 2147483648 by omega)]
    rw [if_pos (by omega)]
    cases w <;> rfl
  | succ m ih =>
    intro k acc hk
    rw [q_run_go (y := (acc * 10 + (B k - 48).toInt64, nI (k + 1)))]
    · exact ih (k + 1) _ (by omega)
    · simp only [tX8_longOf_47, z_inbN (show t < 16000 by omega) (by decide), if_true, z_cl (show t < 2147483648 by omega), hC.2.2.2 t ht, z_leN (show b t < 2147483648 by omega) (show k < 2147483648 by omega), z_inbN (show k < 16000 by omega) (by decide), z_cl (show k < 2147483648 by omega), hC.2.2.1 k (by omega), nI_1]
      rw [if_neg (by omega)]
theorem z_dlong_loop {t : Nat} (hD : z_dX D n T B a b) (hG : z_gX n T B a b) (ht : t < T) (w : Bool) : ∀ m k acc, k + m = b t → q_run (tX12_number_47 D (nI t) (q_b w)) (acc, nI k) = some (if w = true then - z_lv B acc k m else z_lv B acc k m) := by
  have hn := hG.1
  have hT := hG.2.1
  have g := hG.2.2.2 t ht
  intro m
  induction m with
  | zero =>
    intro k acc hk
    refine q_run_ret ?_
    simp only [tX12_number_47, z_inbN (show t < 16002 by omega) (by decide), if_true, z_cl (show t < 2147483648 by omega), hD.2.2.2 t ht, z_leN (show b t < 2147483648 by omega) (show k < 2147483648 by omega)]
    rw [if_pos (by omega)]
    cases w <;> rfl
  | succ m ih =>
    intro k acc hk
    rw [q_run_go (y := (acc * 10 + (B k - 48).toInt64, nI (k + 1)))]
    · exact ih (k + 1) _ (by omega)
    · simp only [tX12_number_47, z_inbN (show t < 16002 by omega) (by decide), if_true, z_cl (show t < 2147483648 by omega), hD.2.2.2 t ht, z_leN (show b t < 2147483648 by omega) (show k < 2147483648 by omega), z_inbN (show k < 16000 by omega) (by decide), z_cl (show k < 2147483648 by omega), hD.2.2.1 k (by omega), nI_1, z_acc64 (hG.2.2.1 k)]
      rw [if_neg (by omega)]
theorem z_longOf {t : Nat} (hC : z_cX C n T B a b) (hG : z_gX n T B a b) (ht : t < T) : fX8_longOf C (nI t) = some (k_val B a b t) := by
  have hn := hG.1
  have hT := hG.2.1
  have g := hG.2.2.2 t ht
  simp only [fX8_longOf, z_inbN (show t < 16000 by omega) (by decide), if_true, z_cl (show t < 2147483648 by omega), hC.2.2.2 t ht, z_inbN (show a t < 16000 by omega) (by decide), z_cl (show a t < 2147483648 by omega), hC.2.2.1 (a t) (by omega), k_val, k_lo, nI_1]
  by_cases q : B (a t) = 45
  · simp only [if_pos q, Option.bind_some, if_true]
    exact z_long_loop hC hG ht true _ _ _ (by omega)
  · simp only [if_neg q, Option.bind_some]
    exact z_long_loop hC hG ht false _ _ _ (by omega)
theorem z_number {t : Nat} (hD : z_dX D n T B a b) (hG : z_gX n T B a b) (ht : t < T) : fX12_number D (nI t) = some (k_val B a b t) := by
  have hn := hG.1
  have hT := hG.2.1
  have g := hG.2.2.2 t ht
  simp only [fX12_number, z_inbN (show t < 16002 by omega) (by decide), if_true, z_cl (show t < 2147483648 by omega), hD.2.2.2 t ht, z_inbN (show a t < 16000 by omega) (by decide), z_cl (show a t < 2147483648 by omega), hD.2.2.1 (a t) (by omega), k_val, k_lo, nI_1]
  by_cases q : B (a t) = 45
  · simp only [if_pos q, Option.bind_some, if_true]
    exact z_dlong_loop hD hG ht true _ _ _ (by omega)
  · simp only [if_neg q, Option.bind_some]
    exact z_dlong_loop hD hG ht false _ _ _ (by omega)
theorem z_isNumber {t : Nat} (hC : z_cX C n T B a b) (hG : z_gX n T B a b) (ht : t < 2147483648) : fX8_isNumber C (nI t) = some (k_num T B a b t) := by
  have hn := hG.1
  have hT := hG.2.1
  simp only [fX8_isNumber, hC.2.1, z_negN ht, if_false, z_ltN ht (show T < 2147483648 by omega)]
  by_cases h : t < T
  · have g := hG.2.2.2 t h
    have hl : k_lo B a t ≤ b t := by rw [k_lo]; split <;> omega
    have ev : (if B (a t) = 45 then some (nI (a t + 1)) else some (nI (a t))) = some (nI (k_lo B a t)) := by
      rw [k_lo]; split <;> rfl
    have e1 : (1 : Int32) = nI 1 := rfl
    have e10 : (10 : Int32) = nI 10 := rfl
    rw [if_pos h]
    simp only [z_inbN (show t < 16000 by omega) (by decide), if_true, z_cl ht, hC.2.2.2 t h, z_inbN (show a t < 16000 by omega) (by decide), z_cl (show a t < 2147483648 by omega), hC.2.2.1 (a t) (by omega), nI_1, ev, Option.bind_some]
    rw [e1, e10, k_num, decide_eq_true h, Bool.true_and]
    simp only [z_sub_lt (show b t < 1073741824 by omega) (show k_lo B a t < 1073741824 by omega) (show 1 < 1073741824 by omega), z_sub_le (show b t < 1073741824 by omega) (show k_lo B a t < 1073741824 by omega) (show 10 < 1073741824 by omega)]
    by_cases q : b t < k_lo B a t + 1
    · rw [if_pos q, decide_eq_false (by omega), Bool.false_and]
    · rw [if_neg q, decide_eq_true (by omega), Bool.true_and]
      by_cases q2 : b t ≤ k_lo B a t + 10
      · rw [if_pos q2, decide_eq_true q2, Bool.true_and, fX8_isNumber_73]
        refine z_for _ _ _ _ (fun k k1 k2 => ?_) ?_
        · have g1 : ¬ nI (b t) ≤ nI k := by rw [z_leN (by omega) (by omega)]; omega
          simp only [tX8_isNumber_73, z_inbN (show t < 16000 by omega) (by decide), if_true, z_cl ht, hC.2.2.2 t h, if_neg g1, z_inbN (show k < 16000 by omega) (by decide), z_cl (show k < 2147483648 by omega), hC.2.2.1 k (by omega), nI_1, z_dig]
          by_cases c1 : B k < 48
          · simp [c1, Int32.not_le.mpr c1]
          · have c1' := Int32.not_lt.mp c1
            by_cases c2 : B k ≤ 57 <;> simp [c1, c1', c2]
        · rw [show k_lo B a t + (b t - k_lo B a t) = b t by omega]
          simp only [tX8_isNumber_73, z_inbN (show t < 16000 by omega) (by decide), if_true, z_cl ht, hC.2.2.2 t h, z_longOf hC hG h, Option.bind_some, z_fit]
          rw [if_pos (by rw [z_leN (by omega) (by omega)]; exact Nat.le_refl _)]
          by_cases q : k_val B a b t = (k_val B a b t).toInt32.toInt64
          · rw [if_pos ((lg_cmp_eq _ _).mpr q), decide_eq_true q]
          · rw [if_neg (fun x => q ((lg_cmp_eq _ _).mp x)), decide_eq_false q]
      · rw [if_neg q2, decide_eq_false q2, Bool.false_and]
  · rw [if_neg h, k_num, decide_eq_false h, Bool.false_and]
theorem z_dNumber {t : Nat} (hD : z_dX D n T B a b) (hG : z_gX n T B a b) (ht : t < 2147483648) : fX12_isNumber D (nI t) = some (k_num T B a b t) := by
  have hn := hG.1
  have hT := hG.2.1
  simp only [fX12_isNumber, hD.2.1, z_ltN ht (show T < 2147483648 by omega)]
  by_cases h : t < T
  · have g := hG.2.2.2 t h
    have hl : k_lo B a t ≤ b t := by rw [k_lo]; split <;> omega
    have ev : (if B (a t) = 45 then some (nI (a t + 1)) else some (nI (a t))) = some (nI (k_lo B a t)) := by
      rw [k_lo]; split <;> rfl
    have e1 : (1 : Int32) = nI 1 := rfl
    have e10 : (10 : Int32) = nI 10 := rfl
    rw [if_pos h]
    simp only [z_inbN (show t < 16002 by omega) (by decide), if_true, z_cl ht, hD.2.2.2 t h, z_inbN (show a t < 16000 by omega) (by decide), z_cl (show a t < 2147483648 by omega), hD.2.2.1 (a t) (by omega), nI_1, ev, Option.bind_some]
    rw [e1, e10, k_num, decide_eq_true h, Bool.true_and]
    simp only [z_sub_lt (show b t < 1073741824 by omega) (show k_lo B a t < 1073741824 by omega) (show 1 < 1073741824 by omega), z_sub_le (show b t < 1073741824 by omega) (show k_lo B a t < 1073741824 by omega) (show 10 < 1073741824 by omega)]
    by_cases q : b t < k_lo B a t + 1
    · rw [if_pos q, decide_eq_false (by omega), Bool.false_and]
    · rw [if_neg q, decide_eq_true (by omega), Bool.true_and]
      by_cases q2 : b t ≤ k_lo B a t + 10
      · rw [if_pos q2, decide_eq_true q2, Bool.true_and, fX12_isNumber_73]
        refine z_for _ _ _ _ (fun k k1 k2 => ?_) ?_
        · have g1 : ¬ nI (b t) ≤ nI k := by rw [z_leN (by omega) (by omega)]; omega
          simp only [tX12_isNumber_73, z_inbN (show t < 16002 by omega) (by decide), if_true, z_cl ht, hD.2.2.2 t h, if_neg g1, z_inbN (show k < 16000 by omega) (by decide), z_cl (show k < 2147483648 by omega), hD.2.2.1 k (by omega), nI_1, z_dig]
          by_cases c1 : B k < 48
          · simp [c1, Int32.not_le.mpr c1]
          · have c1' := Int32.not_lt.mp c1
            by_cases c2 : B k ≤ 57 <;> simp [c1, c1', c2]
        · rw [show k_lo B a t + (b t - k_lo B a t) = b t by omega]
          simp only [tX12_isNumber_73, z_inbN (show t < 16002 by omega) (by decide), if_true, z_cl ht, hD.2.2.2 t h, z_number hD hG h, Option.bind_some]
          rw [if_pos (by rw [z_leN (by omega) (by omega)]; exact Nat.le_refl _)]
          by_cases q : z_fit (k_val B a b t) = true
          · have := (z_fit_rng _).mp q
            rw [q, if_neg (fun x => Int64.not_lt.mpr this.1 ((lg_cmp_lt _ _).mp x)), if_neg (fun x => Int64.not_lt.mpr this.2 ((lg_cmp_gt _ _).mp x))]
          · have q' : z_fit (k_val B a b t) = false := by simpa using q
            rw [q']
            by_cases q1 : k_val B a b t < -2147483648
            · rw [if_pos ((lg_cmp_lt _ _).mpr q1)]
            · rw [if_neg (fun x => q1 ((lg_cmp_lt _ _).mp x)), if_pos]
              rw [lg_cmp_gt]
              apply Int64.not_le.mp
              intro q3
              exact q ((z_fit_rng _).mpr ⟨Int64.not_lt.mp q1, q3⟩)
      · rw [if_neg q2, decide_eq_false q2, Bool.false_and]
  · rw [if_neg h, k_num, decide_eq_false h, Bool.false_and]
theorem z_num32 {t : Nat} (hC : z_cX C n T B a b) (hG : z_gX n T B a b) (ht : k_num T B a b t = true) : fX8_number C (nI t) = some (k_val B a b t).toInt32 := by
  have h : t < T := by
    simp only [k_num, Bool.and_eq_true, decide_eq_true_eq] at ht
    exact ht.1
  have hn := hG.1
  have hT := hG.2.1
  simp only [fX8_number, z_isNumber hC hG (show t < 2147483648 by omega), ht, Option.bind_some, if_true, z_longOf hC hG h]
/-- of a number in the text: its long is its int -/
theorem k_num_fit {t : Nat} (ht : k_num T B a b t = true) : (k_val B a b t).toInt32.toInt64 = k_val B a b t ∧ t < T := by
  simp only [k_num, Bool.and_eq_true, decide_eq_true_eq] at ht
  refine ⟨?_, ht.1⟩
  have := ht.2.2.2
  generalize k_lo B a t = lo at this
  generalize b t - lo = m at this
  have key : ∀ m lo, z_ff (fun k => if z_dig (B k) = true then none else some false) (z_fit (k_val B a b t)) lo m = true → z_fit (k_val B a b t) = true := by
    intro m
    induction m with
    | zero => intro lo h; exact h
    | succ m ih =>
      intro lo h
      simp only [z_ff] at h
      by_cases q : z_dig (B lo) = true
      · rw [if_pos q] at h; exact ih _ h
      · rw [if_neg q] at h; cases h
  have := key _ _ this
  rw [z_fit, decide_eq_true_eq] at this
  exact this.symm
end ZNUM
