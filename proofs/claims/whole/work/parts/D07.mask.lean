/-! ===== masks of heights ===== -/
def b_t (x : Int32) (d : Nat) : Bool := x.toBitVec.getLsbD d
theorem b_ext {x y : Int32} (h : ∀ d, d < 32 → b_t x d = b_t y d) : x = y := by
  apply Int32.toBitVec_inj.mp
  exact BitVec.eq_of_getLsbD_eq (fun d hd => h d hd)
theorem b_or (x y : Int32) (d : Nat) : b_t (x ||| y) d = (b_t x d || b_t y d) := z_orb
theorem b_and (x y : Int32) (d : Nat) : b_t (x &&& y) d = (b_t x d && b_t y d) := by
  rw [b_t, Int32.toBitVec_and, BitVec.getLsbD_and]; rfl
theorem b_0 (d : Nat) : b_t 0 d = false := by rw [b_t]; exact BitVec.getLsbD_zero
theorem b_sh {h d : Nat} (hh : h < 32) : b_t ((1 : Int32) <<< (nI h &&& 31)) d = decide (d = h) := by
  by_cases hd : d < 32
  · have := z_shl ⟨h, hh⟩ ⟨d, hd⟩
    rw [b_t]
    simpa [Fin.ext_iff] using this
  · rw [b_t, BitVec.getLsbD_of_ge _ _ (by omega), decide_eq_false (by omega)]
theorem b_shr {x : Int32} {a d : Nat} (ha : a < 32) (hx : b_t x 31 = false) : b_t (x >>> (nI a &&& 31)) d = b_t x (d + a) := by
  rw [b_t, b_t, Int32.toBitVec_shiftRight]
  have e : ((nI a &&& 31).toBitVec.smod 32).toNat = a := z_shd ⟨a, ha⟩
  rw [BitVec.sshiftRight_eq', e, BitVec.getLsbD_sshiftRight]
  have hm : x.toBitVec.msb = false := by
    rw [BitVec.msb_eq_getLsbD_last]
    exact hx
  by_cases hd : d < 32
  · by_cases c : a + d < 32
    · simp [c, Nat.add_comm, show ¬ 32 ≤ d by omega]
    · rw [hm, BitVec.getLsbD_of_ge x.toBitVec (d + a) (by omega)]
      simp [c]
  · rw [BitVec.getLsbD_of_ge x.toBitVec (d + a) (by omega)]
    simp [show 32 ≤ d by omega]
theorem b_shl {x : Int32} {a d : Nat} (ha : a < 32) : b_t (x <<< (nI a &&& 31)) d = (decide (d < 32) && (decide (a ≤ d) && b_t x (d - a))) := by
  rw [b_t, b_t, Int32.toBitVec_shiftLeft]
  have e : ((nI a &&& 31).toBitVec.smod 32).toNat = a := z_shd ⟨a, ha⟩
  rw [BitVec.shiftLeft_eq', e, BitVec.getLsbD_shiftLeft]
  by_cases c : a ≤ d
  · simp [c, show ¬ d < a by omega]
  · simp [c, show d < a by omega]
/-- a mask made bit by bit -/
def h_or (f : Nat → Bool) : Nat → Int32
  | 0 => 0
  | m + 1 => h_or f m ||| (if f m = true then (1 : Int32) <<< (nI m &&& 31) else 0)
theorem h_or_b {f : Nat → Bool} : ∀ m d, m ≤ 32 → b_t (h_or f m) d = (decide (d < m) && f d)
  | 0, d, _ => by rw [h_or, b_0, decide_eq_false (by omega), Bool.false_and]
  | m + 1, d, hm => by
    rw [h_or, b_or, h_or_b m d (by omega)]
    by_cases c : f m = true
    · rw [if_pos c, b_sh (by omega)]
      by_cases e : d = m
      · subst e; simp [c]
      · by_cases l : d < m
        · simp [l, e, show d < m + 1 by omega]
        · simp [l, e, show ¬ d < m + 1 by omega]
    · rw [if_neg c, b_0]
      by_cases e : d = m
      · subst e; simp [Bool.eq_false_iff.mpr c]
      · by_cases l : d < m
        · simp [l, show d < m + 1 by omega]
        · simp [l, show ¬ d < m + 1 by omega]
/-- of the heights w those from which an instruction can be done -/
def h_gd (w : Int32) (a l : Nat) : Int32 := h_or (fun d => b_t w d && (decide (a ≤ d) && decide (d + l ≤ 8 + a))) 9
/-- and those behind it -/
def h_mv (w : Int32) (a l : Nat) : Int32 := h_or (fun d => decide (l ≤ d) && (decide (d - l + a ≤ 8) && b_t w (d - l + a))) 9
theorem h_gd_b {w : Int32} {a l d : Nat} : b_t (h_gd w a l) d = (decide (d < 9) && (b_t w d && (decide (a ≤ d) && decide (d + l ≤ 8 + a)))) := h_or_b 9 d (by omega)
theorem h_mv_b {w : Int32} {a l d : Nat} : b_t (h_mv w a l) d = (decide (d < 9) && (decide (l ≤ d) && (decide (d - l + a ≤ 8) && b_t w (d - l + a)))) := h_or_b 9 d (by omega)
theorem h_mv_sh {w : Int32} {a l : Nat} (ha : a ≤ 12) (hl : l ≤ 2) : (h_gd w a l >>> (nI a &&& 31)) <<< (nI l &&& 31) = h_mv w a l := by
  apply b_ext
  intro d hd
  rw [b_shl (by omega), b_shr (by omega) (by rw [h_gd_b]; rfl), h_gd_b, h_mv_b, decide_eq_true hd, Bool.true_and]
  by_cases c1 : l ≤ d
  · rw [decide_eq_true c1]
    by_cases c2 : d < 9
    · by_cases c3 : d - l + a ≤ 8
      · simp [c2, c3, show d - l + a < 9 by omega, show a ≤ d - l + a by omega, show d - l + a + l ≤ 8 + a by omega]
      · simp [c3, show ¬ d - l + a < 9 by omega]
    · by_cases c3 : d - l + a < 9
      · simp [c2, show ¬ d - l + a + l ≤ 8 + a by omega]
      · simp [c2, c3]
  · simp [c1]
theorem h_gd_0 {w : Int32} {a l : Nat} (hl : l ≤ 2) : (h_gd w a l = 0) = (h_mv w a l = 0) := by
  refine propext ⟨fun h => ?_, fun h => ?_⟩
  · apply b_ext
    intro d hd
    rw [h_mv_b, b_0]
    by_cases c1 : l ≤ d
    · by_cases c2 : d < 9
      · by_cases c3 : d - l + a ≤ 8
        · have := h_gd_b (w := w) (a := a) (l := l) (d := d - l + a)
          rw [h, b_0] at this
          simp only [show d - l + a < 9 by omega, show a ≤ d - l + a by omega, show d - l + a + l ≤ 8 + a by omega, decide_true, Bool.true_and, Bool.and_true] at this
          simp [← this]
        · simp [c3]
      · simp [c2]
    · simp [c1]
  · apply b_ext
    intro d hd
    rw [h_gd_b, b_0]
    by_cases c2 : d < 9
    · by_cases c1 : a ≤ d
      · by_cases c3 : d + l ≤ 8 + a
        · have := h_mv_b (w := w) (a := a) (l := l) (d := d - a + l)
          rw [h, b_0] at this
          rw [show d - a + l - l + a = d by omega] at this
          simp only [show d - a + l < 9 by omega, show l ≤ d - a + l by omega, show d ≤ 8 by omega, decide_true, Bool.true_and] at this
          simp [← this]
        · simp [c3]
      · simp [c1]
    · simp [c2]
/-- below -/
def h_sub (x y : Int32) : Prop := y ||| x = y
theorem h_sub_iff {x y : Int32} : h_sub x y ↔ ∀ d, d < 32 → b_t x d = true → b_t y d = true := by
  constructor
  · intro h d hd hx
    have := congrArg (fun z => b_t z d) h
    simp only [b_or, hx, Bool.or_true] at this
    exact this.symm
  · intro h
    apply b_ext
    intro d hd
    rw [b_or]
    cases hx : b_t x d with
    | false => simp
    | true => rw [h d hd hx]; rfl
theorem h_sub.refl (x : Int32) : h_sub x x := h_sub_iff.mpr (fun _ _ h => h)
theorem h_sub.trans {x y z : Int32} (h : h_sub x y) (h' : h_sub y z) : h_sub x z := h_sub_iff.mpr (fun d hd hx => h_sub_iff.mp h' d hd (h_sub_iff.mp h d hd hx))
theorem h_sub_0 (x : Int32) : h_sub 0 x := h_sub_iff.mpr (fun d _ h => by rw [b_0] at h; cases h)
theorem h_sub_or {x y z : Int32} (h : h_sub x z) (h' : h_sub y z) : h_sub (x ||| y) z := h_sub_iff.mpr (fun d hd hx => by
  rw [b_or, Bool.or_eq_true] at hx
  rcases hx with hx | hx
  · exact h_sub_iff.mp h d hd hx
  · exact h_sub_iff.mp h' d hd hx)
theorem h_sub_l (x y : Int32) : h_sub x (x ||| y) := h_sub_iff.mpr (fun d _ hx => by rw [b_or, hx]; rfl)
theorem h_sub_r (x y : Int32) : h_sub y (x ||| y) := h_sub_iff.mpr (fun d _ hx => by rw [b_or, hx, Bool.or_true])
theorem h_sub_anti {x y : Int32} (h : h_sub x y) (h' : h_sub y x) : x = y := by
  apply b_ext
  intro d hd
  cases hx : b_t x d with
  | true => exact (h_sub_iff.mp h d hd hx).symm
  | false =>
    cases hy : b_t y d with
    | false => rfl
    | true => rw [h_sub_iff.mp h' d hd hy] at hx; cases hx
theorem h_mv_mono {x y : Int32} {a l : Nat} (h : h_sub x y) : h_sub (h_mv x a l) (h_mv y a l) := h_sub_iff.mpr (fun d hd hx => by
  rw [h_mv_b, Bool.and_eq_true, Bool.and_eq_true, Bool.and_eq_true] at hx ⊢
  simp only [decide_eq_true_eq] at hx
  exact ⟨decide_eq_true hx.1, decide_eq_true hx.2.1, decide_eq_true hx.2.2.1, h_sub_iff.mp h _ (by omega) hx.2.2.2⟩)
theorem h_sub_ne {x y : Int32} (h : h_sub x y) (hx : x ≠ 0) : y ≠ 0 := by
  intro e
  subst e
  exact hx (h_sub_anti h (h_sub_0 _))
/-- only heights 0 .. 8 -/
def h_9 (x : Int32) : Prop := ∀ d, 9 ≤ d → b_t x d = false
theorem h_9_or {x y : Int32} (h : h_9 x) (h' : h_9 y) : h_9 (x ||| y) := fun d hd => by rw [b_or, h d hd, h' d hd]; rfl
theorem h_9_mv {w : Int32} {a l : Nat} : h_9 (h_mv w a l) := fun d hd => by rw [h_mv_b, decide_eq_false (by omega), Bool.false_and]
theorem h_9_0 : h_9 0 := fun d _ => b_0 d
theorem h_9_1 : h_9 1 := fun d hd => by
  have : (1 : Int32) = (1 : Int32) <<< (nI 0 &&& 31) := by decide
  rw [this, b_sh (by omega), decide_eq_false (by omega)]
theorem h_9_2 : h_9 2 := fun d hd => by
  have : (2 : Int32) = (1 : Int32) <<< (nI 1 &&& 31) := by decide
  rw [this, b_sh (by omega), decide_eq_false (by omega)]
/-- how many heights -/
def h_pc (x : Int32) : Nat := k_cnt (b_t x) 9
theorem k_cnt_lt {A B : Nat → Bool} : ∀ m, (∀ i, i < m → A i = true → B i = true) → (∃ i, i < m ∧ A i = false ∧ B i = true) → k_cnt A m < k_cnt B m
  | 0, _, h => by obtain ⟨i, hi, -⟩ := h; omega
  | m + 1, h, he => by
    have hle : k_cnt A m ≤ k_cnt B m := by
      clear he
      induction m with
      | zero => exact Nat.le_refl _
      | succ m ih =>
        have := ih (fun i hi => h i (by omega))
        rw [k_cnt, k_cnt]
        have hm := h m (by omega)
        by_cases c : A m = true
        · rw [if_pos c, if_pos (hm c)]; omega
        · rw [if_neg c]; omega
    rw [k_cnt, k_cnt]
    have hm := h m (by omega)
    by_cases c : ∃ i, i < m ∧ A i = false ∧ B i = true
    · have := k_cnt_lt m (fun i hi => h i (by omega)) c
      by_cases d : A m = true
      · rw [if_pos d, if_pos (hm d)]; omega
      · rw [if_neg d]; omega
    · obtain ⟨i, i1, i2, i3⟩ := he
      have e : i = m := by
        by_cases e : i = m
        · exact e
        · exact absurd ⟨i, by omega, i2, i3⟩ c
      subst e
      rw [if_neg (by rw [i2]; decide), if_pos i3]
      omega
theorem h_pc_lt {x y : Int32} (h9 : h_9 y) (h : ¬ x ||| y = x) : h_pc x < h_pc (x ||| y) := by
  refine k_cnt_lt 9 (fun i _ hx => by rw [b_or, hx]; rfl) ?_
  by_cases c : ∃ d, d < 9 ∧ b_t x d = false ∧ b_t (x ||| y) d = true
  · exact c
  · exfalso
    apply h
    apply b_ext
    intro d hd
    by_cases d9 : d < 9
    · cases hx : b_t x d with
      | true => rw [b_or, hx]; rfl
      | false =>
        cases hy : b_t (x ||| y) d with
        | false => rfl
        | true => exact absurd ⟨d, d9, hx, hy⟩ c
    · rw [b_or, h9 d (by omega), Bool.or_false]
theorem h_pc_le (x : Int32) : h_pc x ≤ 9 := k_cnt_le 9
/-- a sum -/
def k_sum (f : Nat → Nat) (lo : Nat) : Nat → Nat
  | 0 => 0
  | m + 1 => k_sum f lo m + f (lo + m)
theorem k_sum_le {f : Nat → Nat} {lo c : Nat} : ∀ m, (∀ i, f i ≤ c) → k_sum f lo m ≤ c * m
  | 0, _ => Nat.le_refl _
  | m + 1, h => by
    have h1 := k_sum_le (lo := lo) m h
    have h2 := h (lo + m)
    have h3 : c * (m + 1) = c * m + c := Nat.mul_succ c m
    rw [k_sum]
    omega
theorem k_sum_mono {f f' : Nat → Nat} {lo : Nat} : ∀ m, (∀ i, f i ≤ f' i) → k_sum f lo m ≤ k_sum f' lo m
  | 0, _ => Nat.le_refl _
  | m + 1, h => by
    have := k_sum_mono (lo := lo) m h
    have := h (lo + m)
    rw [k_sum, k_sum]
    omega
theorem k_sum_lt {f f' : Nat → Nat} {lo j : Nat} : ∀ m, (∀ i, f i ≤ f' i) → lo ≤ j → j < lo + m → f j < f' j → k_sum f lo m < k_sum f' lo m
  | 0, _, h1, h2, _ => by omega
  | m + 1, h, h1, h2, hj => by
    rw [k_sum, k_sum]
    by_cases e : j = lo + m
    · have := k_sum_mono (lo := lo) m h
      subst e
      omega
    · have := k_sum_lt m h h1 (by omega) hj
      have := h (lo + m)
      omega
