/-! ===== types below and joined, on both sides ===== -/
theorem b_nI31 {k d : Nat} (hk : k < 2147483648) (h1 : b_t (nI k) d = true) (h2 : ∀ e, d < e → e < 32 → b_t (nI k) e = false) (hd : d < 31) : 2 ^ d ≤ k ∧ k < 2 ^ (d + 1) := by
  rw [b_nI, Bool.and_eq_true] at h1
  constructor
  · exact Nat.ge_two_pow_of_testBit h1.2
  · apply Nat.lt_pow_two_of_testBit
    intro i hi
    by_cases c : i < 32
    · have := h2 i (by omega) c
      rw [b_nI, decide_eq_true c, Bool.true_and] at this
      exact this
    · exact Nat.testBit_lt_two_pow (Nat.lt_of_lt_of_le hk (by
        have : 2 ^ 31 ≤ 2 ^ i := Nat.pow_le_pow_right (by decide) (by omega)
        exact this))
theorem u_shr {k s : Nat} (hk : k < 2147483648) (hs : s < 32) : ((nI k).toUInt32 >>> ((nI s).toUInt32 &&& Int32.toUInt32 31)).toInt32 = nI (k / 2 ^ s) := by
  apply Int32.toBitVec_inj.mp
  have e1 : ((nI s).toUInt32 &&& Int32.toUInt32 31).toNat = s := by
    have : ∀ s : Fin 32, ((nI s).toUInt32 &&& Int32.toUInt32 31).toNat = s := by decide +kernel
    exact this ⟨s, hs⟩
  apply BitVec.eq_of_toNat_eq
  have e2 : (nI k).toUInt32.toNat = k := by
    show (BitVec.ofNat 32 k).toNat = k
    rw [BitVec.toNat_ofNat]
    exact Nat.mod_eq_of_lt (by omega)
  have l : k / 2 ^ s ≤ k := Nat.div_le_self _ _
  have e3 : ((nI (k / 2 ^ s)).toBitVec).toNat = k / 2 ^ s := by
    show (BitVec.ofNat 32 (k / 2 ^ s)).toNat = k / 2 ^ s
    rw [BitVec.toNat_ofNat]
    exact Nat.mod_eq_of_lt (by omega)
  rw [e3]
  show ((nI k).toUInt32 >>> ((nI s).toUInt32 &&& Int32.toUInt32 31)).toNat = _
  rw [UInt32.toNat_shiftRight, e1, e2, Nat.mod_eq_of_lt hs, Nat.shiftRight_eq_div_pow]
/-- one step of the search for the highest bit -/
theorem nlz_st {k d s n : Nat} (h1 : 2 ^ d ≤ k) (h2 : k < 2 ^ (d + 1)) (hd : d < 31) (hs : 2 ^ s ≤ 65536) (hs2 : s < 32) (hn : s ≤ n) : ∃ k' d' n', ((if nI k < nI (2 ^ s) then some (nI k, nI n) else some (((nI k).toUInt32 >>> ((nI s).toUInt32 &&& Int32.toUInt32 31)).toInt32, nI n + (-(nI s)))) : Option (Int32 × Int32)) = some (nI k', nI n') ∧ 2 ^ d' ≤ k' ∧ k' < 2 ^ (d' + 1) ∧ (d < s → d' = d ∧ n' = n) ∧ (s ≤ d → d' = d - s ∧ n' = n - s) := by
  have hk : k < 2147483648 := by
    have : 2 ^ (d + 1) ≤ 2 ^ 31 := Nat.pow_le_pow_right (by decide) (by omega)
    omega
  by_cases c : d < s
  · have : 2 ^ (d + 1) ≤ 2 ^ s := Nat.pow_le_pow_right (by decide) (by omega)
    refine ⟨k, d, n, ?_, h1, h2, fun _ => ⟨rfl, rfl⟩, fun h => by omega⟩
    rw [if_pos (by rw [z_ltN hk (by omega)]; omega)]
  · have : 2 ^ s ≤ 2 ^ d := Nat.pow_le_pow_right (by decide) (by omega)
    have p0 : 0 < 2 ^ s := Nat.two_pow_pos s
    refine ⟨k / 2 ^ s, d - s, n - s, ?_, ?_, ?_, fun h => by omega, fun _ => ⟨rfl, rfl⟩⟩
    · rw [if_neg (by rw [z_ltN hk (by omega)]; omega), u_shr hk hs2]
      congr 2
      rw [← z_subN hn, Int32.sub_eq_add_neg]
    · rw [Nat.le_div_iff_mul_le p0, ← Nat.pow_add, show d - s + s = d by omega]
      exact h1
    · rw [Nat.div_lt_iff_lt_mul p0, ← Nat.pow_add, show d - s + 1 + s = d + 1 by omega]
      exact h2
theorem j_nlz {x : Int32} {d : Nat} (S : QS) (hd : d < 32) (h1 : b_t x d = true) (h2 : ∀ e, d < e → e < 32 → b_t x e = false) : fJ6_numberOfLeadingZeros_0f7a4 S x = some (nI (31 - d)) := by
  by_cases c31 : d = 31
  · subst c31
    have neg : x < 0 := by
      rw [Int32.lt_iff_toInt_lt]
      have hm : x.toBitVec.msb = true := by rw [BitVec.msb_eq_getLsbD_last]; exact h1
      have : x.toInt = x.toBitVec.toInt := rfl
      rw [this]
      show x.toBitVec.toInt < 0
      rw [BitVec.toInt_eq_msb_cond, hm]
      have := x.toBitVec.isLt
      simp only [if_true]
      omega
    rw [fJ6_numberOfLeadingZeros_0f7a4, if_neg (fun h => Int32.lt_irrefl (Int32.lt_trans neg h)), if_neg (fun h => by rw [h] at neg; exact absurd neg (by decide))]
    rfl
  · have hd' : d < 31 := by omega
    obtain ⟨k, hk, rfl⟩ : ∃ k, k < 2147483648 ∧ x = nI k := by
      refine ⟨x.toBitVec.toNat, ?_, ?_⟩
      · have : x.toBitVec.toNat < 2 ^ 31 := by
          apply Nat.lt_pow_two_of_testBit
          intro i hi
          by_cases c : i < 32
          · exact h2 i (by omega) c
          · exact BitVec.getLsbD_of_ge x.toBitVec i (by omega)
        exact this
      · apply b_ext
        intro e he
        rw [b_nI, decide_eq_true he, Bool.true_and]
        rfl
    obtain ⟨p1, p2⟩ := b_nI31 hk h1 h2 hd'
    have pos : (0 : Int32) < nI k := by
      rw [show (0 : Int32) = nI 0 from rfl, z_ltN (by decide) hk]
      have := Nat.two_pow_pos d
      omega
    rw [fJ6_numberOfLeadingZeros_0f7a4, if_pos pos]
    obtain ⟨k1, d1, n1, a1, a2, a3, a4, a5⟩ := nlz_st (s := 16) (n := 31) p1 p2 hd' (by decide) (by decide) (by decide)
    have d1l : d1 < 16 := by by_cases c : d < 16 <;> omega
    obtain ⟨k2, d2, n2, b1, b2, b3, b4, b5⟩ := nlz_st (s := 8) (n := n1) a2 a3 (by omega) (by decide) (by decide) (by by_cases c : d < 16 <;> omega)
    have d2l : d2 < 8 := by by_cases c : d1 < 8 <;> omega
    have n1b : n1 = 31 ∨ n1 = 15 := by by_cases c : d < 16 <;> omega
    have n2b : 7 ≤ n2 := by by_cases c : d1 < 8 <;> omega
    obtain ⟨k3, d3, n3, c1, c2, c3, c4, c5⟩ := nlz_st (s := 4) (n := n2) b2 b3 (by omega) (by decide) (by decide) (by omega)
    have d3l : d3 < 4 := by by_cases c : d2 < 4 <;> omega
    have n3b : 3 ≤ n3 := by by_cases c : d2 < 4 <;> omega
    obtain ⟨k4, d4, n4, e1, e2, e3, e4, e5⟩ := nlz_st (s := 2) (n := n3) c2 c3 (by omega) (by decide) (by decide) (by omega)
    have d4l : d4 < 2 := by by_cases c : d3 < 2 <;> omega
    have n4b : 1 ≤ n4 := by by_cases c : d3 < 2 <;> omega
    have sum : n4 - d4 = 31 - d := by
      by_cases x1 : d < 16 <;> by_cases x2 : d1 < 8 <;> by_cases x3 : d2 < 4 <;> by_cases x4 : d3 < 2 <;> omega
    have m16 : (65536 : Int32) = nI (2 ^ 16) := rfl
    have m8 : (256 : Int32) = nI (2 ^ 8) := rfl
    have m4 : (16 : Int32) = nI (2 ^ 4) := rfl
    have m2 : (4 : Int32) = nI (2 ^ 2) := rfl
    have A : ((if nI k < (65536 : Int32) then some (nI k, (31 : Int32)) else some (((nI k).toUInt32 >>> ((16 : Int32).toUInt32 &&& Int32.toUInt32 31)).toInt32, (31 : Int32) + (-16 : Int32))) : Option (Int32 × Int32)) = some (nI k1, nI n1) := a1
    have Bq : ((if nI k1 < (256 : Int32) then some (nI k1, nI n1) else some (((nI k1).toUInt32 >>> ((8 : Int32).toUInt32 &&& Int32.toUInt32 31)).toInt32, nI n1 + (-8 : Int32))) : Option (Int32 × Int32)) = some (nI k2, nI n2) := b1
    have Cq : ((if nI k2 < (16 : Int32) then some (nI k2, nI n2) else some (((nI k2).toUInt32 >>> ((4 : Int32).toUInt32 &&& Int32.toUInt32 31)).toInt32, nI n2 + (-4 : Int32))) : Option (Int32 × Int32)) = some (nI k3, nI n3) := c1
    have Eq' : ((if nI k3 < (4 : Int32) then some (nI k3, nI n3) else some (((nI k3).toUInt32 >>> ((2 : Int32).toUInt32 &&& Int32.toUInt32 31)).toInt32, nI n3 + (-2 : Int32))) : Option (Int32 × Int32)) = some (nI k4, nI n4) := e1
    rw [A, Option.bind_some]
    simp only []
    rw [Bq, Option.bind_some]
    simp only []
    rw [Cq, Option.bind_some]
    simp only []
    rw [Eq', Option.bind_some]
    have k4l : k4 < 4 := by
      have : 2 ^ (d4 + 1) ≤ 2 ^ 2 := Nat.pow_le_pow_right (by decide) (by omega)
      omega
    have sh := u_shr (k := k4) (s := 1) (by omega) (by decide)
    have sh' : ((nI k4).toUInt32 >>> ((1 : Int32).toUInt32 &&& Int32.toUInt32 31)).toInt32 = nI (k4 / 2) := sh
    have hq : k4 / 2 = d4 := by
      have : d4 = 0 ∨ d4 = 1 := by omega
      rcases this with z | z
      · subst z
        have e2 : 1 ≤ k4 := e2
        have e3 : k4 < 2 := e3
        omega
      · subst z
        have e2 : 2 ≤ k4 := e2
        omega
    show some (nI n4 - ((nI k4).toUInt32 >>> ((1 : Int32).toUInt32 &&& Int32.toUInt32 31)).toInt32) = _
    rw [sh', hq, z_subN (by omega), sum]
