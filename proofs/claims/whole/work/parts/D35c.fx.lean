/-! ===== only numbers change ===== -/
theorem fxX6_addInput {S : QS}  {x1 : Int32} {r : Bool × QS} (h : fX6_addInput S x1 = some r) : q_Fx S r.2 := by
  unfold fX6_addInput at h
  by_cases c : (S.2.1 89 11) = (256 : Int32)
  · rw [if_pos c] at h
    obtain rfl := Option.some.inj h
    exact q_Fx.rf _
  · rw [if_neg c] at h
    obtain ⟨hg1, h⟩ := q_guard h
    obtain ⟨S2, e3, h⟩ := q_bindS h
    have fx4 : q_Fx S S2 := e3 ▸ q_Fx.sI (q_Fx.rf S)
    obtain ⟨S5, e6, h⟩ := q_bindS h
    have fx7 : q_Fx S S5 := e6 ▸ q_Fx.sI (fx4)
    obtain rfl := Option.some.inj h
    exact fx7
theorem fxX6_push {S : QS}  {x1 : Int32} {x2 : Int32} {r : QS} (h : fX6_push S x1 x2 = some r) : q_Fx S r := by
  unfold fX6_push at h
  obtain ⟨hg1, h⟩ := q_guard h
  by_cases c : (8 : Int32) ≤ (S.2.1 99 (S.2.1 89 7).toNatClampNeg)
  · rw [if_pos c] at h
    obtain rfl := Option.some.inj h
    exact q_Fx.rf _
  · rw [if_neg c] at h
    obtain ⟨hg2, h⟩ := q_guard h
    obtain ⟨hg3, h⟩ := q_guard h
    obtain ⟨S4, e5, h⟩ := q_bindS h
    have fx6 : q_Fx S S4 := e5 ▸ q_Fx.sI (q_Fx.rf S)
    obtain ⟨hg7, h⟩ := q_guard h
    obtain ⟨S8, e9, h⟩ := q_bindS h
    have fx10 : q_Fx S S8 := e9 ▸ q_Fx.sI (fx6)
    obtain ⟨hg11, h⟩ := q_guard h
    obtain ⟨hg12, h⟩ := q_guard h
    obtain ⟨S13, e14, h⟩ := q_bindS h
    have fx15 : q_Fx S S13 := e14 ▸ q_Fx.sI (fx10)
    obtain rfl := Option.some.inj h
    exact fx15
theorem fxX6_pushInt {S : QS}  {x1 : Int32} {r : QS} (h : fX6_pushInt S x1 = some r) : q_Fx S r := by
  unfold fX6_pushInt at h
  obtain ⟨r1, e2, h⟩ := q_bind h
  have fx3 : q_Fx S r1 := q_Fx.tr (q_Fx.rf S) (fxX6_push e2)
  obtain rfl := Option.some.inj h
  exact fx3
theorem fxX6_pushObject {S : QS}  {x1 : Int32} {r : QS} (h : fX6_pushObject S x1 = some r) : q_Fx S r := by
  unfold fX6_pushObject at h
  obtain ⟨hg1, h⟩ := q_guard h
  obtain ⟨r2, e3, h⟩ := q_bind h
  have fx4 : q_Fx S r2 := q_Fx.tr (q_Fx.rf S) (fxX6_push e3)
  obtain rfl := Option.some.inj h
  exact fx4
theorem fxX6_pop {S : QS}   {r : Int32 × QS} (h : fX6_pop S = some r) : q_Fx S r.2 := by
  unfold fX6_pop at h
  obtain ⟨hg1, h⟩ := q_guard h
  by_cases c : (S.2.1 99 (S.2.1 89 7).toNatClampNeg) = 0
  · rw [if_pos c] at h
    obtain rfl := Option.some.inj h
    exact q_Fx.rf _
  · rw [if_neg c] at h
    obtain ⟨hg2, h⟩ := q_guard h
    obtain ⟨hg3, h⟩ := q_guard h
    obtain ⟨S4, e5, h⟩ := q_bindS h
    have fx6 : q_Fx S S4 := e5 ▸ q_Fx.sI (q_Fx.rf S)
    obtain ⟨r7, e8, h⟩ := q_bind h
    obtain ⟨hg9, h⟩ := q_guard h
    obtain rfl := Option.some.inj h
    exact fx6
theorem fxX6_swap {S : QS}  {x1 : Int32} {x2 : Int32} {r : QS} (h : fX6_swap S x1 x2 = some r) : q_Fx S r := by
  unfold fX6_swap at h
  obtain ⟨hg1, h⟩ := q_guard h
  obtain ⟨hg2, h⟩ := q_guard h
  obtain ⟨hg3, h⟩ := q_guard h
  obtain ⟨hg4, h⟩ := q_guard h
  obtain ⟨S5, e6, h⟩ := q_bindS h
  have fx7 : q_Fx S S5 := e6 ▸ q_Fx.sI (q_Fx.rf S)
  obtain ⟨hg8, h⟩ := q_guard h
  obtain ⟨hg9, h⟩ := q_guard h
  obtain ⟨S10, e11, h⟩ := q_bindS h
  have fx12 : q_Fx S S10 := e11 ▸ q_Fx.sI (fx7)
  obtain ⟨hg13, h⟩ := q_guard h
  obtain ⟨S14, e15, h⟩ := q_bindS h
  have fx16 : q_Fx S S14 := e15 ▸ q_Fx.sI (fx12)
  obtain ⟨hg17, h⟩ := q_guard h
  obtain ⟨S18, e19, h⟩ := q_bindS h
  have fx20 : q_Fx S S18 := e19 ▸ q_Fx.sI (fx16)
  obtain rfl := Option.some.inj h
  exact fx20
theorem fxX6_move {S : QS}  {x1 : Int32} {x2 : Int32} {x3 : Int32} {r : QS} (h : fX6_move S x1 x2 x3 = some r) : q_Fx S r := by
  unfold fX6_move at h
  obtain ⟨r1, e2, h⟩ := q_bind h
  by_cases c3 : x1 = (0 : Int32)
  · rw [if_pos c3] at h
    obtain ⟨r4, e5, h⟩ := q_bind h
    have fx6 : q_Fx S r4 := q_Fx.tr (q_Fx.rf S) (fxX6_pushInt e5)
    obtain rfl := Option.some.inj h
    exact fx6
  rw [if_neg c3] at h
  by_cases c7 : x1 = (1 : Int32)
  · rw [if_pos c7] at h
    obtain ⟨r8, e9, h⟩ := q_bind h
    have fx10 : q_Fx S r8 := q_Fx.tr (q_Fx.rf S) (fxX6_pushObject e9)
    obtain rfl := Option.some.inj h
    exact fx10
  rw [if_neg c7] at h
  by_cases c11 : x1 = (2 : Int32)
  · rw [if_pos c11] at h
    obtain ⟨hg12, h⟩ := q_guard h
    obtain ⟨hg13, h⟩ := q_guard h
    obtain ⟨r14, e15, h⟩ := q_bind h
    have fx16 : q_Fx S r14 := q_Fx.tr (q_Fx.rf S) (fxX6_push e15)
    obtain rfl := Option.some.inj h
    exact fx16
  rw [if_neg c11] at h
  by_cases c17 : x1 = (3 : Int32)
  · rw [if_pos c17] at h
    obtain ⟨r18, e19, h⟩ := q_bind h
    have fx20 : q_Fx S r18.2 := q_Fx.tr (q_Fx.rf S) (fxX6_pop e19)
    obtain ⟨hg21, h⟩ := q_guard h
    obtain ⟨S22, e23, h⟩ := q_bindS h
    have fx24 : q_Fx S S22 := e23 ▸ q_Fx.sI (fx20)
    obtain ⟨hg25, h⟩ := q_guard h
    obtain ⟨hg26, h⟩ := q_guard h
    obtain ⟨S27, e28, h⟩ := q_bindS h
    have fx29 : q_Fx S S27 := e28 ▸ q_Fx.sI (fx24)
    obtain rfl := Option.some.inj h
    exact fx29
  rw [if_neg c17] at h
  by_cases c30 : x1 = (4 : Int32)
  · rw [if_pos c30] at h
    obtain ⟨hg31, h⟩ := q_guard h
    obtain ⟨hg32, h⟩ := q_guard h
    obtain ⟨S33, e34, h⟩ := q_bindS h
    have fx35 : q_Fx S S33 := e34 ▸ q_Fx.sI (q_Fx.rf S)
    obtain rfl := Option.some.inj h
    exact fx35
  rw [if_neg c30] at h
  by_cases c36 : x1 = (5 : Int32)
  · rw [if_pos c36] at h
    obtain ⟨hg37, h⟩ := q_guard h
    obtain ⟨hg38, h⟩ := q_guard h
    obtain ⟨r39, e40, h⟩ := q_bind h
    have fx41 : q_Fx S r39 := q_Fx.tr (q_Fx.rf S) (fxX6_push e40)
    obtain rfl := Option.some.inj h
    exact fx41
  rw [if_neg c36] at h
  by_cases c42 : x1 = (6 : Int32)
  · rw [if_pos c42] at h
    obtain ⟨r43, e44, h⟩ := q_bind h
    have fx45 : q_Fx S r43.2 := q_Fx.tr (q_Fx.rf S) (fxX6_pop e44)
    obtain rfl := Option.some.inj h
    exact fx45
  rw [if_neg c42] at h
  obtain ⟨r46, e47, h⟩ := q_bind h
  have fx48 : q_Fx S r46 := q_Fx.tr (q_Fx.rf S) (fxX6_swap e47)
  obtain rfl := Option.some.inj h
  exact fx48
theorem fxX6_raise {S : QS}  {x1 : Int32} {r : QS} (h : fX6_raise S x1 = some r) : q_Fx S r := by
  unfold fX6_raise at h
  obtain ⟨r1, e2, h⟩ := q_bind h
  have fx3 : q_Fx S r1.2 := q_Fx.tr (q_Fx.rf S) (fxX2_make e2)
  obtain ⟨S4, e5, h⟩ := q_bindS h
  have fx6 : q_Fx S S4 := e5 ▸ q_Fx.sI (fx3)
  by_cases c : (S4.2.1 89 9) = 0
  · rw [if_pos c] at h
    obtain ⟨S7, e8, h⟩ := q_bindS h
    have fx9 : q_Fx S S7 := e8 ▸ q_Fx.sI (fx6)
    obtain rfl := Option.some.inj h
    exact fx9
  · rw [if_neg c] at h
    obtain rfl := Option.some.inj h
    exact fx6
theorem fxX6_calculate_45 {S : QS}  {y1 : Int32} {y2 : Int32} {y3 : Int32} {r : QS} (h : fX6_calculate_45 S y1 y2 y3 = some r) : q_Fx S r := by
  unfold fX6_calculate_45 at h
  by_cases c1 : y1 = (8 : Int32)
  · rw [if_pos c1] at h
    obtain ⟨r2, e3, h⟩ := q_bind h
    have fx4 : q_Fx S r2 := q_Fx.tr (q_Fx.rf S) (fxX6_pushInt e3)
    obtain rfl := Option.some.inj h
    exact fx4
  rw [if_neg c1] at h
  by_cases c5 : y1 = (9 : Int32)
  · rw [if_pos c5] at h
    obtain ⟨r6, e7, h⟩ := q_bind h
    have fx8 : q_Fx S r6 := q_Fx.tr (q_Fx.rf S) (fxX6_pushInt e7)
    obtain rfl := Option.some.inj h
    exact fx8
  rw [if_neg c5] at h
  by_cases c9 : y1 = (10 : Int32)
  · rw [if_pos c9] at h
    obtain ⟨r10, e11, h⟩ := q_bind h
    have fx12 : q_Fx S r10 := q_Fx.tr (q_Fx.rf S) (fxX6_pushInt e11)
    obtain rfl := Option.some.inj h
    exact fx12
  rw [if_neg c9] at h
  by_cases c13 : y1 = (11 : Int32)
  · rw [if_pos c13] at h
    obtain ⟨hg14, h⟩ := q_guard h
    obtain ⟨r15, e16, h⟩ := q_bind h
    have fx17 : q_Fx S r15 := q_Fx.tr (q_Fx.rf S) (fxX6_pushInt e16)
    obtain rfl := Option.some.inj h
    exact fx17
  rw [if_neg c13] at h
  by_cases c18 : y1 = (12 : Int32)
  · rw [if_pos c18] at h
    obtain ⟨hg19, h⟩ := q_guard h
    obtain ⟨r20, e21, h⟩ := q_bind h
    have fx22 : q_Fx S r20 := q_Fx.tr (q_Fx.rf S) (fxX6_pushInt e21)
    obtain rfl := Option.some.inj h
    exact fx22
  rw [if_neg c18] at h
  by_cases c23 : y1 = (13 : Int32)
  · rw [if_pos c23] at h
    obtain ⟨r24, e25, h⟩ := q_bind h
    have fx26 : q_Fx S r24 := q_Fx.tr (q_Fx.rf S) (fxX6_pushInt e25)
    obtain rfl := Option.some.inj h
    exact fx26
  rw [if_neg c23] at h
  by_cases c27 : y1 = (14 : Int32)
  · rw [if_pos c27] at h
    obtain ⟨r28, e29, h⟩ := q_bind h
    have fx30 : q_Fx S r28 := q_Fx.tr (q_Fx.rf S) (fxX6_pushInt e29)
    obtain rfl := Option.some.inj h
    exact fx30
  rw [if_neg c27] at h
  by_cases c31 : y1 = (15 : Int32)
  · rw [if_pos c31] at h
    obtain ⟨r32, e33, h⟩ := q_bind h
    have fx34 : q_Fx S r32 := q_Fx.tr (q_Fx.rf S) (fxX6_pushInt e33)
    obtain rfl := Option.some.inj h
    exact fx34
  rw [if_neg c31] at h
  by_cases c35 : y1 = (16 : Int32)
  · rw [if_pos c35] at h
    obtain ⟨r36, e37, h⟩ := q_bind h
    have fx38 : q_Fx S r36 := q_Fx.tr (q_Fx.rf S) (fxX6_pushInt e37)
    obtain rfl := Option.some.inj h
    exact fx38
  rw [if_neg c35] at h
  obtain ⟨r39, e40, h⟩ := q_bind h
  have fx41 : q_Fx S r39 := q_Fx.tr (q_Fx.rf S) (fxX6_pushInt e40)
  obtain rfl := Option.some.inj h
  exact fx41
theorem fxX6_calculate_35 {S : QS}  {y1 : Int32} {y2 : Int32} {y3 : Int32} {r : QS} (h : fX6_calculate_35 S y1 y2 y3 = some r) : q_Fx S r := by
  unfold fX6_calculate_35 at h
  by_cases c : y2 = 0
  · rw [if_pos c] at h
    obtain ⟨r42, e43, h⟩ := q_bind h
    have fx44 : q_Fx S r42 := q_Fx.tr (q_Fx.rf S) (fxX6_raise e43)
    obtain rfl := Option.some.inj h
    exact fx44
  · rw [if_neg c] at h
    exact (q_Fx.rf _).tr (fxX6_calculate_45 h)
theorem fxX6_calculate {S : QS}  {x1 : Int32} {r : QS} (h : fX6_calculate S x1 = some r) : q_Fx S r := by
  unfold fX6_calculate at h
  obtain ⟨r45, e46, h⟩ := q_bind h
  have fx47 : q_Fx S r45.2 := q_Fx.tr (q_Fx.rf S) (fxX6_pop e46)
  by_cases c : x1 = (18 : Int32)
  · rw [if_pos c] at h
    obtain ⟨r51, e52, h⟩ := q_bind h
    have fx53 : q_Fx S r51 := q_Fx.tr (fx47) (fxX6_pushInt e52)
    obtain rfl := Option.some.inj h
    exact fx53
  · rw [if_neg c] at h
    obtain ⟨r48, e49, h⟩ := q_bind h
    have fx50 : q_Fx S r48.2 := q_Fx.tr (fx47) (fxX6_pop e49)
    by_cases c : x1 = (11 : Int32)
    · rw [if_pos c] at h
      exact (fx50).tr (fxX6_calculate_35 h)
    · rw [if_neg c] at h
      by_cases c : x1 = (12 : Int32)
      · rw [if_pos c] at h
        exact (fx50).tr (fxX6_calculate_35 h)
      · rw [if_neg c] at h
        exact (fx50).tr (fxX6_calculate_45 h)
theorem fxX6_decide {S : QS}  {x1 : Int32} {x2 : Int32} {r : QS} (h : fX6_decide S x1 x2 = some r) : q_Fx S r := by
  unfold fX6_decide at h
  obtain ⟨v4, hv, h⟩ := q_bind h
  have fx5 : q_Fx S v4.2 := by
    replace h := hv
    by_cases c : x1 = (19 : Int32)
    · rw [if_pos c] at h
      obtain rfl := Option.some.inj h
      exact q_Fx.rf _
    · rw [if_neg c] at h
      obtain ⟨r1, e2, h⟩ := q_bind h
      have fx3 : q_Fx S r1.2 := q_Fx.tr (q_Fx.rf S) (fxX6_pop e2)
      obtain rfl := Option.some.inj h
      exact fx3
  obtain ⟨v9, hv, h⟩ := q_bind h
  have fx10 : q_Fx S v9.2 := by
    replace h := hv
    by_cases c : x1 = (19 : Int32)
    · rw [if_pos c] at h
      obtain rfl := Option.some.inj h
      exact fx5
    · rw [if_neg c] at h
      by_cases c : x1 = (26 : Int32)
      · rw [if_pos c] at h
        obtain rfl := Option.some.inj h
        exact fx5
      · rw [if_neg c] at h
        by_cases c : x1 = (27 : Int32)
        · rw [if_pos c] at h
          obtain rfl := Option.some.inj h
          exact fx5
        · rw [if_neg c] at h
          obtain ⟨r6, e7, h⟩ := q_bind h
          have fx8 : q_Fx S r6.2 := q_Fx.tr (fx5) (fxX6_pop e7)
          obtain rfl := Option.some.inj h
          exact fx8
  obtain ⟨v31, hv, h⟩ := q_bind h
  by_cases c : v31 = true
  · rw [if_pos c] at h
    obtain ⟨hg32, h⟩ := q_guard h
    obtain ⟨S33, e34, h⟩ := q_bindS h
    have fx35 : q_Fx S S33 := e34 ▸ q_Fx.sI (fx10)
    obtain rfl := Option.some.inj h
    exact fx35
  · rw [if_neg c] at h
    obtain rfl := Option.some.inj h
    exact fx10
theorem fxX6_pushMade {S : QS}  {x1 : Int32} {x2 : Int32} {x3 : Int32} {r : QS} (h : fX6_pushMade S x1 x2 x3 = some r) : q_Fx S r := by
  unfold fX6_pushMade at h
  obtain ⟨r1, e2, h⟩ := q_bind h
  have fx3 : q_Fx S r1.2 := q_Fx.tr (q_Fx.rf S) (fxX2_make e2)
  by_cases c : r1.1 = 0
  · rw [if_pos c] at h
    obtain ⟨S7, e8, h⟩ := q_bindS h
    have fx9 : q_Fx S S7 := e8 ▸ q_Fx.sI (fx3)
    obtain rfl := Option.some.inj h
    exact fx9
  · rw [if_neg c] at h
    obtain ⟨r4, e5, h⟩ := q_bind h
    have fx6 : q_Fx S r4 := q_Fx.tr (fx3) (fxX6_pushObject e5)
    obtain rfl := Option.some.inj h
    exact fx6

theorem fxX6_pushCell {S : QS}  {x1 : Int32} {x2 : Int32} {x3 : Bool} {r : QS} (h : fX6_pushCell S x1 x2 x3 = some r) : q_Fx S r := by
  unfold fX6_pushCell at h
  obtain ⟨r1, e2, h⟩ := q_bind h
  by_cases c : x3 = true
  · rw [if_pos c] at h
    obtain ⟨r6, e7, h⟩ := q_bind h
    have fx8 : q_Fx S r6 := q_Fx.tr (q_Fx.rf S) (fxX6_pushInt e7)
    obtain rfl := Option.some.inj h
    exact fx8
  · rw [if_neg c] at h
    obtain ⟨r3, e4, h⟩ := q_bind h
    have fx5 : q_Fx S r3 := q_Fx.tr (q_Fx.rf S) (fxX6_pushObject e4)
    obtain rfl := Option.some.inj h
    exact fx5
theorem fxX6_useArray {S : QS} {p : Nat} {x1 : Int32} {r : QS} (h : fX6_useArray S p x1 = some r) : q_Fx S r := by
  unfold fX6_useArray at h
  obtain ⟨hg1, h⟩ := q_guard h
  by_cases c : (S.2.1 (p + 11) x1.toNatClampNeg) = (30 : Int32)
  · rw [if_pos c] at h
    obtain ⟨hg84, h⟩ := q_guard h
    obtain ⟨hg85, h⟩ := q_guard h
    obtain ⟨hg86, h⟩ := q_guard h
    obtain ⟨hg87, h⟩ := q_guard h
    obtain ⟨r88, e89, h⟩ := q_bind h
    have fx90 : q_Fx S r88 := q_Fx.tr (q_Fx.rf S) (fxX6_pushMade e89)
    obtain rfl := Option.some.inj h
    exact fx90
  · rw [if_neg c] at h
    obtain ⟨v5, hv, h⟩ := q_bind h
    have fx6 : q_Fx S v5.2 := by
      replace h := hv
      by_cases c : (S.2.1 (p + 11) x1.toNatClampNeg) = (34 : Int32)
      · rw [if_pos c] at h
        obtain ⟨r2, e3, h⟩ := q_bind h
        have fx4 : q_Fx S r2.2 := q_Fx.tr (q_Fx.rf S) (fxX6_pop e3)
        obtain rfl := Option.some.inj h
        exact fx4
      · rw [if_neg c] at h
        obtain rfl := Option.some.inj h
        exact q_Fx.rf _
    obtain ⟨v10, hv, h⟩ := q_bind h
    have fx11 : q_Fx S v10.2 := by
      replace h := hv
      by_cases c : (S.2.1 (p + 11) x1.toNatClampNeg) = (32 : Int32)
      · rw [if_pos c] at h
        obtain rfl := Option.some.inj h
        exact fx6
      · rw [if_neg c] at h
        obtain ⟨r7, e8, h⟩ := q_bind h
        have fx9 : q_Fx S r7.2 := q_Fx.tr (fx6) (fxX6_pop e8)
        obtain rfl := Option.some.inj h
        exact fx9
    obtain ⟨v15, hv, h⟩ := q_bind h
    have fx16 : q_Fx S v15.2 := by
      replace h := hv
      by_cases c : (S.2.1 (p + 11) x1.toNatClampNeg) = (31 : Int32)
      · rw [if_pos c] at h
        obtain rfl := Option.some.inj h
        exact fx11
      · rw [if_neg c] at h
        obtain ⟨r12, e13, h⟩ := q_bind h
        have fx14 : q_Fx S r12.2 := q_Fx.tr (fx11) (fxX6_pop e13)
        obtain rfl := Option.some.inj h
        exact fx14
    by_cases c : (S.2.1 (p + 11) x1.toNatClampNeg) = (31 : Int32)
    · rw [if_pos c] at h
      by_cases c : 0 ≤ v10.1
      · rw [if_pos c] at h
        by_cases c : (S.2.1 (p + 11) x1.toNatClampNeg) = (31 : Int32)
        · rw [if_pos c] at h
          obtain ⟨hg76, h⟩ := q_guard h
          obtain ⟨hg77, h⟩ := q_guard h
          obtain ⟨r78, e79, h⟩ := q_bind h
          have fx80 : q_Fx S r78 := q_Fx.tr (fx16) (fxX6_pushMade e79)
          obtain rfl := Option.some.inj h
          exact fx80
        · rw [if_neg c] at h
          by_cases c : v15.1 = 0
          · rw [if_pos c] at h
            obtain ⟨r73, e74, h⟩ := q_bind h
            have fx75 : q_Fx S r73 := q_Fx.tr (fx16) (fxX6_raise e74)
            obtain rfl := Option.some.inj h
            exact fx75
          · rw [if_neg c] at h
            by_cases c : (S.2.1 (p + 11) x1.toNatClampNeg) = (32 : Int32)
            · rw [if_pos c] at h
              obtain ⟨hg69, h⟩ := q_guard h
              obtain ⟨r70, e71, h⟩ := q_bind h
              have fx72 : q_Fx S r70 := q_Fx.tr (fx16) (fxX6_pushInt e71)
              obtain rfl := Option.some.inj h
              exact fx72
            · rw [if_neg c] at h
              obtain ⟨r49, e50, h⟩ := q_bind h
              by_cases c : r49 = true
              · rw [if_pos c] at h
                by_cases c : (S.2.1 (p + 11) x1.toNatClampNeg) = (33 : Int32)
                · rw [if_pos c] at h
                  obtain ⟨hg59, h⟩ := q_guard h
                  by_cases c : (v15.2.2.1 91 v15.1.toNatClampNeg) = (64 : Int32)
                  · rw [if_pos c] at h
                    obtain ⟨r63, e64, h⟩ := q_bind h
                    have fx65 : q_Fx S r63 := q_Fx.tr (fx16) (fxX6_pushCell e64)
                    obtain rfl := Option.some.inj h
                    exact fx65
                  · rw [if_neg c] at h
                    obtain ⟨r60, e61, h⟩ := q_bind h
                    have fx62 : q_Fx S r60 := q_Fx.tr (fx16) (fxX6_pushCell e61)
                    obtain rfl := Option.some.inj h
                    exact fx62
                · rw [if_neg c] at h
                  obtain ⟨r51, e52, h⟩ := q_bind h
                  by_cases c : r51 = true
                  · rw [if_pos c] at h
                    obtain ⟨r56, e57, h⟩ := q_bind h
                    have fx58 : q_Fx S r56 := q_Fx.tr (fx16) (fxX2_setCell e57)
                    obtain rfl := Option.some.inj h
                    exact fx58
                  · rw [if_neg c] at h
                    obtain ⟨r53, e54, h⟩ := q_bind h
                    have fx55 : q_Fx S r53 := q_Fx.tr (fx16) (fxX6_raise e54)
                    obtain rfl := Option.some.inj h
                    exact fx55
              · rw [if_neg c] at h
                obtain ⟨r66, e67, h⟩ := q_bind h
                have fx68 : q_Fx S r66 := q_Fx.tr (fx16) (fxX6_raise e67)
                obtain rfl := Option.some.inj h
                exact fx68
      · rw [if_neg c] at h
        obtain ⟨r81, e82, h⟩ := q_bind h
        have fx83 : q_Fx S r81 := q_Fx.tr (fx16) (fxX6_raise e82)
        obtain rfl := Option.some.inj h
        exact fx83
    · rw [if_neg c] at h
      by_cases c : (S.2.1 (p + 11) x1.toNatClampNeg) = (31 : Int32)
      · rw [if_pos c] at h
        obtain ⟨hg44, h⟩ := q_guard h
        obtain ⟨hg45, h⟩ := q_guard h
        obtain ⟨r46, e47, h⟩ := q_bind h
        have fx48 : q_Fx S r46 := q_Fx.tr (fx16) (fxX6_pushMade e47)
        obtain rfl := Option.some.inj h
        exact fx48
      · rw [if_neg c] at h
        by_cases c : v15.1 = 0
        · rw [if_pos c] at h
          obtain ⟨r41, e42, h⟩ := q_bind h
          have fx43 : q_Fx S r41 := q_Fx.tr (fx16) (fxX6_raise e42)
          obtain rfl := Option.some.inj h
          exact fx43
        · rw [if_neg c] at h
          by_cases c : (S.2.1 (p + 11) x1.toNatClampNeg) = (32 : Int32)
          · rw [if_pos c] at h
            obtain ⟨hg37, h⟩ := q_guard h
            obtain ⟨r38, e39, h⟩ := q_bind h
            have fx40 : q_Fx S r38 := q_Fx.tr (fx16) (fxX6_pushInt e39)
            obtain rfl := Option.some.inj h
            exact fx40
          · rw [if_neg c] at h
            obtain ⟨r17, e18, h⟩ := q_bind h
            by_cases c : r17 = true
            · rw [if_pos c] at h
              by_cases c : (S.2.1 (p + 11) x1.toNatClampNeg) = (33 : Int32)
              · rw [if_pos c] at h
                obtain ⟨hg27, h⟩ := q_guard h
                by_cases c : (v15.2.2.1 91 v15.1.toNatClampNeg) = (64 : Int32)
                · rw [if_pos c] at h
                  obtain ⟨r31, e32, h⟩ := q_bind h
                  have fx33 : q_Fx S r31 := q_Fx.tr (fx16) (fxX6_pushCell e32)
                  obtain rfl := Option.some.inj h
                  exact fx33
                · rw [if_neg c] at h
                  obtain ⟨r28, e29, h⟩ := q_bind h
                  have fx30 : q_Fx S r28 := q_Fx.tr (fx16) (fxX6_pushCell e29)
                  obtain rfl := Option.some.inj h
                  exact fx30
              · rw [if_neg c] at h
                obtain ⟨r19, e20, h⟩ := q_bind h
                by_cases c : r19 = true
                · rw [if_pos c] at h
                  obtain ⟨r24, e25, h⟩ := q_bind h
                  have fx26 : q_Fx S r24 := q_Fx.tr (fx16) (fxX2_setCell e25)
                  obtain rfl := Option.some.inj h
                  exact fx26
                · rw [if_neg c] at h
                  obtain ⟨r21, e22, h⟩ := q_bind h
                  have fx23 : q_Fx S r21 := q_Fx.tr (fx16) (fxX6_raise e22)
                  obtain rfl := Option.some.inj h
                  exact fx23
            · rw [if_neg c] at h
              obtain ⟨r34, e35, h⟩ := q_bind h
              have fx36 : q_Fx S r34 := q_Fx.tr (fx16) (fxX6_raise e35)
              obtain rfl := Option.some.inj h
              exact fx36
theorem fxX6_useObject {S : QS} {p : Nat} {x1 : Int32} {r : QS} (h : fX6_useObject S p x1 = some r) : q_Fx S r := by
  unfold fX6_useObject at h
  obtain ⟨hg1, h⟩ := q_guard h
  obtain ⟨hg2, h⟩ := q_guard h
  obtain ⟨v6, hv, h⟩ := q_bind h
  have fx7 : q_Fx S v6.2 := by
    replace h := hv
    by_cases c : (S.2.1 (p + 11) x1.toNatClampNeg) = (36 : Int32)
    · rw [if_pos c] at h
      obtain ⟨r3, e4, h⟩ := q_bind h
      have fx5 : q_Fx S r3.2 := q_Fx.tr (q_Fx.rf S) (fxX6_pop e4)
      obtain rfl := Option.some.inj h
      exact fx5
    · rw [if_neg c] at h
      obtain rfl := Option.some.inj h
      exact q_Fx.rf _
  obtain ⟨r8, e9, h⟩ := q_bind h
  have fx10 : q_Fx S r8.2 := q_Fx.tr (fx7) (fxX6_pop e9)
  obtain ⟨v14, hv, h⟩ := q_bind h
  by_cases c : (S.2.1 (p + 11) x1.toNatClampNeg) = (38 : Int32)
  · rw [if_pos c] at h
    by_cases c : v14 = true
    · rw [if_pos c] at h
      obtain ⟨r60, e61, h⟩ := q_bind h
      have fx62 : q_Fx S r60 := q_Fx.tr (fx10) (fxX6_pushInt e61)
      obtain rfl := Option.some.inj h
      exact fx62
    · rw [if_neg c] at h
      obtain ⟨r57, e58, h⟩ := q_bind h
      have fx59 : q_Fx S r57 := q_Fx.tr (fx10) (fxX6_pushInt e58)
      obtain rfl := Option.some.inj h
      exact fx59
  · rw [if_neg c] at h
    by_cases c : (S.2.1 (p + 11) x1.toNatClampNeg) = (37 : Int32)
    · rw [if_pos c] at h
      by_cases c : v14 = true
      · rw [if_pos c] at h
        obtain ⟨r33, e34, h⟩ := q_bind h
        have fx35 : q_Fx S r33 := q_Fx.tr (fx10) (fxX6_pushObject e34)
        obtain rfl := Option.some.inj h
        exact fx35
      · rw [if_neg c] at h
        by_cases c : r8.1 = 0
        · rw [if_pos c] at h
          obtain ⟨r54, e55, h⟩ := q_bind h
          have fx56 : q_Fx S r54 := q_Fx.tr (fx10) (fxX6_pushObject e55)
          obtain rfl := Option.some.inj h
          exact fx56
        · rw [if_neg c] at h
          by_cases c : (S.2.1 (p + 11) x1.toNatClampNeg) = (37 : Int32)
          · rw [if_pos c] at h
            obtain ⟨r51, e52, h⟩ := q_bind h
            have fx53 : q_Fx S r51 := q_Fx.tr (fx10) (fxX6_raise e52)
            obtain rfl := Option.some.inj h
            exact fx53
          · rw [if_neg c] at h
            by_cases c : r8.1 = 0
            · rw [if_pos c] at h
              obtain ⟨r48, e49, h⟩ := q_bind h
              have fx50 : q_Fx S r48 := q_Fx.tr (fx10) (fxX6_raise e49)
              obtain rfl := Option.some.inj h
              exact fx50
            · rw [if_neg c] at h
              by_cases c : (S.2.1 (p + 11) x1.toNatClampNeg) = (36 : Int32)
              · rw [if_pos c] at h
                obtain ⟨hg44, h⟩ := q_guard h
                obtain ⟨r45, e46, h⟩ := q_bind h
                have fx47 : q_Fx S r45 := q_Fx.tr (fx10) (fxX2_setCell e46)
                obtain rfl := Option.some.inj h
                exact fx47
              · rw [if_neg c] at h
                obtain ⟨hg36, h⟩ := q_guard h
                obtain ⟨hg37, h⟩ := q_guard h
                by_cases c : (r8.2.2.1 (p + 8) (S.2.1 (p + 12) x1.toNatClampNeg).toNatClampNeg) = (66 : Int32)
                · rw [if_pos c] at h
                  obtain ⟨r41, e42, h⟩ := q_bind h
                  have fx43 : q_Fx S r41 := q_Fx.tr (fx10) (fxX6_pushCell e42)
                  obtain rfl := Option.some.inj h
                  exact fx43
                · rw [if_neg c] at h
                  obtain ⟨r38, e39, h⟩ := q_bind h
                  have fx40 : q_Fx S r38 := q_Fx.tr (fx10) (fxX6_pushCell e39)
                  obtain rfl := Option.some.inj h
                  exact fx40
    · rw [if_neg c] at h
      by_cases c : (S.2.1 (p + 11) x1.toNatClampNeg) = (37 : Int32)
      · rw [if_pos c] at h
        obtain ⟨r30, e31, h⟩ := q_bind h
        have fx32 : q_Fx S r30 := q_Fx.tr (fx10) (fxX6_raise e31)
        obtain rfl := Option.some.inj h
        exact fx32
      · rw [if_neg c] at h
        by_cases c : r8.1 = 0
        · rw [if_pos c] at h
          obtain ⟨r27, e28, h⟩ := q_bind h
          have fx29 : q_Fx S r27 := q_Fx.tr (fx10) (fxX6_raise e28)
          obtain rfl := Option.some.inj h
          exact fx29
        · rw [if_neg c] at h
          by_cases c : (S.2.1 (p + 11) x1.toNatClampNeg) = (36 : Int32)
          · rw [if_pos c] at h
            obtain ⟨hg23, h⟩ := q_guard h
            obtain ⟨r24, e25, h⟩ := q_bind h
            have fx26 : q_Fx S r24 := q_Fx.tr (fx10) (fxX2_setCell e25)
            obtain rfl := Option.some.inj h
            exact fx26
          · rw [if_neg c] at h
            obtain ⟨hg15, h⟩ := q_guard h
            obtain ⟨hg16, h⟩ := q_guard h
            by_cases c : (r8.2.2.1 (p + 8) (S.2.1 (p + 12) x1.toNatClampNeg).toNatClampNeg) = (66 : Int32)
            · rw [if_pos c] at h
              obtain ⟨r20, e21, h⟩ := q_bind h
              have fx22 : q_Fx S r20 := q_Fx.tr (fx10) (fxX6_pushCell e21)
              obtain rfl := Option.some.inj h
              exact fx22
            · rw [if_neg c] at h
              obtain ⟨r17, e18, h⟩ := q_bind h
              have fx19 : q_Fx S r17 := q_Fx.tr (fx10) (fxX6_pushCell e18)
              obtain rfl := Option.some.inj h
              exact fx19
theorem fxX6_enter {S : QS} {p : Nat} {x1 : Int32} {x2 : Int32} {r : QS} (h : fX6_enter S p x1 x2 = some r) : q_Fx S r := by
  unfold fX6_enter at h
  by_cases c : ((S.2.1 89 7) + (1 : Int32)) = (64 : Int32)
  · rw [if_pos c] at h
    obtain ⟨S31, e32, h⟩ := q_bindS h
    have fx33 : q_Fx S S31 := e32 ▸ q_Fx.sI (q_Fx.rf S)
    obtain rfl := Option.some.inj h
    exact fx33
  · rw [if_neg c] at h
    obtain ⟨hg1, h⟩ := q_guard h
    obtain ⟨hg2, h⟩ := q_guard h
    obtain ⟨S3, e4, h⟩ := q_bindS h
    have fx5 : q_Fx S S3 := e4 ▸ q_Fx.sI (q_Fx.rf S)
    obtain ⟨r6, e7, h⟩ := q_bind h
    obtain ⟨S8, e9, h⟩ := q_bindS h
    have fx10 : q_Fx S S8 := e9 ▸ q_Fx.sI (fx5)
    obtain ⟨hg11, h⟩ := q_guard h
    obtain ⟨S12, e13, h⟩ := q_bindS h
    have fx14 : q_Fx S S12 := e13 ▸ q_Fx.cp (fx10)
    obtain ⟨hg15, h⟩ := q_guard h
    obtain ⟨S16, e17, h⟩ := q_bindS h
    have fx18 : q_Fx S S16 := e17 ▸ q_Fx.cp (fx14)
    obtain ⟨r19, e20, h⟩ := q_bind h
    have fx21 : q_Fx S r19 := q_Fx.tr (fx18) (fxJ7_fill_eb02e e20)
    obtain ⟨hg22, h⟩ := q_guard h
    obtain ⟨S23, e24, h⟩ := q_bindS h
    have fx25 : q_Fx S S23 := e24 ▸ q_Fx.sI (fx21)
    obtain ⟨hg26, h⟩ := q_guard h
    obtain ⟨hg27, h⟩ := q_guard h
    obtain ⟨S28, e29, h⟩ := q_bindS h
    have fx30 : q_Fx S S28 := e29 ▸ q_Fx.sI (fx25)
    obtain rfl := Option.some.inj h
    exact fx30
theorem fxX6_send {S : QS} {p : Nat} {x1 : Int32} {x2 : Int32} {r : QS} (h : fX6_send S p x1 x2 = some r) : q_Fx S r := by
  unfold fX6_send at h
  by_cases c : x2 = 0
  · rw [if_pos c] at h
    obtain ⟨r8, e9, h⟩ := q_bind h
    have fx10 : q_Fx S r8 := q_Fx.tr (q_Fx.rf S) (fxX6_raise e9)
    obtain rfl := Option.some.inj h
    exact fx10
  · rw [if_neg c] at h
    obtain ⟨hg1, h⟩ := q_guard h
    obtain ⟨r2, e3, h⟩ := q_bind h
    obtain ⟨hg4, h⟩ := q_guard h
    obtain ⟨r5, e6, h⟩ := q_bind h
    have fx7 : q_Fx S r5 := q_Fx.tr (q_Fx.rf S) (fxX6_enter e6)
    obtain rfl := Option.some.inj h
    exact fx7
theorem fxX6_raiseObject {S : QS}  {x1 : Int32} {r : QS} (h : fX6_raiseObject S x1 = some r) : q_Fx S r := by
  unfold fX6_raiseObject at h
  by_cases c : x1 = 0
  · rw [if_pos c] at h
    obtain ⟨r4, e5, h⟩ := q_bind h
    have fx6 : q_Fx S r4 := q_Fx.tr (q_Fx.rf S) (fxX6_raise e5)
    obtain rfl := Option.some.inj h
    exact fx6
  · rw [if_neg c] at h
    obtain ⟨S1, e2, h⟩ := q_bindS h
    have fx3 : q_Fx S S1 := e2 ▸ q_Fx.sI (q_Fx.rf S)
    obtain rfl := Option.some.inj h
    exact fx3
theorem fxX6_write {S : QS}  {x1 : Int32} {r : QS} (h : fX6_write S x1 = some r) : q_Fx S r := by
  unfold fX6_write at h
  obtain ⟨v5, hv, h⟩ := q_bind h
  have fx6 : q_Fx S v5 := by
    replace h := hv
    by_cases c : (256 : Int32) ≤ (S.2.1 89 14)
    · rw [if_pos c] at h
      obtain rfl := Option.some.inj h
      exact q_Fx.rf _
    · rw [if_neg c] at h
      obtain ⟨hg1, h⟩ := q_guard h
      obtain ⟨S2, e3, h⟩ := q_bindS h
      have fx4 : q_Fx S S2 := e3 ▸ q_Fx.sI (q_Fx.rf S)
      obtain rfl := Option.some.inj h
      exact fx4
  obtain ⟨S7, e8, h⟩ := q_bindS h
  have fx9 : q_Fx S S7 := e8 ▸ q_Fx.sI (fx6)
  obtain rfl := Option.some.inj h
  exact fx9
theorem fxX6_leave {S : QS}  {x1 : Bool} {r : QS} (h : fX6_leave S x1 = some r) : q_Fx S r := by
  unfold fX6_leave at h
  by_cases c : (S.2.1 89 7) = 0
  · rw [if_pos c] at h
    obtain ⟨S11, e12, h⟩ := q_bindS h
    have fx13 : q_Fx S S11 := e12 ▸ q_Fx.sI (q_Fx.rf S)
    obtain rfl := Option.some.inj h
    exact fx13
  · rw [if_neg c] at h
    obtain ⟨r1, e2, h⟩ := q_bind h
    obtain ⟨S3, e4, h⟩ := q_bindS h
    have fx5 : q_Fx S S3 := e4 ▸ q_Fx.sI (q_Fx.rf S)
    by_cases c : x1 = true
    · rw [if_pos c] at h
      obtain ⟨hg6, h⟩ := q_guard h
      obtain ⟨hg7, h⟩ := q_guard h
      obtain ⟨r8, e9, h⟩ := q_bind h
      have fx10 : q_Fx S r8 := q_Fx.tr (fx5) (fxX6_push e9)
      obtain rfl := Option.some.inj h
      exact fx10
    · rw [if_neg c] at h
      obtain rfl := Option.some.inj h
      exact fx5

theorem fxX6_transfer {S : QS} {p : Nat} {x1 : Int32} {r : QS} (h : fX6_transfer S p x1 = some r) : q_Fx S r := by
  unfold fX6_transfer at h
  obtain ⟨hg1, h⟩ := q_guard h
  obtain ⟨hg2, h⟩ := q_guard h
  by_cases c3 : (S.2.1 (p + 11) x1.toNatClampNeg) = (39 : Int32)
  · rw [if_pos c3] at h
    obtain ⟨hg4, h⟩ := q_guard h
    obtain ⟨r5, e6, h⟩ := q_bind h
    have fx7 : q_Fx S r5 := q_Fx.tr (q_Fx.rf S) (fxX6_enter e6)
    obtain rfl := Option.some.inj h
    exact fx7
  rw [if_neg c3] at h
  by_cases c8 : (S.2.1 (p + 11) x1.toNatClampNeg) = (40 : Int32)
  · rw [if_pos c8] at h
    obtain ⟨r9, e10, h⟩ := q_bind h
    obtain ⟨hg11, h⟩ := q_guard h
    obtain ⟨hg12, h⟩ := q_guard h
    obtain ⟨r13, e14, h⟩ := q_bind h
    have fx15 : q_Fx S r13 := q_Fx.tr (q_Fx.rf S) (fxX6_send e14)
    obtain rfl := Option.some.inj h
    exact fx15
  rw [if_neg c8] at h
  by_cases c16 : (S.2.1 (p + 11) x1.toNatClampNeg) = (41 : Int32)
  · rw [if_pos c16] at h
    obtain ⟨r17, e18, h⟩ := q_bind h
    have fx19 : q_Fx S r17.2 := q_Fx.tr (q_Fx.rf S) (fxX6_pop e18)
    obtain ⟨r20, e21, h⟩ := q_bind h
    have fx22 : q_Fx S r20 := q_Fx.tr (fx19) (fxX6_raiseObject e21)
    obtain rfl := Option.some.inj h
    exact fx22
  rw [if_neg c16] at h
  by_cases c23 : (S.2.1 (p + 11) x1.toNatClampNeg) = (44 : Int32)
  · rw [if_pos c23] at h
    obtain ⟨v25, hv, h⟩ := q_bind h
    obtain ⟨r26, e27, h⟩ := q_bind h
    have fx28 : q_Fx S r26 := q_Fx.tr (q_Fx.rf S) (fxX6_pushInt e27)
    obtain ⟨S29, e30, h⟩ := q_bindS h
    have fx31 : q_Fx S S29 := e30 ▸ q_Fx.sI (fx28)
    obtain rfl := Option.some.inj h
    exact fx31
  rw [if_neg c23] at h
  by_cases c32 : (S.2.1 (p + 11) x1.toNatClampNeg) = (45 : Int32)
  · rw [if_pos c32] at h
    obtain ⟨r33, e34, h⟩ := q_bind h
    have fx35 : q_Fx S r33.2 := q_Fx.tr (q_Fx.rf S) (fxX6_pop e34)
    obtain ⟨r36, e37, h⟩ := q_bind h
    have fx38 : q_Fx S r36 := q_Fx.tr (fx35) (fxX6_write e37)
    obtain rfl := Option.some.inj h
    exact fx38
  rw [if_neg c32] at h
  obtain ⟨hg39, h⟩ := q_guard h
  by_cases c : (S.2.1 (p + 11) x1.toNatClampNeg) = (42 : Int32)
  · rw [if_pos c] at h
    obtain ⟨r43, e44, h⟩ := q_bind h
    have fx45 : q_Fx S r43 := q_Fx.tr (q_Fx.rf S) (fxX6_leave e44)
    obtain rfl := Option.some.inj h
    exact fx45
  · rw [if_neg c] at h
    obtain ⟨r40, e41, h⟩ := q_bind h
    have fx42 : q_Fx S r40 := q_Fx.tr (q_Fx.rf S) (fxX6_leave e41)
    obtain rfl := Option.some.inj h
    exact fx42
theorem fxX6_step {S : QS} {p : Nat}  {r : QS} (h : fX6_step S p = some r) : q_Fx S r := by
  unfold fX6_step at h
  obtain ⟨hg1, h⟩ := q_guard h
  obtain ⟨S2, e3, h⟩ := q_bindS h
  have fx4 : q_Fx S S2 := e3 ▸ q_Fx.sI (q_Fx.rf S)
  obtain ⟨r5, e6, h⟩ := q_bind h
  by_cases c : r5 = true
  · rw [if_pos c] at h
    obtain ⟨S33, e34, h⟩ := q_bindS h
    have fx35 : q_Fx S S33 := e34 ▸ q_Fx.sI (fx4)
    obtain rfl := Option.some.inj h
    exact fx35
  · rw [if_neg c] at h
    obtain ⟨hg7, h⟩ := q_guard h
    obtain ⟨S8, e9, h⟩ := q_bindS h
    have fx10 : q_Fx S S8 := e9 ▸ q_Fx.sI (fx4)
    obtain ⟨hg11, h⟩ := q_guard h
    by_cases c : (7 : Int32) < (S8.2.1 (p + 11) (S.2.1 98 (S.2.1 89 7).toNatClampNeg).toNatClampNeg)
    · rw [if_pos c] at h
      by_cases c : (18 : Int32) < (S8.2.1 (p + 11) (S.2.1 98 (S.2.1 89 7).toNatClampNeg).toNatClampNeg)
      · rw [if_pos c] at h
        by_cases c : (29 : Int32) < (S8.2.1 (p + 11) (S.2.1 98 (S.2.1 89 7).toNatClampNeg).toNatClampNeg)
        · rw [if_pos c] at h
          by_cases c : (34 : Int32) < (S8.2.1 (p + 11) (S.2.1 98 (S.2.1 89 7).toNatClampNeg).toNatClampNeg)
          · rw [if_pos c] at h
            by_cases c : (38 : Int32) < (S8.2.1 (p + 11) (S.2.1 98 (S.2.1 89 7).toNatClampNeg).toNatClampNeg)
            · rw [if_pos c] at h
              obtain ⟨r12, e13, h⟩ := q_bind h
              have fx14 : q_Fx S r12 := q_Fx.tr (fx10) (fxX6_transfer e13)
              obtain rfl := Option.some.inj h
              exact fx14
            · rw [if_neg c] at h
              obtain ⟨r15, e16, h⟩ := q_bind h
              have fx17 : q_Fx S r15 := q_Fx.tr (fx10) (fxX6_useObject e16)
              obtain rfl := Option.some.inj h
              exact fx17
          · rw [if_neg c] at h
            obtain ⟨r18, e19, h⟩ := q_bind h
            have fx20 : q_Fx S r18 := q_Fx.tr (fx10) (fxX6_useArray e19)
            obtain rfl := Option.some.inj h
            exact fx20
        · rw [if_neg c] at h
          obtain ⟨hg21, h⟩ := q_guard h
          obtain ⟨r22, e23, h⟩ := q_bind h
          have fx24 : q_Fx S r22 := q_Fx.tr (fx10) (fxX6_decide e23)
          obtain rfl := Option.some.inj h
          exact fx24
      · rw [if_neg c] at h
        obtain ⟨r25, e26, h⟩ := q_bind h
        have fx27 : q_Fx S r25 := q_Fx.tr (fx10) (fxX6_calculate e26)
        obtain rfl := Option.some.inj h
        exact fx27
    · rw [if_neg c] at h
      obtain ⟨hg28, h⟩ := q_guard h
      obtain ⟨hg29, h⟩ := q_guard h
      obtain ⟨r30, e31, h⟩ := q_bind h
      have fx32 : q_Fx S r30 := q_Fx.tr (fx10) (fxX6_move e31)
      obtain rfl := Option.some.inj h
      exact fx32
theorem fxtX6_passUp_20 {p : Nat} {y1 : Int32} {x : Int32 × Int32 × QS} {z : (QS) ⊕ (Int32 × Int32 × QS)} (h : tX6_passUp_20 p y1 x = some z) : q_Fx ((fun x : Int32 × Int32 × QS => x.2.2) x) ((Sum.elim (fun r : QS => r) (fun x : Int32 × Int32 × QS => x.2.2)) z) := by
  unfold tX6_passUp_20 at h
  show q_Fx x.2.2 _
  by_cases c : x.2.1 < 0
  · rw [if_pos c] at h
    obtain ⟨S1, e2, h⟩ := q_bindS h
    have fx3 : q_Fx x.2.2 S1 := e2 ▸ q_Fx.sI (q_Fx.rf x.2.2)
    obtain ⟨hg4, h⟩ := q_guard h
    obtain ⟨S5, e6, h⟩ := q_bindS h
    have fx7 : q_Fx x.2.2 S5 := e6 ▸ q_Fx.sI (fx3)
    cases h
    exact fx7
  · rw [if_neg c] at h
    obtain ⟨hg8, h⟩ := q_guard h
    obtain ⟨r9, e10, h⟩ := q_bind h
    by_cases c : r9 = (-1 : Int32)
    · rw [if_pos c] at h
      by_cases c : x.2.1 ≤ 0
      · rw [if_pos c] at h
        cases h
        exact q_Fx.rf _
      · rw [if_neg c] at h
        obtain ⟨hg11, h⟩ := q_guard h
        cases h
        exact q_Fx.rf _
    · rw [if_neg c] at h
      obtain ⟨S12, e13, h⟩ := q_bindS h
      have fx14 : q_Fx x.2.2 S12 := e13 ▸ q_Fx.sI (q_Fx.rf x.2.2)
      obtain ⟨hg15, h⟩ := q_guard h
      obtain ⟨S16, e17, h⟩ := q_bindS h
      have fx18 : q_Fx x.2.2 S16 := e17 ▸ q_Fx.sI (fx14)
      obtain ⟨hg19, h⟩ := q_guard h
      obtain ⟨S20, e21, h⟩ := q_bindS h
      have fx22 : q_Fx x.2.2 S20 := e21 ▸ q_Fx.sI (fx18)
      obtain ⟨r23, e24, h⟩ := q_bind h
      have fx25 : q_Fx x.2.2 r23 := q_Fx.tr (fx22) (fxX6_pushObject e24)
      cases h
      exact fx25
theorem fxX6_passUp_20 {S : QS} {p : Nat} {y1 : Int32} {y2 : Int32} {y3 : Int32} {r : QS} (h : fX6_passUp_20 S p y1 y2 y3 = some r) : q_Fx S ((fun r : QS => r) r) := q_run_fx (fun x : Int32 × Int32 × QS => x.2.2) (fun r : QS => r) (fun _ _ hz => fxtX6_passUp_20 hz) h
theorem fxX6_passUp {S : QS} {p : Nat}  {r : QS} (h : fX6_passUp S p = some r) : q_Fx S r := by
  unfold fX6_passUp at h
  obtain ⟨S26, e27, h⟩ := q_bindS h
  have fx28 : q_Fx S S26 := e27 ▸ q_Fx.sI (q_Fx.rf S)
  exact (fx28).tr (fxX6_passUp_20 h)
theorem fxX6_outcomeOf_141 {S : QS} {p : Nat}  {r : Int32 × QS} (h : fX6_outcomeOf_141 S p = some r) : q_Fx S r.2 := by
  unfold fX6_outcomeOf_141 at h
  obtain ⟨v8, hv, h⟩ := q_bind h
  have fx9 : q_Fx S v8 := by
    replace h := hv
    by_cases c : (S.2.1 89 8) = (-1 : Int32)
    · rw [if_pos c] at h
      obtain ⟨S1, e2, h⟩ := q_bindS h
      have fx3 : q_Fx S S1 := e2 ▸ q_Fx.sI (q_Fx.rf S)
      obtain ⟨hg4, h⟩ := q_guard h
      obtain ⟨S5, e6, h⟩ := q_bindS h
      have fx7 : q_Fx S S5 := e6 ▸ q_Fx.sI (fx3)
      obtain rfl := Option.some.inj h
      exact fx7
    · rw [if_neg c] at h
      obtain rfl := Option.some.inj h
      exact q_Fx.rf _
  obtain ⟨S10, e11, h⟩ := q_bindS h
  have fx12 : q_Fx S S10 := e11 ▸ q_Fx.sI (fx9)
  obtain rfl := Option.some.inj h
  exact fx12
theorem fxtX6_outcomeOf_97 {p : Nat} {y2 : Int32} {x : Int32 × QS} {z : (Int32 × QS) ⊕ (Int32 × QS)} (h : tX6_outcomeOf_97 p y2 x = some z) : q_Fx ((fun x : Int32 × QS => x.2) x) ((Sum.elim (fun r : Int32 × QS => r.2) (fun x : Int32 × QS => x.2)) z) := by
  unfold tX6_outcomeOf_97 at h
  show q_Fx x.2 _
  by_cases c : y2 ≤ x.1
  · rw [if_pos c] at h
    obtain ⟨r13, e14, h⟩ := q_bind h
    cases h
    exact (q_Fx.rf _).tr (fxX6_outcomeOf_141 e14)
  · rw [if_neg c] at h
    by_cases c : (x.2.2.1 89 8) = (-1 : Int32)
    · rw [if_pos c] at h
      obtain ⟨S17, e18, h⟩ := q_bindS h
      have fx19 : q_Fx x.2 S17 := e18 ▸ q_Fx.sI (q_Fx.rf x.2)
      obtain ⟨r20, e21, h⟩ := q_bind h
      have fx22 : q_Fx x.2 r20 := q_Fx.tr (fx19) (fxX6_step e21)
      by_cases c : (r20.2.1 89 9) = 0
      · rw [if_pos c] at h
        cases h
        exact fx22
      · rw [if_neg c] at h
        obtain ⟨r23, e24, h⟩ := q_bind h
        have fx25 : q_Fx x.2 r23 := q_Fx.tr (fx22) (fxX6_passUp e24)
        cases h
        exact fx25
    · rw [if_neg c] at h
      obtain ⟨r15, e16, h⟩ := q_bind h
      cases h
      exact (q_Fx.rf _).tr (fxX6_outcomeOf_141 e16)
theorem fxX6_outcomeOf_97 {S : QS} {p : Nat} {y2 : Int32} {y3 : Int32} {r : Int32 × QS} (h : fX6_outcomeOf_97 S p y2 y3 = some r) : q_Fx S ((fun r : Int32 × QS => r.2) r) := q_run_fx (fun x : Int32 × QS => x.2) (fun r : Int32 × QS => r.2) (fun _ _ hz => fxtX6_outcomeOf_97 hz) h
theorem fxX10_feed {S : QS}  {x1 : Int32} {x2 : Int32} {x3 : Int32} {x4 : Int32} {x5 : Int32} {r : Int32 × QS} (h : fX10_feed S x1 x2 x3 x4 x5 = some r) : q_Fx S r.2 := by
  unfold fX10_feed at h
  by_cases c : (15980 : Int32) < (S.2.1 0 1)
  · rw [if_pos c] at h
    obtain rfl := Option.some.inj h
    exact q_Fx.rf _
  · rw [if_neg c] at h
    by_cases c : (S.2.1 0 2) ≤ (65516 : Int32)
    · rw [if_pos c] at h
      obtain ⟨hg1, h⟩ := q_guard h
      obtain ⟨S2, e3, h⟩ := q_bindS h
      have fx4 : q_Fx S S2 := e3 ▸ q_Fx.sI (q_Fx.rf S)
      obtain ⟨hg5, h⟩ := q_guard h
      obtain ⟨S6, e7, h⟩ := q_bindS h
      have fx8 : q_Fx S S6 := e7 ▸ q_Fx.sI (fx4)
      obtain ⟨hg9, h⟩ := q_guard h
      obtain ⟨S10, e11, h⟩ := q_bindS h
      have fx12 : q_Fx S S10 := e11 ▸ q_Fx.sI (fx8)
      obtain ⟨hg13, h⟩ := q_guard h
      obtain ⟨S14, e15, h⟩ := q_bindS h
      have fx16 : q_Fx S S14 := e15 ▸ q_Fx.sI (fx12)
      obtain ⟨hg17, h⟩ := q_guard h
      obtain ⟨S18, e19, h⟩ := q_bindS h
      have fx20 : q_Fx S S18 := e19 ▸ q_Fx.sI (fx16)
      obtain ⟨S21, e22, h⟩ := q_bindS h
      have fx23 : q_Fx S S21 := e22 ▸ q_Fx.sI (fx20)
      obtain ⟨S24, e25, h⟩ := q_bindS h
      have fx26 : q_Fx S S24 := e25 ▸ q_Fx.sI (fx23)
      obtain rfl := Option.some.inj h
      exact fx26
    · rw [if_neg c] at h
      obtain rfl := Option.some.inj h
      exact q_Fx.rf _
theorem fxX10_end {S : QS}  {x1 : Int32} {r : Bool × QS} (h : fX10_end S x1 = some r) : q_Fx S r.2 := by
  unfold fX10_end at h
  by_cases c : x1 < 0
  · rw [if_pos c] at h
    obtain rfl := Option.some.inj h
    exact q_Fx.rf _
  · rw [if_neg c] at h
    by_cases c : x1 ≤ (S.2.1 0 1)
    · rw [if_pos c] at h
      obtain ⟨r1, e2, h⟩ := q_bind h
      have fx3 : q_Fx S r1 := q_Fx.tr (q_Fx.rf S) (fxX8_take e2)
      obtain ⟨S4, e5, h⟩ := q_bindS h
      have fx6 : q_Fx S S4 := e5 ▸ q_Fx.sI (fx3)
      obtain rfl := Option.some.inj h
      exact fx6
    · rw [if_neg c] at h
      obtain rfl := Option.some.inj h
      exact q_Fx.rf _
theorem fxtX10_typeFault_24 {pp : Nat} {ps : Nat}  {x : Int32 × QS} {z : (Int32 × QS) ⊕ (Int32 × QS)} (h : tX10_typeFault_24 pp ps x = some z) : q_Fx ((fun x : Int32 × QS => x.2) x) ((Sum.elim (fun r : Int32 × QS => r.2) (fun x : Int32 × QS => x.2)) z) := by
  unfold tX10_typeFault_24 at h
  show q_Fx x.2 _
  by_cases c : (x.2.2.1 ps 2) ≤ x.1
  · rw [if_pos c] at h
    cases h
    exact q_Fx.rf _
  · rw [if_neg c] at h
    obtain ⟨hg1, h⟩ := q_guard h
    obtain ⟨r3, e4, h⟩ := q_bind h
    have fx5 : q_Fx x.2 r3.2 := q_Fx.tr (q_Fx.rf x.2) (fxX3_firstFault e4)
    obtain ⟨v11, hv, h⟩ := q_bind h
    have fx12 : q_Fx x.2 v11.2 := by
      replace h := hv
      by_cases c : r3.1 = (-1 : Int32)
      · rw [if_pos c] at h
        obtain ⟨hg6, h⟩ := q_guard h
        obtain ⟨r8, e9, h⟩ := q_bind h
        have fx10 : q_Fx x.2 r8.2 := q_Fx.tr (fx5) (fxX9_firstFault e9)
        obtain rfl := Option.some.inj h
        exact fx10
      · rw [if_neg c] at h
        obtain rfl := Option.some.inj h
        exact fx5
    by_cases c : v11.1 = (-1 : Int32)
    · rw [if_pos c] at h
      cases h
      exact fx12
    · rw [if_neg c] at h
      obtain ⟨hg13, h⟩ := q_guard h
      cases h
      exact fx12
theorem fxX10_typeFault_24 {S : QS} {pp : Nat} {ps : Nat} {y1 : Int32} {r : Int32 × QS} (h : fX10_typeFault_24 S pp ps y1 = some r) : q_Fx S ((fun r : Int32 × QS => r.2) r) := q_run_fx (fun x : Int32 × QS => x.2) (fun r : Int32 × QS => r.2) (fun _ _ hz => fxtX10_typeFault_24 hz) h
theorem fxX10_input {S : QS}  {x1 : Int32} {r : Bool × QS} (h : fX10_input S x1 = some r) : q_Fx S r.2 := by
  unfold fX10_input at h
  obtain ⟨r1, e2, h⟩ := q_bind h
  have fx3 : q_Fx S r1.2 := q_Fx.tr (q_Fx.rf S) (fxX6_addInput e2)
  obtain rfl := Option.some.inj h
  exact fx3
theorem fxtX12_word_2  {y1 : Int32} {x : Int32 × QS} {z : (QS) ⊕ (Int32 × QS)} (h : tX12_word_2 y1 x = some z) : q_Fx ((fun x : Int32 × QS => x.2) x) ((Sum.elim (fun r : QS => r) (fun x : Int32 × QS => x.2)) z) := by
  unfold tX12_word_2 at h
  show q_Fx x.2 _
  by_cases c : x.1 < 0
  · rw [if_pos c] at h
    cases h
    exact q_Fx.rf _
  · rw [if_neg c] at h
    obtain ⟨hg1, h⟩ := q_guard h
    obtain ⟨S2, e3, h⟩ := q_bindS h
    have fx4 : q_Fx x.2 S2 := e3 ▸ q_Fx.sI (q_Fx.rf x.2)
    obtain ⟨S5, e6, h⟩ := q_bindS h
    have fx7 : q_Fx x.2 S5 := e6 ▸ q_Fx.sI (fx4)
    cases h
    exact fx7
theorem fxX12_word_2 {S : QS}  {y1 : Int32} {y2 : Int32} {r : QS} (h : fX12_word_2 S y1 y2 = some r) : q_Fx S ((fun r : QS => r) r) := q_run_fx (fun x : Int32 × QS => x.2) (fun r : QS => r) (fun _ _ hz => fxtX12_word_2 hz) h
theorem fxX12_word {S : QS}  {x1 : Int32} {r : QS} (h : fX12_word S x1 = some r) : q_Fx S r := by
  unfold fX12_word at h
  exact (q_Fx.rf _).tr (fxX12_word_2 h)
theorem fxX12_feed {S : QS}  {x1 : Int32} {x2 : Int32} {x3 : Int32} {x4 : Int32} {x5 : Int32} {r : Int32 × QS} (h : fX12_feed S x1 x2 x3 x4 x5 = some r) : q_Fx S r.2 := by
  unfold fX12_feed at h
  by_cases c : (16000 : Int32) < ((S.2.1 102 4) + (20 : Int32))
  · rw [if_pos c] at h
    obtain rfl := Option.some.inj h
    exact q_Fx.rf _
  · rw [if_neg c] at h
    by_cases c : ((S.2.1 102 5) + (20 : Int32)) ≤ (65536 : Int32)
    · rw [if_pos c] at h
      obtain ⟨r1, e2, h⟩ := q_bind h
      have fx3 : q_Fx S r1 := q_Fx.tr (q_Fx.rf S) (fxX12_word e2)
      obtain ⟨r4, e5, h⟩ := q_bind h
      have fx6 : q_Fx S r4 := q_Fx.tr (fx3) (fxX12_word e5)
      obtain ⟨r7, e8, h⟩ := q_bind h
      have fx9 : q_Fx S r7 := q_Fx.tr (fx6) (fxX12_word e8)
      obtain ⟨r10, e11, h⟩ := q_bind h
      have fx12 : q_Fx S r10 := q_Fx.tr (fx9) (fxX12_word e11)
      obtain ⟨r13, e14, h⟩ := q_bind h
      have fx15 : q_Fx S r13 := q_Fx.tr (fx12) (fxX12_word e14)
      obtain ⟨S16, e17, h⟩ := q_bindS h
      have fx18 : q_Fx S S16 := e17 ▸ q_Fx.sI (fx15)
      obtain rfl := Option.some.inj h
      exact fx18
    · rw [if_neg c] at h
      obtain rfl := Option.some.inj h
      exact q_Fx.rf _
theorem fxtX12_end_16  {y1 : Int32} {x : Int32 × QS} {z : (Bool × QS) ⊕ (Int32 × QS)} (h : tX12_end_16 y1 x = some z) : q_Fx ((fun x : Int32 × QS => x.2) x) ((Sum.elim (fun r : Bool × QS => r.2) (fun x : Int32 × QS => x.2)) z) := by
  unfold tX12_end_16 at h
  show q_Fx x.2 _
  by_cases c : y1 ≤ x.1
  · rw [if_pos c] at h
    obtain ⟨S1, e2, h⟩ := q_bindS h
    have fx3 : q_Fx x.2 S1 := e2 ▸ q_Fx.sI (q_Fx.rf x.2)
    obtain ⟨S4, e5, h⟩ := q_bindS h
    have fx6 : q_Fx x.2 S4 := e5 ▸ q_Fx.sI (fx3)
    cases h
    exact fx6
  · rw [if_neg c] at h
    obtain ⟨hg7, h⟩ := q_guard h
    obtain ⟨hg8, h⟩ := q_guard h
    obtain ⟨S9, e10, h⟩ := q_bindS h
    have fx11 : q_Fx x.2 S9 := e10 ▸ q_Fx.sI (q_Fx.rf x.2)
    cases h
    exact fx11
theorem fxX12_end_16 {S : QS}  {y1 : Int32} {y2 : Int32} {r : Bool × QS} (h : fX12_end_16 S y1 y2 = some r) : q_Fx S ((fun r : Bool × QS => r.2) r) := q_run_fx (fun x : Int32 × QS => x.2) (fun r : Bool × QS => r.2) (fun _ _ hz => fxtX12_end_16 hz) h
theorem fxX12_end {S : QS}  {x1 : Int32} {r : Bool × QS} (h : fX12_end S x1 = some r) : q_Fx S r.2 := by
  unfold fX12_end at h
  by_cases c : x1 < 0
  · rw [if_pos c] at h
    obtain rfl := Option.some.inj h
    exact q_Fx.rf _
  · rw [if_neg c] at h
    by_cases c : x1 ≤ (S.2.1 102 4)
    · rw [if_pos c] at h
      exact (q_Fx.rf _).tr (fxX12_end_16 h)
    · rw [if_neg c] at h
      obtain rfl := Option.some.inj h
      exact q_Fx.rf _
theorem fxuX12_cut_64 {S : QS}  {y1 : Int32} {y2 : Int32} {y3 : Int32} {y4 : Int32} {z : (Bool × QS) ⊕ (Int32 × Int32 × Int32 × QS)} (h : uX12_cut_64 S y1 y2 y3 y4 = some z) : q_Fx S ((Sum.elim (fun r : Bool × QS => r.2) (fun x : Int32 × Int32 × Int32 × QS => x.2.2.2)) z) := by
  unfold uX12_cut_64 at h
  obtain ⟨v1, hv, h⟩ := q_bind h
  obtain ⟨v2, hv, h⟩ := q_bind h
  obtain ⟨v3, hv, h⟩ := q_bind h
  obtain ⟨v4, hv, h⟩ := q_bind h
  by_cases c : v2 = true
  · rw [if_pos c] at h
    cases h
    exact q_Fx.rf _
  · rw [if_neg c] at h
    obtain ⟨v12, hv, h⟩ := q_bind h
    have fx13 : q_Fx S v12 := by
      replace h := hv
      by_cases c : v4 = 0
      · rw [if_pos c] at h
        obtain ⟨hg5, h⟩ := q_guard h
        obtain ⟨S6, e7, h⟩ := q_bindS h
        have fx8 : q_Fx S S6 := e7 ▸ q_Fx.sI (q_Fx.rf S)
        obtain ⟨S9, e10, h⟩ := q_bindS h
        have fx11 : q_Fx S S9 := e10 ▸ q_Fx.sI (fx8)
        obtain rfl := Option.some.inj h
        exact fx11
      · rw [if_neg c] at h
        obtain rfl := Option.some.inj h
        exact q_Fx.rf _
    obtain ⟨hg14, h⟩ := q_guard h
    obtain ⟨S15, e16, h⟩ := q_bindS h
    have fx17 : q_Fx S S15 := e16 ▸ q_Fx.sI (fx13)
    by_cases c : v3 = true
    · rw [if_pos c] at h
      cases h
      exact fx17
    · rw [if_neg c] at h
      cases h
      exact fx17
theorem fxtX12_cut_11   {x : Int32 × Int32 × Int32 × QS} {z : (Bool × QS) ⊕ (Int32 × Int32 × Int32 × QS)} (h : tX12_cut_11 x = some z) : q_Fx ((fun x : Int32 × Int32 × Int32 × QS => x.2.2.2) x) ((Sum.elim (fun r : Bool × QS => r.2) (fun x : Int32 × Int32 × Int32 × QS => x.2.2.2)) z) := by
  unfold tX12_cut_11 at h
  show q_Fx x.2.2.2 _
  by_cases c : (x.2.2.2.2.1 102 7) ≤ x.2.2.1
  · rw [if_pos c] at h
    cases h
    exact q_Fx.rf _
  · rw [if_neg c] at h
    obtain ⟨hg18, h⟩ := q_guard h
    by_cases c : (x.2.2.2.2.1 160 x.2.2.1.toNatClampNeg) = (9 : Int32)
    · rw [if_pos c] at h
      exact (q_Fx.rf _).tr (fxuX12_cut_64 h)
    · rw [if_neg c] at h
      by_cases c : (x.2.2.2.2.1 160 x.2.2.1.toNatClampNeg) = (10 : Int32)
      · rw [if_pos c] at h
        exact (q_Fx.rf _).tr (fxuX12_cut_64 h)
      · rw [if_neg c] at h
        by_cases c : (x.2.2.2.2.1 160 x.2.2.1.toNatClampNeg) = (13 : Int32)
        · rw [if_pos c] at h
          exact (q_Fx.rf _).tr (fxuX12_cut_64 h)
        · rw [if_neg c] at h
          by_cases c : (x.2.2.2.2.1 160 x.2.2.1.toNatClampNeg) < (32 : Int32)
          · rw [if_pos c] at h
            cases h
            exact q_Fx.rf _
          · rw [if_neg c] at h
            by_cases c : (x.2.2.2.2.1 160 x.2.2.1.toNatClampNeg) ≤ (126 : Int32)
            · rw [if_pos c] at h
              exact (q_Fx.rf _).tr (fxuX12_cut_64 h)
            · rw [if_neg c] at h
              cases h
              exact q_Fx.rf _
theorem fxX12_cut_11 {S : QS}  {y1 : Int32} {y2 : Int32} {y3 : Int32} {r : Bool × QS} (h : fX12_cut_11 S y1 y2 y3 = some r) : q_Fx S ((fun r : Bool × QS => r.2) r) := q_run_fx (fun x : Int32 × Int32 × Int32 × QS => x.2.2.2) (fun r : Bool × QS => r.2) (fun _ _ hz => fxtX12_cut_11 hz) h
theorem fxX12_cut {S : QS}   {r : Bool × QS} (h : fX12_cut S = some r) : q_Fx S r.2 := by
  unfold fX12_cut at h
  obtain ⟨S19, e20, h⟩ := q_bindS h
  have fx21 : q_Fx S S19 := e20 ▸ q_Fx.sI (q_Fx.rf S)
  exact (fx21).tr (fxX12_cut_11 h)
theorem fxX12_takes {S : QS}  {x1 : Bool} {r : Bool × QS} (h : fX12_takes S x1 = some r) : q_Fx S r.2 := by
  unfold fX12_takes at h
  by_cases c : x1 = true
  · rw [if_pos c] at h
    obtain ⟨S1, e2, h⟩ := q_bindS h
    have fx3 : q_Fx S S1 := e2 ▸ q_Fx.sI (q_Fx.rf S)
    obtain rfl := Option.some.inj h
    exact fx3
  · rw [if_neg c] at h
    obtain rfl := Option.some.inj h
    exact q_Fx.rf _
theorem fxX12_isLine {S : QS}   {r : Bool × QS} (h : fX12_isLine S = some r) : q_Fx S r.2 := by
  unfold fX12_isLine at h
  by_cases c : (S.2.1 102 11) < (S.2.1 102 10)
  · rw [if_pos c] at h
    obtain ⟨r1, e2, h⟩ := q_bind h
    by_cases c : r1 = true
    · rw [if_pos c] at h
      obtain ⟨r116, e117, h⟩ := q_bind h
      obtain ⟨r118, e119, h⟩ := q_bind h
      have fx120 : q_Fx S r118.2 := q_Fx.tr (q_Fx.rf S) (fxX12_takes e119)
      by_cases c : r118.1 = true
      · rw [if_pos c] at h
        obtain ⟨r121, e122, h⟩ := q_bind h
        have fx123 : q_Fx S r121.2 := q_Fx.tr (fx120) (fxX12_takes e122)
        by_cases c : r121.1 = true
        · rw [if_pos c] at h
          obtain rfl := Option.some.inj h
          exact fx123
        · rw [if_neg c] at h
          obtain rfl := Option.some.inj h
          exact fx123
      · rw [if_neg c] at h
        obtain rfl := Option.some.inj h
        exact fx120
    · rw [if_neg c] at h
      obtain ⟨r3, e4, h⟩ := q_bind h
      by_cases c : r3 = true
      · rw [if_pos c] at h
        obtain ⟨S93, e94, h⟩ := q_bindS h
        have fx95 : q_Fx S S93 := e94 ▸ q_Fx.sI (q_Fx.rf S)
        obtain ⟨r96, e97, h⟩ := q_bind h
        obtain ⟨r98, e99, h⟩ := q_bind h
        have fx100 : q_Fx S r98.2 := q_Fx.tr (fx95) (fxX12_takes e99)
        by_cases c : r98.1 = true
        · rw [if_pos c] at h
          obtain ⟨r101, e102, h⟩ := q_bind h
          obtain ⟨r103, e104, h⟩ := q_bind h
          have fx105 : q_Fx S r103.2 := q_Fx.tr (fx100) (fxX12_takes e104)
          by_cases c : r103.1 = true
          · rw [if_pos c] at h
            obtain ⟨r106, e107, h⟩ := q_bind h
            obtain ⟨r108, e109, h⟩ := q_bind h
            have fx110 : q_Fx S r108.2 := q_Fx.tr (fx105) (fxX12_takes e109)
            by_cases c : r108.1 = true
            · rw [if_pos c] at h
              obtain ⟨r111, e112, h⟩ := q_bind h
              obtain ⟨r113, e114, h⟩ := q_bind h
              have fx115 : q_Fx S r113.2 := q_Fx.tr (fx110) (fxX12_takes e114)
              by_cases c : r113.1 = true
              · rw [if_pos c] at h
                obtain rfl := Option.some.inj h
                exact fx115
              · rw [if_neg c] at h
                obtain rfl := Option.some.inj h
                exact fx115
            · rw [if_neg c] at h
              obtain rfl := Option.some.inj h
              exact fx110
          · rw [if_neg c] at h
            obtain rfl := Option.some.inj h
            exact fx105
        · rw [if_neg c] at h
          obtain rfl := Option.some.inj h
          exact fx100
      · rw [if_neg c] at h
        obtain ⟨r5, e6, h⟩ := q_bind h
        by_cases c : 0 ≤ r5
        · rw [if_pos c] at h
          obtain ⟨S7, e8, h⟩ := q_bindS h
          have fx9 : q_Fx S S7 := e8 ▸ q_Fx.sI (q_Fx.rf S)
          obtain ⟨r10, e11, h⟩ := q_bind h
          by_cases c13 : r10 = (67 : Int32)
          · rw [if_pos c13] at h
            obtain ⟨r14, e15, h⟩ := q_bind h
            obtain ⟨r16, e17, h⟩ := q_bind h
            have fx18 : q_Fx S r16.2 := q_Fx.tr (fx9) (fxX12_takes e17)
            obtain rfl := Option.some.inj h
            exact fx18
          rw [if_neg c13] at h
          by_cases c19 : r10 = (69 : Int32)
          · rw [if_pos c19] at h
            obtain ⟨r20, e21, h⟩ := q_bind h
            by_cases c : r20 = true
            · rw [if_pos c] at h
              obtain ⟨r22, e23, h⟩ := q_bind h
              have fx24 : q_Fx S r22.2 := q_Fx.tr (fx9) (fxX12_takes e23)
              obtain rfl := Option.some.inj h
              exact fx24
            · rw [if_neg c] at h
              obtain ⟨r25, e26, h⟩ := q_bind h
              by_cases c : r25 = true
              · rw [if_pos c] at h
                obtain ⟨r30, e31, h⟩ := q_bind h
                have fx32 : q_Fx S r30.2 := q_Fx.tr (fx9) (fxX12_takes e31)
                obtain rfl := Option.some.inj h
                exact fx32
              · rw [if_neg c] at h
                obtain ⟨r27, e28, h⟩ := q_bind h
                have fx29 : q_Fx S r27.2 := q_Fx.tr (fx9) (fxX12_takes e28)
                obtain rfl := Option.some.inj h
                exact fx29
          rw [if_neg c19] at h
          by_cases c33 : r10 = (70 : Int32)
          · rw [if_pos c33] at h
            obtain ⟨r34, e35, h⟩ := q_bind h
            obtain ⟨r36, e37, h⟩ := q_bind h
            have fx38 : q_Fx S r36.2 := q_Fx.tr (fx9) (fxX12_takes e37)
            obtain rfl := Option.some.inj h
            exact fx38
          rw [if_neg c33] at h
          by_cases c39 : r10 = (73 : Int32)
          · rw [if_pos c39] at h
            obtain ⟨r40, e41, h⟩ := q_bind h
            obtain ⟨r42, e43, h⟩ := q_bind h
            have fx44 : q_Fx S r42.2 := q_Fx.tr (fx9) (fxX12_takes e43)
            by_cases c : r42.1 = true
            · rw [if_pos c] at h
              obtain ⟨r45, e46, h⟩ := q_bind h
              obtain ⟨r47, e48, h⟩ := q_bind h
              have fx49 : q_Fx S r47.2 := q_Fx.tr (fx44) (fxX12_takes e48)
              by_cases c : r47.1 = true
              · rw [if_pos c] at h
                obtain rfl := Option.some.inj h
                exact fx49
              · rw [if_neg c] at h
                obtain rfl := Option.some.inj h
                exact fx49
            · rw [if_neg c] at h
              obtain rfl := Option.some.inj h
              exact fx44
          rw [if_neg c39] at h
          by_cases c50 : r10 = (75 : Int32) ∨ r10 = (78 : Int32)
          · rw [if_pos c50] at h
            obtain ⟨r51, e52, h⟩ := q_bind h
            obtain ⟨r53, e54, h⟩ := q_bind h
            have fx55 : q_Fx S r53.2 := q_Fx.tr (fx9) (fxX12_takes e54)
            obtain rfl := Option.some.inj h
            exact fx55
          rw [if_neg c50] at h
          by_cases c56 : r10 = (76 : Int32)
          · rw [if_pos c56] at h
            obtain ⟨r57, e58, h⟩ := q_bind h
            obtain ⟨r59, e60, h⟩ := q_bind h
            have fx61 : q_Fx S r59.2 := q_Fx.tr (fx9) (fxX12_takes e60)
            obtain rfl := Option.some.inj h
            exact fx61
          rw [if_neg c56] at h
          by_cases c62 : r10 = (84 : Int32)
          · rw [if_pos c62] at h
            obtain ⟨r63, e64, h⟩ := q_bind h
            by_cases c : r63 = true
            · rw [if_pos c] at h
              obtain ⟨r68, e69, h⟩ := q_bind h
              by_cases c : r68 = true
              · rw [if_pos c] at h
                obtain ⟨r70, e71, h⟩ := q_bind h
                have fx72 : q_Fx S r70.2 := q_Fx.tr (fx9) (fxX12_takes e71)
                obtain rfl := Option.some.inj h
                exact fx72
              · rw [if_neg c] at h
                obtain ⟨r73, e74, h⟩ := q_bind h
                have fx75 : q_Fx S r73.2 := q_Fx.tr (fx9) (fxX12_takes e74)
                obtain rfl := Option.some.inj h
                exact fx75
            · rw [if_neg c] at h
              obtain ⟨r65, e66, h⟩ := q_bind h
              have fx67 : q_Fx S r65.2 := q_Fx.tr (fx9) (fxX12_takes e66)
              obtain rfl := Option.some.inj h
              exact fx67
          rw [if_neg c62] at h
          obtain rfl := Option.some.inj h
          exact fx9
        · rw [if_neg c] at h
          obtain ⟨r88, e89, h⟩ := q_bind h
          obtain ⟨r90, e91, h⟩ := q_bind h
          have fx92 : q_Fx S r90.2 := q_Fx.tr (q_Fx.rf S) (fxX12_takes e91)
          by_cases c : r90.1 = true
          · rw [if_pos c] at h
            obtain rfl := Option.some.inj h
            exact fx92
          · rw [if_neg c] at h
            obtain rfl := Option.some.inj h
            exact fx92
  · rw [if_neg c] at h
    obtain rfl := Option.some.inj h
    exact q_Fx.rf _

theorem fxtX12_isMember_241   {x : QS} {z : (Bool × QS) ⊕ (QS)} (h : tX12_isMember_241 x = some z) : q_Fx ((fun x : QS => x) x) ((Sum.elim (fun r : Bool × QS => r.2) (fun x : QS => x)) z) := by
  unfold tX12_isMember_241 at h
  show q_Fx x _
  obtain ⟨r1, e2, h⟩ := q_bind h
  by_cases c : r1 = true
  · rw [if_pos c] at h
    obtain ⟨S3, e4, h⟩ := q_bindS h
    have fx5 : q_Fx x S3 := e4 ▸ q_Fx.sI (q_Fx.rf x)
    cases h
    exact fx5
  · rw [if_neg c] at h
    obtain ⟨r6, e7, h⟩ := q_bind h
    have fx8 : q_Fx x r6.2 := q_Fx.tr (q_Fx.rf x) (fxX12_isLine e7)
    by_cases c : r6.1 = true
    · rw [if_pos c] at h
      cases h
      exact fx8
    · rw [if_neg c] at h
      cases h
      exact fx8
theorem fxX12_isMember_241 {S : QS}   {r : Bool × QS} (h : fX12_isMember_241 S = some r) : q_Fx S ((fun r : Bool × QS => r.2) r) := q_run_fx (fun x : QS => x) (fun r : Bool × QS => r.2) (fun _ _ hz => fxtX12_isMember_241 hz) h
theorem fxtX12_isMember_131   {x : QS} {z : (Bool × QS) ⊕ (QS)} (h : tX12_isMember_131 x = some z) : q_Fx ((fun x : QS => x) x) ((Sum.elim (fun r : Bool × QS => r.2) (fun x : QS => x)) z) := by
  unfold tX12_isMember_131 at h
  show q_Fx x _
  obtain ⟨r9, e10, h⟩ := q_bind h
  by_cases c : r9 = true
  · rw [if_pos c] at h
    obtain ⟨S11, e12, h⟩ := q_bindS h
    have fx13 : q_Fx x S11 := e12 ▸ q_Fx.sI (q_Fx.rf x)
    obtain ⟨r14, e15, h⟩ := q_bind h
    obtain ⟨v18, hv, h⟩ := q_bind h
    obtain ⟨r19, e20, h⟩ := q_bind h
    have fx21 : q_Fx x r19.2 := q_Fx.tr (fx13) (fxX12_takes e20)
    by_cases c : r19.1 = true
    · rw [if_pos c] at h
      obtain ⟨r22, e23, h⟩ := q_bind h
      obtain ⟨r24, e25, h⟩ := q_bind h
      have fx26 : q_Fx x r24.2 := q_Fx.tr (fx21) (fxX12_takes e25)
      by_cases c : r24.1 = true
      · rw [if_pos c] at h
        obtain ⟨r27, e28, h⟩ := q_bind h
        obtain ⟨r29, e30, h⟩ := q_bind h
        have fx31 : q_Fx x r29.2 := q_Fx.tr (fx26) (fxX12_takes e30)
        by_cases c : r29.1 = true
        · rw [if_pos c] at h
          obtain ⟨r32, e33, h⟩ := q_bind h
          cases h
          exact (fx31).tr (fxX12_isMember_241 e33)
        · rw [if_neg c] at h
          cases h
          exact fx31
      · rw [if_neg c] at h
        cases h
        exact fx26
    · rw [if_neg c] at h
      cases h
      exact fx21
  · rw [if_neg c] at h
    obtain ⟨r34, e35, h⟩ := q_bind h
    obtain ⟨r36, e37, h⟩ := q_bind h
    have fx38 : q_Fx x r36.2 := q_Fx.tr (q_Fx.rf x) (fxX12_takes e37)
    by_cases c : r36.1 = true
    · rw [if_pos c] at h
      cases h
      exact fx38
    · rw [if_neg c] at h
      cases h
      exact fx38
theorem fxX12_isMember_131 {S : QS}   {r : Bool × QS} (h : fX12_isMember_131 S = some r) : q_Fx S ((fun r : Bool × QS => r.2) r) := q_run_fx (fun x : QS => x) (fun r : Bool × QS => r.2) (fun _ _ hz => fxtX12_isMember_131 hz) h
theorem fxX12_isMember {S : QS}   {r : Bool × QS} (h : fX12_isMember S = some r) : q_Fx S r.2 := by
  unfold fX12_isMember at h
  obtain ⟨r39, e40, h⟩ := q_bind h
  by_cases c : r39 = true
  · rw [if_pos c] at h
    obtain ⟨S59, e60, h⟩ := q_bindS h
    have fx61 : q_Fx S S59 := e60 ▸ q_Fx.sI (q_Fx.rf S)
    obtain ⟨r62, e63, h⟩ := q_bind h
    obtain ⟨r64, e65, h⟩ := q_bind h
    have fx66 : q_Fx S r64.2 := q_Fx.tr (fx61) (fxX12_takes e65)
    by_cases c : r64.1 = true
    · rw [if_pos c] at h
      obtain ⟨r67, e68, h⟩ := q_bind h
      obtain ⟨r69, e70, h⟩ := q_bind h
      have fx71 : q_Fx S r69.2 := q_Fx.tr (fx66) (fxX12_takes e70)
      by_cases c : r69.1 = true
      · rw [if_pos c] at h
        obtain rfl := Option.some.inj h
        exact fx71
      · rw [if_neg c] at h
        obtain rfl := Option.some.inj h
        exact fx71
    · rw [if_neg c] at h
      obtain rfl := Option.some.inj h
      exact fx66
  · rw [if_neg c] at h
    obtain ⟨r41, e42, h⟩ := q_bind h
    obtain ⟨v45, hv, h⟩ := q_bind h
    obtain ⟨r46, e47, h⟩ := q_bind h
    have fx48 : q_Fx S r46.2 := q_Fx.tr (q_Fx.rf S) (fxX12_takes e47)
    by_cases c : r46.1 = true
    · rw [if_pos c] at h
      obtain ⟨r49, e50, h⟩ := q_bind h
      obtain ⟨r51, e52, h⟩ := q_bind h
      have fx53 : q_Fx S r51.2 := q_Fx.tr (fx48) (fxX12_takes e52)
      by_cases c : r51.1 = true
      · rw [if_pos c] at h
        obtain ⟨r54, e55, h⟩ := q_bind h
        obtain ⟨r56, e57, h⟩ := q_bind h
        have fx58 : q_Fx S r56.2 := q_Fx.tr (fx53) (fxX12_takes e57)
        by_cases c : r56.1 = true
        · rw [if_pos c] at h
          exact (fx58).tr (fxX12_isMember_131 h)
        · rw [if_neg c] at h
          obtain rfl := Option.some.inj h
          exact fx58
      · rw [if_neg c] at h
        obtain rfl := Option.some.inj h
        exact fx53
    · rw [if_neg c] at h
      obtain rfl := Option.some.inj h
      exact fx48
theorem fxtX12_isProgram_99   {x : QS} {z : ((Bool × QS) ⊕ (QS)) ⊕ (QS)} (h : tX12_isProgram_99 x = some z) : q_Fx ((fun x : QS => x) x) ((Sum.elim (Sum.elim (fun r : Bool × QS => r.2) (fun x : QS => x)) (fun x : QS => x)) z) := by
  unfold tX12_isProgram_99 at h
  show q_Fx x _
  obtain ⟨r1, e2, h⟩ := q_bind h
  by_cases c : r1 = true
  · rw [if_pos c] at h
    obtain ⟨S3, e4, h⟩ := q_bindS h
    have fx5 : q_Fx x S3 := e4 ▸ q_Fx.sI (q_Fx.rf x)
    cases h
    exact fx5
  · rw [if_neg c] at h
    obtain ⟨r6, e7, h⟩ := q_bind h
    have fx8 : q_Fx x r6.2 := q_Fx.tr (q_Fx.rf x) (fxX12_isMember e7)
    by_cases c : r6.1 = true
    · rw [if_pos c] at h
      cases h
      exact fx8
    · rw [if_neg c] at h
      cases h
      exact fx8
theorem fxuX12_isProgram_99 {S : QS}   {r : (Bool × QS) ⊕ (QS)} (h : uX12_isProgram_99 S = some r) : q_Fx S ((Sum.elim (fun r : Bool × QS => r.2) (fun x : QS => x)) r) := q_run_fx (fun x : QS => x) (Sum.elim (fun r : Bool × QS => r.2) (fun x : QS => x)) (fun _ _ hz => fxtX12_isProgram_99 hz) h
theorem fxtX12_isProgram_5   {x : QS} {z : (Bool × QS) ⊕ (QS)} (h : tX12_isProgram_5 x = some z) : q_Fx ((fun x : QS => x) x) ((Sum.elim (fun r : Bool × QS => r.2) (fun x : QS => x)) z) := by
  unfold tX12_isProgram_5 at h
  show q_Fx x _
  by_cases c : (x.2.1 102 10) ≤ (x.2.1 102 11)
  · rw [if_pos c] at h
    cases h
    exact q_Fx.rf _
  · rw [if_neg c] at h
    obtain ⟨r9, e10, h⟩ := q_bind h
    obtain ⟨r11, e12, h⟩ := q_bind h
    have fx13 : q_Fx x r11.2 := q_Fx.tr (q_Fx.rf x) (fxX12_takes e12)
    by_cases c : r11.1 = true
    · rw [if_pos c] at h
      obtain ⟨r14, e15, h⟩ := q_bind h
      obtain ⟨r16, e17, h⟩ := q_bind h
      have fx18 : q_Fx x r16.2 := q_Fx.tr (fx13) (fxX12_takes e17)
      by_cases c : r16.1 = true
      · rw [if_pos c] at h
        obtain ⟨r19, e20, h⟩ := q_bind h
        obtain ⟨r21, e22, h⟩ := q_bind h
        have fx23 : q_Fx x r21.2 := q_Fx.tr (fx18) (fxX12_takes e22)
        by_cases c : r21.1 = true
        · rw [if_pos c] at h
          obtain ⟨r24, e25, h⟩ := q_bind h
          obtain ⟨r26, e27, h⟩ := q_bind h
          have fx28 : q_Fx x r26.2 := q_Fx.tr (fx23) (fxX12_takes e27)
          by_cases c : r26.1 = true
          · rw [if_pos c] at h
            obtain ⟨r29, e30, h⟩ := q_bind h
            obtain ⟨r31, e32, h⟩ := q_bind h
            have fx33 : q_Fx x r31.2 := q_Fx.tr (fx28) (fxX12_takes e32)
            by_cases c : r31.1 = true
            · rw [if_pos c] at h
              exact (fx33).tr (fxuX12_isProgram_99 h)
            · rw [if_neg c] at h
              cases h
              exact fx33
          · rw [if_neg c] at h
            cases h
            exact fx28
        · rw [if_neg c] at h
          cases h
          exact fx23
      · rw [if_neg c] at h
        cases h
        exact fx18
    · rw [if_neg c] at h
      cases h
      exact fx13
theorem fxX12_isProgram_5 {S : QS}   {r : Bool × QS} (h : fX12_isProgram_5 S = some r) : q_Fx S ((fun r : Bool × QS => r.2) r) := q_run_fx (fun x : QS => x) (fun r : Bool × QS => r.2) (fun _ _ hz => fxtX12_isProgram_5 hz) h
theorem fxX12_isProgram {S : QS}   {r : Bool × QS} (h : fX12_isProgram S = some r) : q_Fx S r.2 := by
  unfold fX12_isProgram at h
  obtain ⟨S34, e35, h⟩ := q_bindS h
  have fx36 : q_Fx S S34 := e35 ▸ q_Fx.sI (q_Fx.rf S)
  exact (fx36).tr (fxX12_isProgram_5 h)
theorem fxX12_wrong {S : QS}  {x1 : Int32} {r : Bool × QS} (h : fX12_wrong S x1 = some r) : q_Fx S r.2 := by
  unfold fX12_wrong at h
  obtain ⟨S1, e2, h⟩ := q_bindS h
  have fx3 : q_Fx S S1 := e2 ▸ q_Fx.sI (q_Fx.rf S)
  obtain rfl := Option.some.inj h
  exact fx3
theorem fxtX12_classNames_45 {q : Nat}  {x : Int32 × QS} {z : (Bool × QS) ⊕ (Int32 × QS)} (h : tX12_classNames_45 q x = some z) : q_Fx ((fun x : Int32 × QS => x.2) x) ((Sum.elim (fun r : Bool × QS => r.2) (fun x : Int32 × QS => x.2)) z) := by
  unfold tX12_classNames_45 at h
  show q_Fx x.2 _
  by_cases c : (x.2.2.1 102 10) ≤ x.1
  · rw [if_pos c] at h
    cases h
    exact q_Fx.rf _
  · rw [if_neg c] at h
    obtain ⟨r1, e2, h⟩ := q_bind h
    by_cases c : 0 ≤ r1
    · rw [if_pos c] at h
      obtain ⟨r3, e4, h⟩ := q_bind h
      have fx5 : q_Fx x.2 r3.2 := q_Fx.tr (q_Fx.rf x.2) (fxX12_wrong e4)
      cases h
      exact fx5
    · rw [if_neg c] at h
      by_cases c : (x.2.2.1 q 0) = (24 : Int32)
      · rw [if_pos c] at h
        obtain ⟨r24, e25, h⟩ := q_bind h
        have fx26 : q_Fx x.2 r24.2 := q_Fx.tr (q_Fx.rf x.2) (fxX12_wrong e25)
        cases h
        exact fx26
      · rw [if_neg c] at h
        obtain ⟨r6, e7, h⟩ := q_bind h
        by_cases c : 0 ≤ r6
        · rw [if_pos c] at h
          obtain ⟨hg8, h⟩ := q_guard h
          obtain ⟨S9, e10, h⟩ := q_bindS h
          have fx11 : q_Fx x.2 S9 := e10 ▸ q_Fx.sI (q_Fx.rf x.2)
          obtain ⟨hg12, h⟩ := q_guard h
          obtain ⟨S13, e14, h⟩ := q_bindS h
          have fx15 : q_Fx x.2 S13 := e14 ▸ q_Fx.sI (fx11)
          obtain ⟨S16, e17, h⟩ := q_bindS h
          have fx18 : q_Fx x.2 S16 := e17 ▸ q_Fx.sI (fx15)
          obtain ⟨r19, e20, h⟩ := q_bind h
          cases h
          exact fx18
        · rw [if_neg c] at h
          obtain ⟨r21, e22, h⟩ := q_bind h
          have fx23 : q_Fx x.2 r21.2 := q_Fx.tr (q_Fx.rf x.2) (fxX12_wrong e22)
          cases h
          exact fx23
theorem fxX12_classNames_45 {S : QS} {q : Nat} {y2 : Int32} {r : Bool × QS} (h : fX12_classNames_45 S q y2 = some r) : q_Fx S ((fun r : Bool × QS => r.2) r) := q_run_fx (fun x : Int32 × QS => x.2) (fun r : Bool × QS => r.2) (fun _ _ hz => fxtX12_classNames_45 hz) h
theorem fxtX12_classNames_7 {q : Nat}  {x : Int32 × QS} {z : (Bool × QS) ⊕ (Int32 × QS)} (h : tX12_classNames_7 q x = some z) : q_Fx ((fun x : Int32 × QS => x.2) x) ((Sum.elim (fun r : Bool × QS => r.2) (fun x : Int32 × QS => x.2)) z) := by
  unfold tX12_classNames_7 at h
  show q_Fx x.2 _
  by_cases c : (8 : Int32) ≤ x.1
  · rw [if_pos c] at h
    obtain ⟨r27, e28, h⟩ := q_bind h
    cases h
    exact (q_Fx.rf _).tr (fxX12_classNames_45 e28)
  · rw [if_neg c] at h
    by_cases c : x.1 = 0
    · rw [if_pos c] at h
      obtain ⟨hg37, h⟩ := q_guard h
      obtain ⟨S38, e39, h⟩ := q_bindS h
      have fx40 : q_Fx x.2 S38 := e39 ▸ q_Fx.sI (q_Fx.rf x.2)
      cases h
      exact fx40
    · rw [if_neg c] at h
      by_cases c : x.1 = (1 : Int32)
      · rw [if_pos c] at h
        obtain ⟨hg33, h⟩ := q_guard h
        obtain ⟨S34, e35, h⟩ := q_bindS h
        have fx36 : q_Fx x.2 S34 := e35 ▸ q_Fx.sI (q_Fx.rf x.2)
        cases h
        exact fx36
      · rw [if_neg c] at h
        obtain ⟨hg29, h⟩ := q_guard h
        obtain ⟨S30, e31, h⟩ := q_bindS h
        have fx32 : q_Fx x.2 S30 := e31 ▸ q_Fx.sI (q_Fx.rf x.2)
        cases h
        exact fx32
theorem fxX12_classNames_7 {S : QS} {q : Nat} {y2 : Int32} {r : Bool × QS} (h : fX12_classNames_7 S q y2 = some r) : q_Fx S ((fun r : Bool × QS => r.2) r) := q_run_fx (fun x : Int32 × QS => x.2) (fun r : Bool × QS => r.2) (fun _ _ hz => fxtX12_classNames_7 hz) h
theorem fxX12_classNames {S : QS} {q : Nat}  {r : Bool × QS} (h : fX12_classNames S q = some r) : q_Fx S r.2 := by
  unfold fX12_classNames at h
  obtain ⟨S41, e42, h⟩ := q_bindS h
  have fx43 : q_Fx S S41 := e42 ▸ q_Fx.sI (q_Fx.rf S)
  exact (fx43).tr (fxX12_classNames_7 h)

theorem fxX12_field {S : QS} {q : Nat} {x2 : Int32} {x3 : Int32} {r : Bool × QS} (h : fX12_field S q x2 x3 = some r) : q_Fx S r.2 := by
  unfold fX12_field at h
  by_cases c : (S.2.1 q 1) = (48 : Int32)
  · rw [if_pos c] at h
    obtain ⟨r1, e2, h⟩ := q_bind h
    have fx3 : q_Fx S r1.2 := q_Fx.tr (q_Fx.rf S) (fxX12_wrong e2)
    obtain rfl := Option.some.inj h
    exact fx3
  · rw [if_neg c] at h
    obtain ⟨hg4, h⟩ := q_guard h
    obtain ⟨hg5, h⟩ := q_guard h
    obtain ⟨r6, e7, h⟩ := q_bind h
    by_cases c : r6 < 0
    · rw [if_pos c] at h
      obtain ⟨r8, e9, h⟩ := q_bind h
      by_cases c : 0 ≤ r8
      · rw [if_pos c] at h
        obtain ⟨hg10, h⟩ := q_guard h
        obtain ⟨S11, e12, h⟩ := q_bindS h
        have fx13 : q_Fx S S11 := e12 ▸ q_Fx.sI (q_Fx.rf S)
        obtain ⟨hg14, h⟩ := q_guard h
        obtain ⟨S15, e16, h⟩ := q_bindS h
        have fx17 : q_Fx S S15 := e16 ▸ q_Fx.sI (fx13)
        obtain ⟨hg18, h⟩ := q_guard h
        obtain ⟨S19, e20, h⟩ := q_bindS h
        have fx21 : q_Fx S S19 := e20 ▸ q_Fx.sI (fx17)
        obtain ⟨S22, e23, h⟩ := q_bindS h
        have fx24 : q_Fx S S22 := e23 ▸ q_Fx.sI (fx21)
        obtain rfl := Option.some.inj h
        exact fx24
      · rw [if_neg c] at h
        obtain ⟨r25, e26, h⟩ := q_bind h
        have fx27 : q_Fx S r25.2 := q_Fx.tr (q_Fx.rf S) (fxX12_wrong e26)
        obtain rfl := Option.some.inj h
        exact fx27
    · rw [if_neg c] at h
      obtain ⟨r28, e29, h⟩ := q_bind h
      have fx30 : q_Fx S r28.2 := q_Fx.tr (q_Fx.rf S) (fxX12_wrong e29)
      obtain rfl := Option.some.inj h
      exact fx30
theorem fxX12_body_282 {S : QS} {q : Nat} {y2 : Int32} {y3 : Int32} {y4 : Int32} {y7 : Int32} {y8 : Int32} {y9 : Int32} {r : Bool × QS} (h : fX12_body_282 S q y2 y3 y4 y7 y8 y9 = some r) : q_Fx S r.2 := by
  unfold fX12_body_282 at h
  obtain ⟨hg1, h⟩ := q_guard h
  obtain ⟨S2, e3, h⟩ := q_bindS h
  have fx4 : q_Fx S S2 := e3 ▸ q_Fx.sI (q_Fx.rf S)
  obtain ⟨r5, e6, h⟩ := q_bind h
  by_cases c : (lg_cmp r5 y8.toInt64) < 0
  · rw [if_pos c] at h
    obtain ⟨r7, e8, h⟩ := q_bind h
    have fx9 : q_Fx S r7.2 := q_Fx.tr (fx4) (fxX12_wrong e8)
    obtain rfl := Option.some.inj h
    exact fx9
  · rw [if_neg c] at h
    by_cases c : (lg_cmp r5 (12 : Int64)) ≤ 0
    · rw [if_pos c] at h
      obtain ⟨hg10, h⟩ := q_guard h
      obtain ⟨S11, e12, h⟩ := q_bindS h
      have fx13 : q_Fx S S11 := e12 ▸ q_Fx.sI (fx4)
      obtain ⟨hg14, h⟩ := q_guard h
      obtain ⟨S15, e16, h⟩ := q_bindS h
      have fx17 : q_Fx S S15 := e16 ▸ q_Fx.sI (fx13)
      obtain ⟨hg18, h⟩ := q_guard h
      obtain ⟨S19, e20, h⟩ := q_bindS h
      have fx21 : q_Fx S S19 := e20 ▸ q_Fx.sI (fx17)
      obtain ⟨hg22, h⟩ := q_guard h
      obtain ⟨S23, e24, h⟩ := q_bindS h
      have fx25 : q_Fx S S23 := e24 ▸ q_Fx.sI (fx21)
      obtain ⟨hg26, h⟩ := q_guard h
      obtain ⟨S27, e28, h⟩ := q_bindS h
      have fx29 : q_Fx S S27 := e28 ▸ q_Fx.sI (fx25)
      obtain ⟨S30, e31, h⟩ := q_bindS h
      have fx32 : q_Fx S S30 := e31 ▸ q_Fx.sI (fx29)
      obtain rfl := Option.some.inj h
      exact fx32
    · rw [if_neg c] at h
      obtain ⟨r33, e34, h⟩ := q_bind h
      have fx35 : q_Fx S r33.2 := q_Fx.tr (fx4) (fxX12_wrong e34)
      obtain rfl := Option.some.inj h
      exact fx35
theorem fxtX12_body_159 {q : Nat} {y2 : Int32} {y3 : Int32} {y4 : Int32} {y7 : Int32} {x : Int32 × Int32 × QS} {z : (Bool × QS) ⊕ (Int32 × Int32 × QS)} (h : tX12_body_159 q y2 y3 y4 y7 x = some z) : q_Fx ((fun x : Int32 × Int32 × QS => x.2.2) x) ((Sum.elim (fun r : Bool × QS => r.2) (fun x : Int32 × Int32 × QS => x.2.2)) z) := by
  unfold tX12_body_159 at h
  show q_Fx x.2.2 _
  obtain ⟨r36, e37, h⟩ := q_bind h
  by_cases c : r36 = true
  · rw [if_pos c] at h
    obtain ⟨r38, e39, h⟩ := q_bind h
    obtain ⟨v42, hv, h⟩ := q_bind h
    obtain ⟨hg43, h⟩ := q_guard h
    obtain ⟨S44, e45, h⟩ := q_bindS h
    have fx46 : q_Fx x.2.2 S44 := e45 ▸ q_Fx.sI (q_Fx.rf x.2.2)
    obtain ⟨r47, e48, h⟩ := q_bind h
    by_cases c : r47 = true
    · rw [if_pos c] at h
      obtain ⟨r49, e50, h⟩ := q_bind h
      cases h
      exact (fx46).tr (fxX12_body_282 e50)
    · rw [if_neg c] at h
      obtain ⟨hg51, h⟩ := q_guard h
      by_cases c : 0 ≤ (S44.2.1 (q + 10) y7.toNatClampNeg)
      · rw [if_pos c] at h
        obtain ⟨r52, e53, h⟩ := q_bind h
        cases h
        exact (fx46).tr (fxX12_body_282 e53)
      · rw [if_neg c] at h
        obtain ⟨r54, e55, h⟩ := q_bind h
        have fx56 : q_Fx x.2.2 r54.2 := q_Fx.tr (fx46) (fxX12_wrong e55)
        cases h
        exact fx56
  · rw [if_neg c] at h
    obtain ⟨r57, e58, h⟩ := q_bind h
    by_cases c : 0 ≤ r57
    · rw [if_pos c] at h
      by_cases c : (12 : Int32) ≤ x.1
      · rw [if_pos c] at h
        cases h
        exact q_Fx.rf _
      · rw [if_neg c] at h
        obtain ⟨hg59, h⟩ := q_guard h
        obtain ⟨S60, e61, h⟩ := q_bindS h
        have fx62 : q_Fx x.2.2 S60 := e61 ▸ q_Fx.sI (q_Fx.rf x.2.2)
        cases h
        exact fx62
    · rw [if_neg c] at h
      obtain ⟨r63, e64, h⟩ := q_bind h
      have fx65 : q_Fx x.2.2 r63.2 := q_Fx.tr (q_Fx.rf x.2.2) (fxX12_wrong e64)
      cases h
      exact fx65
theorem fxX12_body_159 {S : QS} {q : Nat} {y2 : Int32} {y3 : Int32} {y4 : Int32} {y7 : Int32} {y8 : Int32} {y9 : Int32} {r : Bool × QS} (h : fX12_body_159 S q y2 y3 y4 y7 y8 y9 = some r) : q_Fx S ((fun r : Bool × QS => r.2) r) := q_run_fx (fun x : Int32 × Int32 × QS => x.2.2) (fun r : Bool × QS => r.2) (fun _ _ hz => fxtX12_body_159 hz) h
theorem fxX12_body_100 {S : QS} {q : Nat} {y2 : Int32} {y3 : Int32} {y4 : Int32} {r : Bool × QS} (h : fX12_body_100 S q y2 y3 y4 = some r) : q_Fx S r.2 := by
  unfold fX12_body_100 at h
  by_cases c : (S.2.1 q 2) = (48 : Int32)
  · rw [if_pos c] at h
    obtain ⟨r73, e74, h⟩ := q_bind h
    have fx75 : q_Fx S r73.2 := q_Fx.tr (q_Fx.rf S) (fxX12_wrong e74)
    obtain rfl := Option.some.inj h
    exact fx75
  · rw [if_neg c] at h
    obtain ⟨v66, hv, h⟩ := q_bind h
    obtain ⟨v71, hv, h⟩ := q_bind h
    have fx72 : q_Fx S v71 := by
      replace h := hv
      by_cases c : y4 = 0
      · rw [if_pos c] at h
        obtain rfl := Option.some.inj h
        exact q_Fx.rf _
      · rw [if_neg c] at h
        obtain ⟨hg67, h⟩ := q_guard h
        obtain ⟨S68, e69, h⟩ := q_bindS h
        have fx70 : q_Fx S S68 := e69 ▸ q_Fx.sI (q_Fx.rf S)
        obtain rfl := Option.some.inj h
        exact fx70
    exact (fx72).tr (fxX12_body_159 h)
theorem fxX12_body {S : QS} {q : Nat} {x2 : Int32} {x3 : Int32} {r : Bool × QS} (h : fX12_body S q x2 x3 = some r) : q_Fx S r.2 := by
  unfold fX12_body at h
  obtain ⟨r76, e77, h⟩ := q_bind h
  obtain ⟨hg78, h⟩ := q_guard h
  obtain ⟨hg79, h⟩ := q_guard h
  obtain ⟨r80, e81, h⟩ := q_bind h
  obtain ⟨v87, hv, h⟩ := q_bind h
  by_cases c : r80 < 0
  · rw [if_pos c] at h
    exact (q_Fx.rf _).tr (fxX12_body_100 h)
  · rw [if_neg c] at h
    by_cases c : v87 = true
    · rw [if_pos c] at h
      exact (q_Fx.rf _).tr (fxX12_body_100 h)
    · rw [if_neg c] at h
      obtain ⟨r88, e89, h⟩ := q_bind h
      have fx90 : q_Fx S r88.2 := q_Fx.tr (q_Fx.rf S) (fxX12_wrong e89)
      obtain rfl := Option.some.inj h
      exact fx90
theorem fxtX12_members_33 {q : Nat}  {x : Int32 × Int32 × QS} {z : ((Bool × QS) ⊕ (Int32 × QS)) ⊕ (Int32 × Int32 × QS)} (h : tX12_members_33 q x = some z) : q_Fx ((fun x : Int32 × Int32 × QS => x.2.2) x) ((Sum.elim (Sum.elim (fun r : Bool × QS => r.2) (fun x : Int32 × QS => x.2)) (fun x : Int32 × Int32 × QS => x.2.2)) z) := by
  unfold tX12_members_33 at h
  show q_Fx x.2.2 _
  obtain ⟨r1, e2, h⟩ := q_bind h
  by_cases c : r1 = true
  · rw [if_pos c] at h
    cases h
    exact q_Fx.rf _
  · rw [if_neg c] at h
    obtain ⟨r3, e4, h⟩ := q_bind h
    by_cases c : r3 = true
    · rw [if_pos c] at h
      obtain ⟨r10, e11, h⟩ := q_bind h
      have fx12 : q_Fx x.2.2 r10.2 := q_Fx.tr (q_Fx.rf x.2.2) (fxX12_field e11)
      by_cases c : r10.1 = true
      · rw [if_pos c] at h
        obtain ⟨r13, e14, h⟩ := q_bind h
        cases h
        exact fx12
      · rw [if_neg c] at h
        cases h
        exact fx12
    · rw [if_neg c] at h
      obtain ⟨r5, e6, h⟩ := q_bind h
      have fx7 : q_Fx x.2.2 r5.2 := q_Fx.tr (q_Fx.rf x.2.2) (fxX12_body e6)
      by_cases c : r5.1 = true
      · rw [if_pos c] at h
        obtain ⟨r8, e9, h⟩ := q_bind h
        cases h
        exact fx7
      · rw [if_neg c] at h
        cases h
        exact fx7
theorem fxuX12_members_33 {S : QS} {q : Nat} {y2 : Int32} {y3 : Int32} {r : (Bool × QS) ⊕ (Int32 × QS)} (h : uX12_members_33 S q y2 y3 = some r) : q_Fx S ((Sum.elim (fun r : Bool × QS => r.2) (fun x : Int32 × QS => x.2)) r) := q_run_fx (fun x : Int32 × Int32 × QS => x.2.2) (Sum.elim (fun r : Bool × QS => r.2) (fun x : Int32 × QS => x.2)) (fun _ _ hz => fxtX12_members_33 hz) h
theorem fxtX12_members_15 {q : Nat}  {x : Int32 × QS} {z : (Bool × QS) ⊕ (Int32 × QS)} (h : tX12_members_15 q x = some z) : q_Fx ((fun x : Int32 × QS => x.2) x) ((Sum.elim (fun r : Bool × QS => r.2) (fun x : Int32 × QS => x.2)) z) := by
  unfold tX12_members_15 at h
  show q_Fx x.2 _
  obtain ⟨r15, e16, h⟩ := q_bind h
  by_cases c : r15 ≤ x.1
  · rw [if_pos c] at h
    cases h
    exact q_Fx.rf _
  · rw [if_neg c] at h
    obtain ⟨hg17, h⟩ := q_guard h
    exact (q_Fx.rf _).tr (fxuX12_members_33 h)
theorem fxX12_members_15 {S : QS} {q : Nat} {y3 : Int32} {r : Bool × QS} (h : fX12_members_15 S q y3 = some r) : q_Fx S ((fun r : Bool × QS => r.2) r) := q_run_fx (fun x : Int32 × QS => x.2) (fun r : Bool × QS => r.2) (fun _ _ hz => fxtX12_members_15 hz) h
theorem fxX12_members {S : QS} {q : Nat}  {r : Bool × QS} (h : fX12_members S q = some r) : q_Fx S r.2 := by
  unfold fX12_members at h
  obtain ⟨S18, e19, h⟩ := q_bindS h
  have fx20 : q_Fx S S18 := e19 ▸ q_Fx.sI (q_Fx.rf S)
  obtain ⟨S21, e22, h⟩ := q_bindS h
  have fx23 : q_Fx S S21 := e22 ▸ q_Fx.sI (fx20)
  exact (fx23).tr (fxX12_members_15 h)
