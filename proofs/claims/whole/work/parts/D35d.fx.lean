/-! ===== only numbers change ===== -/
theorem fxX12_catchLine {S : QS} {q : Nat} {x2 : Int32} {x3 : Int32} {x4 : Int32} {r : Bool × QS} (h : fX12_catchLine S q x2 x3 x4 = some r) : q_Fx S r.2 := by
  unfold fX12_catchLine at h
  by_cases c : (S.2.1 q 5) = (64 : Int32)
  · rw [if_pos c] at h
    obtain ⟨r52, e53, h⟩ := q_bind h
    have fx54 : q_Fx S r52.2 := q_Fx.tr (q_Fx.rf S) (fxX12_wrong e53)
    obtain rfl := Option.some.inj h
    exact fx54
  · rw [if_neg c] at h
    obtain ⟨r1, e2, h⟩ := q_bind h
    by_cases c : 0 ≤ r1
    · rw [if_pos c] at h
      obtain ⟨r3, e4, h⟩ := q_bind h
      by_cases c : r1 < r3
      · rw [if_pos c] at h
        obtain ⟨r5, e6, h⟩ := q_bind h
        by_cases c : r5 < 0
        · rw [if_pos c] at h
          obtain ⟨r7, e8, h⟩ := q_bind h
          have fx9 : q_Fx S r7.2 := q_Fx.tr (q_Fx.rf S) (fxX12_wrong e8)
          obtain rfl := Option.some.inj h
          exact fx9
        · rw [if_neg c] at h
          by_cases c : r5 < x4
          · rw [if_pos c] at h
            obtain ⟨r10, e11, h⟩ := q_bind h
            by_cases c : r10 < 0
            · rw [if_pos c] at h
              obtain ⟨r12, e13, h⟩ := q_bind h
              have fx14 : q_Fx S r12.2 := q_Fx.tr (q_Fx.rf S) (fxX12_wrong e13)
              obtain rfl := Option.some.inj h
              exact fx14
            · rw [if_neg c] at h
              obtain ⟨r15, e16, h⟩ := q_bind h
              by_cases c : r15 = true
              · rw [if_pos c] at h
                obtain ⟨hg17, h⟩ := q_guard h
                obtain ⟨S18, e19, h⟩ := q_bindS h
                have fx20 : q_Fx S S18 := e19 ▸ q_Fx.sI (q_Fx.rf S)
                obtain ⟨hg21, h⟩ := q_guard h
                obtain ⟨S22, e23, h⟩ := q_bindS h
                have fx24 : q_Fx S S22 := e23 ▸ q_Fx.sI (fx20)
                obtain ⟨hg25, h⟩ := q_guard h
                obtain ⟨S26, e27, h⟩ := q_bindS h
                have fx28 : q_Fx S S26 := e27 ▸ q_Fx.sI (fx24)
                obtain ⟨hg29, h⟩ := q_guard h
                obtain ⟨S30, e31, h⟩ := q_bindS h
                have fx32 : q_Fx S S30 := e31 ▸ q_Fx.sI (fx28)
                obtain ⟨hg33, h⟩ := q_guard h
                obtain ⟨S34, e35, h⟩ := q_bindS h
                have fx36 : q_Fx S S34 := e35 ▸ q_Fx.sI (fx32)
                obtain ⟨S37, e38, h⟩ := q_bindS h
                have fx39 : q_Fx S S37 := e38 ▸ q_Fx.sI (fx36)
                obtain rfl := Option.some.inj h
                exact fx39
              · rw [if_neg c] at h
                obtain ⟨r40, e41, h⟩ := q_bind h
                have fx42 : q_Fx S r40.2 := q_Fx.tr (q_Fx.rf S) (fxX12_wrong e41)
                obtain rfl := Option.some.inj h
                exact fx42
          · rw [if_neg c] at h
            obtain ⟨r43, e44, h⟩ := q_bind h
            have fx45 : q_Fx S r43.2 := q_Fx.tr (q_Fx.rf S) (fxX12_wrong e44)
            obtain rfl := Option.some.inj h
            exact fx45
      · rw [if_neg c] at h
        obtain ⟨r46, e47, h⟩ := q_bind h
        have fx48 : q_Fx S r46.2 := q_Fx.tr (q_Fx.rf S) (fxX12_wrong e47)
        obtain rfl := Option.some.inj h
        exact fx48
    · rw [if_neg c] at h
      obtain ⟨r49, e50, h⟩ := q_bind h
      have fx51 : q_Fx S r49.2 := q_Fx.tr (q_Fx.rf S) (fxX12_wrong e50)
      obtain rfl := Option.some.inj h
      exact fx51
theorem fxX12_localStep {S : QS} {q : Nat} {x2 : Int32} {x3 : Int32} {x4 : Int32} {r : Bool × QS} (h : fX12_localStep S q x2 x3 x4 = some r) : q_Fx S r.2 := by
  unfold fX12_localStep at h
  obtain ⟨r1, e2, h⟩ := q_bind h
  by_cases c : (lg_cmp r1 (0 : Int64)) < 0
  · rw [if_pos c] at h
    obtain ⟨r3, e4, h⟩ := q_bind h
    have fx5 : q_Fx S r3.2 := q_Fx.tr (q_Fx.rf S) (fxX12_wrong e4)
    obtain rfl := Option.some.inj h
    exact fx5
  · rw [if_neg c] at h
    obtain ⟨hg6, h⟩ := q_guard h
    by_cases c : (lg_cmp r1 (S.2.1 (q + 11) x2.toNatClampNeg).toInt64) < 0
    · rw [if_pos c] at h
      obtain ⟨hg7, h⟩ := q_guard h
      obtain ⟨S8, e9, h⟩ := q_bindS h
      have fx10 : q_Fx S S8 := e9 ▸ q_Fx.sI (q_Fx.rf S)
      obtain rfl := Option.some.inj h
      exact fx10
    · rw [if_neg c] at h
      obtain ⟨r11, e12, h⟩ := q_bind h
      have fx13 : q_Fx S r11.2 := q_Fx.tr (q_Fx.rf S) (fxX12_wrong e12)
      obtain rfl := Option.some.inj h
      exact fx13
theorem fxX12_makes_47 {S : QS} {q : Nat} {y2 : Int32} {y3 : Int32} {y5 : Int32} {r : Bool × QS} (h : fX12_makes_47 S q y2 y3 y5 = some r) : q_Fx S r.2 := by
  unfold fX12_makes_47 at h
  obtain ⟨v1, hv, h⟩ := q_bind h
  obtain ⟨hg2, h⟩ := q_guard h
  obtain ⟨S3, e4, h⟩ := q_bindS h
  have fx5 : q_Fx S S3 := e4 ▸ q_Fx.sI (q_Fx.rf S)
  obtain ⟨hg6, h⟩ := q_guard h
  obtain ⟨S7, e8, h⟩ := q_bindS h
  have fx9 : q_Fx S S7 := e8 ▸ q_Fx.sI (fx5)
  obtain ⟨S10, e11, h⟩ := q_bindS h
  have fx12 : q_Fx S S10 := e11 ▸ q_Fx.sI (fx9)
  obtain rfl := Option.some.inj h
  exact fx12
theorem fxX12_makes {S : QS} {q : Nat} {x2 : Int32} {x3 : Int32} {x4 : Int32} {r : Bool × QS} (h : fX12_makes S q x2 x3 x4 = some r) : q_Fx S r.2 := by
  unfold fX12_makes at h
  obtain ⟨r13, e14, h⟩ := q_bind h
  obtain ⟨v17, hv, h⟩ := q_bind h
  by_cases c : 0 ≤ v17
  · rw [if_pos c] at h
    exact (q_Fx.rf _).tr (fxX12_makes_47 h)
  · rw [if_neg c] at h
    obtain ⟨r18, e19, h⟩ := q_bind h
    by_cases c : r18 = true
    · rw [if_pos c] at h
      exact (q_Fx.rf _).tr (fxX12_makes_47 h)
    · rw [if_neg c] at h
      obtain ⟨r20, e21, h⟩ := q_bind h
      have fx22 : q_Fx S r20.2 := q_Fx.tr (q_Fx.rf S) (fxX12_wrong e21)
      obtain rfl := Option.some.inj h
      exact fx22
theorem fxX12_reference_133 {S : QS} {q : Nat} {y2 : Int32} {y6 : Int32} {y7 : Int32} {r : Bool × QS} (h : fX12_reference_133 S q y2 y6 y7 = some r) : q_Fx S r.2 := by
  unfold fX12_reference_133 at h
  obtain ⟨hg1, h⟩ := q_guard h
  obtain ⟨S2, e3, h⟩ := q_bindS h
  have fx4 : q_Fx S S2 := e3 ▸ q_Fx.sI (q_Fx.rf S)
  obtain ⟨hg5, h⟩ := q_guard h
  obtain ⟨S6, e7, h⟩ := q_bindS h
  have fx8 : q_Fx S S6 := e7 ▸ q_Fx.sI (fx4)
  obtain rfl := Option.some.inj h
  exact fx8
theorem fxX12_reference_110 {S : QS} {q : Nat} {y2 : Int32} {y3 : Int32} {y4 : Int32} {y6 : Int32} {y7 : Int32} {r : Bool × QS} (h : fX12_reference_110 S q y2 y3 y4 y6 y7 = some r) : q_Fx S r.2 := by
  unfold fX12_reference_110 at h
  by_cases c : y3 = (40 : Int32)
  · rw [if_pos c] at h
    obtain ⟨hg9, h⟩ := q_guard h
    by_cases c : (S.2.1 (q + 7) y7.toNatClampNeg) = 0
    · rw [if_pos c] at h
      obtain ⟨r10, e11, h⟩ := q_bind h
      have fx12 : q_Fx S r10.2 := q_Fx.tr (q_Fx.rf S) (fxX12_wrong e11)
      obtain rfl := Option.some.inj h
      exact fx12
    · rw [if_neg c] at h
      exact (q_Fx.rf _).tr (fxX12_reference_133 h)
  · rw [if_neg c] at h
    exact (q_Fx.rf _).tr (fxX12_reference_133 h)
theorem fxX12_reference {S : QS} {q : Nat} {x2 : Int32} {x3 : Int32} {x4 : Int32} {r : Bool × QS} (h : fX12_reference S q x2 x3 x4 = some r) : q_Fx S r.2 := by
  unfold fX12_reference at h
  obtain ⟨r13, e14, h⟩ := q_bind h
  obtain ⟨hg15, h⟩ := q_guard h
  obtain ⟨r16, e17, h⟩ := q_bind h
  by_cases c : 0 ≤ r16
  · rw [if_pos c] at h
    obtain ⟨v27, hv, h⟩ := q_bind h
    by_cases c : v27 < 0
    · rw [if_pos c] at h
      obtain ⟨r28, e29, h⟩ := q_bind h
      have fx30 : q_Fx S r28.2 := q_Fx.tr (q_Fx.rf S) (fxX12_wrong e29)
      obtain rfl := Option.some.inj h
      exact fx30
    · rw [if_neg c] at h
      by_cases c : x3 = (39 : Int32)
      · rw [if_pos c] at h
        obtain ⟨hg31, h⟩ := q_guard h
        by_cases c : (S.2.1 (q + 7) v27.toNatClampNeg) = 0
        · rw [if_pos c] at h
          exact (q_Fx.rf _).tr (fxX12_reference_110 h)
        · rw [if_neg c] at h
          obtain ⟨r32, e33, h⟩ := q_bind h
          have fx34 : q_Fx S r32.2 := q_Fx.tr (q_Fx.rf S) (fxX12_wrong e33)
          obtain rfl := Option.some.inj h
          exact fx34
      · rw [if_neg c] at h
        exact (q_Fx.rf _).tr (fxX12_reference_110 h)
  · rw [if_neg c] at h
    obtain ⟨r35, e36, h⟩ := q_bind h
    have fx37 : q_Fx S r35.2 := q_Fx.tr (q_Fx.rf S) (fxX12_wrong e36)
    obtain rfl := Option.some.inj h
    exact fx37
theorem fxX12_code_46 {S : QS} {q : Nat} {y2 : Int32} {y3 : Int32} {y4 : Int32} {y5 : Int32} {r : Bool × QS} (h : fX12_code_46 S q y2 y3 y4 y5 = some r) : q_Fx S r.2 := by
  unfold fX12_code_46 at h
  obtain ⟨hg1, h⟩ := q_guard h
  obtain ⟨S2, e3, h⟩ := q_bindS h
  have fx4 : q_Fx S S2 := e3 ▸ q_Fx.sI (q_Fx.rf S)
  obtain ⟨hg5, h⟩ := q_guard h
  obtain ⟨S6, e7, h⟩ := q_bindS h
  have fx8 : q_Fx S S6 := e7 ▸ q_Fx.sI (fx4)
  obtain ⟨hg9, h⟩ := q_guard h
  obtain ⟨S10, e11, h⟩ := q_bindS h
  have fx12 : q_Fx S S10 := e11 ▸ q_Fx.sI (fx8)
  obtain ⟨hg13, h⟩ := q_guard h
  obtain ⟨S14, e15, h⟩ := q_bindS h
  have fx16 : q_Fx S S14 := e15 ▸ q_Fx.sI (fx12)
  obtain ⟨hg17, h⟩ := q_guard h
  obtain ⟨S18, e19, h⟩ := q_bindS h
  have fx20 : q_Fx S S18 := e19 ▸ q_Fx.sI (fx16)
  obtain ⟨S21, e22, h⟩ := q_bindS h
  have fx23 : q_Fx S S21 := e22 ▸ q_Fx.sI (fx20)
  obtain ⟨r24, e25, h⟩ := q_bind h
  by_cases c27 : r24 = (67 : Int32) ∨ r24 = (69 : Int32)
  · rw [if_pos c27] at h
    obtain ⟨r28, e29, h⟩ := q_bind h
    have fx30 : q_Fx S r28.2 := q_Fx.tr (fx23) (fxX12_makes e29)
    obtain rfl := Option.some.inj h
    exact fx30
  rw [if_neg c27] at h
  by_cases c31 : r24 = (70 : Int32)
  · rw [if_pos c31] at h
    obtain ⟨r32, e33, h⟩ := q_bind h
    have fx34 : q_Fx S r32.2 := q_Fx.tr (fx23) (fxX12_reference e33)
    obtain rfl := Option.some.inj h
    exact fx34
  rw [if_neg c31] at h
  by_cases c35 : r24 = (73 : Int32)
  · rw [if_pos c35] at h
    obtain ⟨r36, e37, h⟩ := q_bind h
    have fx38 : q_Fx S r36.2 := q_Fx.tr (fx23) (fxX12_localStep e37)
    by_cases c : r36.1 = true
    · rw [if_pos c] at h
      obtain ⟨r39, e40, h⟩ := q_bind h
      obtain ⟨hg41, h⟩ := q_guard h
      obtain ⟨S42, e43, h⟩ := q_bindS h
      have fx44 : q_Fx S S42 := e43 ▸ q_Fx.sI (fx38)
      obtain rfl := Option.some.inj h
      exact fx44
    · rw [if_neg c] at h
      obtain rfl := Option.some.inj h
      exact fx38
  rw [if_neg c35] at h
  by_cases c45 : r24 = (75 : Int32)
  · rw [if_pos c45] at h
    obtain ⟨r46, e47, h⟩ := q_bind h
    have fx48 : q_Fx S r46.2 := q_Fx.tr (fx23) (fxX12_localStep e47)
    obtain rfl := Option.some.inj h
    exact fx48
  rw [if_neg c45] at h
  by_cases c49 : r24 = (76 : Int32)
  · rw [if_pos c49] at h
    obtain ⟨r50, e51, h⟩ := q_bind h
    obtain ⟨hg52, h⟩ := q_guard h
    obtain ⟨S53, e54, h⟩ := q_bindS h
    have fx55 : q_Fx S S53 := e54 ▸ q_Fx.sI (fx23)
    obtain ⟨hg56, h⟩ := q_guard h
    by_cases c : (S53.2.1 (q + 16) (S.2.1 q 3).toNatClampNeg) < 0
    · rw [if_pos c] at h
      obtain ⟨r57, e58, h⟩ := q_bind h
      have fx59 : q_Fx S r57.2 := q_Fx.tr (fx55) (fxX12_wrong e58)
      by_cases c : r57.1 = true
      · rw [if_pos c] at h
        obtain rfl := Option.some.inj h
        exact fx59
      · rw [if_neg c] at h
        obtain rfl := Option.some.inj h
        exact fx59
    · rw [if_neg c] at h
      obtain ⟨hg60, h⟩ := q_guard h
      by_cases c : (S53.2.1 (q + 16) (S.2.1 q 3).toNatClampNeg) < y4
      · rw [if_pos c] at h
        obtain rfl := Option.some.inj h
        exact fx55
      · rw [if_neg c] at h
        obtain ⟨r61, e62, h⟩ := q_bind h
        have fx63 : q_Fx S r61.2 := q_Fx.tr (fx55) (fxX12_wrong e62)
        by_cases c : r61.1 = true
        · rw [if_pos c] at h
          obtain rfl := Option.some.inj h
          exact fx63
        · rw [if_neg c] at h
          obtain rfl := Option.some.inj h
          exact fx63
  rw [if_neg c49] at h
  by_cases c64 : r24 = (78 : Int32)
  · rw [if_pos c64] at h
    obtain ⟨r65, e66, h⟩ := q_bind h
    obtain ⟨hg67, h⟩ := q_guard h
    obtain ⟨S68, e69, h⟩ := q_bindS h
    have fx70 : q_Fx S S68 := e69 ▸ q_Fx.sI (fx23)
    obtain rfl := Option.some.inj h
    exact fx70
  rw [if_neg c64] at h
  by_cases c71 : r24 = (84 : Int32)
  · rw [if_pos c71] at h
    obtain ⟨r72, e73, h⟩ := q_bind h
    obtain ⟨hg74, h⟩ := q_guard h
    obtain ⟨S75, e76, h⟩ := q_bindS h
    have fx77 : q_Fx S S75 := e76 ▸ q_Fx.sI (fx23)
    obtain ⟨hg78, h⟩ := q_guard h
    by_cases c : 0 ≤ (S75.2.1 (q + 16) (S.2.1 q 3).toNatClampNeg)
    · rw [if_pos c] at h
      obtain rfl := Option.some.inj h
      exact fx77
    · rw [if_neg c] at h
      obtain ⟨r79, e80, h⟩ := q_bind h
      have fx81 : q_Fx S r79.2 := q_Fx.tr (fx77) (fxX12_wrong e80)
      by_cases c : r79.1 = true
      · rw [if_pos c] at h
        obtain rfl := Option.some.inj h
        exact fx81
      · rw [if_neg c] at h
        obtain rfl := Option.some.inj h
        exact fx81
  rw [if_neg c71] at h
  obtain rfl := Option.some.inj h
  exact fx23
theorem fxX12_code_31 {S : QS} {q : Nat} {y2 : Int32} {y3 : Int32} {y4 : Int32} {y5 : Int32} {r : Bool × QS} (h : fX12_code_31 S q y2 y3 y4 y5 = some r) : q_Fx S r.2 := by
  unfold fX12_code_31 at h
  by_cases c : (S.2.1 q 4) = (48 : Int32)
  · rw [if_pos c] at h
    obtain ⟨r94, e95, h⟩ := q_bind h
    have fx96 : q_Fx S r94.2 := q_Fx.tr (q_Fx.rf S) (fxX12_wrong e95)
    obtain rfl := Option.some.inj h
    exact fx96
  · rw [if_neg c] at h
    exact (q_Fx.rf _).tr (fxX12_code_46 h)
theorem fxX12_code {S : QS} {q : Nat} {x2 : Int32} {x3 : Int32} {x4 : Int32} {r : Bool × QS} (h : fX12_code S q x2 x3 x4 = some r) : q_Fx S r.2 := by
  unfold fX12_code at h
  obtain ⟨r97, e98, h⟩ := q_bind h
  by_cases c : (S.2.1 q 3) = (1024 : Int32)
  · rw [if_pos c] at h
    obtain ⟨r99, e100, h⟩ := q_bind h
    have fx101 : q_Fx S r99.2 := q_Fx.tr (q_Fx.rf S) (fxX12_wrong e100)
    obtain rfl := Option.some.inj h
    exact fx101
  · rw [if_neg c] at h
    by_cases c : r97 = (30 : Int32)
    · rw [if_pos c] at h
      exact (q_Fx.rf _).tr (fxX12_code_31 h)
    · rw [if_neg c] at h
      by_cases c : r97 = (31 : Int32)
      · rw [if_pos c] at h
        exact (q_Fx.rf _).tr (fxX12_code_31 h)
      · rw [if_neg c] at h
        exact (q_Fx.rf _).tr (fxX12_code_46 h)

theorem fxtX12_linesOf_131 {q : Nat} {y2 : Int32} {y6 : Int32} {x : Int32 × QS} {z : (Bool × QS) ⊕ (Int32 × QS)} (h : tX12_linesOf_131 q y2 y6 x = some z) : q_Fx ((fun x : Int32 × QS => x.2) x) ((Sum.elim (fun r : Bool × QS => r.2) (fun x : Int32 × QS => x.2)) z) := by
  unfold tX12_linesOf_131 at h
  show q_Fx x.2 _
  obtain ⟨r1, e2, h⟩ := q_bind h
  by_cases c : r1 = true
  · rw [if_pos c] at h
    obtain ⟨hg3, h⟩ := q_guard h
    obtain ⟨v4, hv, h⟩ := q_bind h
    obtain ⟨v7, hv, h⟩ := q_bind h
    by_cases c : v7 = true
    · rw [if_pos c] at h
      cases h
      exact q_Fx.rf _
    · rw [if_neg c] at h
      obtain ⟨r8, e9, h⟩ := q_bind h
      have fx10 : q_Fx x.2 r8.2 := q_Fx.tr (q_Fx.rf x.2) (fxX12_wrong e9)
      by_cases c : r8.1 = true
      · rw [if_pos c] at h
        cases h
        exact fx10
      · rw [if_neg c] at h
        cases h
        exact fx10
  · rw [if_neg c] at h
    obtain ⟨r11, e12, h⟩ := q_bind h
    by_cases c : r11 = true
    · rw [if_pos c] at h
      obtain ⟨r25, e26, h⟩ := q_bind h
      by_cases c : r25 < 0
      · rw [if_pos c] at h
        obtain ⟨r27, e28, h⟩ := q_bind h
        have fx29 : q_Fx x.2 r27.2 := q_Fx.tr (q_Fx.rf x.2) (fxX12_wrong e28)
        cases h
        exact fx29
      · rw [if_neg c] at h
        obtain ⟨r30, e31, h⟩ := q_bind h
        obtain ⟨hg32, h⟩ := q_guard h
        by_cases c : (x.2.2.1 167 r30.toNatClampNeg) = x.1
        · rw [if_pos c] at h
          obtain ⟨r33, e34, h⟩ := q_bind h
          cases h
          exact q_Fx.rf _
        · rw [if_neg c] at h
          obtain ⟨r35, e36, h⟩ := q_bind h
          have fx37 : q_Fx x.2 r35.2 := q_Fx.tr (q_Fx.rf x.2) (fxX12_wrong e36)
          cases h
          exact fx37
    · rw [if_neg c] at h
      obtain ⟨r13, e14, h⟩ := q_bind h
      by_cases c : r13 = true
      · rw [if_pos c] at h
        obtain ⟨r20, e21, h⟩ := q_bind h
        have fx22 : q_Fx x.2 r20.2 := q_Fx.tr (q_Fx.rf x.2) (fxX12_catchLine e21)
        by_cases c : r20.1 = true
        · rw [if_pos c] at h
          obtain ⟨r23, e24, h⟩ := q_bind h
          cases h
          exact fx22
        · rw [if_neg c] at h
          cases h
          exact fx22
      · rw [if_neg c] at h
        obtain ⟨r15, e16, h⟩ := q_bind h
        have fx17 : q_Fx x.2 r15.2 := q_Fx.tr (q_Fx.rf x.2) (fxX12_code e16)
        by_cases c : r15.1 = true
        · rw [if_pos c] at h
          obtain ⟨r18, e19, h⟩ := q_bind h
          cases h
          exact fx17
        · rw [if_neg c] at h
          cases h
          exact fx17
theorem fxX12_linesOf_131 {S : QS} {q : Nat} {y2 : Int32} {y5 : Int32} {y6 : Int32} {r : Bool × QS} (h : fX12_linesOf_131 S q y2 y5 y6 = some r) : q_Fx S ((fun r : Bool × QS => r.2) r) := q_run_fx (fun x : Int32 × QS => x.2) (fun r : Bool × QS => r.2) (fun _ _ hz => fxtX12_linesOf_131 hz) h
theorem fxtX12_linesOf_33 {q : Nat} {y2 : Int32} {y3 : Int32} {x : Int32 × Int32 × QS} {z : (Bool × QS) ⊕ (Int32 × Int32 × QS)} (h : tX12_linesOf_33 q y2 y3 x = some z) : q_Fx ((fun x : Int32 × Int32 × QS => x.2.2) x) ((Sum.elim (fun r : Bool × QS => r.2) (fun x : Int32 × Int32 × QS => x.2.2)) z) := by
  unfold tX12_linesOf_33 at h
  show q_Fx x.2.2 _
  obtain ⟨r38, e39, h⟩ := q_bind h
  by_cases c : r38 = true
  · rw [if_pos c] at h
    obtain ⟨hg40, h⟩ := q_guard h
    obtain ⟨S41, e42, h⟩ := q_bindS h
    have fx43 : q_Fx x.2.2 S41 := e42 ▸ q_Fx.sI (q_Fx.rf x.2.2)
    obtain ⟨r44, e45, h⟩ := q_bind h
    cases h
    exact (fx43).tr (fxX12_linesOf_131 e45)
  · rw [if_neg c] at h
    obtain ⟨r46, e47, h⟩ := q_bind h
    obtain ⟨v61, hv, h⟩ := q_bind h
    have fx62 : q_Fx x.2.2 v61.2 := by
      replace h := hv
      by_cases c : r46 = true
      · rw [if_pos c] at h
        obtain ⟨hg50, h⟩ := q_guard h
        obtain ⟨S51, e52, h⟩ := q_bindS h
        have fx53 : q_Fx x.2.2 S51 := e52 ▸ q_Fx.sI (q_Fx.rf x.2.2)
        obtain ⟨hg54, h⟩ := q_guard h
        obtain ⟨S55, e56, h⟩ := q_bindS h
        have fx57 : q_Fx x.2.2 S55 := e56 ▸ q_Fx.sI (fx53)
        obtain ⟨S58, e59, h⟩ := q_bindS h
        have fx60 : q_Fx x.2.2 S58 := e59 ▸ q_Fx.sI (fx57)
        obtain rfl := Option.some.inj h
        exact fx60
      · rw [if_neg c] at h
        obtain ⟨r48, e49, h⟩ := q_bind h
        by_cases c : r48 = true
        · rw [if_pos c] at h
          obtain rfl := Option.some.inj h
          exact q_Fx.rf _
        · rw [if_neg c] at h
          obtain rfl := Option.some.inj h
          exact q_Fx.rf _
    obtain ⟨r63, e64, h⟩ := q_bind h
    cases h
    exact fx62
theorem fxX12_linesOf_33 {S : QS} {q : Nat} {y2 : Int32} {y3 : Int32} {y4 : Int32} {y5 : Int32} {r : Bool × QS} (h : fX12_linesOf_33 S q y2 y3 y4 y5 = some r) : q_Fx S ((fun r : Bool × QS => r.2) r) := q_run_fx (fun x : Int32 × Int32 × QS => x.2.2) (fun r : Bool × QS => r.2) (fun _ _ hz => fxtX12_linesOf_33 hz) h
theorem fxX12_linesOf {S : QS} {q : Nat} {x2 : Int32} {r : Bool × QS} (h : fX12_linesOf S q x2 = some r) : q_Fx S r.2 := by
  unfold fX12_linesOf at h
  obtain ⟨hg65, h⟩ := q_guard h
  obtain ⟨hg66, h⟩ := q_guard h
  obtain ⟨S67, e68, h⟩ := q_bindS h
  have fx69 : q_Fx S S67 := e68 ▸ q_Fx.sI (q_Fx.rf S)
  obtain ⟨S70, e71, h⟩ := q_bindS h
  have fx72 : q_Fx S S70 := e71 ▸ q_Fx.sI (fx69)
  exact (fx72).tr (fxX12_linesOf_33 h)
theorem fxtX12_lines_17 {q : Nat}  {x : Int32 × QS} {z : (Bool × QS) ⊕ (Int32 × QS)} (h : tX12_lines_17 q x = some z) : q_Fx ((fun x : Int32 × QS => x.2) x) ((Sum.elim (fun r : Bool × QS => r.2) (fun x : Int32 × QS => x.2)) z) := by
  unfold tX12_lines_17 at h
  show q_Fx x.2 _
  by_cases c : (x.2.2.1 q 2) ≤ x.1
  · rw [if_pos c] at h
    cases h
    exact q_Fx.rf _
  · rw [if_neg c] at h
    obtain ⟨r1, e2, h⟩ := q_bind h
    have fx3 : q_Fx x.2 r1.2 := q_Fx.tr (q_Fx.rf x.2) (fxX12_linesOf e2)
    by_cases c : r1.1 = true
    · rw [if_pos c] at h
      cases h
      exact fx3
    · rw [if_neg c] at h
      cases h
      exact fx3
theorem fxX12_lines_17 {S : QS} {q : Nat} {y2 : Int32} {r : Bool × QS} (h : fX12_lines_17 S q y2 = some r) : q_Fx S ((fun r : Bool × QS => r.2) r) := q_run_fx (fun x : Int32 × QS => x.2) (fun r : Bool × QS => r.2) (fun _ _ hz => fxtX12_lines_17 hz) h
theorem fxX12_lines {S : QS} {q : Nat}  {r : Bool × QS} (h : fX12_lines S q = some r) : q_Fx S r.2 := by
  unfold fX12_lines at h
  obtain ⟨S4, e5, h⟩ := q_bindS h
  have fx6 : q_Fx S S4 := e5 ▸ q_Fx.sI (q_Fx.rf S)
  obtain ⟨S7, e8, h⟩ := q_bindS h
  have fx9 : q_Fx S S7 := e8 ▸ q_Fx.sI (fx6)
  obtain ⟨S10, e11, h⟩ := q_bindS h
  have fx12 : q_Fx S S10 := e11 ▸ q_Fx.sI (fx9)
  exact (fx12).tr (fxX12_lines_17 h)
theorem fxtX12_settled_183 {q : Nat}  {x : Int32 × QS} {z : (Bool × QS) ⊕ (Int32 × QS)} (h : tX12_settled_183 q x = some z) : q_Fx ((fun x : Int32 × QS => x.2) x) ((Sum.elim (fun r : Bool × QS => r.2) (fun x : Int32 × QS => x.2)) z) := by
  unfold tX12_settled_183 at h
  show q_Fx x.2 _
  by_cases c : (x.2.2.1 q 2) ≤ x.1
  · rw [if_pos c] at h
    by_cases c : 0 ≤ (x.2.2.1 q 6)
    · rw [if_pos c] at h
      cases h
      exact q_Fx.rf _
    · rw [if_neg c] at h
      obtain ⟨r1, e2, h⟩ := q_bind h
      have fx3 : q_Fx x.2 r1.2 := q_Fx.tr (q_Fx.rf x.2) (fxX12_wrong e2)
      by_cases c : r1.1 = true
      · rw [if_pos c] at h
        cases h
        exact fx3
      · rw [if_neg c] at h
        cases h
        exact fx3
  · rw [if_neg c] at h
    obtain ⟨hg4, h⟩ := q_guard h
    obtain ⟨hg5, h⟩ := q_guard h
    obtain ⟨r6, e7, h⟩ := q_bind h
    by_cases c : r6 = true
    · rw [if_pos c] at h
      obtain ⟨hg8, h⟩ := q_guard h
      obtain ⟨r9, e10, h⟩ := q_bind h
      by_cases c : r9 = true
      · rw [if_pos c] at h
        obtain ⟨hg11, h⟩ := q_guard h
        by_cases c : (x.2.2.1 (q + 7) x.1.toNatClampNeg) = 0
        · rw [if_pos c] at h
          obtain ⟨hg12, h⟩ := q_guard h
          by_cases c : (x.2.2.1 (q + 8) x.1.toNatClampNeg) = 0
          · rw [if_pos c] at h
            obtain ⟨hg13, h⟩ := q_guard h
            by_cases c : (x.2.2.1 (q + 10) x.1.toNatClampNeg) = (-1 : Int32)
            · rw [if_pos c] at h
              obtain ⟨S14, e15, h⟩ := q_bindS h
              have fx16 : q_Fx x.2 S14 := e15 ▸ q_Fx.sI (q_Fx.rf x.2)
              cases h
              exact fx16
            · rw [if_neg c] at h
              cases h
              exact q_Fx.rf _
          · rw [if_neg c] at h
            cases h
            exact q_Fx.rf _
        · rw [if_neg c] at h
          cases h
          exact q_Fx.rf _
      · rw [if_neg c] at h
        cases h
        exact q_Fx.rf _
    · rw [if_neg c] at h
      cases h
      exact q_Fx.rf _
theorem fxX12_settled_183 {S : QS} {q : Nat} {y2 : Int32} {r : Bool × QS} (h : fX12_settled_183 S q y2 = some r) : q_Fx S ((fun r : Bool × QS => r.2) r) := q_run_fx (fun x : Int32 × QS => x.2) (fun r : Bool × QS => r.2) (fun _ _ hz => fxtX12_settled_183 hz) h
theorem fxtX12_settled_113 {q : Nat}  {x : Int32 × Int32 × QS} {z : ((Bool × QS) ⊕ (Int32 × QS)) ⊕ (Int32 × Int32 × QS)} (h : tX12_settled_113 q x = some z) : q_Fx ((fun x : Int32 × Int32 × QS => x.2.2) x) ((Sum.elim (Sum.elim (fun r : Bool × QS => r.2) (fun x : Int32 × QS => x.2)) (fun x : Int32 × Int32 × QS => x.2.2)) z) := by
  unfold tX12_settled_113 at h
  show q_Fx x.2.2 _
  by_cases c : (x.2.2.2.1 q 2) ≤ x.2.1
  · rw [if_pos c] at h
    cases h
    exact q_Fx.rf _
  · rw [if_neg c] at h
    obtain ⟨hg17, h⟩ := q_guard h
    obtain ⟨hg18, h⟩ := q_guard h
    obtain ⟨hg19, h⟩ := q_guard h
    obtain ⟨hg20, h⟩ := q_guard h
    obtain ⟨r21, e22, h⟩ := q_bind h
    obtain ⟨hg23, h⟩ := q_guard h
    obtain ⟨S24, e25, h⟩ := q_bindS h
    have fx26 : q_Fx x.2.2 S24 := e25 ▸ q_Fx.sI (q_Fx.rf x.2.2)
    cases h
    exact fx26
theorem fxuX12_settled_113 {S : QS} {q : Nat} {y2 : Int32} {y4 : Int32} {r : (Bool × QS) ⊕ (Int32 × QS)} (h : uX12_settled_113 S q y2 y4 = some r) : q_Fx S ((Sum.elim (fun r : Bool × QS => r.2) (fun x : Int32 × QS => x.2)) r) := q_run_fx (fun x : Int32 × Int32 × QS => x.2.2) (Sum.elim (fun r : Bool × QS => r.2) (fun x : Int32 × QS => x.2)) (fun _ _ hz => fxtX12_settled_113 hz) h
theorem fxtX12_settled_66 {q : Nat} {y2 : Int32} {x : Int32 × Int32 × QS} {z : ((Bool × QS) ⊕ (Int32 × QS)) ⊕ (Int32 × Int32 × QS)} (h : tX12_settled_66 q y2 x = some z) : q_Fx ((fun x : Int32 × Int32 × QS => x.2.2) x) ((Sum.elim (Sum.elim (fun r : Bool × QS => r.2) (fun x : Int32 × QS => x.2)) (fun x : Int32 × Int32 × QS => x.2.2)) z) := by
  unfold tX12_settled_66 at h
  show q_Fx x.2.2 _
  by_cases c : (x.2.2.2.1 q 1) ≤ x.2.1
  · rw [if_pos c] at h
    obtain ⟨hg27, h⟩ := q_guard h
    obtain ⟨S28, e29, h⟩ := q_bindS h
    have fx30 : q_Fx x.2.2 S28 := e29 ▸ q_Fx.sI (q_Fx.rf x.2.2)
    obtain ⟨r31, e32, h⟩ := q_bind h
    cases h
    exact (fx30).tr (fxuX12_settled_113 e32)
  · rw [if_neg c] at h
    obtain ⟨hg33, h⟩ := q_guard h
    by_cases c : (x.2.2.2.1 (q + 3) x.2.1.toNatClampNeg) = y2
    · rw [if_pos c] at h
      obtain ⟨hg34, h⟩ := q_guard h
      obtain ⟨S35, e36, h⟩ := q_bindS h
      have fx37 : q_Fx x.2.2 S35 := e36 ▸ q_Fx.sI (q_Fx.rf x.2.2)
      cases h
      exact fx37
    · rw [if_neg c] at h
      cases h
      exact q_Fx.rf _
theorem fxuX12_settled_66 {S : QS} {q : Nat} {y2 : Int32} {y3 : Int32} {y4 : Int32} {r : (Bool × QS) ⊕ (Int32 × QS)} (h : uX12_settled_66 S q y2 y3 y4 = some r) : q_Fx S ((Sum.elim (fun r : Bool × QS => r.2) (fun x : Int32 × QS => x.2)) r) := q_run_fx (fun x : Int32 × Int32 × QS => x.2.2) (Sum.elim (fun r : Bool × QS => r.2) (fun x : Int32 × QS => x.2)) (fun _ _ hz => fxtX12_settled_66 hz) h
theorem fxtX12_settled_29 {q : Nat}  {x : Int32 × QS} {z : (Bool × QS) ⊕ (Int32 × QS)} (h : tX12_settled_29 q x = some z) : q_Fx ((fun x : Int32 × QS => x.2) x) ((Sum.elim (fun r : Bool × QS => r.2) (fun x : Int32 × QS => x.2)) z) := by
  unfold tX12_settled_29 at h
  show q_Fx x.2 _
  obtain ⟨r38, e39, h⟩ := q_bind h
  by_cases c : r38 ≤ x.1
  · rw [if_pos c] at h
    obtain ⟨S40, e41, h⟩ := q_bindS h
    have fx42 : q_Fx x.2 S40 := e41 ▸ q_Fx.sI (q_Fx.rf x.2)
    obtain ⟨r43, e44, h⟩ := q_bind h
    cases h
    exact (fx42).tr (fxX12_settled_183 e44)
  · rw [if_neg c] at h
    obtain ⟨hg45, h⟩ := q_guard h
    by_cases c : 0 ≤ (x.2.2.1 (q + 1) x.1.toNatClampNeg)
    · rw [if_pos c] at h
      obtain ⟨hg46, h⟩ := q_guard h
      obtain ⟨hg47, h⟩ := q_guard h
      exact (q_Fx.rf _).tr (fxuX12_settled_66 h)
    · rw [if_neg c] at h
      exact (q_Fx.rf _).tr (fxuX12_settled_66 h)
theorem fxX12_settled_29 {S : QS} {q : Nat} {y2 : Int32} {r : Bool × QS} (h : fX12_settled_29 S q y2 = some r) : q_Fx S ((fun r : Bool × QS => r.2) r) := q_run_fx (fun x : Int32 × QS => x.2) (fun r : Bool × QS => r.2) (fun _ _ hz => fxtX12_settled_29 hz) h
theorem fxtX12_settled_2 {q : Nat}  {x : Int32 × QS} {z : (Bool × QS) ⊕ (Int32 × QS)} (h : tX12_settled_2 q x = some z) : q_Fx ((fun x : Int32 × QS => x.2) x) ((Sum.elim (fun r : Bool × QS => r.2) (fun x : Int32 × QS => x.2)) z) := by
  unfold tX12_settled_2 at h
  show q_Fx x.2 _
  by_cases c : (6 : Int32) ≤ x.1
  · rw [if_pos c] at h
    obtain ⟨r48, e49, h⟩ := q_bind h
    cases h
    exact (q_Fx.rf _).tr (fxX12_settled_29 e49)
  · rw [if_neg c] at h
    obtain ⟨hg50, h⟩ := q_guard h
    obtain ⟨S51, e52, h⟩ := q_bindS h
    have fx53 : q_Fx x.2 S51 := e52 ▸ q_Fx.sI (q_Fx.rf x.2)
    cases h
    exact fx53
theorem fxX12_settled_2 {S : QS} {q : Nat} {y2 : Int32} {r : Bool × QS} (h : fX12_settled_2 S q y2 = some r) : q_Fx S ((fun r : Bool × QS => r.2) r) := q_run_fx (fun x : Int32 × QS => x.2) (fun r : Bool × QS => r.2) (fun _ _ hz => fxtX12_settled_2 hz) h
theorem fxX12_settled {S : QS} {q : Nat}  {r : Bool × QS} (h : fX12_settled S q = some r) : q_Fx S r.2 := by
  unfold fX12_settled at h
  exact (q_Fx.rf _).tr (fxX12_settled_2 h)
theorem fxX12_added {S : QS}  {x1 : Int32} {x2 : Int32} {r : Bool × QS} (h : fX12_added S x1 x2 = some r) : q_Fx S r.2 := by
  unfold fX12_added at h
  obtain ⟨hg1, h⟩ := q_guard h
  obtain ⟨hg2, h⟩ := q_guard h
  obtain ⟨v3, hv, h⟩ := q_bind h
  obtain ⟨hg4, h⟩ := q_guard h
  obtain ⟨hg5, h⟩ := q_guard h
  obtain ⟨S6, e7, h⟩ := q_bindS h
  have fx8 : q_Fx S S6 := e7 ▸ q_Fx.sI (q_Fx.rf S)
  obtain rfl := Option.some.inj h
  exact fx8
theorem fxtX12_heights_300 {q : Nat} {y2 : Int32} {y5 : Int32} {x : Int32 × Int32 × QS} {z : ((Bool × QS) ⊕ (Int32 × QS)) ⊕ (Int32 × Int32 × QS)} (h : tX12_heights_300 q y2 y5 x = some z) : q_Fx ((fun x : Int32 × Int32 × QS => x.2.2) x) ((Sum.elim (Sum.elim (fun r : Bool × QS => r.2) (fun x : Int32 × QS => x.2)) (fun x : Int32 × Int32 × QS => x.2.2)) z) := by
  unfold tX12_heights_300 at h
  show q_Fx x.2.2 _
  by_cases c : (8 : Int32) < x.2.1
  · rw [if_pos c] at h
    cases h
    exact q_Fx.rf _
  · rw [if_neg c] at h
    by_cases c : y5 = ((1 : Int32) <<< (x.2.1 &&& 31))
    · rw [if_pos c] at h
      obtain ⟨hg1, h⟩ := q_guard h
      obtain ⟨S2, e3, h⟩ := q_bindS h
      have fx4 : q_Fx x.2.2 S2 := e3 ▸ q_Fx.sI (q_Fx.rf x.2.2)
      cases h
      exact fx4
    · rw [if_neg c] at h
      cases h
      exact q_Fx.rf _
theorem fxuX12_heights_300 {S : QS} {q : Nat} {y2 : Int32} {y4 : Int32} {y5 : Int32} {y6 : Int32} {r : (Bool × QS) ⊕ (Int32 × QS)} (h : uX12_heights_300 S q y2 y4 y5 y6 = some r) : q_Fx S ((Sum.elim (fun r : Bool × QS => r.2) (fun x : Int32 × QS => x.2)) r) := q_run_fx (fun x : Int32 × Int32 × QS => x.2.2) (Sum.elim (fun r : Bool × QS => r.2) (fun x : Int32 × QS => x.2)) (fun _ _ hz => fxtX12_heights_300 hz) h
theorem fxtX12_heights_232 {q : Nat} {y2 : Int32} {x : Int32 × QS} {z : (Bool × QS) ⊕ (Int32 × QS)} (h : tX12_heights_232 q y2 x = some z) : q_Fx ((fun x : Int32 × QS => x.2) x) ((Sum.elim (fun r : Bool × QS => r.2) (fun x : Int32 × QS => x.2)) z) := by
  unfold tX12_heights_232 at h
  show q_Fx x.2 _
  obtain ⟨hg5, h⟩ := q_guard h
  by_cases c : (x.2.2.1 (q + 13) y2.toNatClampNeg) ≤ x.1
  · rw [if_pos c] at h
    cases h
    exact q_Fx.rf _
  · rw [if_neg c] at h
    obtain ⟨hg6, h⟩ := q_guard h
    by_cases c : ((x.2.2.1 170 x.1.toNatClampNeg) &&& ((x.2.2.1 170 x.1.toNatClampNeg) - (1 : Int32))) = 0
    · rw [if_pos c] at h
      by_cases c : (x.2.2.1 170 x.1.toNatClampNeg) = 0
      · rw [if_pos c] at h
        obtain ⟨hg11, h⟩ := q_guard h
        obtain ⟨S12, e13, h⟩ := q_bindS h
        have fx14 : q_Fx x.2 S12 := e13 ▸ q_Fx.sI (q_Fx.rf x.2)
        exact (fx14).tr (fxuX12_heights_300 h)
      · rw [if_neg c] at h
        obtain ⟨r15, e16, h⟩ := q_bind h
        by_cases c : r15 = 0
        · rw [if_pos c] at h
          obtain ⟨hg21, h⟩ := q_guard h
          obtain ⟨r22, e23, h⟩ := q_bind h
          have fx24 : q_Fx x.2 r22.2 := q_Fx.tr (q_Fx.rf x.2) (fxX12_wrong e23)
          cases h
          exact fx24
        · rw [if_neg c] at h
          obtain ⟨hg17, h⟩ := q_guard h
          obtain ⟨S18, e19, h⟩ := q_bindS h
          have fx20 : q_Fx x.2 S18 := e19 ▸ q_Fx.sI (q_Fx.rf x.2)
          exact (fx20).tr (fxuX12_heights_300 h)
    · rw [if_neg c] at h
      obtain ⟨hg7, h⟩ := q_guard h
      obtain ⟨r8, e9, h⟩ := q_bind h
      have fx10 : q_Fx x.2 r8.2 := q_Fx.tr (q_Fx.rf x.2) (fxX12_wrong e9)
      cases h
      exact fx10
theorem fxX12_heights_232 {S : QS} {q : Nat} {y2 : Int32} {y4 : Int32} {r : Bool × QS} (h : fX12_heights_232 S q y2 y4 = some r) : q_Fx S ((fun r : Bool × QS => r.2) r) := q_run_fx (fun x : Int32 × QS => x.2) (fun r : Bool × QS => r.2) (fun _ _ hz => fxtX12_heights_232 hz) h
theorem fxtX12_heights_164 {q : Nat} {y2 : Int32} {x : Int32 × Int32 × Int32 × QS} {z : (((Bool × QS) ⊕ (Int32 × QS)) ⊕ (Int32 × Int32 × QS)) ⊕ (Int32 × Int32 × Int32 × QS)} (h : tX12_heights_164 q y2 x = some z) : q_Fx ((fun x : Int32 × Int32 × Int32 × QS => x.2.2.2) x) ((Sum.elim (Sum.elim (Sum.elim (fun r : Bool × QS => r.2) (fun x : Int32 × QS => x.2)) (fun x : Int32 × Int32 × QS => x.2.2)) (fun x : Int32 × Int32 × Int32 × QS => x.2.2.2)) z) := by
  unfold tX12_heights_164 at h
  show q_Fx x.2.2.2 _
  by_cases c : (x.2.2.2.2.1 q 5) ≤ x.2.2.1
  · rw [if_pos c] at h
    cases h
    exact q_Fx.rf _
  · rw [if_neg c] at h
    obtain ⟨r25, e26, h⟩ := q_bind h
    by_cases c : r25 = true
    · rw [if_pos c] at h
      obtain ⟨hg27, h⟩ := q_guard h
      obtain ⟨r28, e29, h⟩ := q_bind h
      have fx30 : q_Fx x.2.2.2 r28.2 := q_Fx.tr (q_Fx.rf x.2.2.2) (fxX12_added e29)
      by_cases c : r28.1 = true
      · rw [if_pos c] at h
        cases h
        exact fx30
      · rw [if_neg c] at h
        by_cases c : x.1 = 0
        · rw [if_pos c] at h
          cases h
          exact fx30
        · rw [if_neg c] at h
          cases h
          exact fx30
    · rw [if_neg c] at h
      cases h
      exact q_Fx.rf _
theorem fxuX12_heights_164 {S : QS} {q : Nat} {y2 : Int32} {y3 : Int32} {y4 : Int32} {y6 : Int32} {r : ((Bool × QS) ⊕ (Int32 × QS)) ⊕ (Int32 × Int32 × QS)} (h : uX12_heights_164 S q y2 y3 y4 y6 = some r) : q_Fx S ((Sum.elim (Sum.elim (fun r : Bool × QS => r.2) (fun x : Int32 × QS => x.2)) (fun x : Int32 × Int32 × QS => x.2.2)) r) := q_run_fx (fun x : Int32 × Int32 × Int32 × QS => x.2.2.2) (Sum.elim (Sum.elim (fun r : Bool × QS => r.2) (fun x : Int32 × QS => x.2)) (fun x : Int32 × Int32 × QS => x.2.2)) (fun _ _ hz => fxtX12_heights_164 hz) h
theorem fxtX12_heights_58 {q : Nat} {y2 : Int32} {x : Int32 × Int32 × QS} {z : ((Bool × QS) ⊕ (Int32 × QS)) ⊕ (Int32 × Int32 × QS)} (h : tX12_heights_58 q y2 x = some z) : q_Fx ((fun x : Int32 × Int32 × QS => x.2.2) x) ((Sum.elim (Sum.elim (fun r : Bool × QS => r.2) (fun x : Int32 × QS => x.2)) (fun x : Int32 × Int32 × QS => x.2.2)) z) := by
  unfold tX12_heights_58 at h
  show q_Fx x.2.2 _
  obtain ⟨hg31, h⟩ := q_guard h
  by_cases c : (x.2.2.2.1 (q + 13) y2.toNatClampNeg) ≤ x.2.1
  · rw [if_pos c] at h
    cases h
    exact q_Fx.rf _
  · rw [if_neg c] at h
    obtain ⟨r32, e33, h⟩ := q_bind h
    by_cases c : r32 = 0
    · rw [if_pos c] at h
      cases h
      exact q_Fx.rf _
    · rw [if_neg c] at h
      obtain ⟨hg34, h⟩ := q_guard h
      obtain ⟨r35, e36, h⟩ := q_bind h
      obtain ⟨v41, hv, h⟩ := q_bind h
      have fx42 : q_Fx x.2.2 v41.2 := by
        replace h := hv
        by_cases c : r35 = true
        · rw [if_pos c] at h
          obtain ⟨r37, e38, h⟩ := q_bind h
          have fx39 : q_Fx x.2.2 r37.2 := q_Fx.tr (q_Fx.rf x.2.2) (fxX12_added e38)
          obtain ⟨v40, hv, h⟩ := q_bind h
          obtain rfl := Option.some.inj h
          exact fx39
        · rw [if_neg c] at h
          obtain rfl := Option.some.inj h
          exact q_Fx.rf _
      obtain ⟨hg43, h⟩ := q_guard h
      obtain ⟨r44, e45, h⟩ := q_bind h
      by_cases c : r44 = true
      · rw [if_pos c] at h
        obtain ⟨hg46, h⟩ := q_guard h
        obtain ⟨r47, e48, h⟩ := q_bind h
        have fx49 : q_Fx x.2.2 r47.2 := q_Fx.tr (fx42) (fxX12_added e48)
        by_cases c : r47.1 = true
        · rw [if_pos c] at h
          exact (fx49).tr (fxuX12_heights_164 h)
        · rw [if_neg c] at h
          by_cases c : v41.1 = 0
          · rw [if_pos c] at h
            exact (fx49).tr (fxuX12_heights_164 h)
          · rw [if_neg c] at h
            exact (fx49).tr (fxuX12_heights_164 h)
      · rw [if_neg c] at h
        exact (fx42).tr (fxuX12_heights_164 h)
theorem fxuX12_heights_58 {S : QS} {q : Nat} {y2 : Int32} {y3 : Int32} {y4 : Int32} {r : (Bool × QS) ⊕ (Int32 × QS)} (h : uX12_heights_58 S q y2 y3 y4 = some r) : q_Fx S ((Sum.elim (fun r : Bool × QS => r.2) (fun x : Int32 × QS => x.2)) r) := q_run_fx (fun x : Int32 × Int32 × QS => x.2.2) (Sum.elim (fun r : Bool × QS => r.2) (fun x : Int32 × QS => x.2)) (fun _ _ hz => fxtX12_heights_58 hz) h
theorem fxtX12_heights_44 {q : Nat} {y2 : Int32} {x : Int32 × QS} {z : (Bool × QS) ⊕ (Int32 × QS)} (h : tX12_heights_44 q y2 x = some z) : q_Fx ((fun x : Int32 × QS => x.2) x) ((Sum.elim (fun r : Bool × QS => r.2) (fun x : Int32 × QS => x.2)) z) := by
  unfold tX12_heights_44 at h
  show q_Fx x.2 _
  by_cases c : x.1 = 0
  · rw [if_pos c] at h
    obtain ⟨hg50, h⟩ := q_guard h
    obtain ⟨r51, e52, h⟩ := q_bind h
    cases h
    exact (q_Fx.rf _).tr (fxX12_heights_232 e52)
  · rw [if_neg c] at h
    obtain ⟨hg53, h⟩ := q_guard h
    exact (q_Fx.rf _).tr (fxuX12_heights_58 h)
theorem fxX12_heights_44 {S : QS} {q : Nat} {y2 : Int32} {y3 : Int32} {r : Bool × QS} (h : fX12_heights_44 S q y2 y3 = some r) : q_Fx S ((fun r : Bool × QS => r.2) r) := q_run_fx (fun x : Int32 × QS => x.2) (fun r : Bool × QS => r.2) (fun _ _ hz => fxtX12_heights_44 hz) h
theorem fxtX12_heights_7 {q : Nat} {y2 : Int32} {x : Int32 × QS} {z : (Bool × QS) ⊕ (Int32 × QS)} (h : tX12_heights_7 q y2 x = some z) : q_Fx ((fun x : Int32 × QS => x.2) x) ((Sum.elim (fun r : Bool × QS => r.2) (fun x : Int32 × QS => x.2)) z) := by
  unfold tX12_heights_7 at h
  show q_Fx x.2 _
  obtain ⟨hg54, h⟩ := q_guard h
  by_cases c : (x.2.2.1 (q + 13) y2.toNatClampNeg) ≤ x.1
  · rw [if_pos c] at h
    obtain ⟨hg55, h⟩ := q_guard h
    obtain ⟨hg56, h⟩ := q_guard h
    obtain ⟨S57, e58, h⟩ := q_bindS h
    have fx59 : q_Fx x.2 S57 := e58 ▸ q_Fx.sI (q_Fx.rf x.2)
    obtain ⟨r60, e61, h⟩ := q_bind h
    cases h
    exact (fx59).tr (fxX12_heights_44 e61)
  · rw [if_neg c] at h
    obtain ⟨hg62, h⟩ := q_guard h
    obtain ⟨S63, e64, h⟩ := q_bindS h
    have fx65 : q_Fx x.2 S63 := e64 ▸ q_Fx.sI (q_Fx.rf x.2)
    cases h
    exact fx65
theorem fxX12_heights_7 {S : QS} {q : Nat} {y2 : Int32} {y3 : Int32} {r : Bool × QS} (h : fX12_heights_7 S q y2 y3 = some r) : q_Fx S ((fun r : Bool × QS => r.2) r) := q_run_fx (fun x : Int32 × QS => x.2) (fun r : Bool × QS => r.2) (fun _ _ hz => fxtX12_heights_7 hz) h
theorem fxX12_heights {S : QS} {q : Nat} {x2 : Int32} {r : Bool × QS} (h : fX12_heights S q x2 = some r) : q_Fx S r.2 := by
  unfold fX12_heights at h
  obtain ⟨hg66, h⟩ := q_guard h
  exact (q_Fx.rf _).tr (fxX12_heights_7 h)
theorem fxtX12_typesAt_2 {q : Nat} {y2 : Int32} {x : Int32 × QS} {z : (QS) ⊕ (Int32 × QS)} (h : tX12_typesAt_2 q y2 x = some z) : q_Fx ((fun x : Int32 × QS => x.2) x) ((Sum.elim (fun r : QS => r) (fun x : Int32 × QS => x.2)) z) := by
  unfold tX12_typesAt_2 at h
  show q_Fx x.2 _
  by_cases c : (20 : Int32) ≤ x.1
  · rw [if_pos c] at h
    obtain ⟨hg1, h⟩ := q_guard h
    obtain ⟨S2, e3, h⟩ := q_bindS h
    have fx4 : q_Fx x.2 S2 := e3 ▸ q_Fx.sI (q_Fx.rf x.2)
    cases h
    exact fx4
  · rw [if_neg c] at h
    obtain ⟨hg5, h⟩ := q_guard h
    obtain ⟨hg6, h⟩ := q_guard h
    obtain ⟨S7, e8, h⟩ := q_bindS h
    have fx9 : q_Fx x.2 S7 := e8 ▸ q_Fx.sI (q_Fx.rf x.2)
    cases h
    exact fx9
theorem fxX12_typesAt_2 {S : QS} {q : Nat} {y2 : Int32} {y3 : Int32} {r : QS} (h : fX12_typesAt_2 S q y2 y3 = some r) : q_Fx S ((fun r : QS => r) r) := q_run_fx (fun x : Int32 × QS => x.2) (fun r : QS => r) (fun _ _ hz => fxtX12_typesAt_2 hz) h
theorem fxX12_typesAt {S : QS} {q : Nat} {x2 : Int32} {r : QS} (h : fX12_typesAt S q x2 = some r) : q_Fx S r := by
  unfold fX12_typesAt at h
  exact (q_Fx.rf _).tr (fxX12_typesAt_2 h)
theorem fxtX12_typesTo_18 {q : Nat} {y2 : Int32} {x : Int32 × Int32 × QS} {z : (Bool × QS) ⊕ (Int32 × Int32 × QS)} (h : tX12_typesTo_18 q y2 x = some z) : q_Fx ((fun x : Int32 × Int32 × QS => x.2.2) x) ((Sum.elim (fun r : Bool × QS => r.2) (fun x : Int32 × Int32 × QS => x.2.2)) z) := by
  unfold tX12_typesTo_18 at h
  show q_Fx x.2.2 _
  obtain ⟨hg1, h⟩ := q_guard h
  by_cases c : ((12 : Int32) + (x.2.2.2.1 (q + 19) y2.toNatClampNeg)) ≤ x.2.1
  · rw [if_pos c] at h
    obtain ⟨hg2, h⟩ := q_guard h
    obtain ⟨S3, e4, h⟩ := q_bindS h
    have fx5 : q_Fx x.2.2 S3 := e4 ▸ q_Fx.sI (q_Fx.rf x.2.2)
    obtain ⟨hgb, h⟩ := q_guard h
    cases h
    exact fx5
  · rw [if_neg c] at h
    obtain ⟨hg6, h⟩ := q_guard h
    obtain ⟨v12, hv, h⟩ := q_bind h
    obtain ⟨v14, hv, h⟩ := q_bind h
    obtain ⟨hg15, h⟩ := q_guard h
    obtain ⟨S16, e17, h⟩ := q_bindS h
    have fx18 : q_Fx x.2.2 S16 := e17 ▸ q_Fx.sI (q_Fx.rf x.2.2)
    cases h
    exact fx18
theorem fxX12_typesTo_18 {S : QS} {q : Nat} {y2 : Int32} {y3 : Int32} {y4 : Int32} {r : Bool × QS} (h : fX12_typesTo_18 S q y2 y3 y4 = some r) : q_Fx S ((fun r : Bool × QS => r.2) r) := q_run_fx (fun x : Int32 × Int32 × QS => x.2.2) (fun r : Bool × QS => r.2) (fun _ _ hz => fxtX12_typesTo_18 hz) h
theorem fxX12_typesTo {S : QS} {q : Nat} {x2 : Int32} {r : Bool × QS} (h : fX12_typesTo S q x2 = some r) : q_Fx S r.2 := by
  unfold fX12_typesTo at h
  obtain ⟨hg19, h⟩ := q_guard h
  by_cases c : (S.2.1 (q + 27) x2.toNatClampNeg) = 0
  · rw [if_pos c] at h
    exact (q_Fx.rf _).tr (fxX12_typesTo_18 h)
  · rw [if_neg c] at h
    exact (q_Fx.rf _).tr (fxX12_typesTo_18 h)
theorem fxX12_leave {S : QS}  {x1 : Int32} {r : QS} (h : fX12_leave S x1 = some r) : q_Fx S r := by
  unfold fX12_leave at h
  obtain ⟨hg1, h⟩ := q_guard h
  obtain ⟨S2, e3, h⟩ := q_bindS h
  have fx4 : q_Fx S S2 := e3 ▸ q_Fx.sI (q_Fx.rf S)
  obtain ⟨S5, e6, h⟩ := q_bindS h
  have fx7 : q_Fx S S5 := e6 ▸ q_Fx.sI (fx4)
  obtain rfl := Option.some.inj h
  exact fx7
theorem fxX12_typesBehind {S : QS} {q : Nat} {x2 : Int32} {r : QS} (h : fX12_typesBehind S q x2 = some r) : q_Fx S r := by
  unfold fX12_typesBehind at h
  obtain ⟨hg1, h⟩ := q_guard h
  obtain ⟨hg2, h⟩ := q_guard h
  obtain ⟨v4, hv, h⟩ := q_bind h
  obtain ⟨v6, hv, h⟩ := q_bind h
  obtain ⟨r7, e8, h⟩ := q_bind h
  obtain ⟨S9, e10, h⟩ := q_bindS h
  have fx11 : q_Fx S S9 := e10 ▸ q_Fx.sI (q_Fx.rf S)
  by_cases c12 : (S.2.1 (q + 15) x2.toNatClampNeg) = (1 : Int32)
  · rw [if_pos c12] at h
    obtain ⟨r13, e14, h⟩ := q_bind h
    have fx15 : q_Fx S r13 := q_Fx.tr (fx11) (fxX12_leave e14)
    obtain rfl := Option.some.inj h
    exact fx15
  rw [if_neg c12] at h
  by_cases c16 : (S.2.1 (q + 15) x2.toNatClampNeg) = (2 : Int32)
  · rw [if_pos c16] at h
    obtain ⟨hg17, h⟩ := q_guard h
    obtain ⟨r18, e19, h⟩ := q_bind h
    have fx20 : q_Fx S r18 := q_Fx.tr (fx11) (fxX12_leave e19)
    obtain rfl := Option.some.inj h
    exact fx20
  rw [if_neg c16] at h
  by_cases c21 : (S.2.1 (q + 15) x2.toNatClampNeg) = (3 : Int32)
  · rw [if_pos c21] at h
    obtain ⟨hg22, h⟩ := q_guard h
    obtain ⟨S23, e24, h⟩ := q_bindS h
    have fx25 : q_Fx S S23 := e24 ▸ q_Fx.sI (fx11)
    obtain rfl := Option.some.inj h
    exact fx25
  rw [if_neg c21] at h
  by_cases c26 : (S.2.1 (q + 15) x2.toNatClampNeg) = (5 : Int32)
  · rw [if_pos c26] at h
    obtain ⟨r27, e28, h⟩ := q_bind h
    have fx29 : q_Fx S r27 := q_Fx.tr (fx11) (fxX12_leave e28)
    obtain ⟨r30, e31, h⟩ := q_bind h
    have fx32 : q_Fx S r30 := q_Fx.tr (fx29) (fxX12_leave e31)
    obtain rfl := Option.some.inj h
    exact fx32
  rw [if_neg c26] at h
  by_cases c33 : (S.2.1 (q + 15) x2.toNatClampNeg) = (7 : Int32)
  · rw [if_pos c33] at h
    obtain ⟨r34, e35, h⟩ := q_bind h
    have fx36 : q_Fx S r34 := q_Fx.tr (fx11) (fxX12_leave e35)
    obtain ⟨r37, e38, h⟩ := q_bind h
    have fx39 : q_Fx S r37 := q_Fx.tr (fx36) (fxX12_leave e38)
    obtain rfl := Option.some.inj h
    exact fx39
  rw [if_neg c33] at h
  by_cases c40 : (S.2.1 (q + 15) x2.toNatClampNeg) = (30 : Int32) ∨ (S.2.1 (q + 15) x2.toNatClampNeg) = (31 : Int32)
  · rw [if_pos c40] at h
    obtain ⟨hg41, h⟩ := q_guard h
    obtain ⟨r42, e43, h⟩ := q_bind h
    have fx44 : q_Fx S r42 := q_Fx.tr (fx11) (fxX12_leave e43)
    obtain rfl := Option.some.inj h
    exact fx44
  rw [if_neg c40] at h
  by_cases c45 : (S.2.1 (q + 15) x2.toNatClampNeg) = (33 : Int32)
  · rw [if_pos c45] at h
    obtain ⟨r46, e47, h⟩ := q_bind h
    obtain ⟨r48, e49, h⟩ := q_bind h
    have fx50 : q_Fx S r48 := q_Fx.tr (fx11) (fxX12_leave e49)
    obtain rfl := Option.some.inj h
    exact fx50
  rw [if_neg c45] at h
  by_cases c51 : (S.2.1 (q + 15) x2.toNatClampNeg) = (35 : Int32)
  · rw [if_pos c51] at h
    obtain ⟨hg52, h⟩ := q_guard h
    obtain ⟨r53, e54, h⟩ := q_bind h
    have fx55 : q_Fx S r53 := q_Fx.tr (fx11) (fxX12_leave e54)
    obtain rfl := Option.some.inj h
    exact fx55
  rw [if_neg c51] at h
  by_cases c56 : (S.2.1 (q + 15) x2.toNatClampNeg) = (37 : Int32)
  · rw [if_pos c56] at h
    obtain ⟨r57, e58, h⟩ := q_bind h
    have fx59 : q_Fx S r57 := q_Fx.tr (fx11) (fxX12_leave e58)
    obtain rfl := Option.some.inj h
    exact fx59
  rw [if_neg c56] at h
  by_cases c60 : (S.2.1 (q + 15) x2.toNatClampNeg) = (39 : Int32) ∨ (S.2.1 (q + 15) x2.toNatClampNeg) = (40 : Int32)
  · rw [if_pos c60] at h
    obtain ⟨hg61, h⟩ := q_guard h
    by_cases c : (S9.2.1 (q + 10) (S.2.1 (q + 16) x2.toNatClampNeg).toNatClampNeg) = (-1 : Int32)
    · rw [if_pos c] at h
      obtain rfl := Option.some.inj h
      exact fx11
    · rw [if_neg c] at h
      obtain ⟨hg62, h⟩ := q_guard h
      obtain ⟨r63, e64, h⟩ := q_bind h
      have fx65 : q_Fx S r63 := q_Fx.tr (fx11) (fxX12_leave e64)
      obtain rfl := Option.some.inj h
      exact fx65
  rw [if_neg c60] at h
  obtain ⟨r66, e67, h⟩ := q_bind h
  by_cases c : r66 = (1 : Int32)
  · rw [if_pos c] at h
    obtain ⟨r68, e69, h⟩ := q_bind h
    have fx70 : q_Fx S r68 := q_Fx.tr (fx11) (fxX12_leave e69)
    obtain rfl := Option.some.inj h
    exact fx70
  · rw [if_neg c] at h
    obtain rfl := Option.some.inj h
    exact fx11
theorem fxX12_typesOn_119 {S : QS} {q : Nat} {y2 : Int32} {y3 : Int32} {y4 : Int32} {r : Bool × QS} (h : fX12_typesOn_119 S q y2 y3 y4 = some r) : q_Fx S r.2 := by
  unfold fX12_typesOn_119 at h
  obtain ⟨r1, e2, h⟩ := q_bind h
  have fx3 : q_Fx S r1 := q_Fx.tr (q_Fx.rf S) (fxX12_typesBehind e2)
  obtain ⟨r4, e5, h⟩ := q_bind h
  obtain ⟨v10, hv, h⟩ := q_bind h
  have fx11 : q_Fx S v10.2 := by
    replace h := hv
    by_cases c : r4 = true
    · rw [if_pos c] at h
      obtain ⟨r6, e7, h⟩ := q_bind h
      have fx8 : q_Fx S r6.2 := q_Fx.tr (fx3) (fxX12_typesTo e7)
      obtain ⟨v9, hv, h⟩ := q_bind h
      obtain rfl := Option.some.inj h
      exact fx8
    · rw [if_neg c] at h
      obtain rfl := Option.some.inj h
      exact fx3
  obtain ⟨r12, e13, h⟩ := q_bind h
  by_cases c : r12 = true
  · rw [if_pos c] at h
    obtain ⟨hg14, h⟩ := q_guard h
    obtain ⟨r15, e16, h⟩ := q_bind h
    have fx17 : q_Fx S r15.2 := q_Fx.tr (fx11) (fxX12_typesTo e16)
    by_cases c : r15.1 = true
    · rw [if_pos c] at h
      obtain rfl := Option.some.inj h
      exact fx17
    · rw [if_neg c] at h
      by_cases c : v10.1 = 0
      · rw [if_pos c] at h
        obtain rfl := Option.some.inj h
        exact fx17
      · rw [if_neg c] at h
        obtain rfl := Option.some.inj h
        exact fx17
  · rw [if_neg c] at h
    obtain ⟨hgb, h⟩ := q_guard h
    obtain rfl := Option.some.inj h
    exact fx11
theorem fxtX12_typesOn_5 {q : Nat} {y2 : Int32} {x : Int32 × Int32 × QS} {z : (Bool × QS) ⊕ (Int32 × Int32 × QS)} (h : tX12_typesOn_5 q y2 x = some z) : q_Fx ((fun x : Int32 × Int32 × QS => x.2.2) x) ((Sum.elim (fun r : Bool × QS => r.2) (fun x : Int32 × Int32 × QS => x.2.2)) z) := by
  unfold tX12_typesOn_5 at h
  show q_Fx x.2.2 _
  by_cases c : (x.2.2.2.1 q 5) ≤ x.2.1
  · rw [if_pos c] at h
    obtain ⟨r18, e19, h⟩ := q_bind h
    have fx20 : q_Fx x.2.2 r18 := q_Fx.tr (q_Fx.rf x.2.2) (fxX12_typesAt e19)
    obtain ⟨hg21, h⟩ := q_guard h
    by_cases c : (r18.2.1 (q + 15) y2.toNatClampNeg) = (33 : Int32)
    · rw [if_pos c] at h
      obtain ⟨hg24, h⟩ := q_guard h
      by_cases c : (r18.2.1 171 ((r18.2.1 102 23) - (2 : Int32)).toNatClampNeg) = (1 : Int32)
      · rw [if_pos c] at h
        obtain ⟨hgb, h⟩ := q_guard h
        cases h
        exact fx20
      · rw [if_neg c] at h
        obtain ⟨r25, e26, h⟩ := q_bind h
        cases h
        exact (fx20).tr (fxX12_typesOn_119 e26)
    · rw [if_neg c] at h
      obtain ⟨r22, e23, h⟩ := q_bind h
      cases h
      exact (fx20).tr (fxX12_typesOn_119 e23)
  · rw [if_neg c] at h
    obtain ⟨r27, e28, h⟩ := q_bind h
    by_cases c : r27 = true
    · rw [if_pos c] at h
      obtain ⟨r29, e30, h⟩ := q_bind h
      have fx31 : q_Fx x.2.2 r29 := q_Fx.tr (q_Fx.rf x.2.2) (fxX12_typesAt e30)
      obtain ⟨hg32, h⟩ := q_guard h
      obtain ⟨hg33, h⟩ := q_guard h
      obtain ⟨S34, e35, h⟩ := q_bindS h
      have fx36 : q_Fx x.2.2 S34 := e35 ▸ q_Fx.sI (fx31)
      obtain ⟨hg37, h⟩ := q_guard h
      obtain ⟨r38, e39, h⟩ := q_bind h
      have fx40 : q_Fx x.2.2 r38.2 := q_Fx.tr (fx36) (fxX12_typesTo e39)
      by_cases c : r38.1 = true
      · rw [if_pos c] at h
        cases h
        exact fx40
      · rw [if_neg c] at h
        by_cases c : x.1 = 0
        · rw [if_pos c] at h
          cases h
          exact fx40
        · rw [if_neg c] at h
          cases h
          exact fx40
    · rw [if_neg c] at h
      cases h
      exact q_Fx.rf _
theorem fxX12_typesOn_5 {S : QS} {q : Nat} {y2 : Int32} {y3 : Int32} {y4 : Int32} {r : Bool × QS} (h : fX12_typesOn_5 S q y2 y3 y4 = some r) : q_Fx S ((fun r : Bool × QS => r.2) r) := q_run_fx (fun x : Int32 × Int32 × QS => x.2.2) (fun r : Bool × QS => r.2) (fun _ _ hz => fxtX12_typesOn_5 hz) h
theorem fxX12_typesOn {S : QS} {q : Nat} {x2 : Int32} {r : Bool × QS} (h : fX12_typesOn S q x2 = some r) : q_Fx S r.2 := by
  unfold fX12_typesOn at h
  exact (q_Fx.rf _).tr (fxX12_typesOn_5 h)
theorem fxX12_fits {S : QS} {q : Nat} {x2 : Int32} {r : Bool × QS} (h : fX12_fits S q x2 = some r) : q_Fx S r.2 := by
  unfold fX12_fits at h
  obtain ⟨r1, e2, h⟩ := q_bind h
  have fx3 : q_Fx S r1 := q_Fx.tr (q_Fx.rf S) (fxX12_typesAt e2)
  obtain ⟨hg4, h⟩ := q_guard h
  obtain ⟨hg5, h⟩ := q_guard h
  obtain ⟨r6, e7, h⟩ := q_bind h
  obtain ⟨v9, hv, h⟩ := q_bind h
  obtain ⟨v11, hv, h⟩ := q_bind h
  by_cases c12 : (r1.2.1 (q + 15) x2.toNatClampNeg) = (2 : Int32)
  · rw [if_pos c12] at h
    obtain ⟨hg13, h⟩ := q_guard h
    by_cases c : (r1.2.1 171 (r1.2.1 (q + 16) x2.toNatClampNeg).toNatClampNeg) = (2 : Int32)
    · rw [if_pos c] at h
      obtain rfl := Option.some.inj h
      exact fx3
    · rw [if_neg c] at h
      obtain rfl := Option.some.inj h
      exact fx3
  rw [if_neg c12] at h
  by_cases c14 : (r1.2.1 (q + 15) x2.toNatClampNeg) = (4 : Int32)
  · rw [if_pos c14] at h
    obtain ⟨hg15, h⟩ := q_guard h
    by_cases c : (r1.2.1 171 (r1.2.1 (q + 16) x2.toNatClampNeg).toNatClampNeg) = 0
    · rw [if_pos c] at h
      obtain rfl := Option.some.inj h
      exact fx3
    · rw [if_neg c] at h
      obtain rfl := Option.some.inj h
      exact fx3
  rw [if_neg c14] at h
  by_cases c16 : (r1.2.1 (q + 15) x2.toNatClampNeg) = (18 : Int32) ∨ (r1.2.1 (q + 15) x2.toNatClampNeg) = (31 : Int32) ∨ (r1.2.1 (q + 15) x2.toNatClampNeg) = (45 : Int32)
  · rw [if_pos c16] at h
    by_cases c : v9 = 0
    · rw [if_pos c] at h
      obtain rfl := Option.some.inj h
      exact fx3
    · rw [if_neg c] at h
      obtain rfl := Option.some.inj h
      exact fx3
  rw [if_neg c16] at h
  by_cases c17 : (r1.2.1 (q + 15) x2.toNatClampNeg) = (26 : Int32) ∨ (r1.2.1 (q + 15) x2.toNatClampNeg) = (27 : Int32) ∨ (r1.2.1 (q + 15) x2.toNatClampNeg) = (37 : Int32) ∨ (r1.2.1 (q + 15) x2.toNatClampNeg) = (38 : Int32)
  · rw [if_pos c17] at h
    obtain ⟨r18, e19, h⟩ := q_bind h
    obtain rfl := Option.some.inj h
    exact fx3
  rw [if_neg c17] at h
  by_cases c20 : (r1.2.1 (q + 15) x2.toNatClampNeg) = (28 : Int32) ∨ (r1.2.1 (q + 15) x2.toNatClampNeg) = (29 : Int32)
  · rw [if_pos c20] at h
    obtain ⟨r21, e22, h⟩ := q_bind h
    by_cases c : r21 = true
    · rw [if_pos c] at h
      obtain ⟨r23, e24, h⟩ := q_bind h
      by_cases c : r23 = true
      · rw [if_pos c] at h
        obtain rfl := Option.some.inj h
        exact fx3
      · rw [if_neg c] at h
        obtain rfl := Option.some.inj h
        exact fx3
    · rw [if_neg c] at h
      obtain rfl := Option.some.inj h
      exact fx3
  rw [if_neg c20] at h
  by_cases c25 : (r1.2.1 (q + 15) x2.toNatClampNeg) = (32 : Int32)
  · rw [if_pos c25] at h
    by_cases c : v9 = (1 : Int32)
    · rw [if_pos c] at h
      obtain rfl := Option.some.inj h
      exact fx3
    · rw [if_neg c] at h
      obtain ⟨r26, e27, h⟩ := q_bind h
      by_cases c : r26 = true
      · rw [if_pos c] at h
        obtain rfl := Option.some.inj h
        exact fx3
      · rw [if_neg c] at h
        obtain rfl := Option.some.inj h
        exact fx3
  rw [if_neg c25] at h
  by_cases c28 : (r1.2.1 (q + 15) x2.toNatClampNeg) = (33 : Int32)
  · rw [if_pos c28] at h
    by_cases c : v9 = 0
    · rw [if_pos c] at h
      by_cases c : v11 = (1 : Int32)
      · rw [if_pos c] at h
        obtain rfl := Option.some.inj h
        exact fx3
      · rw [if_neg c] at h
        obtain ⟨r29, e30, h⟩ := q_bind h
        by_cases c : r29 = true
        · rw [if_pos c] at h
          obtain rfl := Option.some.inj h
          exact fx3
        · rw [if_neg c] at h
          obtain rfl := Option.some.inj h
          exact fx3
    · rw [if_neg c] at h
      obtain rfl := Option.some.inj h
      exact fx3
  rw [if_neg c28] at h
  by_cases c31 : (r1.2.1 (q + 15) x2.toNatClampNeg) = (34 : Int32)
  · rw [if_pos c31] at h
    by_cases c : v11 = 0
    · rw [if_pos c] at h
      obtain ⟨hg32, h⟩ := q_guard h
      obtain ⟨r33, e34, h⟩ := q_bind h
      by_cases c : r33 = true
      · rw [if_pos c] at h
        obtain rfl := Option.some.inj h
        exact fx3
      · rw [if_neg c] at h
        obtain rfl := Option.some.inj h
        exact fx3
    · rw [if_neg c] at h
      obtain rfl := Option.some.inj h
      exact fx3
  rw [if_neg c31] at h
  by_cases c35 : (r1.2.1 (q + 15) x2.toNatClampNeg) = (35 : Int32)
  · rw [if_pos c35] at h
    obtain ⟨hg36, h⟩ := q_guard h
    obtain ⟨r37, e38, h⟩ := q_bind h
    obtain rfl := Option.some.inj h
    exact fx3
  rw [if_neg c35] at h
  by_cases c39 : (r1.2.1 (q + 15) x2.toNatClampNeg) = (36 : Int32)
  · rw [if_pos c39] at h
    obtain ⟨hg40, h⟩ := q_guard h
    obtain ⟨r41, e42, h⟩ := q_bind h
    by_cases c : r41 = true
    · rw [if_pos c] at h
      obtain ⟨hg43, h⟩ := q_guard h
      obtain ⟨r44, e45, h⟩ := q_bind h
      by_cases c : r44 = true
      · rw [if_pos c] at h
        obtain rfl := Option.some.inj h
        exact fx3
      · rw [if_neg c] at h
        obtain rfl := Option.some.inj h
        exact fx3
    · rw [if_neg c] at h
      obtain rfl := Option.some.inj h
      exact fx3
  rw [if_neg c39] at h
  by_cases c46 : (r1.2.1 (q + 15) x2.toNatClampNeg) = (39 : Int32) ∨ (r1.2.1 (q + 15) x2.toNatClampNeg) = (40 : Int32)
  · rw [if_pos c46] at h
    obtain ⟨r47, e48, h⟩ := q_bind h
    obtain rfl := Option.some.inj h
    exact fx3
  rw [if_neg c46] at h
  by_cases c49 : (r1.2.1 (q + 15) x2.toNatClampNeg) = (41 : Int32)
  · rw [if_pos c49] at h
    obtain ⟨r50, e51, h⟩ := q_bind h
    obtain rfl := Option.some.inj h
    exact fx3
  rw [if_neg c49] at h
  by_cases c52 : (r1.2.1 (q + 15) x2.toNatClampNeg) = (42 : Int32)
  · rw [if_pos c52] at h
    obtain ⟨hg53, h⟩ := q_guard h
    obtain ⟨hg54, h⟩ := q_guard h
    by_cases c : (r1.2.1 (q + 10) (r1.2.1 (q + 18) x2.toNatClampNeg).toNatClampNeg) = (-1 : Int32)
    · rw [if_pos c] at h
      obtain rfl := Option.some.inj h
      exact fx3
    · rw [if_neg c] at h
      obtain ⟨hg55, h⟩ := q_guard h
      obtain ⟨hg56, h⟩ := q_guard h
      obtain ⟨r57, e58, h⟩ := q_bind h
      by_cases c : r57 = true
      · rw [if_pos c] at h
        obtain rfl := Option.some.inj h
        exact fx3
      · rw [if_neg c] at h
        obtain rfl := Option.some.inj h
        exact fx3
  rw [if_neg c52] at h
  by_cases c59 : (r1.2.1 (q + 15) x2.toNatClampNeg) = (43 : Int32)
  · rw [if_pos c59] at h
    obtain ⟨hg60, h⟩ := q_guard h
    obtain ⟨hg61, h⟩ := q_guard h
    by_cases c : (r1.2.1 (q + 10) (r1.2.1 (q + 18) x2.toNatClampNeg).toNatClampNeg) = (-1 : Int32)
    · rw [if_pos c] at h
      obtain rfl := Option.some.inj h
      exact fx3
    · rw [if_neg c] at h
      obtain rfl := Option.some.inj h
      exact fx3
  rw [if_neg c59] at h
  by_cases c : (r1.2.1 (q + 15) x2.toNatClampNeg) < (8 : Int32)
  · rw [if_pos c] at h
    by_cases c : (r1.2.1 (q + 15) x2.toNatClampNeg) < (20 : Int32)
    · rw [if_pos c] at h
      obtain rfl := Option.some.inj h
      exact fx3
    · rw [if_neg c] at h
      by_cases c : (25 : Int32) < (r1.2.1 (q + 15) x2.toNatClampNeg)
      · rw [if_pos c] at h
        obtain rfl := Option.some.inj h
        exact fx3
      · rw [if_neg c] at h
        by_cases c : v9 = 0
        · rw [if_pos c] at h
          by_cases c : v11 = 0
          · rw [if_pos c] at h
            obtain rfl := Option.some.inj h
            exact fx3
          · rw [if_neg c] at h
            obtain rfl := Option.some.inj h
            exact fx3
        · rw [if_neg c] at h
          obtain rfl := Option.some.inj h
          exact fx3
  · rw [if_neg c] at h
    by_cases c : (r1.2.1 (q + 15) x2.toNatClampNeg) ≤ (17 : Int32)
    · rw [if_pos c] at h
      by_cases c : v9 = 0
      · rw [if_pos c] at h
        by_cases c : v11 = 0
        · rw [if_pos c] at h
          obtain rfl := Option.some.inj h
          exact fx3
        · rw [if_neg c] at h
          obtain rfl := Option.some.inj h
          exact fx3
      · rw [if_neg c] at h
        obtain rfl := Option.some.inj h
        exact fx3
    · rw [if_neg c] at h
      by_cases c : (r1.2.1 (q + 15) x2.toNatClampNeg) < (20 : Int32)
      · rw [if_pos c] at h
        obtain rfl := Option.some.inj h
        exact fx3
      · rw [if_neg c] at h
        by_cases c : (25 : Int32) < (r1.2.1 (q + 15) x2.toNatClampNeg)
        · rw [if_pos c] at h
          obtain rfl := Option.some.inj h
          exact fx3
        · rw [if_neg c] at h
          by_cases c : v9 = 0
          · rw [if_pos c] at h
            by_cases c : v11 = 0
            · rw [if_pos c] at h
              obtain rfl := Option.some.inj h
              exact fx3
            · rw [if_neg c] at h
              obtain rfl := Option.some.inj h
              exact fx3
          · rw [if_neg c] at h
            obtain rfl := Option.some.inj h
            exact fx3
theorem fxtX12_types_168 {q : Nat} {y2 : Int32} {x : Int32 × QS} {z : (Bool × QS) ⊕ (Int32 × QS)} (h : tX12_types_168 q y2 x = some z) : q_Fx ((fun x : Int32 × QS => x.2) x) ((Sum.elim (fun r : Bool × QS => r.2) (fun x : Int32 × QS => x.2)) z) := by
  unfold tX12_types_168 at h
  show q_Fx x.2 _
  obtain ⟨hg1, h⟩ := q_guard h
  by_cases c : (x.2.2.1 (q + 13) y2.toNatClampNeg) ≤ x.1
  · rw [if_pos c] at h
    cases h
    exact q_Fx.rf _
  · rw [if_neg c] at h
    obtain ⟨hg2, h⟩ := q_guard h
    by_cases c : (x.2.2.1 (q + 27) x.1.toNatClampNeg) = 0
    · rw [if_pos c] at h
      cases h
      exact q_Fx.rf _
    · rw [if_neg c] at h
      obtain ⟨r3, e4, h⟩ := q_bind h
      have fx5 : q_Fx x.2 r3.2 := q_Fx.tr (q_Fx.rf x.2) (fxX12_fits e4)
      by_cases c : r3.1 = true
      · rw [if_pos c] at h
        cases h
        exact fx5
      · rw [if_neg c] at h
        obtain ⟨hg6, h⟩ := q_guard h
        obtain ⟨r7, e8, h⟩ := q_bind h
        have fx9 : q_Fx x.2 r7.2 := q_Fx.tr (fx5) (fxX12_wrong e8)
        cases h
        exact fx9
theorem fxX12_types_168 {S : QS} {q : Nat} {y2 : Int32} {y5 : Int32} {r : Bool × QS} (h : fX12_types_168 S q y2 y5 = some r) : q_Fx S ((fun r : Bool × QS => r.2) r) := q_run_fx (fun x : Int32 × QS => x.2) (fun r : Bool × QS => r.2) (fun _ _ hz => fxtX12_types_168 hz) h
theorem fxtX12_types_113 {q : Nat} {y2 : Int32} {y3 : Int32} {x : Int32 × Int32 × QS} {z : ((Bool × QS) ⊕ (Int32 × QS)) ⊕ (Int32 × Int32 × QS)} (h : tX12_types_113 q y2 y3 x = some z) : q_Fx ((fun x : Int32 × Int32 × QS => x.2.2) x) ((Sum.elim (Sum.elim (fun r : Bool × QS => r.2) (fun x : Int32 × QS => x.2)) (fun x : Int32 × Int32 × QS => x.2.2)) z) := by
  unfold tX12_types_113 at h
  show q_Fx x.2.2 _
  obtain ⟨hg10, h⟩ := q_guard h
  by_cases c : (x.2.2.2.1 (q + 13) y2.toNatClampNeg) ≤ x.2.1
  · rw [if_pos c] at h
    cases h
    exact q_Fx.rf _
  · rw [if_neg c] at h
    obtain ⟨hg11, h⟩ := q_guard h
    by_cases c : (x.2.2.2.1 (q + 27) x.2.1.toNatClampNeg) = 0
    · rw [if_pos c] at h
      cases h
      exact q_Fx.rf _
    · rw [if_neg c] at h
      obtain ⟨r12, e13, h⟩ := q_bind h
      have fx14 : q_Fx x.2.2 r12.2 := q_Fx.tr (q_Fx.rf x.2.2) (fxX12_typesOn e13)
      by_cases c : r12.1 = true
      · rw [if_pos c] at h
        cases h
        exact fx14
      · rw [if_neg c] at h
        by_cases c : x.1 = 0
        · rw [if_pos c] at h
          cases h
          exact fx14
        · rw [if_neg c] at h
          cases h
          exact fx14
theorem fxuX12_types_113 {S : QS} {q : Nat} {y2 : Int32} {y3 : Int32} {y4 : Int32} {y5 : Int32} {r : (Bool × QS) ⊕ (Int32 × QS)} (h : uX12_types_113 S q y2 y3 y4 y5 = some r) : q_Fx S ((Sum.elim (fun r : Bool × QS => r.2) (fun x : Int32 × QS => x.2)) r) := q_run_fx (fun x : Int32 × Int32 × QS => x.2.2) (Sum.elim (fun r : Bool × QS => r.2) (fun x : Int32 × QS => x.2)) (fun _ _ hz => fxtX12_types_113 hz) h
theorem fxtX12_types_102 {q : Nat} {y2 : Int32} {y3 : Int32} {x : Int32 × QS} {z : (Bool × QS) ⊕ (Int32 × QS)} (h : tX12_types_102 q y2 y3 x = some z) : q_Fx ((fun x : Int32 × QS => x.2) x) ((Sum.elim (fun r : Bool × QS => r.2) (fun x : Int32 × QS => x.2)) z) := by
  unfold tX12_types_102 at h
  show q_Fx x.2 _
  by_cases c : x.1 = 0
  · rw [if_pos c] at h
    obtain ⟨r15, e16, h⟩ := q_bind h
    cases h
    exact (q_Fx.rf _).tr (fxX12_types_168 e16)
  · rw [if_neg c] at h
    exact (q_Fx.rf _).tr (fxuX12_types_113 h)
theorem fxX12_types_102 {S : QS} {q : Nat} {y2 : Int32} {y3 : Int32} {y4 : Int32} {r : Bool × QS} (h : fX12_types_102 S q y2 y3 y4 = some r) : q_Fx S ((fun r : Bool × QS => r.2) r) := q_run_fx (fun x : Int32 × QS => x.2) (fun r : Bool × QS => r.2) (fun _ _ hz => fxtX12_types_102 hz) h
theorem fxtX12_types_47 {q : Nat} {y2 : Int32} {y3 : Int32} {x : Int32 × QS} {z : (Bool × QS) ⊕ (Int32 × QS)} (h : tX12_types_47 q y2 y3 x = some z) : q_Fx ((fun x : Int32 × QS => x.2) x) ((Sum.elim (fun r : Bool × QS => r.2) (fun x : Int32 × QS => x.2)) z) := by
  unfold tX12_types_47 at h
  show q_Fx x.2 _
  by_cases c : (12 : Int32) ≤ x.1
  · rw [if_pos c] at h
    obtain ⟨r17, e18, h⟩ := q_bind h
    cases h
    exact (q_Fx.rf _).tr (fxX12_types_102 e18)
  · rw [if_neg c] at h
    obtain ⟨hg19, h⟩ := q_guard h
    by_cases c : (x.2.2.1 (q + 8) y2.toNatClampNeg) ≤ x.1
    · rw [if_pos c] at h
      obtain ⟨hg20, h⟩ := q_guard h
      obtain ⟨S21, e22, h⟩ := q_bindS h
      have fx23 : q_Fx x.2 S21 := e22 ▸ q_Fx.sI (q_Fx.rf x.2)
      cases h
      exact fx23
    · rw [if_neg c] at h
      obtain ⟨hg24, h⟩ := q_guard h
      obtain ⟨hg25, h⟩ := q_guard h
      obtain ⟨S26, e27, h⟩ := q_bindS h
      have fx28 : q_Fx x.2 S26 := e27 ▸ q_Fx.sI (q_Fx.rf x.2)
      cases h
      exact fx28
theorem fxX12_types_47 {S : QS} {q : Nat} {y2 : Int32} {y3 : Int32} {y4 : Int32} {r : Bool × QS} (h : fX12_types_47 S q y2 y3 y4 = some r) : q_Fx S ((fun r : Bool × QS => r.2) r) := q_run_fx (fun x : Int32 × QS => x.2) (fun r : Bool × QS => r.2) (fun _ _ hz => fxtX12_types_47 hz) h
theorem fxtX12_types_7 {q : Nat} {y2 : Int32} {x : Int32 × QS} {z : (Bool × QS) ⊕ (Int32 × QS)} (h : tX12_types_7 q y2 x = some z) : q_Fx ((fun x : Int32 × QS => x.2) x) ((Sum.elim (fun r : Bool × QS => r.2) (fun x : Int32 × QS => x.2)) z) := by
  unfold tX12_types_7 at h
  show q_Fx x.2 _
  obtain ⟨hg29, h⟩ := q_guard h
  by_cases c : (x.2.2.1 (q + 13) y2.toNatClampNeg) ≤ x.1
  · rw [if_pos c] at h
    obtain ⟨hg30, h⟩ := q_guard h
    obtain ⟨hg31, h⟩ := q_guard h
    obtain ⟨S32, e33, h⟩ := q_bindS h
    have fx34 : q_Fx x.2 S32 := e33 ▸ q_Fx.sI (q_Fx.rf x.2)
    obtain ⟨r35, e36, h⟩ := q_bind h
    cases h
    exact (fx34).tr (fxX12_types_47 e36)
  · rw [if_neg c] at h
    obtain ⟨hg37, h⟩ := q_guard h
    obtain ⟨S38, e39, h⟩ := q_bindS h
    have fx40 : q_Fx x.2 S38 := e39 ▸ q_Fx.sI (q_Fx.rf x.2)
    cases h
    exact fx40
theorem fxX12_types_7 {S : QS} {q : Nat} {y2 : Int32} {y3 : Int32} {r : Bool × QS} (h : fX12_types_7 S q y2 y3 = some r) : q_Fx S ((fun r : Bool × QS => r.2) r) := q_run_fx (fun x : Int32 × QS => x.2) (fun r : Bool × QS => r.2) (fun _ _ hz => fxtX12_types_7 hz) h
theorem fxX12_types {S : QS} {q : Nat} {x2 : Int32} {r : Bool × QS} (h : fX12_types S q x2 = some r) : q_Fx S r.2 := by
  unfold fX12_types at h
  obtain ⟨hg41, h⟩ := q_guard h
  exact (q_Fx.rf _).tr (fxX12_types_7 h)

theorem fxtX12_fault_70 {q : Nat}  {x : Int32 × QS} {z : (Int32 × QS) ⊕ (Int32 × QS)} (h : tX12_fault_70 q x = some z) : q_Fx ((fun x : Int32 × QS => x.2) x) ((Sum.elim (fun r : Int32 × QS => r.2) (fun x : Int32 × QS => x.2)) z) := by
  unfold tX12_fault_70 at h
  show q_Fx x.2 _
  by_cases c : (x.2.2.1 q 2) ≤ x.1
  · rw [if_pos c] at h
    obtain ⟨S1, e2, h⟩ := q_bindS h
    have fx3 : q_Fx x.2 S1 := e2 ▸ q_Fx.sI (q_Fx.rf x.2)
    cases h
    exact fx3
  · rw [if_neg c] at h
    obtain ⟨r4, e5, h⟩ := q_bind h
    have fx6 : q_Fx x.2 r4.2 := q_Fx.tr (q_Fx.rf x.2) (fxX12_heights e5)
    by_cases c : r4.1 = true
    · rw [if_pos c] at h
      obtain ⟨r7, e8, h⟩ := q_bind h
      have fx9 : q_Fx x.2 r7.2 := q_Fx.tr (fx6) (fxX12_types e8)
      by_cases c : r7.1 = true
      · rw [if_pos c] at h
        cases h
        exact fx9
      · rw [if_neg c] at h
        cases h
        exact fx9
    · rw [if_neg c] at h
      cases h
      exact fx6
theorem fxX12_fault_70 {S : QS} {q : Nat} {y2 : Int32} {r : Int32 × QS} (h : fX12_fault_70 S q y2 = some r) : q_Fx S ((fun r : Int32 × QS => r.2) r) := q_run_fx (fun x : Int32 × QS => x.2) (fun r : Int32 × QS => r.2) (fun _ _ hz => fxtX12_fault_70 hz) h
theorem fxX12_fault {S : QS} {q : Nat}  {r : Int32 × QS} (h : fX12_fault S q = some r) : q_Fx S r.2 := by
  unfold fX12_fault at h
  obtain ⟨r10, e11, h⟩ := q_bind h
  have fx12 : q_Fx S r10.2 := q_Fx.tr (q_Fx.rf S) (fxX12_cut e11)
  by_cases c : r10.1 = true
  · rw [if_pos c] at h
    obtain ⟨r13, e14, h⟩ := q_bind h
    have fx15 : q_Fx S r13.2 := q_Fx.tr (fx12) (fxX12_isProgram e14)
    by_cases c : r13.1 = true
    · rw [if_pos c] at h
      obtain ⟨r16, e17, h⟩ := q_bind h
      have fx18 : q_Fx S r16.2 := q_Fx.tr (fx15) (fxX12_classNames e17)
      by_cases c : r16.1 = true
      · rw [if_pos c] at h
        obtain ⟨r19, e20, h⟩ := q_bind h
        have fx21 : q_Fx S r19.2 := q_Fx.tr (fx18) (fxX12_members e20)
        by_cases c : r19.1 = true
        · rw [if_pos c] at h
          obtain ⟨r22, e23, h⟩ := q_bind h
          have fx24 : q_Fx S r22.2 := q_Fx.tr (fx21) (fxX12_lines e23)
          by_cases c : r22.1 = true
          · rw [if_pos c] at h
            obtain ⟨r25, e26, h⟩ := q_bind h
            have fx27 : q_Fx S r25.2 := q_Fx.tr (fx24) (fxX12_settled e26)
            by_cases c : r25.1 = true
            · rw [if_pos c] at h
              exact (fx27).tr (fxX12_fault_70 h)
            · rw [if_neg c] at h
              obtain rfl := Option.some.inj h
              exact fx27
          · rw [if_neg c] at h
            obtain rfl := Option.some.inj h
            exact fx24
        · rw [if_neg c] at h
          obtain rfl := Option.some.inj h
          exact fx21
      · rw [if_neg c] at h
        obtain rfl := Option.some.inj h
        exact fx18
    · rw [if_neg c] at h
      obtain ⟨S28, e29, h⟩ := q_bindS h
      have fx30 : q_Fx S S28 := e29 ▸ q_Fx.sI (fx15)
      obtain rfl := Option.some.inj h
      exact fx30
  · rw [if_neg c] at h
    obtain ⟨S31, e32, h⟩ := q_bindS h
    have fx33 : q_Fx S S31 := e32 ▸ q_Fx.sI (fx12)
    obtain rfl := Option.some.inj h
    exact fx33
theorem fxX12_input {S : QS}  {x1 : Int32} {r : Bool × QS} (h : fX12_input S x1 = some r) : q_Fx S r.2 := by
  unfold fX12_input at h
  by_cases c : (S.2.1 102 38) = (256 : Int32)
  · rw [if_pos c] at h
    obtain rfl := Option.some.inj h
    exact q_Fx.rf _
  · rw [if_neg c] at h
    obtain ⟨hg1, h⟩ := q_guard h
    obtain ⟨S2, e3, h⟩ := q_bindS h
    have fx4 : q_Fx S S2 := e3 ▸ q_Fx.sI (q_Fx.rf S)
    obtain ⟨S5, e6, h⟩ := q_bindS h
    have fx7 : q_Fx S S5 := e6 ▸ q_Fx.sI (fx4)
    obtain rfl := Option.some.inj h
    exact fx7
theorem fxtX12_enter_2 {q : Nat} {y1 : Int32} {x : Int32 × QS} {z : (QS) ⊕ (Int32 × QS)} (h : tX12_enter_2 q y1 x = some z) : q_Fx ((fun x : Int32 × QS => x.2) x) ((Sum.elim (fun r : QS => r) (fun x : Int32 × QS => x.2)) z) := by
  unfold tX12_enter_2 at h
  show q_Fx x.2 _
  by_cases c : (12 : Int32) ≤ x.1
  · rw [if_pos c] at h
    obtain ⟨hg1, h⟩ := q_guard h
    obtain ⟨S2, e3, h⟩ := q_bindS h
    have fx4 : q_Fx x.2 S2 := e3 ▸ q_Fx.sI (q_Fx.rf x.2)
    obtain ⟨hg5, h⟩ := q_guard h
    obtain ⟨hg6, h⟩ := q_guard h
    obtain ⟨S7, e8, h⟩ := q_bindS h
    have fx9 : q_Fx x.2 S7 := e8 ▸ q_Fx.sI (fx4)
    obtain ⟨S10, e11, h⟩ := q_bindS h
    have fx12 : q_Fx x.2 S10 := e11 ▸ q_Fx.sI (fx9)
    cases h
    exact fx12
  · rw [if_neg c] at h
    obtain ⟨hg13, h⟩ := q_guard h
    obtain ⟨S14, e15, h⟩ := q_bindS h
    have fx16 : q_Fx x.2 S14 := e15 ▸ q_Fx.sJ (q_Fx.rf x.2)
    cases h
    exact fx16
theorem fxX12_enter_2 {S : QS} {q : Nat} {y1 : Int32} {y2 : Int32} {r : QS} (h : fX12_enter_2 S q y1 y2 = some r) : q_Fx S ((fun r : QS => r) r) := q_run_fx (fun x : Int32 × QS => x.2) (fun r : QS => r) (fun _ _ hz => fxtX12_enter_2 hz) h
theorem fxX12_enter {S : QS} {q : Nat} {x1 : Int32} {r : QS} (h : fX12_enter S q x1 = some r) : q_Fx S r := by
  unfold fX12_enter at h
  exact (q_Fx.rf _).tr (fxX12_enter_2 h)
theorem fxX12_push {S : QS}  {x1 : Int64} {r : QS} (h : fX12_push S x1 = some r) : q_Fx S r := by
  unfold fX12_push at h
  obtain ⟨hg1, h⟩ := q_guard h
  obtain ⟨hg2, h⟩ := q_guard h
  obtain ⟨S3, e4, h⟩ := q_bindS h
  have fx5 : q_Fx S S3 := e4 ▸ q_Fx.sJ (q_Fx.rf S)
  obtain ⟨hg6, h⟩ := q_guard h
  obtain ⟨hg7, h⟩ := q_guard h
  obtain ⟨S8, e9, h⟩ := q_bindS h
  have fx10 : q_Fx S S8 := e9 ▸ q_Fx.sI (fx5)
  obtain rfl := Option.some.inj h
  exact fx10
theorem fxX12_pop {S : QS}   {r : Int64 × QS} (h : fX12_pop S = some r) : q_Fx S r.2 := by
  unfold fX12_pop at h
  obtain ⟨hg1, h⟩ := q_guard h
  obtain ⟨hg2, h⟩ := q_guard h
  obtain ⟨S3, e4, h⟩ := q_bindS h
  have fx5 : q_Fx S S3 := e4 ▸ q_Fx.sI (q_Fx.rf S)
  obtain ⟨hg6, h⟩ := q_guard h
  obtain ⟨hg7, h⟩ := q_guard h
  obtain rfl := Option.some.inj h
  exact fx5
theorem fxX12_ended {S : QS}  {x1 : Int32} {x2 : Int32} {r : QS} (h : fX12_ended S x1 x2 = some r) : q_Fx S r := by
  unfold fX12_ended at h
  obtain ⟨S1, e2, h⟩ := q_bindS h
  have fx3 : q_Fx S S1 := e2 ▸ q_Fx.sI (q_Fx.rf S)
  obtain ⟨S4, e5, h⟩ := q_bindS h
  have fx6 : q_Fx S S4 := e5 ▸ q_Fx.sI (fx3)
  obtain rfl := Option.some.inj h
  exact fx6
theorem fxX12_object {S : QS}  {x1 : Int32} {x2 : Int32} {x3 : Int32} {x4 : Int32} {r : Int64 × QS} (h : fX12_object S x1 x2 x3 x4 = some r) : q_Fx S r.2 := by
  unfold fX12_object at h
  by_cases c : (S.2.1 102 36) = (2000 : Int32)
  · rw [if_pos c] at h
    obtain ⟨r1, e2, h⟩ := q_bind h
    have fx3 : q_Fx S r1 := q_Fx.tr (q_Fx.rf S) (fxX12_ended e2)
    obtain rfl := Option.some.inj h
    exact fx3
  · rw [if_neg c] at h
    by_cases c : ((S.2.1 102 37) + x3) ≤ (12000 : Int32)
    · rw [if_pos c] at h
      obtain ⟨hg4, h⟩ := q_guard h
      obtain ⟨S5, e6, h⟩ := q_bindS h
      have fx7 : q_Fx S S5 := e6 ▸ q_Fx.sI (q_Fx.rf S)
      obtain ⟨hg8, h⟩ := q_guard h
      obtain ⟨S9, e10, h⟩ := q_bindS h
      have fx11 : q_Fx S S9 := e10 ▸ q_Fx.sI (fx7)
      obtain ⟨hg12, h⟩ := q_guard h
      obtain ⟨S13, e14, h⟩ := q_bindS h
      have fx15 : q_Fx S S13 := e14 ▸ q_Fx.sI (fx11)
      obtain ⟨hg16, h⟩ := q_guard h
      obtain ⟨S17, e18, h⟩ := q_bindS h
      have fx19 : q_Fx S S17 := e18 ▸ q_Fx.sI (fx15)
      obtain ⟨S20, e21, h⟩ := q_bindS h
      have fx22 : q_Fx S S20 := e21 ▸ q_Fx.sI (fx19)
      obtain ⟨S23, e24, h⟩ := q_bindS h
      have fx25 : q_Fx S S23 := e24 ▸ q_Fx.sI (fx22)
      obtain rfl := Option.some.inj h
      exact fx25
    · rw [if_neg c] at h
      obtain ⟨r26, e27, h⟩ := q_bind h
      have fx28 : q_Fx S r26 := q_Fx.tr (q_Fx.rf S) (fxX12_ended e27)
      obtain rfl := Option.some.inj h
      exact fx28
theorem fxtX12_toss_34 {q : Nat} {y1 : Int64} {y3 : Int32} {y4 : Int32} {y5 : Int32} {x : Int32 × QS} {z : ((QS) ⊕ (QS)) ⊕ (Int32 × QS)} (h : tX12_toss_34 q y1 y3 y4 y5 x = some z) : q_Fx ((fun x : Int32 × QS => x.2) x) ((Sum.elim (Sum.elim (fun r : QS => r) (fun x : QS => x)) (fun x : Int32 × QS => x.2)) z) := by
  unfold tX12_toss_34 at h
  show q_Fx x.2 _
  by_cases c : (x.2.2.1 q 5) ≤ x.1
  · rw [if_pos c] at h
    obtain ⟨S1, e2, h⟩ := q_bindS h
    have fx3 : q_Fx x.2 S1 := e2 ▸ q_Fx.sI (q_Fx.rf x.2)
    cases h
    exact fx3
  · rw [if_neg c] at h
    obtain ⟨r4, e5, h⟩ := q_bind h
    by_cases c : r4 = true
    · rw [if_pos c] at h
      obtain ⟨hg6, h⟩ := q_guard h
      obtain ⟨r7, e8, h⟩ := q_bind h
      by_cases c : r7 = true
      · rw [if_pos c] at h
        obtain ⟨hg9, h⟩ := q_guard h
        obtain ⟨S10, e11, h⟩ := q_bindS h
        have fx12 : q_Fx x.2 S10 := e11 ▸ q_Fx.sI (q_Fx.rf x.2)
        obtain ⟨r13, e14, h⟩ := q_bind h
        have fx15 : q_Fx x.2 r13 := q_Fx.tr (fx12) (fxX12_push e14)
        obtain ⟨hg16, h⟩ := q_guard h
        obtain ⟨hg17, h⟩ := q_guard h
        obtain ⟨S18, e19, h⟩ := q_bindS h
        have fx20 : q_Fx x.2 S18 := e19 ▸ q_Fx.sI (fx15)
        cases h
        exact fx20
      · rw [if_neg c] at h
        cases h
        exact q_Fx.rf _
    · rw [if_neg c] at h
      cases h
      exact q_Fx.rf _
theorem fxuX12_toss_34 {S : QS} {q : Nat} {y1 : Int64} {y3 : Int32} {y4 : Int32} {y5 : Int32} {y6 : Int32} {r : (QS) ⊕ (QS)} (h : uX12_toss_34 S q y1 y3 y4 y5 y6 = some r) : q_Fx S ((Sum.elim (fun r : QS => r) (fun x : QS => x)) r) := q_run_fx (fun x : Int32 × QS => x.2) (Sum.elim (fun r : QS => r) (fun x : QS => x)) (fun _ _ hz => fxtX12_toss_34 hz) h
theorem fxtX12_toss_11 {q : Nat} {y1 : Int64} {y3 : Int32} {y4 : Int32} {x : QS} {z : (QS) ⊕ (QS)} (h : tX12_toss_11 q y1 y3 y4 x = some z) : q_Fx ((fun x : QS => x) x) ((Sum.elim (fun r : QS => r) (fun x : QS => x)) z) := by
  unfold tX12_toss_11 at h
  show q_Fx x _
  by_cases c : (x.2.1 102 35) ≤ 0
  · rw [if_pos c] at h
    obtain ⟨r21, e22, h⟩ := q_bind h
    obtain ⟨hg23, h⟩ := q_guard h
    obtain ⟨S24, e25, h⟩ := q_bindS h
    have fx26 : q_Fx x S24 := e25 ▸ q_Fx.sI (q_Fx.rf x)
    obtain ⟨r27, e28, h⟩ := q_bind h
    have fx29 : q_Fx x r27 := q_Fx.tr (fx26) (fxX12_ended e28)
    cases h
    exact fx29
  · rw [if_neg c] at h
    obtain ⟨hg30, h⟩ := q_guard h
    exact (q_Fx.rf _).tr (fxuX12_toss_34 h)
theorem fxX12_toss_11 {S : QS} {q : Nat} {y1 : Int64} {y3 : Int32} {y4 : Int32} {r : QS} (h : fX12_toss_11 S q y1 y3 y4 = some r) : q_Fx S ((fun r : QS => r) r) := q_run_fx (fun x : QS => x) (fun r : QS => r) (fun _ _ hz => fxtX12_toss_11 hz) h
theorem fxX12_toss {S : QS} {q : Nat} {x1 : Int64} {x3 : Int32} {r : QS} (h : fX12_toss S q x1 x3 = some r) : q_Fx S r := by
  unfold fX12_toss at h
  obtain ⟨r31, e32, h⟩ := q_bind h
  obtain ⟨hg33, h⟩ := q_guard h
  exact (q_Fx.rf _).tr (fxX12_toss_11 h)
theorem fxX12_raise {S : QS} {q : Nat} {x1 : Int32} {x2 : Int32} {r : QS} (h : fX12_raise S q x1 x2 = some r) : q_Fx S r := by
  unfold fX12_raise at h
  obtain ⟨r1, e2, h⟩ := q_bind h
  have fx3 : q_Fx S r1.2 := q_Fx.tr (q_Fx.rf S) (fxX12_object e2)
  by_cases c : (lg_cmp r1.1 (0 : Int64)) = 0
  · rw [if_pos c] at h
    obtain rfl := Option.some.inj h
    exact fx3
  · rw [if_neg c] at h
    obtain ⟨r4, e5, h⟩ := q_bind h
    have fx6 : q_Fx S r4 := q_Fx.tr (fx3) (fxX12_toss e5)
    obtain rfl := Option.some.inj h
    exact fx6
theorem fxX12_next {S : QS}   {r : QS} (h : fX12_next S = some r) : q_Fx S r := by
  unfold fX12_next at h
  obtain ⟨hg1, h⟩ := q_guard h
  obtain ⟨hg2, h⟩ := q_guard h
  obtain ⟨S3, e4, h⟩ := q_bindS h
  have fx5 : q_Fx S S3 := e4 ▸ q_Fx.sI (q_Fx.rf S)
  obtain rfl := Option.some.inj h
  exact fx5

