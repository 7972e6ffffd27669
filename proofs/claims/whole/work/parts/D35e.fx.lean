/-! ===== only numbers change ===== -/
theorem fxX12_reckon_36 {S : QS} {q : Nat} {y1 : Int32} {y3 : Int32} {y4 : Int32} {r : QS} (h : fX12_reckon_36 S q y1 y3 y4 = some r) : q_Fx S r := by
  unfold fX12_reckon_36 at h
  obtain ⟨v3, hv, h⟩ := q_bind h
  obtain ⟨r4, e5, h⟩ := q_bind h
  have fx6 : q_Fx S r4 := q_Fx.tr (q_Fx.rf S) (fxX12_push e5)
  obtain ⟨r7, e8, h⟩ := q_bind h
  have fx9 : q_Fx S r7 := q_Fx.tr (fx6) (fxX12_next e8)
  obtain rfl := Option.some.inj h
  exact fx9
theorem fxX12_reckon_25 {S : QS} {q : Nat} {y1 : Int32} {y2 : Int32} {y3 : Int32} {y4 : Int32} {r : QS} (h : fX12_reckon_25 S q y1 y2 y3 y4 = some r) : q_Fx S r := by
  unfold fX12_reckon_25 at h
  by_cases c : y3 = 0
  · rw [if_pos c] at h
    obtain ⟨r10, e11, h⟩ := q_bind h
    have fx12 : q_Fx S r10 := q_Fx.tr (q_Fx.rf S) (fxX12_raise e11)
    obtain rfl := Option.some.inj h
    exact fx12
  · rw [if_neg c] at h
    exact (q_Fx.rf _).tr (fxX12_reckon_36 h)
theorem fxX12_reckon {S : QS} {q : Nat} {x1 : Int32} {x2 : Int32} {r : QS} (h : fX12_reckon S q x1 x2 = some r) : q_Fx S r := by
  unfold fX12_reckon at h
  obtain ⟨r13, e14, h⟩ := q_bind h
  have fx15 : q_Fx S r13.2 := q_Fx.tr (q_Fx.rf S) (fxX12_pop e14)
  obtain ⟨r16, e17, h⟩ := q_bind h
  have fx18 : q_Fx S r16.2 := q_Fx.tr (fx15) (fxX12_pop e17)
  by_cases c : x1 = (11 : Int32)
  · rw [if_pos c] at h
    exact (fx18).tr (fxX12_reckon_25 h)
  · rw [if_neg c] at h
    by_cases c : x1 = (12 : Int32)
    · rw [if_pos c] at h
      exact (fx18).tr (fxX12_reckon_25 h)
    · rw [if_neg c] at h
      exact (fx18).tr (fxX12_reckon_36 h)
theorem fxX12_branch {S : QS}  {x1 : Int32} {x2 : Int32} {r : QS} (h : fX12_branch S x1 x2 = some r) : q_Fx S r := by
  unfold fX12_branch at h
  obtain ⟨r1, e2, h⟩ := q_bind h
  have fx3 : q_Fx S r1.2 := q_Fx.tr (q_Fx.rf S) (fxX12_pop e2)
  obtain ⟨v11, hv, h⟩ := q_bind h
  have fx12 : q_Fx S v11.2 := by
    replace h := hv
    by_cases c : x1 = (26 : Int32)
    · rw [if_pos c] at h
      obtain ⟨v4, hv, h⟩ := q_bind h
      obtain ⟨v5, hv, h⟩ := q_bind h
      obtain ⟨v6, hv, h⟩ := q_bind h
      obtain rfl := Option.some.inj h
      exact fx3
    · rw [if_neg c] at h
      by_cases c : x1 = (27 : Int32)
      · rw [if_pos c] at h
        by_cases c : (lg_cmp r1.1 (1099511627776 : Int64)) = 0
        · rw [if_pos c] at h
          by_cases c : x1 = (26 : Int32)
          · rw [if_pos c] at h
            by_cases c : (1 : Int32) = (1 : Int32)
            · rw [if_pos c] at h
              obtain rfl := Option.some.inj h
              exact fx3
            · rw [if_neg c] at h
              obtain rfl := Option.some.inj h
              exact fx3
          · rw [if_neg c] at h
            by_cases c : (1 : Int32) = (0 : Int32)
            · rw [if_pos c] at h
              obtain rfl := Option.some.inj h
              exact fx3
            · rw [if_neg c] at h
              obtain rfl := Option.some.inj h
              exact fx3
        · rw [if_neg c] at h
          by_cases c : x1 = (26 : Int32)
          · rw [if_pos c] at h
            by_cases c : (0 : Int32) = (1 : Int32)
            · rw [if_pos c] at h
              obtain rfl := Option.some.inj h
              exact fx3
            · rw [if_neg c] at h
              obtain rfl := Option.some.inj h
              exact fx3
          · rw [if_neg c] at h
            by_cases c : (0 : Int32) = (0 : Int32)
            · rw [if_pos c] at h
              obtain rfl := Option.some.inj h
              exact fx3
            · rw [if_neg c] at h
              obtain rfl := Option.some.inj h
              exact fx3
      · rw [if_neg c] at h
        obtain ⟨r7, e8, h⟩ := q_bind h
        have fx9 : q_Fx S r7.2 := q_Fx.tr (fx3) (fxX12_pop e8)
        obtain ⟨v10, hv, h⟩ := q_bind h
        obtain rfl := Option.some.inj h
        exact fx9
  by_cases c : v11.1 = true
  · rw [if_pos c] at h
    obtain ⟨hg16, h⟩ := q_guard h
    obtain ⟨S17, e18, h⟩ := q_bindS h
    have fx19 : q_Fx S S17 := e18 ▸ q_Fx.sI (fx12)
    obtain rfl := Option.some.inj h
    exact fx19
  · rw [if_neg c] at h
    obtain ⟨r13, e14, h⟩ := q_bind h
    have fx15 : q_Fx S r13 := q_Fx.tr (fx12) (fxX12_next e14)
    obtain rfl := Option.some.inj h
    exact fx15
theorem fxtX12_make_145 {q : Nat} {y4 : Int32} {y6 : Int64} {y8 : Int32} {x : Int32 × QS} {z : (QS) ⊕ (Int32 × QS)} (h : tX12_make_145 q y4 y6 y8 x = some z) : q_Fx ((fun x : Int32 × QS => x.2) x) ((Sum.elim (fun r : QS => r) (fun x : Int32 × QS => x.2)) z) := by
  unfold tX12_make_145 at h
  show q_Fx x.2 _
  by_cases c : (x.2.2.1 q 1) ≤ x.1
  · rw [if_pos c] at h
    obtain ⟨r1, e2, h⟩ := q_bind h
    have fx3 : q_Fx x.2 r1 := q_Fx.tr (q_Fx.rf x.2) (fxX12_push e2)
    obtain ⟨r4, e5, h⟩ := q_bind h
    have fx6 : q_Fx x.2 r4 := q_Fx.tr (fx3) (fxX12_next e5)
    cases h
    exact fx6
  · rw [if_neg c] at h
    obtain ⟨hg7, h⟩ := q_guard h
    by_cases c : (x.2.2.1 (q + 4) x.1.toNatClampNeg) = 0
    · rw [if_pos c] at h
      obtain ⟨hg8, h⟩ := q_guard h
      obtain ⟨r9, e10, h⟩ := q_bind h
      by_cases c : r9 = true
      · rw [if_pos c] at h
        obtain ⟨hg11, h⟩ := q_guard h
        obtain ⟨hg12, h⟩ := q_guard h
        obtain ⟨S13, e14, h⟩ := q_bindS h
        have fx15 : q_Fx x.2 S13 := e14 ▸ q_Fx.sJ (q_Fx.rf x.2)
        cases h
        exact fx15
      · rw [if_neg c] at h
        cases h
        exact q_Fx.rf _
    · rw [if_neg c] at h
      cases h
      exact q_Fx.rf _
theorem fxX12_make_145 {S : QS} {q : Nat} {y4 : Int32} {y6 : Int64} {y8 : Int32} {y9 : Int32} {r : QS} (h : fX12_make_145 S q y4 y6 y8 y9 = some r) : q_Fx S ((fun r : QS => r) r) := q_run_fx (fun x : Int32 × QS => x.2) (fun r : QS => r) (fun _ _ hz => fxtX12_make_145 hz) h
theorem fxtX12_make_93 {q : Nat} {y1 : Int32} {y4 : Int32} {y5 : Int32} {y6 : Int64} {y8 : Int32} {x : Int32 × QS} {z : (QS) ⊕ (Int32 × QS)} (h : tX12_make_93 q y1 y4 y5 y6 y8 x = some z) : q_Fx ((fun x : Int32 × QS => x.2) x) ((Sum.elim (fun r : QS => r) (fun x : Int32 × QS => x.2)) z) := by
  unfold tX12_make_93 at h
  show q_Fx x.2 _
  by_cases c : y5 ≤ x.1
  · rw [if_pos c] at h
    by_cases c : y1 = (30 : Int32)
    · rw [if_pos c] at h
      obtain ⟨r22, e23, h⟩ := q_bind h
      cases h
      exact (q_Fx.rf _).tr (fxX12_make_145 e23)
    · rw [if_neg c] at h
      obtain ⟨r16, e17, h⟩ := q_bind h
      have fx18 : q_Fx x.2 r16 := q_Fx.tr (q_Fx.rf x.2) (fxX12_push e17)
      obtain ⟨r19, e20, h⟩ := q_bind h
      have fx21 : q_Fx x.2 r19 := q_Fx.tr (fx18) (fxX12_next e20)
      cases h
      exact fx21
  · rw [if_neg c] at h
    by_cases c : y1 = (31 : Int32)
    · rw [if_pos c] at h
      by_cases c : y4 = (40 : Int32)
      · rw [if_pos c] at h
        obtain ⟨hg32, h⟩ := q_guard h
        obtain ⟨S33, e34, h⟩ := q_bindS h
        have fx35 : q_Fx x.2 S33 := e34 ▸ q_Fx.sJ (q_Fx.rf x.2)
        cases h
        exact fx35
      · rw [if_neg c] at h
        obtain ⟨hg28, h⟩ := q_guard h
        obtain ⟨S29, e30, h⟩ := q_bindS h
        have fx31 : q_Fx x.2 S29 := e30 ▸ q_Fx.sJ (q_Fx.rf x.2)
        cases h
        exact fx31
    · rw [if_neg c] at h
      obtain ⟨hg24, h⟩ := q_guard h
      obtain ⟨S25, e26, h⟩ := q_bindS h
      have fx27 : q_Fx x.2 S25 := e26 ▸ q_Fx.sJ (q_Fx.rf x.2)
      cases h
      exact fx27
theorem fxX12_make_93 {S : QS} {q : Nat} {y1 : Int32} {y4 : Int32} {y5 : Int32} {y6 : Int64} {y8 : Int32} {y9 : Int32} {r : QS} (h : fX12_make_93 S q y1 y4 y5 y6 y8 y9 = some r) : q_Fx S ((fun r : QS => r) r) := q_run_fx (fun x : Int32 × QS => x.2) (fun r : QS => r) (fun _ _ hz => fxtX12_make_93 hz) h
theorem fxX12_make {S : QS} {q : Nat} {x1 : Int32} {x2 : Int32} {x3 : Int32} {r : QS} (h : fX12_make S q x1 x2 x3 = some r) : q_Fx S r := by
  unfold fX12_make at h
  obtain ⟨hg36, h⟩ := q_guard h
  obtain ⟨v41, hv, h⟩ := q_bind h
  have fx42 : q_Fx S v41.2 := by
    replace h := hv
    by_cases c : x1 = (31 : Int32)
    · rw [if_pos c] at h
      obtain ⟨r38, e39, h⟩ := q_bind h
      have fx40 : q_Fx S r38.2 := q_Fx.tr (q_Fx.rf S) (fxX12_pop e39)
      obtain rfl := Option.some.inj h
      exact fx40
    · rw [if_neg c] at h
      obtain ⟨hg37, h⟩ := q_guard h
      obtain rfl := Option.some.inj h
      exact q_Fx.rf _
  by_cases c : 0 ≤ v41.1
  · rw [if_pos c] at h
    obtain ⟨r43, e44, h⟩ := q_bind h
    have fx45 : q_Fx S r43.2 := q_Fx.tr (fx42) (fxX12_object e44)
    by_cases c : (lg_cmp r43.1 (0 : Int64)) = 0
    · rw [if_pos c] at h
      obtain rfl := Option.some.inj h
      exact fx45
    · rw [if_neg c] at h
      obtain ⟨r46, e47, h⟩ := q_bind h
      obtain ⟨hg48, h⟩ := q_guard h
      exact (fx45).tr (fxX12_make_93 h)
  · rw [if_neg c] at h
    obtain ⟨r49, e50, h⟩ := q_bind h
    have fx51 : q_Fx S r49 := q_Fx.tr (fx42) (fxX12_raise e50)
    obtain rfl := Option.some.inj h
    exact fx51
theorem fxX12_elementStep {S : QS} {q : Nat} {x1 : Int32} {x2 : Int32} {r : QS} (h : fX12_elementStep S q x1 x2 = some r) : q_Fx S r := by
  unfold fX12_elementStep at h
  obtain ⟨v4, hv, h⟩ := q_bind h
  have fx5 : q_Fx S v4.2 := by
    replace h := hv
    by_cases c : x1 = (34 : Int32)
    · rw [if_pos c] at h
      obtain ⟨r1, e2, h⟩ := q_bind h
      have fx3 : q_Fx S r1.2 := q_Fx.tr (q_Fx.rf S) (fxX12_pop e2)
      obtain rfl := Option.some.inj h
      exact fx3
    · rw [if_neg c] at h
      obtain rfl := Option.some.inj h
      exact q_Fx.rf _
  obtain ⟨r6, e7, h⟩ := q_bind h
  have fx8 : q_Fx S r6.2 := q_Fx.tr (fx5) (fxX12_pop e7)
  obtain ⟨r9, e10, h⟩ := q_bind h
  have fx11 : q_Fx S r9.2 := q_Fx.tr (fx8) (fxX12_pop e10)
  by_cases c : (lg_cmp r9.1 (1099511627776 : Int64)) = 0
  · rw [if_pos c] at h
    obtain ⟨r56, e57, h⟩ := q_bind h
    have fx58 : q_Fx S r56 := q_Fx.tr (fx11) (fxX12_raise e57)
    obtain rfl := Option.some.inj h
    exact fx58
  · rw [if_neg c] at h
    obtain ⟨r12, e13, h⟩ := q_bind h
    by_cases c : (lg_cmp r6.1 (0 : Int64)) < 0
    · rw [if_pos c] at h
      obtain ⟨r14, e15, h⟩ := q_bind h
      have fx16 : q_Fx S r14 := q_Fx.tr (fx11) (fxX12_raise e15)
      obtain rfl := Option.some.inj h
      exact fx16
    · rw [if_neg c] at h
      obtain ⟨hg17, h⟩ := q_guard h
      by_cases c : (lg_cmp r6.1 (r9.2.2.1 179 r12.toNatClampNeg).toInt64) < 0
      · rw [if_pos c] at h
        obtain ⟨hg18, h⟩ := q_guard h
        by_cases c : x1 = (33 : Int32)
        · rw [if_pos c] at h
          obtain ⟨hg46, h⟩ := q_guard h
          obtain ⟨r47, e48, h⟩ := q_bind h
          have fx49 : q_Fx S r47 := q_Fx.tr (fx11) (fxX12_push e48)
          obtain ⟨r50, e51, h⟩ := q_bind h
          have fx52 : q_Fx S r50 := q_Fx.tr (fx49) (fxX12_next e51)
          obtain rfl := Option.some.inj h
          exact fx52
        · rw [if_neg c] at h
          obtain ⟨r19, e20, h⟩ := q_bind h
          by_cases c : r19 = true
          · rw [if_pos c] at h
            obtain ⟨r28, e29, h⟩ := q_bind h
            obtain ⟨hg30, h⟩ := q_guard h
            obtain ⟨hg31, h⟩ := q_guard h
            obtain ⟨r32, e33, h⟩ := q_bind h
            obtain ⟨r34, e35, h⟩ := q_bind h
            by_cases c : r34 = true
            · rw [if_pos c] at h
              obtain ⟨hg36, h⟩ := q_guard h
              obtain ⟨S37, e38, h⟩ := q_bindS h
              have fx39 : q_Fx S S37 := e38 ▸ q_Fx.sJ (fx11)
              obtain ⟨r40, e41, h⟩ := q_bind h
              have fx42 : q_Fx S r40 := q_Fx.tr (fx39) (fxX12_next e41)
              obtain rfl := Option.some.inj h
              exact fx42
            · rw [if_neg c] at h
              obtain ⟨r43, e44, h⟩ := q_bind h
              have fx45 : q_Fx S r43 := q_Fx.tr (fx11) (fxX12_raise e44)
              obtain rfl := Option.some.inj h
              exact fx45
          · rw [if_neg c] at h
            obtain ⟨hg21, h⟩ := q_guard h
            obtain ⟨S22, e23, h⟩ := q_bindS h
            have fx24 : q_Fx S S22 := e23 ▸ q_Fx.sJ (fx11)
            obtain ⟨r25, e26, h⟩ := q_bind h
            have fx27 : q_Fx S r25 := q_Fx.tr (fx24) (fxX12_next e26)
            obtain rfl := Option.some.inj h
            exact fx27
      · rw [if_neg c] at h
        obtain ⟨r53, e54, h⟩ := q_bind h
        have fx55 : q_Fx S r53 := q_Fx.tr (fx11) (fxX12_raise e54)
        obtain rfl := Option.some.inj h
        exact fx55

theorem fxtX12_callStep_141 {q : Nat} {y4 : Int32} {y5 : Int32} {x : Int32 × QS} {z : (QS) ⊕ (Int32 × QS)} (h : tX12_callStep_141 q y4 y5 x = some z) : q_Fx ((fun x : Int32 × QS => x.2) x) ((Sum.elim (fun r : QS => r) (fun x : Int32 × QS => x.2)) z) := by
  unfold tX12_callStep_141 at h
  show q_Fx x.2 _
  by_cases c : y4 ≤ x.1
  · rw [if_pos c] at h
    cases h
    exact q_Fx.rf _
  · rw [if_neg c] at h
    obtain ⟨hg1, h⟩ := q_guard h
    obtain ⟨hg2, h⟩ := q_guard h
    obtain ⟨S3, e4, h⟩ := q_bindS h
    have fx5 : q_Fx x.2 S3 := e4 ▸ q_Fx.sJ (q_Fx.rf x.2)
    cases h
    exact fx5
theorem fxX12_callStep_141 {S : QS} {q : Nat} {y4 : Int32} {y5 : Int32} {y7 : Int32} {r : QS} (h : fX12_callStep_141 S q y4 y5 y7 = some r) : q_Fx S ((fun r : QS => r) r) := q_run_fx (fun x : Int32 × QS => x.2) (fun r : QS => r) (fun _ _ hz => fxtX12_callStep_141 hz) h
theorem fxX12_callStep_100 {S : QS} {q : Nat} {y3 : Int32} {y4 : Int32} {y5 : Int32} {y6 : Int32} {r : QS} (h : fX12_callStep_100 S q y3 y4 y5 y6 = some r) : q_Fx S r := by
  unfold fX12_callStep_100 at h
  by_cases c : (S.2.1 102 35) = (64 : Int32)
  · rw [if_pos c] at h
    obtain ⟨r14, e15, h⟩ := q_bind h
    have fx16 : q_Fx S r14 := q_Fx.tr (q_Fx.rf S) (fxX12_ended e15)
    obtain rfl := Option.some.inj h
    exact fx16
  · rw [if_neg c] at h
    obtain ⟨hg6, h⟩ := q_guard h
    obtain ⟨hg7, h⟩ := q_guard h
    obtain ⟨S8, e9, h⟩ := q_bindS h
    have fx10 : q_Fx S S8 := e9 ▸ q_Fx.sI (q_Fx.rf S)
    obtain ⟨r11, e12, h⟩ := q_bind h
    have fx13 : q_Fx S r11 := q_Fx.tr (fx10) (fxX12_enter e12)
    exact (fx13).tr (fxX12_callStep_141 h)
theorem fxX12_callStep {S : QS} {q : Nat} {x1 : Int32} {x2 : Int32} {x3 : Int32} {r : QS} (h : fX12_callStep S q x1 x2 x3 = some r) : q_Fx S r := by
  unfold fX12_callStep at h
  obtain ⟨hg17, h⟩ := q_guard h
  obtain ⟨hg18, h⟩ := q_guard h
  by_cases c : x1 = (40 : Int32)
  · rw [if_pos c] at h
    obtain ⟨hg19, h⟩ := q_guard h
    by_cases c : (lg_cmp (S.2.2.1 173 (((((S.2.1 102 35) - (1 : Int32)) * (8 : Int32)) + (S.2.1 174 ((S.2.1 102 35) - (1 : Int32)).toNatClampNeg)) - (S.2.1 (q + 8) x2.toNatClampNeg)).toNatClampNeg) (1099511627776 : Int64)) = 0
    · rw [if_pos c] at h
      obtain ⟨r25, e26, h⟩ := q_bind h
      have fx27 : q_Fx S r25 := q_Fx.tr (q_Fx.rf S) (fxX12_raise e26)
      obtain rfl := Option.some.inj h
      exact fx27
    · rw [if_neg c] at h
      obtain ⟨hg20, h⟩ := q_guard h
      obtain ⟨r21, e22, h⟩ := q_bind h
      obtain ⟨hg23, h⟩ := q_guard h
      obtain ⟨hg24, h⟩ := q_guard h
      exact (q_Fx.rf _).tr (fxX12_callStep_100 h)
  · rw [if_neg c] at h
    exact (q_Fx.rf _).tr (fxX12_callStep_100 h)
theorem fxX12_objectStep_287 {S : QS} {q : Nat} {y1 : Int32} {y11 : Int64} {y13 : Int32} {r : QS} (h : fX12_objectStep_287 S q y1 y11 y13 = some r) : q_Fx S r := by
  unfold fX12_objectStep_287 at h
  obtain ⟨v1, hv, h⟩ := q_bind h
  obtain ⟨r2, e3, h⟩ := q_bind h
  have fx4 : q_Fx S r2 := q_Fx.tr (q_Fx.rf S) (fxX12_push e3)
  obtain ⟨r5, e6, h⟩ := q_bind h
  have fx7 : q_Fx S r5 := q_Fx.tr (fx4) (fxX12_next e6)
  obtain rfl := Option.some.inj h
  exact fx7
theorem fxX12_objectStep {S : QS} {q : Nat} {x1 : Int32} {x2 : Int32} {x3 : Int32} {r : QS} (h : fX12_objectStep S q x1 x2 x3 = some r) : q_Fx S r := by
  unfold fX12_objectStep at h
  by_cases c8 : x1 = (30 : Int32) ∨ x1 = (31 : Int32)
  · rw [if_pos c8] at h
    obtain ⟨r9, e10, h⟩ := q_bind h
    have fx11 : q_Fx S r9 := q_Fx.tr (q_Fx.rf S) (fxX12_make e10)
    obtain rfl := Option.some.inj h
    exact fx11
  rw [if_neg c8] at h
  by_cases c12 : x1 = (32 : Int32)
  · rw [if_pos c12] at h
    obtain ⟨r13, e14, h⟩ := q_bind h
    have fx15 : q_Fx S r13.2 := q_Fx.tr (q_Fx.rf S) (fxX12_pop e14)
    by_cases c : (lg_cmp r13.1 (1099511627776 : Int64)) = 0
    · rw [if_pos c] at h
      obtain ⟨r25, e26, h⟩ := q_bind h
      have fx27 : q_Fx S r25 := q_Fx.tr (fx15) (fxX12_raise e26)
      obtain rfl := Option.some.inj h
      exact fx27
    · rw [if_neg c] at h
      obtain ⟨r16, e17, h⟩ := q_bind h
      obtain ⟨hg18, h⟩ := q_guard h
      obtain ⟨r19, e20, h⟩ := q_bind h
      have fx21 : q_Fx S r19 := q_Fx.tr (fx15) (fxX12_push e20)
      obtain ⟨r22, e23, h⟩ := q_bind h
      have fx24 : q_Fx S r22 := q_Fx.tr (fx21) (fxX12_next e23)
      obtain rfl := Option.some.inj h
      exact fx24
  rw [if_neg c12] at h
  by_cases c28 : x1 = (33 : Int32) ∨ x1 = (34 : Int32)
  · rw [if_pos c28] at h
    obtain ⟨r29, e30, h⟩ := q_bind h
    have fx31 : q_Fx S r29 := q_Fx.tr (q_Fx.rf S) (fxX12_elementStep e30)
    obtain rfl := Option.some.inj h
    exact fx31
  rw [if_neg c28] at h
  by_cases c32 : x1 = (35 : Int32) ∨ x1 = (36 : Int32)
  · rw [if_pos c32] at h
    obtain ⟨v36, hv, h⟩ := q_bind h
    have fx37 : q_Fx S v36.2 := by
      replace h := hv
      by_cases c : x1 = (36 : Int32)
      · rw [if_pos c] at h
        obtain ⟨r33, e34, h⟩ := q_bind h
        have fx35 : q_Fx S r33.2 := q_Fx.tr (q_Fx.rf S) (fxX12_pop e34)
        obtain rfl := Option.some.inj h
        exact fx35
      · rw [if_neg c] at h
        obtain rfl := Option.some.inj h
        exact q_Fx.rf _
    obtain ⟨r38, e39, h⟩ := q_bind h
    have fx40 : q_Fx S r38.2 := q_Fx.tr (fx37) (fxX12_pop e39)
    by_cases c : (lg_cmp r38.1 (1099511627776 : Int64)) = 0
    · rw [if_pos c] at h
      obtain ⟨r59, e60, h⟩ := q_bind h
      have fx61 : q_Fx S r59 := q_Fx.tr (fx40) (fxX12_raise e60)
      obtain rfl := Option.some.inj h
      exact fx61
    · rw [if_neg c] at h
      obtain ⟨r41, e42, h⟩ := q_bind h
      obtain ⟨hg43, h⟩ := q_guard h
      obtain ⟨hg44, h⟩ := q_guard h
      by_cases c : x1 = (36 : Int32)
      · rw [if_pos c] at h
        obtain ⟨hg52, h⟩ := q_guard h
        obtain ⟨S53, e54, h⟩ := q_bindS h
        have fx55 : q_Fx S S53 := e54 ▸ q_Fx.sJ (fx40)
        obtain ⟨r56, e57, h⟩ := q_bind h
        have fx58 : q_Fx S r56 := q_Fx.tr (fx55) (fxX12_next e57)
        obtain rfl := Option.some.inj h
        exact fx58
      · rw [if_neg c] at h
        obtain ⟨hg45, h⟩ := q_guard h
        obtain ⟨r46, e47, h⟩ := q_bind h
        have fx48 : q_Fx S r46 := q_Fx.tr (fx40) (fxX12_push e47)
        obtain ⟨r49, e50, h⟩ := q_bind h
        have fx51 : q_Fx S r49 := q_Fx.tr (fx48) (fxX12_next e50)
        obtain rfl := Option.some.inj h
        exact fx51
  rw [if_neg c32] at h
  by_cases c62 : x1 = (37 : Int32) ∨ x1 = (38 : Int32)
  · rw [if_pos c62] at h
    obtain ⟨r63, e64, h⟩ := q_bind h
    have fx65 : q_Fx S r63.2 := q_Fx.tr (q_Fx.rf S) (fxX12_pop e64)
    obtain ⟨v71, hv, h⟩ := q_bind h
    by_cases c : x1 = (37 : Int32)
    · rw [if_pos c] at h
      by_cases c : (lg_cmp r63.1 (1099511627776 : Int64)) = 0
      · rw [if_pos c] at h
        exact (fx65).tr (fxX12_objectStep_287 h)
      · rw [if_neg c] at h
        by_cases c : v71 = true
        · rw [if_pos c] at h
          exact (fx65).tr (fxX12_objectStep_287 h)
        · rw [if_neg c] at h
          obtain ⟨r72, e73, h⟩ := q_bind h
          have fx74 : q_Fx S r72 := q_Fx.tr (fx65) (fxX12_raise e73)
          obtain rfl := Option.some.inj h
          exact fx74
    · rw [if_neg c] at h
      exact (fx65).tr (fxX12_objectStep_287 h)
  rw [if_neg c62] at h
  by_cases c75 : x1 = (39 : Int32) ∨ x1 = (40 : Int32)
  · rw [if_pos c75] at h
    obtain ⟨r76, e77, h⟩ := q_bind h
    have fx78 : q_Fx S r76 := q_Fx.tr (q_Fx.rf S) (fxX12_callStep e77)
    obtain rfl := Option.some.inj h
    exact fx78
  rw [if_neg c75] at h
  by_cases c79 : x1 = (41 : Int32)
  · rw [if_pos c79] at h
    obtain ⟨r80, e81, h⟩ := q_bind h
    have fx82 : q_Fx S r80.2 := q_Fx.tr (q_Fx.rf S) (fxX12_pop e81)
    by_cases c : (lg_cmp r80.1 (1099511627776 : Int64)) = 0
    · rw [if_pos c] at h
      obtain ⟨r86, e87, h⟩ := q_bind h
      have fx88 : q_Fx S r86 := q_Fx.tr (fx82) (fxX12_raise e87)
      obtain rfl := Option.some.inj h
      exact fx88
    · rw [if_neg c] at h
      obtain ⟨r83, e84, h⟩ := q_bind h
      have fx85 : q_Fx S r83 := q_Fx.tr (fx82) (fxX12_toss e84)
      obtain rfl := Option.some.inj h
      exact fx85
  rw [if_neg c79] at h
  obtain ⟨v92, hv, h⟩ := q_bind h
  have fx93 : q_Fx S v92.2 := by
    replace h := hv
    by_cases c : x1 = (42 : Int32)
    · rw [if_pos c] at h
      obtain ⟨r89, e90, h⟩ := q_bind h
      have fx91 : q_Fx S r89.2 := q_Fx.tr (q_Fx.rf S) (fxX12_pop e90)
      obtain rfl := Option.some.inj h
      exact fx91
    · rw [if_neg c] at h
      obtain rfl := Option.some.inj h
      exact q_Fx.rf _
  by_cases c : (v92.2.2.1 102 35) = (1 : Int32)
  · rw [if_pos c] at h
    obtain ⟨r106, e107, h⟩ := q_bind h
    have fx108 : q_Fx S r106 := q_Fx.tr (fx93) (fxX12_ended e107)
    obtain rfl := Option.some.inj h
    exact fx108
  · rw [if_neg c] at h
    obtain ⟨S94, e95, h⟩ := q_bindS h
    have fx96 : q_Fx S S94 := e95 ▸ q_Fx.sI (fx93)
    by_cases c : x1 = (42 : Int32)
    · rw [if_pos c] at h
      obtain ⟨r100, e101, h⟩ := q_bind h
      have fx102 : q_Fx S r100 := q_Fx.tr (fx96) (fxX12_push e101)
      obtain ⟨r103, e104, h⟩ := q_bind h
      have fx105 : q_Fx S r103 := q_Fx.tr (fx102) (fxX12_next e104)
      obtain rfl := Option.some.inj h
      exact fx105
    · rw [if_neg c] at h
      obtain ⟨r97, e98, h⟩ := q_bind h
      have fx99 : q_Fx S r97 := q_Fx.tr (fx96) (fxX12_next e98)
      obtain rfl := Option.some.inj h
      exact fx99

theorem fxX12_step {S : QS} {q : Nat} {x1 : Int32} {r : QS} (h : fX12_step S q x1 = some r) : q_Fx S r := by
  unfold fX12_step at h
  obtain ⟨hg1, h⟩ := q_guard h
  obtain ⟨hg2, h⟩ := q_guard h
  by_cases c3 : (S.2.1 (q + 15) x1.toNatClampNeg) = (0 : Int32)
  · rw [if_pos c3] at h
    obtain ⟨r4, e5, h⟩ := q_bind h
    have fx6 : q_Fx S r4 := q_Fx.tr (q_Fx.rf S) (fxX12_push e5)
    obtain ⟨r7, e8, h⟩ := q_bind h
    have fx9 : q_Fx S r7 := q_Fx.tr (fx6) (fxX12_next e8)
    obtain rfl := Option.some.inj h
    exact fx9
  rw [if_neg c3] at h
  by_cases c10 : (S.2.1 (q + 15) x1.toNatClampNeg) = (1 : Int32)
  · rw [if_pos c10] at h
    obtain ⟨r11, e12, h⟩ := q_bind h
    have fx13 : q_Fx S r11 := q_Fx.tr (q_Fx.rf S) (fxX12_push e12)
    obtain ⟨r14, e15, h⟩ := q_bind h
    have fx16 : q_Fx S r14 := q_Fx.tr (fx13) (fxX12_next e15)
    obtain rfl := Option.some.inj h
    exact fx16
  rw [if_neg c10] at h
  by_cases c17 : (S.2.1 (q + 15) x1.toNatClampNeg) = (2 : Int32)
  · rw [if_pos c17] at h
    obtain ⟨r18, e19, h⟩ := q_bind h
    obtain ⟨r20, e21, h⟩ := q_bind h
    have fx22 : q_Fx S r20 := q_Fx.tr (q_Fx.rf S) (fxX12_push e21)
    obtain ⟨r23, e24, h⟩ := q_bind h
    have fx25 : q_Fx S r23 := q_Fx.tr (fx22) (fxX12_next e24)
    obtain rfl := Option.some.inj h
    exact fx25
  rw [if_neg c17] at h
  by_cases c26 : (S.2.1 (q + 15) x1.toNatClampNeg) = (3 : Int32)
  · rw [if_pos c26] at h
    obtain ⟨r27, e28, h⟩ := q_bind h
    have fx29 : q_Fx S r27.2 := q_Fx.tr (q_Fx.rf S) (fxX12_pop e28)
    obtain ⟨hg30, h⟩ := q_guard h
    obtain ⟨S31, e32, h⟩ := q_bindS h
    have fx33 : q_Fx S S31 := e32 ▸ q_Fx.sJ (fx29)
    obtain ⟨r34, e35, h⟩ := q_bind h
    have fx36 : q_Fx S r34 := q_Fx.tr (fx33) (fxX12_next e35)
    obtain rfl := Option.some.inj h
    exact fx36
  rw [if_neg c26] at h
  by_cases c37 : (S.2.1 (q + 15) x1.toNatClampNeg) = (4 : Int32)
  · rw [if_pos c37] at h
    obtain ⟨r38, e39, h⟩ := q_bind h
    obtain ⟨hg40, h⟩ := q_guard h
    obtain ⟨hg41, h⟩ := q_guard h
    obtain ⟨S42, e43, h⟩ := q_bindS h
    have fx44 : q_Fx S S42 := e43 ▸ q_Fx.sJ (q_Fx.rf S)
    obtain ⟨r45, e46, h⟩ := q_bind h
    have fx47 : q_Fx S r45 := q_Fx.tr (fx44) (fxX12_next e46)
    obtain rfl := Option.some.inj h
    exact fx47
  rw [if_neg c37] at h
  by_cases c48 : (S.2.1 (q + 15) x1.toNatClampNeg) = (5 : Int32)
  · rw [if_pos c48] at h
    obtain ⟨r49, e50, h⟩ := q_bind h
    have fx51 : q_Fx S r49.2 := q_Fx.tr (q_Fx.rf S) (fxX12_pop e50)
    obtain ⟨r52, e53, h⟩ := q_bind h
    have fx54 : q_Fx S r52 := q_Fx.tr (fx51) (fxX12_push e53)
    obtain ⟨r55, e56, h⟩ := q_bind h
    have fx57 : q_Fx S r55 := q_Fx.tr (fx54) (fxX12_push e56)
    obtain ⟨r58, e59, h⟩ := q_bind h
    have fx60 : q_Fx S r58 := q_Fx.tr (fx57) (fxX12_next e59)
    obtain rfl := Option.some.inj h
    exact fx60
  rw [if_neg c48] at h
  by_cases c61 : (S.2.1 (q + 15) x1.toNatClampNeg) = (6 : Int32)
  · rw [if_pos c61] at h
    obtain ⟨r62, e63, h⟩ := q_bind h
    have fx64 : q_Fx S r62.2 := q_Fx.tr (q_Fx.rf S) (fxX12_pop e63)
    obtain ⟨r65, e66, h⟩ := q_bind h
    have fx67 : q_Fx S r65 := q_Fx.tr (fx64) (fxX12_next e66)
    obtain rfl := Option.some.inj h
    exact fx67
  rw [if_neg c61] at h
  by_cases c68 : (S.2.1 (q + 15) x1.toNatClampNeg) = (7 : Int32)
  · rw [if_pos c68] at h
    obtain ⟨r69, e70, h⟩ := q_bind h
    have fx71 : q_Fx S r69.2 := q_Fx.tr (q_Fx.rf S) (fxX12_pop e70)
    obtain ⟨r72, e73, h⟩ := q_bind h
    have fx74 : q_Fx S r72.2 := q_Fx.tr (fx71) (fxX12_pop e73)
    obtain ⟨r75, e76, h⟩ := q_bind h
    have fx77 : q_Fx S r75 := q_Fx.tr (fx74) (fxX12_push e76)
    obtain ⟨r78, e79, h⟩ := q_bind h
    have fx80 : q_Fx S r78 := q_Fx.tr (fx77) (fxX12_push e79)
    obtain ⟨r81, e82, h⟩ := q_bind h
    have fx83 : q_Fx S r81 := q_Fx.tr (fx80) (fxX12_next e82)
    obtain rfl := Option.some.inj h
    exact fx83
  rw [if_neg c68] at h
  by_cases c84 : (S.2.1 (q + 15) x1.toNatClampNeg) = (18 : Int32)
  · rw [if_pos c84] at h
    obtain ⟨r85, e86, h⟩ := q_bind h
    have fx87 : q_Fx S r85.2 := q_Fx.tr (q_Fx.rf S) (fxX12_pop e86)
    obtain ⟨r88, e89, h⟩ := q_bind h
    have fx90 : q_Fx S r88 := q_Fx.tr (fx87) (fxX12_push e89)
    obtain ⟨r91, e92, h⟩ := q_bind h
    have fx93 : q_Fx S r91 := q_Fx.tr (fx90) (fxX12_next e92)
    obtain rfl := Option.some.inj h
    exact fx93
  rw [if_neg c84] at h
  by_cases c94 : (S.2.1 (q + 15) x1.toNatClampNeg) = (19 : Int32)
  · rw [if_pos c94] at h
    obtain ⟨hg95, h⟩ := q_guard h
    obtain ⟨S96, e97, h⟩ := q_bindS h
    have fx98 : q_Fx S S96 := e97 ▸ q_Fx.sI (q_Fx.rf S)
    obtain rfl := Option.some.inj h
    exact fx98
  rw [if_neg c94] at h
  by_cases c99 : (S.2.1 (q + 15) x1.toNatClampNeg) = (44 : Int32)
  · rw [if_pos c99] at h
    obtain ⟨v101, hv, h⟩ := q_bind h
    obtain ⟨r102, e103, h⟩ := q_bind h
    have fx104 : q_Fx S r102 := q_Fx.tr (q_Fx.rf S) (fxX12_push e103)
    by_cases c : (r102.2.1 102 38) ≤ (r102.2.1 102 39)
    · rw [if_pos c] at h
      obtain ⟨r105, e106, h⟩ := q_bind h
      have fx107 : q_Fx S r105 := q_Fx.tr (fx104) (fxX12_next e106)
      obtain rfl := Option.some.inj h
      exact fx107
    · rw [if_neg c] at h
      obtain ⟨S108, e109, h⟩ := q_bindS h
      have fx110 : q_Fx S S108 := e109 ▸ q_Fx.sI (fx104)
      obtain ⟨r111, e112, h⟩ := q_bind h
      have fx113 : q_Fx S r111 := q_Fx.tr (fx110) (fxX12_next e112)
      obtain rfl := Option.some.inj h
      exact fx113
  rw [if_neg c99] at h
  by_cases c114 : (S.2.1 (q + 15) x1.toNatClampNeg) = (45 : Int32)
  · rw [if_pos c114] at h
    obtain ⟨r115, e116, h⟩ := q_bind h
    have fx117 : q_Fx S r115.2 := q_Fx.tr (q_Fx.rf S) (fxX12_pop e116)
    obtain ⟨v122, hv, h⟩ := q_bind h
    have fx123 : q_Fx S v122 := by
      replace h := hv
      by_cases c : (256 : Int32) ≤ (r115.2.2.1 102 40)
      · rw [if_pos c] at h
        obtain rfl := Option.some.inj h
        exact fx117
      · rw [if_neg c] at h
        obtain ⟨hg118, h⟩ := q_guard h
        obtain ⟨S119, e120, h⟩ := q_bindS h
        have fx121 : q_Fx S S119 := e120 ▸ q_Fx.sI (fx117)
        obtain rfl := Option.some.inj h
        exact fx121
    obtain ⟨S124, e125, h⟩ := q_bindS h
    have fx126 : q_Fx S S124 := e125 ▸ q_Fx.sI (fx123)
    obtain ⟨r127, e128, h⟩ := q_bind h
    have fx129 : q_Fx S r127 := q_Fx.tr (fx126) (fxX12_next e128)
    obtain rfl := Option.some.inj h
    exact fx129
  rw [if_neg c114] at h
  by_cases c : (S.2.1 (q + 15) x1.toNatClampNeg) < (8 : Int32)
  · rw [if_pos c] at h
    by_cases c : (S.2.1 (q + 15) x1.toNatClampNeg) < (20 : Int32)
    · rw [if_pos c] at h
      obtain ⟨r130, e131, h⟩ := q_bind h
      have fx132 : q_Fx S r130 := q_Fx.tr (q_Fx.rf S) (fxX12_objectStep e131)
      obtain rfl := Option.some.inj h
      exact fx132
    · rw [if_neg c] at h
      by_cases c : (29 : Int32) < (S.2.1 (q + 15) x1.toNatClampNeg)
      · rw [if_pos c] at h
        obtain ⟨r133, e134, h⟩ := q_bind h
        have fx135 : q_Fx S r133 := q_Fx.tr (q_Fx.rf S) (fxX12_objectStep e134)
        obtain rfl := Option.some.inj h
        exact fx135
      · rw [if_neg c] at h
        obtain ⟨r136, e137, h⟩ := q_bind h
        have fx138 : q_Fx S r136 := q_Fx.tr (q_Fx.rf S) (fxX12_branch e137)
        obtain rfl := Option.some.inj h
        exact fx138
  · rw [if_neg c] at h
    by_cases c : (17 : Int32) < (S.2.1 (q + 15) x1.toNatClampNeg)
    · rw [if_pos c] at h
      by_cases c : (S.2.1 (q + 15) x1.toNatClampNeg) < (20 : Int32)
      · rw [if_pos c] at h
        obtain ⟨r139, e140, h⟩ := q_bind h
        have fx141 : q_Fx S r139 := q_Fx.tr (q_Fx.rf S) (fxX12_objectStep e140)
        obtain rfl := Option.some.inj h
        exact fx141
      · rw [if_neg c] at h
        by_cases c : (29 : Int32) < (S.2.1 (q + 15) x1.toNatClampNeg)
        · rw [if_pos c] at h
          obtain ⟨r142, e143, h⟩ := q_bind h
          have fx144 : q_Fx S r142 := q_Fx.tr (q_Fx.rf S) (fxX12_objectStep e143)
          obtain rfl := Option.some.inj h
          exact fx144
        · rw [if_neg c] at h
          obtain ⟨r145, e146, h⟩ := q_bind h
          have fx147 : q_Fx S r145 := q_Fx.tr (q_Fx.rf S) (fxX12_branch e146)
          obtain rfl := Option.some.inj h
          exact fx147
    · rw [if_neg c] at h
      obtain ⟨r148, e149, h⟩ := q_bind h
      have fx150 : q_Fx S r148 := q_Fx.tr (q_Fx.rf S) (fxX12_reckon e149)
      obtain rfl := Option.some.inj h
      exact fx150
theorem fxtX12_run_71 {q : Nat} {y1 : Int32} {x : QS} {z : (Int32 × QS) ⊕ (QS)} (h : tX12_run_71 q y1 x = some z) : q_Fx ((fun x : QS => x) x) ((Sum.elim (fun r : Int32 × QS => r.2) (fun x : QS => x)) z) := by
  unfold tX12_run_71 at h
  show q_Fx x _
  by_cases c : 0 ≤ (x.2.1 102 44)
  · rw [if_pos c] at h
    obtain ⟨S1, e2, h⟩ := q_bindS h
    have fx3 : q_Fx x S1 := e2 ▸ q_Fx.sI (q_Fx.rf x)
    cases h
    exact fx3
  · rw [if_neg c] at h
    obtain ⟨hg4, h⟩ := q_guard h
    by_cases c : (x.2.1 102 41) = y1
    · rw [if_pos c] at h
      obtain ⟨S18, e19, h⟩ := q_bindS h
      have fx20 : q_Fx x S18 := e19 ▸ q_Fx.sI (q_Fx.rf x)
      obtain ⟨S21, e22, h⟩ := q_bindS h
      have fx23 : q_Fx x S21 := e22 ▸ q_Fx.sI (fx20)
      cases h
      exact fx23
    · rw [if_neg c] at h
      obtain ⟨S5, e6, h⟩ := q_bindS h
      have fx7 : q_Fx x S5 := e6 ▸ q_Fx.sI (q_Fx.rf x)
      obtain ⟨r8, e9, h⟩ := q_bind h
      obtain ⟨v13, hv, h⟩ := q_bind h
      have fx14 : q_Fx x v13 := by
        replace h := hv
        by_cases c : r8 = true
        · rw [if_pos c] at h
          obtain rfl := Option.some.inj h
          exact fx7
        · rw [if_neg c] at h
          obtain ⟨S10, e11, h⟩ := q_bindS h
          have fx12 : q_Fx x S10 := e11 ▸ q_Fx.sI (fx7)
          obtain rfl := Option.some.inj h
          exact fx12
      obtain ⟨r15, e16, h⟩ := q_bind h
      have fx17 : q_Fx x r15 := q_Fx.tr (fx14) (fxX12_step e16)
      cases h
      exact fx17
theorem fxX12_run_71 {S : QS} {q : Nat} {y1 : Int32} {r : Int32 × QS} (h : fX12_run_71 S q y1 = some r) : q_Fx S ((fun r : Int32 × QS => r.2) r) := q_run_fx (fun x : QS => x) (fun r : Int32 × QS => r.2) (fun _ _ hz => fxtX12_run_71 hz) h
theorem fxX12_run {S : QS} {q : Nat} {x1 : Int32} {r : Int32 × QS} (h : fX12_run S q x1 = some r) : q_Fx S r.2 := by
  unfold fX12_run at h
  by_cases c : (S.2.1 102 2) = 0
  · rw [if_pos c] at h
    obtain rfl := Option.some.inj h
    exact q_Fx.rf _
  · rw [if_neg c] at h
    by_cases c : x1 < 0
    · rw [if_pos c] at h
      obtain rfl := Option.some.inj h
      exact q_Fx.rf _
    · rw [if_neg c] at h
      by_cases c : x1 ≤ (20000 : Int32)
      · rw [if_pos c] at h
        obtain ⟨S24, e25, h⟩ := q_bindS h
        have fx26 : q_Fx S S24 := e25 ▸ q_Fx.sI (q_Fx.rf S)
        obtain ⟨S27, e28, h⟩ := q_bindS h
        have fx29 : q_Fx S S27 := e28 ▸ q_Fx.sI (fx26)
        obtain ⟨S30, e31, h⟩ := q_bindS h
        have fx32 : q_Fx S S30 := e31 ▸ q_Fx.sI (fx29)
        obtain ⟨S33, e34, h⟩ := q_bindS h
        have fx35 : q_Fx S S33 := e34 ▸ q_Fx.sI (fx32)
        obtain ⟨S36, e37, h⟩ := q_bindS h
        have fx38 : q_Fx S S36 := e37 ▸ q_Fx.sI (fx35)
        obtain ⟨S39, e40, h⟩ := q_bindS h
        have fx41 : q_Fx S S39 := e40 ▸ q_Fx.sI (fx38)
        obtain ⟨S42, e43, h⟩ := q_bindS h
        have fx44 : q_Fx S S42 := e43 ▸ q_Fx.sI (fx41)
        obtain ⟨S45, e46, h⟩ := q_bindS h
        have fx47 : q_Fx S S45 := e46 ▸ q_Fx.sI (fx44)
        obtain ⟨r48, e49, h⟩ := q_bind h
        have fx50 : q_Fx S r48 := q_Fx.tr (fx47) (fxX12_enter e49)
        exact (fx50).tr (fxX12_run_71 h)
      · rw [if_neg c] at h
        obtain rfl := Option.some.inj h
        exact q_Fx.rf _
