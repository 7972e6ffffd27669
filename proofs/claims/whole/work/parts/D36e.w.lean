def wlX12_objectStep : List (Nat × Nat × Nat) := [(0, 102, 35), (0, 102, 36), (0, 102, 37), (0, 102, 42), (0, 102, 43), (0, 102, 44), (0, 172, 999), (0, 173, 999), (0, 174, 999), (0, 175, 999), (0, 176, 999), (0, 177, 999), (0, 178, 999), (0, 179, 999), (0, 180, 999)]
theorem fwX12_objectStep_287 {S : QS} {q : Nat} {y1 : Int32} {y11 : Int64} {y13 : Int32} {r : QS} (hq : q_qok q) (h : fX12_objectStep_287 S q y1 y11 y13 = some r) : q_Fw wlX12_objectStep q S r := by
  unfold fX12_objectStep_287 at h
  obtain ⟨v1, hv, h⟩ := q_bind h
  obtain ⟨r2, e3, h⟩ := q_bind h
  have fx4 : q_Fw wlX12_objectStep q S r2 := q_Fw.tr (q_Fw.rf S) (((fwX12_push e3).nov (p' := q) rfl).up rfl)
  obtain ⟨r5, e6, h⟩ := q_bind h
  have fx7 : q_Fw wlX12_objectStep q S r5 := q_Fw.tr (fx4) (((fwX12_next e6).nov (p' := q) rfl).up rfl)
  obtain rfl := Option.some.inj h
  exact fx7
theorem fwX12_objectStep {S : QS} {q : Nat} {x1 : Int32} {x2 : Int32} {x3 : Int32} {r : QS} (hq : q_qok q) (h : fX12_objectStep S q x1 x2 x3 = some r) : q_Fw wlX12_objectStep q S r := by
  unfold fX12_objectStep at h
  by_cases c8 : x1 = (30 : Int32) ∨ x1 = (31 : Int32)
  · rw [if_pos c8] at h
    obtain ⟨r9, e10, h⟩ := q_bind h
    have fx11 : q_Fw wlX12_objectStep q S r9 := q_Fw.tr (q_Fw.rf S) ((fwX12_make hq e10).up rfl)
    obtain rfl := Option.some.inj h
    exact fx11
  rw [if_neg c8] at h
  by_cases c12 : x1 = (32 : Int32)
  · rw [if_pos c12] at h
    obtain ⟨r13, e14, h⟩ := q_bind h
    have fx15 : q_Fw wlX12_objectStep q S r13.2 := q_Fw.tr (q_Fw.rf S) (((fwX12_pop e14).nov (p' := q) rfl).up rfl)
    by_cases c : (lg_cmp r13.1 (1099511627776 : Int64)) = 0
    · rw [if_pos c] at h
      obtain ⟨r25, e26, h⟩ := q_bind h
      have fx27 : q_Fw wlX12_objectStep q S r25 := q_Fw.tr (fx15) ((fwX12_raise hq e26).up rfl)
      obtain rfl := Option.some.inj h
      exact fx27
    · rw [if_neg c] at h
      obtain ⟨r16, e17, h⟩ := q_bind h
      obtain ⟨hg18, h⟩ := q_guard h
      obtain ⟨r19, e20, h⟩ := q_bind h
      have fx21 : q_Fw wlX12_objectStep q S r19 := q_Fw.tr (fx15) (((fwX12_push e20).nov (p' := q) rfl).up rfl)
      obtain ⟨r22, e23, h⟩ := q_bind h
      have fx24 : q_Fw wlX12_objectStep q S r22 := q_Fw.tr (fx21) (((fwX12_next e23).nov (p' := q) rfl).up rfl)
      obtain rfl := Option.some.inj h
      exact fx24
  rw [if_neg c12] at h
  by_cases c28 : x1 = (33 : Int32) ∨ x1 = (34 : Int32)
  · rw [if_pos c28] at h
    obtain ⟨r29, e30, h⟩ := q_bind h
    have fx31 : q_Fw wlX12_objectStep q S r29 := q_Fw.tr (q_Fw.rf S) ((fwX12_elementStep hq e30).up rfl)
    obtain rfl := Option.some.inj h
    exact fx31
  rw [if_neg c28] at h
  by_cases c32 : x1 = (35 : Int32) ∨ x1 = (36 : Int32)
  · rw [if_pos c32] at h
    obtain ⟨v36, hv, h⟩ := q_bind h
    have fx37 : q_Fw wlX12_objectStep q S v36.2 := by
      replace h := hv
      by_cases c : x1 = (36 : Int32)
      · rw [if_pos c] at h
        obtain ⟨r33, e34, h⟩ := q_bind h
        have fx35 : q_Fw wlX12_objectStep q S r33.2 := q_Fw.tr (q_Fw.rf S) (((fwX12_pop e34).nov (p' := q) rfl).up rfl)
        obtain rfl := Option.some.inj h
        exact fx35
      · rw [if_neg c] at h
        obtain rfl := Option.some.inj h
        exact q_Fw.rf _
    obtain ⟨r38, e39, h⟩ := q_bind h
    have fx40 : q_Fw wlX12_objectStep q S r38.2 := q_Fw.tr (fx37) (((fwX12_pop e39).nov (p' := q) rfl).up rfl)
    by_cases c : (lg_cmp r38.1 (1099511627776 : Int64)) = 0
    · rw [if_pos c] at h
      obtain ⟨r59, e60, h⟩ := q_bind h
      have fx61 : q_Fw wlX12_objectStep q S r59 := q_Fw.tr (fx40) ((fwX12_raise hq e60).up rfl)
      obtain rfl := Option.some.inj h
      exact fx61
    · rw [if_neg c] at h
      obtain ⟨r41, e42, h⟩ := q_bind h
      obtain ⟨hg43, h⟩ := q_guard h
      obtain ⟨hg44, h⟩ := q_guard h
      by_cases c : x1 = (36 : Int32)
      · rw [if_pos c] at h
        obtain ⟨hg52, h⟩ := q_guard h
        obtain ⟨S53, e54, h⟩ := q_bindS h
        have fx55 : q_Fw wlX12_objectStep q S S53 := e54 ▸ q_Fw.sJ (i := 14) (b := 0) (k := 180) (jj := 999) (fx40) rfl rfl (Or.inl rfl)
        obtain ⟨r56, e57, h⟩ := q_bind h
        have fx58 : q_Fw wlX12_objectStep q S r56 := q_Fw.tr (fx55) (((fwX12_next e57).nov (p' := q) rfl).up rfl)
        obtain rfl := Option.some.inj h
        exact fx58
      · rw [if_neg c] at h
        obtain ⟨hg45, h⟩ := q_guard h
        obtain ⟨r46, e47, h⟩ := q_bind h
        have fx48 : q_Fw wlX12_objectStep q S r46 := q_Fw.tr (fx40) (((fwX12_push e47).nov (p' := q) rfl).up rfl)
        obtain ⟨r49, e50, h⟩ := q_bind h
        have fx51 : q_Fw wlX12_objectStep q S r49 := q_Fw.tr (fx48) (((fwX12_next e50).nov (p' := q) rfl).up rfl)
        obtain rfl := Option.some.inj h
        exact fx51
  rw [if_neg c32] at h
  by_cases c62 : x1 = (37 : Int32) ∨ x1 = (38 : Int32)
  · rw [if_pos c62] at h
    obtain ⟨r63, e64, h⟩ := q_bind h
    have fx65 : q_Fw wlX12_objectStep q S r63.2 := q_Fw.tr (q_Fw.rf S) (((fwX12_pop e64).nov (p' := q) rfl).up rfl)
    obtain ⟨v71, hv, h⟩ := q_bind h
    by_cases c : x1 = (37 : Int32)
    · rw [if_pos c] at h
      by_cases c : (lg_cmp r63.1 (1099511627776 : Int64)) = 0
      · rw [if_pos c] at h
        exact (fx65).tr (fwX12_objectStep_287 hq h)
      · rw [if_neg c] at h
        by_cases c : v71 = true
        · rw [if_pos c] at h
          exact (fx65).tr (fwX12_objectStep_287 hq h)
        · rw [if_neg c] at h
          obtain ⟨r72, e73, h⟩ := q_bind h
          have fx74 : q_Fw wlX12_objectStep q S r72 := q_Fw.tr (fx65) ((fwX12_raise hq e73).up rfl)
          obtain rfl := Option.some.inj h
          exact fx74
    · rw [if_neg c] at h
      exact (fx65).tr (fwX12_objectStep_287 hq h)
  rw [if_neg c62] at h
  by_cases c75 : x1 = (39 : Int32) ∨ x1 = (40 : Int32)
  · rw [if_pos c75] at h
    obtain ⟨r76, e77, h⟩ := q_bind h
    have fx78 : q_Fw wlX12_objectStep q S r76 := q_Fw.tr (q_Fw.rf S) ((fwX12_callStep hq e77).up rfl)
    obtain rfl := Option.some.inj h
    exact fx78
  rw [if_neg c75] at h
  by_cases c79 : x1 = (41 : Int32)
  · rw [if_pos c79] at h
    obtain ⟨r80, e81, h⟩ := q_bind h
    have fx82 : q_Fw wlX12_objectStep q S r80.2 := q_Fw.tr (q_Fw.rf S) (((fwX12_pop e81).nov (p' := q) rfl).up rfl)
    by_cases c : (lg_cmp r80.1 (1099511627776 : Int64)) = 0
    · rw [if_pos c] at h
      obtain ⟨r86, e87, h⟩ := q_bind h
      have fx88 : q_Fw wlX12_objectStep q S r86 := q_Fw.tr (fx82) ((fwX12_raise hq e87).up rfl)
      obtain rfl := Option.some.inj h
      exact fx88
    · rw [if_neg c] at h
      obtain ⟨r83, e84, h⟩ := q_bind h
      have fx85 : q_Fw wlX12_objectStep q S r83 := q_Fw.tr (fx82) ((fwX12_toss hq e84).up rfl)
      obtain rfl := Option.some.inj h
      exact fx85
  rw [if_neg c79] at h
  obtain ⟨v92, hv, h⟩ := q_bind h
  have fx93 : q_Fw wlX12_objectStep q S v92.2 := by
    replace h := hv
    by_cases c : x1 = (42 : Int32)
    · rw [if_pos c] at h
      obtain ⟨r89, e90, h⟩ := q_bind h
      have fx91 : q_Fw wlX12_objectStep q S r89.2 := q_Fw.tr (q_Fw.rf S) (((fwX12_pop e90).nov (p' := q) rfl).up rfl)
      obtain rfl := Option.some.inj h
      exact fx91
    · rw [if_neg c] at h
      obtain rfl := Option.some.inj h
      exact q_Fw.rf _
  by_cases c : (v92.2.2.1 102 35) = (1 : Int32)
  · rw [if_pos c] at h
    obtain ⟨r106, e107, h⟩ := q_bind h
    have fx108 : q_Fw wlX12_objectStep q S r106 := q_Fw.tr (fx93) (((fwX12_ended e107).nov (p' := q) rfl).up rfl)
    obtain rfl := Option.some.inj h
    exact fx108
  · rw [if_neg c] at h
    obtain ⟨S94, e95, h⟩ := q_bindS h
    have fx96 : q_Fw wlX12_objectStep q S S94 := e95 ▸ q_Fw.sI (i := 0) (b := 0) (k := 102) (jj := 35) (fx93) rfl rfl (Or.inr rfl) (Or.inl rfl)
    by_cases c : x1 = (42 : Int32)
    · rw [if_pos c] at h
      obtain ⟨r100, e101, h⟩ := q_bind h
      have fx102 : q_Fw wlX12_objectStep q S r100 := q_Fw.tr (fx96) (((fwX12_push e101).nov (p' := q) rfl).up rfl)
      obtain ⟨r103, e104, h⟩ := q_bind h
      have fx105 : q_Fw wlX12_objectStep q S r103 := q_Fw.tr (fx102) (((fwX12_next e104).nov (p' := q) rfl).up rfl)
      obtain rfl := Option.some.inj h
      exact fx105
    · rw [if_neg c] at h
      obtain ⟨r97, e98, h⟩ := q_bind h
      have fx99 : q_Fw wlX12_objectStep q S r97 := q_Fw.tr (fx96) (((fwX12_next e98).nov (p' := q) rfl).up rfl)
      obtain rfl := Option.some.inj h
      exact fx99
def wlX12_step : List (Nat × Nat × Nat) := [(0, 102, 35), (0, 102, 36), (0, 102, 37), (0, 102, 39), (0, 102, 40), (0, 102, 42), (0, 102, 43), (0, 102, 44), (0, 172, 999), (0, 173, 999), (0, 174, 999), (0, 175, 999), (0, 176, 999), (0, 177, 999), (0, 178, 999), (0, 179, 999), (0, 180, 999), (0, 182, 999)]
theorem fwX12_step {S : QS} {q : Nat} {x1 : Int32} {r : QS} (hq : q_qok q) (h : fX12_step S q x1 = some r) : q_Fw wlX12_step q S r := by
  unfold fX12_step at h
  obtain ⟨hg1, h⟩ := q_guard h
  obtain ⟨hg2, h⟩ := q_guard h
  by_cases c3 : (S.2.1 (q + 15) x1.toNatClampNeg) = (0 : Int32)
  · rw [if_pos c3] at h
    obtain ⟨r4, e5, h⟩ := q_bind h
    have fx6 : q_Fw wlX12_step q S r4 := q_Fw.tr (q_Fw.rf S) (((fwX12_push e5).nov (p' := q) rfl).up rfl)
    obtain ⟨r7, e8, h⟩ := q_bind h
    have fx9 : q_Fw wlX12_step q S r7 := q_Fw.tr (fx6) (((fwX12_next e8).nov (p' := q) rfl).up rfl)
    obtain rfl := Option.some.inj h
    exact fx9
  rw [if_neg c3] at h
  by_cases c10 : (S.2.1 (q + 15) x1.toNatClampNeg) = (1 : Int32)
  · rw [if_pos c10] at h
    obtain ⟨r11, e12, h⟩ := q_bind h
    have fx13 : q_Fw wlX12_step q S r11 := q_Fw.tr (q_Fw.rf S) (((fwX12_push e12).nov (p' := q) rfl).up rfl)
    obtain ⟨r14, e15, h⟩ := q_bind h
    have fx16 : q_Fw wlX12_step q S r14 := q_Fw.tr (fx13) (((fwX12_next e15).nov (p' := q) rfl).up rfl)
    obtain rfl := Option.some.inj h
    exact fx16
  rw [if_neg c10] at h
  by_cases c17 : (S.2.1 (q + 15) x1.toNatClampNeg) = (2 : Int32)
  · rw [if_pos c17] at h
    obtain ⟨r18, e19, h⟩ := q_bind h
    obtain ⟨r20, e21, h⟩ := q_bind h
    have fx22 : q_Fw wlX12_step q S r20 := q_Fw.tr (q_Fw.rf S) (((fwX12_push e21).nov (p' := q) rfl).up rfl)
    obtain ⟨r23, e24, h⟩ := q_bind h
    have fx25 : q_Fw wlX12_step q S r23 := q_Fw.tr (fx22) (((fwX12_next e24).nov (p' := q) rfl).up rfl)
    obtain rfl := Option.some.inj h
    exact fx25
  rw [if_neg c17] at h
  by_cases c26 : (S.2.1 (q + 15) x1.toNatClampNeg) = (3 : Int32)
  · rw [if_pos c26] at h
    obtain ⟨r27, e28, h⟩ := q_bind h
    have fx29 : q_Fw wlX12_step q S r27.2 := q_Fw.tr (q_Fw.rf S) (((fwX12_pop e28).nov (p' := q) rfl).up rfl)
    obtain ⟨hg30, h⟩ := q_guard h
    obtain ⟨S31, e32, h⟩ := q_bindS h
    have fx33 : q_Fw wlX12_step q S S31 := e32 ▸ q_Fw.sJ (i := 8) (b := 0) (k := 172) (jj := 999) (fx29) rfl rfl (Or.inl rfl)
    obtain ⟨r34, e35, h⟩ := q_bind h
    have fx36 : q_Fw wlX12_step q S r34 := q_Fw.tr (fx33) (((fwX12_next e35).nov (p' := q) rfl).up rfl)
    obtain rfl := Option.some.inj h
    exact fx36
  rw [if_neg c26] at h
  by_cases c37 : (S.2.1 (q + 15) x1.toNatClampNeg) = (4 : Int32)
  · rw [if_pos c37] at h
    obtain ⟨r38, e39, h⟩ := q_bind h
    obtain ⟨hg40, h⟩ := q_guard h
    obtain ⟨hg41, h⟩ := q_guard h
    obtain ⟨S42, e43, h⟩ := q_bindS h
    have fx44 : q_Fw wlX12_step q S S42 := e43 ▸ q_Fw.sJ (i := 8) (b := 0) (k := 172) (jj := 999) (q_Fw.rf S) rfl rfl (Or.inl rfl)
    obtain ⟨r45, e46, h⟩ := q_bind h
    have fx47 : q_Fw wlX12_step q S r45 := q_Fw.tr (fx44) (((fwX12_next e46).nov (p' := q) rfl).up rfl)
    obtain rfl := Option.some.inj h
    exact fx47
  rw [if_neg c37] at h
  by_cases c48 : (S.2.1 (q + 15) x1.toNatClampNeg) = (5 : Int32)
  · rw [if_pos c48] at h
    obtain ⟨r49, e50, h⟩ := q_bind h
    have fx51 : q_Fw wlX12_step q S r49.2 := q_Fw.tr (q_Fw.rf S) (((fwX12_pop e50).nov (p' := q) rfl).up rfl)
    obtain ⟨r52, e53, h⟩ := q_bind h
    have fx54 : q_Fw wlX12_step q S r52 := q_Fw.tr (fx51) (((fwX12_push e53).nov (p' := q) rfl).up rfl)
    obtain ⟨r55, e56, h⟩ := q_bind h
    have fx57 : q_Fw wlX12_step q S r55 := q_Fw.tr (fx54) (((fwX12_push e56).nov (p' := q) rfl).up rfl)
    obtain ⟨r58, e59, h⟩ := q_bind h
    have fx60 : q_Fw wlX12_step q S r58 := q_Fw.tr (fx57) (((fwX12_next e59).nov (p' := q) rfl).up rfl)
    obtain rfl := Option.some.inj h
    exact fx60
  rw [if_neg c48] at h
  by_cases c61 : (S.2.1 (q + 15) x1.toNatClampNeg) = (6 : Int32)
  · rw [if_pos c61] at h
    obtain ⟨r62, e63, h⟩ := q_bind h
    have fx64 : q_Fw wlX12_step q S r62.2 := q_Fw.tr (q_Fw.rf S) (((fwX12_pop e63).nov (p' := q) rfl).up rfl)
    obtain ⟨r65, e66, h⟩ := q_bind h
    have fx67 : q_Fw wlX12_step q S r65 := q_Fw.tr (fx64) (((fwX12_next e66).nov (p' := q) rfl).up rfl)
    obtain rfl := Option.some.inj h
    exact fx67
  rw [if_neg c61] at h
  by_cases c68 : (S.2.1 (q + 15) x1.toNatClampNeg) = (7 : Int32)
  · rw [if_pos c68] at h
    obtain ⟨r69, e70, h⟩ := q_bind h
    have fx71 : q_Fw wlX12_step q S r69.2 := q_Fw.tr (q_Fw.rf S) (((fwX12_pop e70).nov (p' := q) rfl).up rfl)
    obtain ⟨r72, e73, h⟩ := q_bind h
    have fx74 : q_Fw wlX12_step q S r72.2 := q_Fw.tr (fx71) (((fwX12_pop e73).nov (p' := q) rfl).up rfl)
    obtain ⟨r75, e76, h⟩ := q_bind h
    have fx77 : q_Fw wlX12_step q S r75 := q_Fw.tr (fx74) (((fwX12_push e76).nov (p' := q) rfl).up rfl)
    obtain ⟨r78, e79, h⟩ := q_bind h
    have fx80 : q_Fw wlX12_step q S r78 := q_Fw.tr (fx77) (((fwX12_push e79).nov (p' := q) rfl).up rfl)
    obtain ⟨r81, e82, h⟩ := q_bind h
    have fx83 : q_Fw wlX12_step q S r81 := q_Fw.tr (fx80) (((fwX12_next e82).nov (p' := q) rfl).up rfl)
    obtain rfl := Option.some.inj h
    exact fx83
  rw [if_neg c68] at h
  by_cases c84 : (S.2.1 (q + 15) x1.toNatClampNeg) = (18 : Int32)
  · rw [if_pos c84] at h
    obtain ⟨r85, e86, h⟩ := q_bind h
    have fx87 : q_Fw wlX12_step q S r85.2 := q_Fw.tr (q_Fw.rf S) (((fwX12_pop e86).nov (p' := q) rfl).up rfl)
    obtain ⟨r88, e89, h⟩ := q_bind h
    have fx90 : q_Fw wlX12_step q S r88 := q_Fw.tr (fx87) (((fwX12_push e89).nov (p' := q) rfl).up rfl)
    obtain ⟨r91, e92, h⟩ := q_bind h
    have fx93 : q_Fw wlX12_step q S r91 := q_Fw.tr (fx90) (((fwX12_next e92).nov (p' := q) rfl).up rfl)
    obtain rfl := Option.some.inj h
    exact fx93
  rw [if_neg c84] at h
  by_cases c94 : (S.2.1 (q + 15) x1.toNatClampNeg) = (19 : Int32)
  · rw [if_pos c94] at h
    obtain ⟨hg95, h⟩ := q_guard h
    obtain ⟨S96, e97, h⟩ := q_bindS h
    have fx98 : q_Fw wlX12_step q S S96 := e97 ▸ q_Fw.sI (i := 11) (b := 0) (k := 175) (jj := 999) (q_Fw.rf S) rfl rfl (Or.inl rfl) (Or.inl rfl)
    obtain rfl := Option.some.inj h
    exact fx98
  rw [if_neg c94] at h
  by_cases c99 : (S.2.1 (q + 15) x1.toNatClampNeg) = (44 : Int32)
  · rw [if_pos c99] at h
    obtain ⟨v101, hv, h⟩ := q_bind h
    obtain ⟨r102, e103, h⟩ := q_bind h
    have fx104 : q_Fw wlX12_step q S r102 := q_Fw.tr (q_Fw.rf S) (((fwX12_push e103).nov (p' := q) rfl).up rfl)
    by_cases c : (r102.2.1 102 38) ≤ (r102.2.1 102 39)
    · rw [if_pos c] at h
      obtain ⟨r105, e106, h⟩ := q_bind h
      have fx107 : q_Fw wlX12_step q S r105 := q_Fw.tr (fx104) (((fwX12_next e106).nov (p' := q) rfl).up rfl)
      obtain rfl := Option.some.inj h
      exact fx107
    · rw [if_neg c] at h
      obtain ⟨S108, e109, h⟩ := q_bindS h
      have fx110 : q_Fw wlX12_step q S S108 := e109 ▸ q_Fw.sI (i := 3) (b := 0) (k := 102) (jj := 39) (fx104) rfl rfl (Or.inr rfl) (Or.inl rfl)
      obtain ⟨r111, e112, h⟩ := q_bind h
      have fx113 : q_Fw wlX12_step q S r111 := q_Fw.tr (fx110) (((fwX12_next e112).nov (p' := q) rfl).up rfl)
      obtain rfl := Option.some.inj h
      exact fx113
  rw [if_neg c99] at h
  by_cases c114 : (S.2.1 (q + 15) x1.toNatClampNeg) = (45 : Int32)
  · rw [if_pos c114] at h
    obtain ⟨r115, e116, h⟩ := q_bind h
    have fx117 : q_Fw wlX12_step q S r115.2 := q_Fw.tr (q_Fw.rf S) (((fwX12_pop e116).nov (p' := q) rfl).up rfl)
    obtain ⟨v122, hv, h⟩ := q_bind h
    have fx123 : q_Fw wlX12_step q S v122 := by
      replace h := hv
      by_cases c : (256 : Int32) ≤ (r115.2.2.1 102 40)
      · rw [if_pos c] at h
        obtain rfl := Option.some.inj h
        exact fx117
      · rw [if_neg c] at h
        obtain ⟨hg118, h⟩ := q_guard h
        obtain ⟨S119, e120, h⟩ := q_bindS h
        have fx121 : q_Fw wlX12_step q S S119 := e120 ▸ q_Fw.sI (i := 17) (b := 0) (k := 182) (jj := 999) (fx117) rfl rfl (Or.inl rfl) (Or.inl rfl)
        obtain rfl := Option.some.inj h
        exact fx121
    obtain ⟨S124, e125, h⟩ := q_bindS h
    have fx126 : q_Fw wlX12_step q S S124 := e125 ▸ q_Fw.sI (i := 4) (b := 0) (k := 102) (jj := 40) (fx123) rfl rfl (Or.inr rfl) (Or.inl rfl)
    obtain ⟨r127, e128, h⟩ := q_bind h
    have fx129 : q_Fw wlX12_step q S r127 := q_Fw.tr (fx126) (((fwX12_next e128).nov (p' := q) rfl).up rfl)
    obtain rfl := Option.some.inj h
    exact fx129
  rw [if_neg c114] at h
  by_cases c : (S.2.1 (q + 15) x1.toNatClampNeg) < (8 : Int32)
  · rw [if_pos c] at h
    by_cases c : (S.2.1 (q + 15) x1.toNatClampNeg) < (20 : Int32)
    · rw [if_pos c] at h
      obtain ⟨r130, e131, h⟩ := q_bind h
      have fx132 : q_Fw wlX12_step q S r130 := q_Fw.tr (q_Fw.rf S) ((fwX12_objectStep hq e131).up rfl)
      obtain rfl := Option.some.inj h
      exact fx132
    · rw [if_neg c] at h
      by_cases c : (29 : Int32) < (S.2.1 (q + 15) x1.toNatClampNeg)
      · rw [if_pos c] at h
        obtain ⟨r133, e134, h⟩ := q_bind h
        have fx135 : q_Fw wlX12_step q S r133 := q_Fw.tr (q_Fw.rf S) ((fwX12_objectStep hq e134).up rfl)
        obtain rfl := Option.some.inj h
        exact fx135
      · rw [if_neg c] at h
        obtain ⟨r136, e137, h⟩ := q_bind h
        have fx138 : q_Fw wlX12_step q S r136 := q_Fw.tr (q_Fw.rf S) (((fwX12_branch e137).nov (p' := q) rfl).up rfl)
        obtain rfl := Option.some.inj h
        exact fx138
  · rw [if_neg c] at h
    by_cases c : (17 : Int32) < (S.2.1 (q + 15) x1.toNatClampNeg)
    · rw [if_pos c] at h
      by_cases c : (S.2.1 (q + 15) x1.toNatClampNeg) < (20 : Int32)
      · rw [if_pos c] at h
        obtain ⟨r139, e140, h⟩ := q_bind h
        have fx141 : q_Fw wlX12_step q S r139 := q_Fw.tr (q_Fw.rf S) ((fwX12_objectStep hq e140).up rfl)
        obtain rfl := Option.some.inj h
        exact fx141
      · rw [if_neg c] at h
        by_cases c : (29 : Int32) < (S.2.1 (q + 15) x1.toNatClampNeg)
        · rw [if_pos c] at h
          obtain ⟨r142, e143, h⟩ := q_bind h
          have fx144 : q_Fw wlX12_step q S r142 := q_Fw.tr (q_Fw.rf S) ((fwX12_objectStep hq e143).up rfl)
          obtain rfl := Option.some.inj h
          exact fx144
        · rw [if_neg c] at h
          obtain ⟨r145, e146, h⟩ := q_bind h
          have fx147 : q_Fw wlX12_step q S r145 := q_Fw.tr (q_Fw.rf S) (((fwX12_branch e146).nov (p' := q) rfl).up rfl)
          obtain rfl := Option.some.inj h
          exact fx147
    · rw [if_neg c] at h
      obtain ⟨r148, e149, h⟩ := q_bind h
      have fx150 : q_Fw wlX12_step q S r148 := q_Fw.tr (q_Fw.rf S) ((fwX12_reckon hq e149).up rfl)
      obtain rfl := Option.some.inj h
      exact fx150
def wlX12_run : List (Nat × Nat × Nat) := [(0, 102, 35), (0, 102, 36), (0, 102, 37), (0, 102, 38), (0, 102, 39), (0, 102, 40), (0, 102, 41), (0, 102, 42), (0, 102, 43), (0, 102, 44), (0, 102, 45), (0, 172, 999), (0, 173, 999), (0, 174, 999), (0, 175, 999), (0, 176, 999), (0, 177, 999), (0, 178, 999), (0, 179, 999), (0, 180, 999), (0, 182, 999)]
theorem fwtX12_run_71 {q : Nat} {y1 : Int32} {x : QS} {z : (Int32 × QS) ⊕ (QS)} (hq : q_qok q) (h : tX12_run_71 q y1 x = some z) : q_Fw wlX12_run q ((fun x : QS => x) x) ((Sum.elim (fun r : Int32 × QS => r.2) (fun x : QS => x)) z) := by
  unfold tX12_run_71 at h
  show q_Fw wlX12_run q x _
  by_cases c : 0 ≤ (x.2.1 102 44)
  · rw [if_pos c] at h
    obtain ⟨S1, e2, h⟩ := q_bindS h
    have fx3 : q_Fw wlX12_run q x S1 := e2 ▸ q_Fw.sI (i := 3) (b := 0) (k := 102) (jj := 38) (q_Fw.rf x) rfl rfl (Or.inr rfl) (Or.inl rfl)
    cases h
    exact fx3
  · rw [if_neg c] at h
    obtain ⟨hg4, h⟩ := q_guard h
    by_cases c : (x.2.1 102 41) = y1
    · rw [if_pos c] at h
      obtain ⟨S18, e19, h⟩ := q_bindS h
      have fx20 : q_Fw wlX12_run q x S18 := e19 ▸ q_Fw.sI (i := 9) (b := 0) (k := 102) (jj := 44) (q_Fw.rf x) rfl rfl (Or.inr rfl) (Or.inl rfl)
      obtain ⟨S21, e22, h⟩ := q_bindS h
      have fx23 : q_Fw wlX12_run q x S21 := e22 ▸ q_Fw.sI (i := 7) (b := 0) (k := 102) (jj := 42) (fx20) rfl rfl (Or.inr rfl) (Or.inl rfl)
      cases h
      exact fx23
    · rw [if_neg c] at h
      obtain ⟨S5, e6, h⟩ := q_bindS h
      have fx7 : q_Fw wlX12_run q x S5 := e6 ▸ q_Fw.sI (i := 6) (b := 0) (k := 102) (jj := 41) (q_Fw.rf x) rfl rfl (Or.inr rfl) (Or.inl rfl)
      obtain ⟨r8, e9, h⟩ := q_bind h
      obtain ⟨v13, hv, h⟩ := q_bind h
      have fx14 : q_Fw wlX12_run q x v13 := by
        replace h := hv
        by_cases c : r8 = true
        · rw [if_pos c] at h
          obtain rfl := Option.some.inj h
          exact fx7
        · rw [if_neg c] at h
          obtain ⟨S10, e11, h⟩ := q_bindS h
          have fx12 : q_Fw wlX12_run q x S10 := e11 ▸ q_Fw.sI (i := 10) (b := 0) (k := 102) (jj := 45) (fx7) rfl rfl (Or.inr rfl) (Or.inl rfl)
          obtain rfl := Option.some.inj h
          exact fx12
      obtain ⟨r15, e16, h⟩ := q_bind h
      have fx17 : q_Fw wlX12_run q x r15 := q_Fw.tr (fx14) ((fwX12_step hq e16).up rfl)
      cases h
      exact fx17
theorem fwX12_run_71 {S : QS} {q : Nat} {y1 : Int32} {r : Int32 × QS} (hq : q_qok q) (h : fX12_run_71 S q y1 = some r) : q_Fw wlX12_run q S ((fun r : Int32 × QS => r.2) r) := q_run_fw (fun x : QS => x) (fun r : Int32 × QS => r.2) (fun _ _ hz => fwtX12_run_71 hq hz) h
theorem fwX12_run {S : QS} {q : Nat} {x1 : Int32} {r : Int32 × QS} (hq : q_qok q) (h : fX12_run S q x1 = some r) : q_Fw wlX12_run q S r.2 := by
  unfold fX12_run at h
  by_cases c : (S.2.1 102 2) = 0
  · rw [if_pos c] at h
    obtain rfl := Option.some.inj h
    exact q_Fw.rf _
  · rw [if_neg c] at h
    by_cases c : x1 < 0
    · rw [if_pos c] at h
      obtain rfl := Option.some.inj h
      exact q_Fw.rf _
    · rw [if_neg c] at h
      by_cases c : x1 ≤ (20000 : Int32)
      · rw [if_pos c] at h
        obtain ⟨S24, e25, h⟩ := q_bindS h
        have fx26 : q_Fw wlX12_run q S S24 := e25 ▸ q_Fw.sI (i := 1) (b := 0) (k := 102) (jj := 36) (q_Fw.rf S) rfl rfl (Or.inr rfl) (Or.inl rfl)
        obtain ⟨S27, e28, h⟩ := q_bindS h
        have fx29 : q_Fw wlX12_run q S S27 := e28 ▸ q_Fw.sI (i := 2) (b := 0) (k := 102) (jj := 37) (fx26) rfl rfl (Or.inr rfl) (Or.inl rfl)
        obtain ⟨S30, e31, h⟩ := q_bindS h
        have fx32 : q_Fw wlX12_run q S S30 := e31 ▸ q_Fw.sI (i := 4) (b := 0) (k := 102) (jj := 39) (fx29) rfl rfl (Or.inr rfl) (Or.inl rfl)
        obtain ⟨S33, e34, h⟩ := q_bindS h
        have fx35 : q_Fw wlX12_run q S S33 := e34 ▸ q_Fw.sI (i := 5) (b := 0) (k := 102) (jj := 40) (fx32) rfl rfl (Or.inr rfl) (Or.inl rfl)
        obtain ⟨S36, e37, h⟩ := q_bindS h
        have fx38 : q_Fw wlX12_run q S S36 := e37 ▸ q_Fw.sI (i := 6) (b := 0) (k := 102) (jj := 41) (fx35) rfl rfl (Or.inr rfl) (Or.inl rfl)
        obtain ⟨S39, e40, h⟩ := q_bindS h
        have fx41 : q_Fw wlX12_run q S S39 := e40 ▸ q_Fw.sI (i := 8) (b := 0) (k := 102) (jj := 43) (fx38) rfl rfl (Or.inr rfl) (Or.inl rfl)
        obtain ⟨S42, e43, h⟩ := q_bindS h
        have fx44 : q_Fw wlX12_run q S S42 := e43 ▸ q_Fw.sI (i := 0) (b := 0) (k := 102) (jj := 35) (fx41) rfl rfl (Or.inr rfl) (Or.inl rfl)
        obtain ⟨S45, e46, h⟩ := q_bindS h
        have fx47 : q_Fw wlX12_run q S S45 := e46 ▸ q_Fw.sI (i := 9) (b := 0) (k := 102) (jj := 44) (fx44) rfl rfl (Or.inr rfl) (Or.inl rfl)
        obtain ⟨r48, e49, h⟩ := q_bind h
        have fx50 : q_Fw wlX12_run q S r48 := q_Fw.tr (fx47) ((fwX12_enter hq e49).up rfl)
        exact (fx50).tr (fwX12_run_71 hq h)
      · rw [if_neg c] at h
        obtain rfl := Option.some.inj h
        exact q_Fw.rf _
