def wlX12_heights : List (Nat × Nat × Nat) := [(0, 102, 12), (0, 170, 999), (1, 19, 999)]
theorem fwtX12_heights_300 {q : Nat} {y2 : Int32} {y5 : Int32} {x : Int32 × Int32 × QS} {z : ((Bool × QS) ⊕ (Int32 × QS)) ⊕ (Int32 × Int32 × QS)} (hq : q_qok q) (h : tX12_heights_300 q y2 y5 x = some z) : q_Fw wlX12_heights q ((fun x : Int32 × Int32 × QS => x.2.2) x) ((Sum.elim (Sum.elim (fun r : Bool × QS => r.2) (fun x : Int32 × QS => x.2)) (fun x : Int32 × Int32 × QS => x.2.2)) z) := by
  unfold tX12_heights_300 at h
  show q_Fw wlX12_heights q x.2.2 _
  by_cases c : (8 : Int32) < x.2.1
  · rw [if_pos c] at h
    cases h
    exact q_Fw.rf _
  · rw [if_neg c] at h
    by_cases c : y5 = ((1 : Int32) <<< (x.2.1 &&& 31))
    · rw [if_pos c] at h
      obtain ⟨hg1, h⟩ := q_guard h
      obtain ⟨S2, e3, h⟩ := q_bindS h
      have fx4 : q_Fw wlX12_heights q x.2.2 S2 := e3 ▸ q_Fw.sI (i := 2) (b := 1) (k := 19) (jj := 999) (q_Fw.rf x.2.2) rfl rfl (Or.inl rfl) (Or.inl (q_nBq (k := 19) hq (by decide)))
      cases h
      exact fx4
    · rw [if_neg c] at h
      cases h
      exact q_Fw.rf _
theorem fwuX12_heights_300 {S : QS} {q : Nat} {y2 : Int32} {y4 : Int32} {y5 : Int32} {y6 : Int32} {r : (Bool × QS) ⊕ (Int32 × QS)} (hq : q_qok q) (h : uX12_heights_300 S q y2 y4 y5 y6 = some r) : q_Fw wlX12_heights q S ((Sum.elim (fun r : Bool × QS => r.2) (fun x : Int32 × QS => x.2)) r) := q_run_fw (fun x : Int32 × Int32 × QS => x.2.2) (Sum.elim (fun r : Bool × QS => r.2) (fun x : Int32 × QS => x.2)) (fun _ _ hz => fwtX12_heights_300 hq hz) h
theorem fwtX12_heights_232 {q : Nat} {y2 : Int32} {x : Int32 × QS} {z : (Bool × QS) ⊕ (Int32 × QS)} (hq : q_qok q) (h : tX12_heights_232 q y2 x = some z) : q_Fw wlX12_heights q ((fun x : Int32 × QS => x.2) x) ((Sum.elim (fun r : Bool × QS => r.2) (fun x : Int32 × QS => x.2)) z) := by
  unfold tX12_heights_232 at h
  show q_Fw wlX12_heights q x.2 _
  obtain ⟨hg5, h⟩ := q_guard h
  by_cases c : (x.2.2.1 (q + 13) y2.toNatClampNeg) ≤ x.1
  · rw [if_pos c] at h
    cases h
    exact q_Fw.rf _
  · rw [if_neg c] at h
    obtain ⟨hg6, h⟩ := q_guard h
    by_cases c : ((x.2.2.1 170 x.1.toNatClampNeg) &&& ((x.2.2.1 170 x.1.toNatClampNeg) - (1 : Int32))) = 0
    · rw [if_pos c] at h
      by_cases c : (x.2.2.1 170 x.1.toNatClampNeg) = 0
      · rw [if_pos c] at h
        obtain ⟨hg11, h⟩ := q_guard h
        obtain ⟨S12, e13, h⟩ := q_bindS h
        have fx14 : q_Fw wlX12_heights q x.2 S12 := e13 ▸ q_Fw.sI (i := 2) (b := 1) (k := 19) (jj := 999) (q_Fw.rf x.2) rfl rfl (Or.inl rfl) (Or.inl (q_nBq (k := 19) hq (by decide)))
        exact (fx14).tr (fwuX12_heights_300 hq h)
      · rw [if_neg c] at h
        obtain ⟨r15, e16, h⟩ := q_bind h
        by_cases c : r15 = 0
        · rw [if_pos c] at h
          obtain ⟨hg21, h⟩ := q_guard h
          obtain ⟨r22, e23, h⟩ := q_bind h
          have fx24 : q_Fw wlX12_heights q x.2 r22.2 := q_Fw.tr (q_Fw.rf x.2) (((fwX12_wrong e23).nov (p' := q) rfl).up rfl)
          cases h
          exact fx24
        · rw [if_neg c] at h
          obtain ⟨hg17, h⟩ := q_guard h
          obtain ⟨S18, e19, h⟩ := q_bindS h
          have fx20 : q_Fw wlX12_heights q x.2 S18 := e19 ▸ q_Fw.sI (i := 2) (b := 1) (k := 19) (jj := 999) (q_Fw.rf x.2) rfl rfl (Or.inl rfl) (Or.inl (q_nBq (k := 19) hq (by decide)))
          exact (fx20).tr (fwuX12_heights_300 hq h)
    · rw [if_neg c] at h
      obtain ⟨hg7, h⟩ := q_guard h
      obtain ⟨r8, e9, h⟩ := q_bind h
      have fx10 : q_Fw wlX12_heights q x.2 r8.2 := q_Fw.tr (q_Fw.rf x.2) (((fwX12_wrong e9).nov (p' := q) rfl).up rfl)
      cases h
      exact fx10
theorem fwX12_heights_232 {S : QS} {q : Nat} {y2 : Int32} {y4 : Int32} {r : Bool × QS} (hq : q_qok q) (h : fX12_heights_232 S q y2 y4 = some r) : q_Fw wlX12_heights q S ((fun r : Bool × QS => r.2) r) := q_run_fw (fun x : Int32 × QS => x.2) (fun r : Bool × QS => r.2) (fun _ _ hz => fwtX12_heights_232 hq hz) h
theorem fwtX12_heights_164 {q : Nat} {y2 : Int32} {x : Int32 × Int32 × Int32 × QS} {z : (((Bool × QS) ⊕ (Int32 × QS)) ⊕ (Int32 × Int32 × QS)) ⊕ (Int32 × Int32 × Int32 × QS)} (hq : q_qok q) (h : tX12_heights_164 q y2 x = some z) : q_Fw wlX12_heights q ((fun x : Int32 × Int32 × Int32 × QS => x.2.2.2) x) ((Sum.elim (Sum.elim (Sum.elim (fun r : Bool × QS => r.2) (fun x : Int32 × QS => x.2)) (fun x : Int32 × Int32 × QS => x.2.2)) (fun x : Int32 × Int32 × Int32 × QS => x.2.2.2)) z) := by
  unfold tX12_heights_164 at h
  show q_Fw wlX12_heights q x.2.2.2 _
  by_cases c : (x.2.2.2.2.1 q 5) ≤ x.2.2.1
  · rw [if_pos c] at h
    cases h
    exact q_Fw.rf _
  · rw [if_neg c] at h
    obtain ⟨r25, e26, h⟩ := q_bind h
    by_cases c : r25 = true
    · rw [if_pos c] at h
      obtain ⟨hg27, h⟩ := q_guard h
      obtain ⟨r28, e29, h⟩ := q_bind h
      have fx30 : q_Fw wlX12_heights q x.2.2.2 r28.2 := q_Fw.tr (q_Fw.rf x.2.2.2) (((fwX12_added e29).nov (p' := q) rfl).up rfl)
      by_cases c : r28.1 = true
      · rw [if_pos c] at h
        cases h
        exact fx30
      · rw [if_neg c] at h
        by_cases c : x.1 = 0
        · rw [if_pos c] at h
          cases h
          exact fx30
        · rw [if_neg c] at h
          cases h
          exact fx30
    · rw [if_neg c] at h
      cases h
      exact q_Fw.rf _
theorem fwuX12_heights_164 {S : QS} {q : Nat} {y2 : Int32} {y3 : Int32} {y4 : Int32} {y6 : Int32} {r : ((Bool × QS) ⊕ (Int32 × QS)) ⊕ (Int32 × Int32 × QS)} (hq : q_qok q) (h : uX12_heights_164 S q y2 y3 y4 y6 = some r) : q_Fw wlX12_heights q S ((Sum.elim (Sum.elim (fun r : Bool × QS => r.2) (fun x : Int32 × QS => x.2)) (fun x : Int32 × Int32 × QS => x.2.2)) r) := q_run_fw (fun x : Int32 × Int32 × Int32 × QS => x.2.2.2) (Sum.elim (Sum.elim (fun r : Bool × QS => r.2) (fun x : Int32 × QS => x.2)) (fun x : Int32 × Int32 × QS => x.2.2)) (fun _ _ hz => fwtX12_heights_164 hq hz) h
theorem fwtX12_heights_58 {q : Nat} {y2 : Int32} {x : Int32 × Int32 × QS} {z : ((Bool × QS) ⊕ (Int32 × QS)) ⊕ (Int32 × Int32 × QS)} (hq : q_qok q) (h : tX12_heights_58 q y2 x = some z) : q_Fw wlX12_heights q ((fun x : Int32 × Int32 × QS => x.2.2) x) ((Sum.elim (Sum.elim (fun r : Bool × QS => r.2) (fun x : Int32 × QS => x.2)) (fun x : Int32 × Int32 × QS => x.2.2)) z) := by
  unfold tX12_heights_58 at h
  show q_Fw wlX12_heights q x.2.2 _
  obtain ⟨hg31, h⟩ := q_guard h
  by_cases c : (x.2.2.2.1 (q + 13) y2.toNatClampNeg) ≤ x.2.1
  · rw [if_pos c] at h
    cases h
    exact q_Fw.rf _
  · rw [if_neg c] at h
    obtain ⟨r32, e33, h⟩ := q_bind h
    by_cases c : r32 = 0
    · rw [if_pos c] at h
      cases h
      exact q_Fw.rf _
    · rw [if_neg c] at h
      obtain ⟨hg34, h⟩ := q_guard h
      obtain ⟨r35, e36, h⟩ := q_bind h
      obtain ⟨v41, hv, h⟩ := q_bind h
      have fx42 : q_Fw wlX12_heights q x.2.2 v41.2 := by
        replace h := hv
        by_cases c : r35 = true
        · rw [if_pos c] at h
          obtain ⟨r37, e38, h⟩ := q_bind h
          have fx39 : q_Fw wlX12_heights q x.2.2 r37.2 := q_Fw.tr (q_Fw.rf x.2.2) (((fwX12_added e38).nov (p' := q) rfl).up rfl)
          obtain ⟨v40, hv, h⟩ := q_bind h
          obtain rfl := Option.some.inj h
          exact fx39
        · rw [if_neg c] at h
          obtain rfl := Option.some.inj h
          exact q_Fw.rf _
      obtain ⟨hg43, h⟩ := q_guard h
      obtain ⟨r44, e45, h⟩ := q_bind h
      by_cases c : r44 = true
      · rw [if_pos c] at h
        obtain ⟨hg46, h⟩ := q_guard h
        obtain ⟨r47, e48, h⟩ := q_bind h
        have fx49 : q_Fw wlX12_heights q x.2.2 r47.2 := q_Fw.tr (fx42) (((fwX12_added e48).nov (p' := q) rfl).up rfl)
        by_cases c : r47.1 = true
        · rw [if_pos c] at h
          exact (fx49).tr (fwuX12_heights_164 hq h)
        · rw [if_neg c] at h
          by_cases c : v41.1 = 0
          · rw [if_pos c] at h
            exact (fx49).tr (fwuX12_heights_164 hq h)
          · rw [if_neg c] at h
            exact (fx49).tr (fwuX12_heights_164 hq h)
      · rw [if_neg c] at h
        exact (fx42).tr (fwuX12_heights_164 hq h)
theorem fwuX12_heights_58 {S : QS} {q : Nat} {y2 : Int32} {y3 : Int32} {y4 : Int32} {r : (Bool × QS) ⊕ (Int32 × QS)} (hq : q_qok q) (h : uX12_heights_58 S q y2 y3 y4 = some r) : q_Fw wlX12_heights q S ((Sum.elim (fun r : Bool × QS => r.2) (fun x : Int32 × QS => x.2)) r) := q_run_fw (fun x : Int32 × Int32 × QS => x.2.2) (Sum.elim (fun r : Bool × QS => r.2) (fun x : Int32 × QS => x.2)) (fun _ _ hz => fwtX12_heights_58 hq hz) h
theorem fwtX12_heights_44 {q : Nat} {y2 : Int32} {x : Int32 × QS} {z : (Bool × QS) ⊕ (Int32 × QS)} (hq : q_qok q) (h : tX12_heights_44 q y2 x = some z) : q_Fw wlX12_heights q ((fun x : Int32 × QS => x.2) x) ((Sum.elim (fun r : Bool × QS => r.2) (fun x : Int32 × QS => x.2)) z) := by
  unfold tX12_heights_44 at h
  show q_Fw wlX12_heights q x.2 _
  by_cases c : x.1 = 0
  · rw [if_pos c] at h
    obtain ⟨hg50, h⟩ := q_guard h
    obtain ⟨r51, e52, h⟩ := q_bind h
    cases h
    exact (q_Fw.rf _).tr (fwX12_heights_232 hq e52)
  · rw [if_neg c] at h
    obtain ⟨hg53, h⟩ := q_guard h
    exact (q_Fw.rf _).tr (fwuX12_heights_58 hq h)
theorem fwX12_heights_44 {S : QS} {q : Nat} {y2 : Int32} {y3 : Int32} {r : Bool × QS} (hq : q_qok q) (h : fX12_heights_44 S q y2 y3 = some r) : q_Fw wlX12_heights q S ((fun r : Bool × QS => r.2) r) := q_run_fw (fun x : Int32 × QS => x.2) (fun r : Bool × QS => r.2) (fun _ _ hz => fwtX12_heights_44 hq hz) h
theorem fwtX12_heights_7 {q : Nat} {y2 : Int32} {x : Int32 × QS} {z : (Bool × QS) ⊕ (Int32 × QS)} (hq : q_qok q) (h : tX12_heights_7 q y2 x = some z) : q_Fw wlX12_heights q ((fun x : Int32 × QS => x.2) x) ((Sum.elim (fun r : Bool × QS => r.2) (fun x : Int32 × QS => x.2)) z) := by
  unfold tX12_heights_7 at h
  show q_Fw wlX12_heights q x.2 _
  obtain ⟨hg54, h⟩ := q_guard h
  by_cases c : (x.2.2.1 (q + 13) y2.toNatClampNeg) ≤ x.1
  · rw [if_pos c] at h
    obtain ⟨hg55, h⟩ := q_guard h
    obtain ⟨hg56, h⟩ := q_guard h
    obtain ⟨S57, e58, h⟩ := q_bindS h
    have fx59 : q_Fw wlX12_heights q x.2 S57 := e58 ▸ q_Fw.sI (i := 1) (b := 0) (k := 170) (jj := 999) (q_Fw.rf x.2) rfl rfl (Or.inl rfl) (Or.inl rfl)
    obtain ⟨r60, e61, h⟩ := q_bind h
    cases h
    exact (fx59).tr (fwX12_heights_44 hq e61)
  · rw [if_neg c] at h
    obtain ⟨hg62, h⟩ := q_guard h
    obtain ⟨S63, e64, h⟩ := q_bindS h
    have fx65 : q_Fw wlX12_heights q x.2 S63 := e64 ▸ q_Fw.sI (i := 1) (b := 0) (k := 170) (jj := 999) (q_Fw.rf x.2) rfl rfl (Or.inl rfl) (Or.inl rfl)
    cases h
    exact fx65
theorem fwX12_heights_7 {S : QS} {q : Nat} {y2 : Int32} {y3 : Int32} {r : Bool × QS} (hq : q_qok q) (h : fX12_heights_7 S q y2 y3 = some r) : q_Fw wlX12_heights q S ((fun r : Bool × QS => r.2) r) := q_run_fw (fun x : Int32 × QS => x.2) (fun r : Bool × QS => r.2) (fun _ _ hz => fwtX12_heights_7 hq hz) h
theorem fwX12_heights {S : QS} {q : Nat} {x2 : Int32} {r : Bool × QS} (hq : q_qok q) (h : fX12_heights S q x2 = some r) : q_Fw wlX12_heights q S r.2 := by
  unfold fX12_heights at h
  obtain ⟨hg66, h⟩ := q_guard h
  exact (q_Fw.rf _).tr (fwX12_heights_7 hq h)
def wlX12_typesAt : List (Nat × Nat × Nat) := [(0, 102, 23), (0, 171, 999)]
theorem fwtX12_typesAt_2 {q : Nat} {y2 : Int32} {x : Int32 × QS} {z : (QS) ⊕ (Int32 × QS)} (hq : q_qok q) (h : tX12_typesAt_2 q y2 x = some z) : q_Fw wlX12_typesAt q ((fun x : Int32 × QS => x.2) x) ((Sum.elim (fun r : QS => r) (fun x : Int32 × QS => x.2)) z) := by
  unfold tX12_typesAt_2 at h
  show q_Fw wlX12_typesAt q x.2 _
  by_cases c : (20 : Int32) ≤ x.1
  · rw [if_pos c] at h
    obtain ⟨hg1, h⟩ := q_guard h
    obtain ⟨S2, e3, h⟩ := q_bindS h
    have fx4 : q_Fw wlX12_typesAt q x.2 S2 := e3 ▸ q_Fw.sI (i := 0) (b := 0) (k := 102) (jj := 23) (q_Fw.rf x.2) rfl rfl (Or.inr rfl) (Or.inl rfl)
    cases h
    exact fx4
  · rw [if_neg c] at h
    obtain ⟨hg5, h⟩ := q_guard h
    obtain ⟨hg6, h⟩ := q_guard h
    obtain ⟨S7, e8, h⟩ := q_bindS h
    have fx9 : q_Fw wlX12_typesAt q x.2 S7 := e8 ▸ q_Fw.sI (i := 1) (b := 0) (k := 171) (jj := 999) (q_Fw.rf x.2) rfl rfl (Or.inl rfl) (Or.inl rfl)
    cases h
    exact fx9
theorem fwX12_typesAt_2 {S : QS} {q : Nat} {y2 : Int32} {y3 : Int32} {r : QS} (hq : q_qok q) (h : fX12_typesAt_2 S q y2 y3 = some r) : q_Fw wlX12_typesAt q S ((fun r : QS => r) r) := q_run_fw (fun x : Int32 × QS => x.2) (fun r : QS => r) (fun _ _ hz => fwtX12_typesAt_2 hq hz) h
theorem fwX12_typesAt {S : QS} {q : Nat} {x2 : Int32} {r : QS} (hq : q_qok q) (h : fX12_typesAt S q x2 = some r) : q_Fw wlX12_typesAt q S r := by
  unfold fX12_typesAt at h
  exact (q_Fw.rf _).tr (fwX12_typesAt_2 hq h)
def wlX12_typesTo : List (Nat × Nat × Nat) := [(1, 26, 999), (1, 27, 999)]
theorem fwtX12_typesTo_18 {q : Nat} {y2 : Int32} {x : Int32 × Int32 × QS} {z : (Bool × QS) ⊕ (Int32 × Int32 × QS)} (hq : q_qok q) (h : tX12_typesTo_18 q y2 x = some z) : q_Fw wlX12_typesTo q ((fun x : Int32 × Int32 × QS => x.2.2) x) ((Sum.elim (fun r : Bool × QS => r.2) (fun x : Int32 × Int32 × QS => x.2.2)) z) := by
  unfold tX12_typesTo_18 at h
  show q_Fw wlX12_typesTo q x.2.2 _
  obtain ⟨hg1, h⟩ := q_guard h
  by_cases c : ((12 : Int32) + (x.2.2.2.1 (q + 19) y2.toNatClampNeg)) ≤ x.2.1
  · rw [if_pos c] at h
    obtain ⟨hg2, h⟩ := q_guard h
    obtain ⟨S3, e4, h⟩ := q_bindS h
    have fx5 : q_Fw wlX12_typesTo q x.2.2 S3 := e4 ▸ q_Fw.sI (i := 1) (b := 1) (k := 27) (jj := 999) (q_Fw.rf x.2.2) rfl rfl (Or.inl rfl) (Or.inl (q_nBq (k := 27) hq (by decide)))
    obtain ⟨hgb, h⟩ := q_guard h
    cases h
    exact fx5
  · rw [if_neg c] at h
    obtain ⟨hg6, h⟩ := q_guard h
    obtain ⟨v12, hv, h⟩ := q_bind h
    obtain ⟨v14, hv, h⟩ := q_bind h
    obtain ⟨hg15, h⟩ := q_guard h
    obtain ⟨S16, e17, h⟩ := q_bindS h
    have fx18 : q_Fw wlX12_typesTo q x.2.2 S16 := e17 ▸ q_Fw.sI (i := 0) (b := 1) (k := 26) (jj := 999) (q_Fw.rf x.2.2) rfl rfl (Or.inl rfl) (Or.inl (q_nBq (k := 26) hq (by decide)))
    cases h
    exact fx18
theorem fwX12_typesTo_18 {S : QS} {q : Nat} {y2 : Int32} {y3 : Int32} {y4 : Int32} {r : Bool × QS} (hq : q_qok q) (h : fX12_typesTo_18 S q y2 y3 y4 = some r) : q_Fw wlX12_typesTo q S ((fun r : Bool × QS => r.2) r) := q_run_fw (fun x : Int32 × Int32 × QS => x.2.2) (fun r : Bool × QS => r.2) (fun _ _ hz => fwtX12_typesTo_18 hq hz) h
theorem fwX12_typesTo {S : QS} {q : Nat} {x2 : Int32} {r : Bool × QS} (hq : q_qok q) (h : fX12_typesTo S q x2 = some r) : q_Fw wlX12_typesTo q S r.2 := by
  unfold fX12_typesTo at h
  obtain ⟨hg19, h⟩ := q_guard h
  by_cases c : (S.2.1 (q + 27) x2.toNatClampNeg) = 0
  · rw [if_pos c] at h
    exact (q_Fw.rf _).tr (fwX12_typesTo_18 hq h)
  · rw [if_neg c] at h
    exact (q_Fw.rf _).tr (fwX12_typesTo_18 hq h)
def wlX12_leave : List (Nat × Nat × Nat) := [(0, 102, 23), (0, 171, 999)]
theorem fwX12_leave {S : QS}  {x1 : Int32} {r : QS} (h : fX12_leave S x1 = some r) : q_Fw wlX12_leave 0 S r := by
  unfold fX12_leave at h
  obtain ⟨hg1, h⟩ := q_guard h
  obtain ⟨S2, e3, h⟩ := q_bindS h
  have fx4 : q_Fw wlX12_leave 0 S S2 := e3 ▸ q_Fw.sI (i := 1) (b := 0) (k := 171) (jj := 999) (q_Fw.rf S) rfl rfl (Or.inl rfl) (Or.inl rfl)
  obtain ⟨S5, e6, h⟩ := q_bindS h
  have fx7 : q_Fw wlX12_leave 0 S S5 := e6 ▸ q_Fw.sI (i := 0) (b := 0) (k := 102) (jj := 23) (fx4) rfl rfl (Or.inr rfl) (Or.inl rfl)
  obtain rfl := Option.some.inj h
  exact fx7
def wlX12_typesBehind : List (Nat × Nat × Nat) := [(0, 102, 23), (0, 171, 999)]
theorem fwX12_typesBehind {S : QS} {q : Nat} {x2 : Int32} {r : QS} (hq : q_qok q) (h : fX12_typesBehind S q x2 = some r) : q_Fw wlX12_typesBehind q S r := by
  unfold fX12_typesBehind at h
  obtain ⟨hg1, h⟩ := q_guard h
  obtain ⟨hg2, h⟩ := q_guard h
  obtain ⟨v4, hv, h⟩ := q_bind h
  obtain ⟨v6, hv, h⟩ := q_bind h
  obtain ⟨r7, e8, h⟩ := q_bind h
  obtain ⟨S9, e10, h⟩ := q_bindS h
  have fx11 : q_Fw wlX12_typesBehind q S S9 := e10 ▸ q_Fw.sI (i := 0) (b := 0) (k := 102) (jj := 23) (q_Fw.rf S) rfl rfl (Or.inr rfl) (Or.inl rfl)
  by_cases c12 : (S.2.1 (q + 15) x2.toNatClampNeg) = (1 : Int32)
  · rw [if_pos c12] at h
    obtain ⟨r13, e14, h⟩ := q_bind h
    have fx15 : q_Fw wlX12_typesBehind q S r13 := q_Fw.tr (fx11) (((fwX12_leave e14).nov (p' := q) rfl).up rfl)
    obtain rfl := Option.some.inj h
    exact fx15
  rw [if_neg c12] at h
  by_cases c16 : (S.2.1 (q + 15) x2.toNatClampNeg) = (2 : Int32)
  · rw [if_pos c16] at h
    obtain ⟨hg17, h⟩ := q_guard h
    obtain ⟨r18, e19, h⟩ := q_bind h
    have fx20 : q_Fw wlX12_typesBehind q S r18 := q_Fw.tr (fx11) (((fwX12_leave e19).nov (p' := q) rfl).up rfl)
    obtain rfl := Option.some.inj h
    exact fx20
  rw [if_neg c16] at h
  by_cases c21 : (S.2.1 (q + 15) x2.toNatClampNeg) = (3 : Int32)
  · rw [if_pos c21] at h
    obtain ⟨hg22, h⟩ := q_guard h
    obtain ⟨S23, e24, h⟩ := q_bindS h
    have fx25 : q_Fw wlX12_typesBehind q S S23 := e24 ▸ q_Fw.sI (i := 1) (b := 0) (k := 171) (jj := 999) (fx11) rfl rfl (Or.inl rfl) (Or.inl rfl)
    obtain rfl := Option.some.inj h
    exact fx25
  rw [if_neg c21] at h
  by_cases c26 : (S.2.1 (q + 15) x2.toNatClampNeg) = (5 : Int32)
  · rw [if_pos c26] at h
    obtain ⟨r27, e28, h⟩ := q_bind h
    have fx29 : q_Fw wlX12_typesBehind q S r27 := q_Fw.tr (fx11) (((fwX12_leave e28).nov (p' := q) rfl).up rfl)
    obtain ⟨r30, e31, h⟩ := q_bind h
    have fx32 : q_Fw wlX12_typesBehind q S r30 := q_Fw.tr (fx29) (((fwX12_leave e31).nov (p' := q) rfl).up rfl)
    obtain rfl := Option.some.inj h
    exact fx32
  rw [if_neg c26] at h
  by_cases c33 : (S.2.1 (q + 15) x2.toNatClampNeg) = (7 : Int32)
  · rw [if_pos c33] at h
    obtain ⟨r34, e35, h⟩ := q_bind h
    have fx36 : q_Fw wlX12_typesBehind q S r34 := q_Fw.tr (fx11) (((fwX12_leave e35).nov (p' := q) rfl).up rfl)
    obtain ⟨r37, e38, h⟩ := q_bind h
    have fx39 : q_Fw wlX12_typesBehind q S r37 := q_Fw.tr (fx36) (((fwX12_leave e38).nov (p' := q) rfl).up rfl)
    obtain rfl := Option.some.inj h
    exact fx39
  rw [if_neg c33] at h
  by_cases c40 : (S.2.1 (q + 15) x2.toNatClampNeg) = (30 : Int32) ∨ (S.2.1 (q + 15) x2.toNatClampNeg) = (31 : Int32)
  · rw [if_pos c40] at h
    obtain ⟨hg41, h⟩ := q_guard h
    obtain ⟨r42, e43, h⟩ := q_bind h
    have fx44 : q_Fw wlX12_typesBehind q S r42 := q_Fw.tr (fx11) (((fwX12_leave e43).nov (p' := q) rfl).up rfl)
    obtain rfl := Option.some.inj h
    exact fx44
  rw [if_neg c40] at h
  by_cases c45 : (S.2.1 (q + 15) x2.toNatClampNeg) = (33 : Int32)
  · rw [if_pos c45] at h
    obtain ⟨r46, e47, h⟩ := q_bind h
    obtain ⟨r48, e49, h⟩ := q_bind h
    have fx50 : q_Fw wlX12_typesBehind q S r48 := q_Fw.tr (fx11) (((fwX12_leave e49).nov (p' := q) rfl).up rfl)
    obtain rfl := Option.some.inj h
    exact fx50
  rw [if_neg c45] at h
  by_cases c51 : (S.2.1 (q + 15) x2.toNatClampNeg) = (35 : Int32)
  · rw [if_pos c51] at h
    obtain ⟨hg52, h⟩ := q_guard h
    obtain ⟨r53, e54, h⟩ := q_bind h
    have fx55 : q_Fw wlX12_typesBehind q S r53 := q_Fw.tr (fx11) (((fwX12_leave e54).nov (p' := q) rfl).up rfl)
    obtain rfl := Option.some.inj h
    exact fx55
  rw [if_neg c51] at h
  by_cases c56 : (S.2.1 (q + 15) x2.toNatClampNeg) = (37 : Int32)
  · rw [if_pos c56] at h
    obtain ⟨r57, e58, h⟩ := q_bind h
    have fx59 : q_Fw wlX12_typesBehind q S r57 := q_Fw.tr (fx11) (((fwX12_leave e58).nov (p' := q) rfl).up rfl)
    obtain rfl := Option.some.inj h
    exact fx59
  rw [if_neg c56] at h
  by_cases c60 : (S.2.1 (q + 15) x2.toNatClampNeg) = (39 : Int32) ∨ (S.2.1 (q + 15) x2.toNatClampNeg) = (40 : Int32)
  · rw [if_pos c60] at h
    obtain ⟨hg61, h⟩ := q_guard h
    by_cases c : (S9.2.1 (q + 10) (S.2.1 (q + 16) x2.toNatClampNeg).toNatClampNeg) = (-1 : Int32)
    · rw [if_pos c] at h
      obtain rfl := Option.some.inj h
      exact fx11
    · rw [if_neg c] at h
      obtain ⟨hg62, h⟩ := q_guard h
      obtain ⟨r63, e64, h⟩ := q_bind h
      have fx65 : q_Fw wlX12_typesBehind q S r63 := q_Fw.tr (fx11) (((fwX12_leave e64).nov (p' := q) rfl).up rfl)
      obtain rfl := Option.some.inj h
      exact fx65
  rw [if_neg c60] at h
  obtain ⟨r66, e67, h⟩ := q_bind h
  by_cases c : r66 = (1 : Int32)
  · rw [if_pos c] at h
    obtain ⟨r68, e69, h⟩ := q_bind h
    have fx70 : q_Fw wlX12_typesBehind q S r68 := q_Fw.tr (fx11) (((fwX12_leave e69).nov (p' := q) rfl).up rfl)
    obtain rfl := Option.some.inj h
    exact fx70
  · rw [if_neg c] at h
    obtain rfl := Option.some.inj h
    exact fx11
def wlX12_typesOn : List (Nat × Nat × Nat) := [(0, 102, 23), (0, 171, 999), (1, 26, 999), (1, 27, 999)]
theorem fwX12_typesOn_119 {S : QS} {q : Nat} {y2 : Int32} {y3 : Int32} {y4 : Int32} {r : Bool × QS} (hq : q_qok q) (h : fX12_typesOn_119 S q y2 y3 y4 = some r) : q_Fw wlX12_typesOn q S r.2 := by
  unfold fX12_typesOn_119 at h
  obtain ⟨r1, e2, h⟩ := q_bind h
  have fx3 : q_Fw wlX12_typesOn q S r1 := q_Fw.tr (q_Fw.rf S) ((fwX12_typesBehind hq e2).up rfl)
  obtain ⟨r4, e5, h⟩ := q_bind h
  obtain ⟨v10, hv, h⟩ := q_bind h
  have fx11 : q_Fw wlX12_typesOn q S v10.2 := by
    replace h := hv
    by_cases c : r4 = true
    · rw [if_pos c] at h
      obtain ⟨r6, e7, h⟩ := q_bind h
      have fx8 : q_Fw wlX12_typesOn q S r6.2 := q_Fw.tr (fx3) ((fwX12_typesTo hq e7).up rfl)
      obtain ⟨v9, hv, h⟩ := q_bind h
      obtain rfl := Option.some.inj h
      exact fx8
    · rw [if_neg c] at h
      obtain rfl := Option.some.inj h
      exact fx3
  obtain ⟨r12, e13, h⟩ := q_bind h
  by_cases c : r12 = true
  · rw [if_pos c] at h
    obtain ⟨hg14, h⟩ := q_guard h
    obtain ⟨r15, e16, h⟩ := q_bind h
    have fx17 : q_Fw wlX12_typesOn q S r15.2 := q_Fw.tr (fx11) ((fwX12_typesTo hq e16).up rfl)
    by_cases c : r15.1 = true
    · rw [if_pos c] at h
      obtain rfl := Option.some.inj h
      exact fx17
    · rw [if_neg c] at h
      by_cases c : v10.1 = 0
      · rw [if_pos c] at h
        obtain rfl := Option.some.inj h
        exact fx17
      · rw [if_neg c] at h
        obtain rfl := Option.some.inj h
        exact fx17
  · rw [if_neg c] at h
    obtain ⟨hgb, h⟩ := q_guard h
    obtain rfl := Option.some.inj h
    exact fx11
theorem fwtX12_typesOn_5 {q : Nat} {y2 : Int32} {x : Int32 × Int32 × QS} {z : (Bool × QS) ⊕ (Int32 × Int32 × QS)} (hq : q_qok q) (h : tX12_typesOn_5 q y2 x = some z) : q_Fw wlX12_typesOn q ((fun x : Int32 × Int32 × QS => x.2.2) x) ((Sum.elim (fun r : Bool × QS => r.2) (fun x : Int32 × Int32 × QS => x.2.2)) z) := by
  unfold tX12_typesOn_5 at h
  show q_Fw wlX12_typesOn q x.2.2 _
  by_cases c : (x.2.2.2.1 q 5) ≤ x.2.1
  · rw [if_pos c] at h
    obtain ⟨r18, e19, h⟩ := q_bind h
    have fx20 : q_Fw wlX12_typesOn q x.2.2 r18 := q_Fw.tr (q_Fw.rf x.2.2) ((fwX12_typesAt hq e19).up rfl)
    obtain ⟨hg21, h⟩ := q_guard h
    by_cases c : (r18.2.1 (q + 15) y2.toNatClampNeg) = (33 : Int32)
    · rw [if_pos c] at h
      obtain ⟨hg24, h⟩ := q_guard h
      by_cases c : (r18.2.1 171 ((r18.2.1 102 23) - (2 : Int32)).toNatClampNeg) = (1 : Int32)
      · rw [if_pos c] at h
        obtain ⟨hgb, h⟩ := q_guard h
        cases h
        exact fx20
      · rw [if_neg c] at h
        obtain ⟨r25, e26, h⟩ := q_bind h
        cases h
        exact (fx20).tr (fwX12_typesOn_119 hq e26)
    · rw [if_neg c] at h
      obtain ⟨r22, e23, h⟩ := q_bind h
      cases h
      exact (fx20).tr (fwX12_typesOn_119 hq e23)
  · rw [if_neg c] at h
    obtain ⟨r27, e28, h⟩ := q_bind h
    by_cases c : r27 = true
    · rw [if_pos c] at h
      obtain ⟨r29, e30, h⟩ := q_bind h
      have fx31 : q_Fw wlX12_typesOn q x.2.2 r29 := q_Fw.tr (q_Fw.rf x.2.2) ((fwX12_typesAt hq e30).up rfl)
      obtain ⟨hg32, h⟩ := q_guard h
      obtain ⟨hg33, h⟩ := q_guard h
      obtain ⟨S34, e35, h⟩ := q_bindS h
      have fx36 : q_Fw wlX12_typesOn q x.2.2 S34 := e35 ▸ q_Fw.sI (i := 1) (b := 0) (k := 171) (jj := 999) (fx31) rfl rfl (Or.inl rfl) (Or.inl rfl)
      obtain ⟨hg37, h⟩ := q_guard h
      obtain ⟨r38, e39, h⟩ := q_bind h
      have fx40 : q_Fw wlX12_typesOn q x.2.2 r38.2 := q_Fw.tr (fx36) ((fwX12_typesTo hq e39).up rfl)
      by_cases c : r38.1 = true
      · rw [if_pos c] at h
        cases h
        exact fx40
      · rw [if_neg c] at h
        by_cases c : x.1 = 0
        · rw [if_pos c] at h
          cases h
          exact fx40
        · rw [if_neg c] at h
          cases h
          exact fx40
    · rw [if_neg c] at h
      cases h
      exact q_Fw.rf _
theorem fwX12_typesOn_5 {S : QS} {q : Nat} {y2 : Int32} {y3 : Int32} {y4 : Int32} {r : Bool × QS} (hq : q_qok q) (h : fX12_typesOn_5 S q y2 y3 y4 = some r) : q_Fw wlX12_typesOn q S ((fun r : Bool × QS => r.2) r) := q_run_fw (fun x : Int32 × Int32 × QS => x.2.2) (fun r : Bool × QS => r.2) (fun _ _ hz => fwtX12_typesOn_5 hq hz) h
theorem fwX12_typesOn {S : QS} {q : Nat} {x2 : Int32} {r : Bool × QS} (hq : q_qok q) (h : fX12_typesOn S q x2 = some r) : q_Fw wlX12_typesOn q S r.2 := by
  unfold fX12_typesOn at h
  exact (q_Fw.rf _).tr (fwX12_typesOn_5 hq h)
def wlX12_fits : List (Nat × Nat × Nat) := [(0, 102, 23), (0, 171, 999)]
theorem fwX12_fits {S : QS} {q : Nat} {x2 : Int32} {r : Bool × QS} (hq : q_qok q) (h : fX12_fits S q x2 = some r) : q_Fw wlX12_fits q S r.2 := by
  unfold fX12_fits at h
  obtain ⟨r1, e2, h⟩ := q_bind h
  have fx3 : q_Fw wlX12_fits q S r1 := q_Fw.tr (q_Fw.rf S) ((fwX12_typesAt hq e2).up rfl)
  obtain ⟨hg4, h⟩ := q_guard h
  obtain ⟨hg5, h⟩ := q_guard h
  obtain ⟨r6, e7, h⟩ := q_bind h
  obtain ⟨v9, hv, h⟩ := q_bind h
  obtain ⟨v11, hv, h⟩ := q_bind h
  by_cases c12 : (r1.2.1 (q + 15) x2.toNatClampNeg) = (2 : Int32)
  · rw [if_pos c12] at h
    obtain ⟨hg13, h⟩ := q_guard h
    by_cases c : (r1.2.1 171 (r1.2.1 (q + 16) x2.toNatClampNeg).toNatClampNeg) = (2 : Int32)
    · rw [if_pos c] at h
      obtain rfl := Option.some.inj h
      exact fx3
    · rw [if_neg c] at h
      obtain rfl := Option.some.inj h
      exact fx3
  rw [if_neg c12] at h
  by_cases c14 : (r1.2.1 (q + 15) x2.toNatClampNeg) = (4 : Int32)
  · rw [if_pos c14] at h
    obtain ⟨hg15, h⟩ := q_guard h
    by_cases c : (r1.2.1 171 (r1.2.1 (q + 16) x2.toNatClampNeg).toNatClampNeg) = 0
    · rw [if_pos c] at h
      obtain rfl := Option.some.inj h
      exact fx3
    · rw [if_neg c] at h
      obtain rfl := Option.some.inj h
      exact fx3
  rw [if_neg c14] at h
  by_cases c16 : (r1.2.1 (q + 15) x2.toNatClampNeg) = (18 : Int32) ∨ (r1.2.1 (q + 15) x2.toNatClampNeg) = (31 : Int32) ∨ (r1.2.1 (q + 15) x2.toNatClampNeg) = (45 : Int32)
  · rw [if_pos c16] at h
    by_cases c : v9 = 0
    · rw [if_pos c] at h
      obtain rfl := Option.some.inj h
      exact fx3
    · rw [if_neg c] at h
      obtain rfl := Option.some.inj h
      exact fx3
  rw [if_neg c16] at h
  by_cases c17 : (r1.2.1 (q + 15) x2.toNatClampNeg) = (26 : Int32) ∨ (r1.2.1 (q + 15) x2.toNatClampNeg) = (27 : Int32) ∨ (r1.2.1 (q + 15) x2.toNatClampNeg) = (37 : Int32) ∨ (r1.2.1 (q + 15) x2.toNatClampNeg) = (38 : Int32)
  · rw [if_pos c17] at h
    obtain ⟨r18, e19, h⟩ := q_bind h
    obtain rfl := Option.some.inj h
    exact fx3
  rw [if_neg c17] at h
  by_cases c20 : (r1.2.1 (q + 15) x2.toNatClampNeg) = (28 : Int32) ∨ (r1.2.1 (q + 15) x2.toNatClampNeg) = (29 : Int32)
  · rw [if_pos c20] at h
    obtain ⟨r21, e22, h⟩ := q_bind h
    by_cases c : r21 = true
    · rw [if_pos c] at h
      obtain ⟨r23, e24, h⟩ := q_bind h
      by_cases c : r23 = true
      · rw [if_pos c] at h
        obtain rfl := Option.some.inj h
        exact fx3
      · rw [if_neg c] at h
        obtain rfl := Option.some.inj h
        exact fx3
    · rw [if_neg c] at h
      obtain rfl := Option.some.inj h
      exact fx3
  rw [if_neg c20] at h
  by_cases c25 : (r1.2.1 (q + 15) x2.toNatClampNeg) = (32 : Int32)
  · rw [if_pos c25] at h
    by_cases c : v9 = (1 : Int32)
    · rw [if_pos c] at h
      obtain rfl := Option.some.inj h
      exact fx3
    · rw [if_neg c] at h
      obtain ⟨r26, e27, h⟩ := q_bind h
      by_cases c : r26 = true
      · rw [if_pos c] at h
        obtain rfl := Option.some.inj h
        exact fx3
      · rw [if_neg c] at h
        obtain rfl := Option.some.inj h
        exact fx3
  rw [if_neg c25] at h
  by_cases c28 : (r1.2.1 (q + 15) x2.toNatClampNeg) = (33 : Int32)
  · rw [if_pos c28] at h
    by_cases c : v9 = 0
    · rw [if_pos c] at h
      by_cases c : v11 = (1 : Int32)
      · rw [if_pos c] at h
        obtain rfl := Option.some.inj h
        exact fx3
      · rw [if_neg c] at h
        obtain ⟨r29, e30, h⟩ := q_bind h
        by_cases c : r29 = true
        · rw [if_pos c] at h
          obtain rfl := Option.some.inj h
          exact fx3
        · rw [if_neg c] at h
          obtain rfl := Option.some.inj h
          exact fx3
    · rw [if_neg c] at h
      obtain rfl := Option.some.inj h
      exact fx3
  rw [if_neg c28] at h
  by_cases c31 : (r1.2.1 (q + 15) x2.toNatClampNeg) = (34 : Int32)
  · rw [if_pos c31] at h
    by_cases c : v11 = 0
    · rw [if_pos c] at h
      obtain ⟨hg32, h⟩ := q_guard h
      obtain ⟨r33, e34, h⟩ := q_bind h
      by_cases c : r33 = true
      · rw [if_pos c] at h
        obtain rfl := Option.some.inj h
        exact fx3
      · rw [if_neg c] at h
        obtain rfl := Option.some.inj h
        exact fx3
    · rw [if_neg c] at h
      obtain rfl := Option.some.inj h
      exact fx3
  rw [if_neg c31] at h
  by_cases c35 : (r1.2.1 (q + 15) x2.toNatClampNeg) = (35 : Int32)
  · rw [if_pos c35] at h
    obtain ⟨hg36, h⟩ := q_guard h
    obtain ⟨r37, e38, h⟩ := q_bind h
    obtain rfl := Option.some.inj h
    exact fx3
  rw [if_neg c35] at h
  by_cases c39 : (r1.2.1 (q + 15) x2.toNatClampNeg) = (36 : Int32)
  · rw [if_pos c39] at h
    obtain ⟨hg40, h⟩ := q_guard h
    obtain ⟨r41, e42, h⟩ := q_bind h
    by_cases c : r41 = true
    · rw [if_pos c] at h
      obtain ⟨hg43, h⟩ := q_guard h
      obtain ⟨r44, e45, h⟩ := q_bind h
      by_cases c : r44 = true
      · rw [if_pos c] at h
        obtain rfl := Option.some.inj h
        exact fx3
      · rw [if_neg c] at h
        obtain rfl := Option.some.inj h
        exact fx3
    · rw [if_neg c] at h
      obtain rfl := Option.some.inj h
      exact fx3
  rw [if_neg c39] at h
  by_cases c46 : (r1.2.1 (q + 15) x2.toNatClampNeg) = (39 : Int32) ∨ (r1.2.1 (q + 15) x2.toNatClampNeg) = (40 : Int32)
  · rw [if_pos c46] at h
    obtain ⟨r47, e48, h⟩ := q_bind h
    obtain rfl := Option.some.inj h
    exact fx3
  rw [if_neg c46] at h
  by_cases c49 : (r1.2.1 (q + 15) x2.toNatClampNeg) = (41 : Int32)
  · rw [if_pos c49] at h
    obtain ⟨r50, e51, h⟩ := q_bind h
    obtain rfl := Option.some.inj h
    exact fx3
  rw [if_neg c49] at h
  by_cases c52 : (r1.2.1 (q + 15) x2.toNatClampNeg) = (42 : Int32)
  · rw [if_pos c52] at h
    obtain ⟨hg53, h⟩ := q_guard h
    obtain ⟨hg54, h⟩ := q_guard h
    by_cases c : (r1.2.1 (q + 10) (r1.2.1 (q + 18) x2.toNatClampNeg).toNatClampNeg) = (-1 : Int32)
    · rw [if_pos c] at h
      obtain rfl := Option.some.inj h
      exact fx3
    · rw [if_neg c] at h
      obtain ⟨hg55, h⟩ := q_guard h
      obtain ⟨hg56, h⟩ := q_guard h
      obtain ⟨r57, e58, h⟩ := q_bind h
      by_cases c : r57 = true
      · rw [if_pos c] at h
        obtain rfl := Option.some.inj h
        exact fx3
      · rw [if_neg c] at h
        obtain rfl := Option.some.inj h
        exact fx3
  rw [if_neg c52] at h
  by_cases c59 : (r1.2.1 (q + 15) x2.toNatClampNeg) = (43 : Int32)
  · rw [if_pos c59] at h
    obtain ⟨hg60, h⟩ := q_guard h
    obtain ⟨hg61, h⟩ := q_guard h
    by_cases c : (r1.2.1 (q + 10) (r1.2.1 (q + 18) x2.toNatClampNeg).toNatClampNeg) = (-1 : Int32)
    · rw [if_pos c] at h
      obtain rfl := Option.some.inj h
      exact fx3
    · rw [if_neg c] at h
      obtain rfl := Option.some.inj h
      exact fx3
  rw [if_neg c59] at h
  by_cases c : (r1.2.1 (q + 15) x2.toNatClampNeg) < (8 : Int32)
  · rw [if_pos c] at h
    by_cases c : (r1.2.1 (q + 15) x2.toNatClampNeg) < (20 : Int32)
    · rw [if_pos c] at h
      obtain rfl := Option.some.inj h
      exact fx3
    · rw [if_neg c] at h
      by_cases c : (25 : Int32) < (r1.2.1 (q + 15) x2.toNatClampNeg)
      · rw [if_pos c] at h
        obtain rfl := Option.some.inj h
        exact fx3
      · rw [if_neg c] at h
        by_cases c : v9 = 0
        · rw [if_pos c] at h
          by_cases c : v11 = 0
          · rw [if_pos c] at h
            obtain rfl := Option.some.inj h
            exact fx3
          · rw [if_neg c] at h
            obtain rfl := Option.some.inj h
            exact fx3
        · rw [if_neg c] at h
          obtain rfl := Option.some.inj h
          exact fx3
  · rw [if_neg c] at h
    by_cases c : (r1.2.1 (q + 15) x2.toNatClampNeg) ≤ (17 : Int32)
    · rw [if_pos c] at h
      by_cases c : v9 = 0
      · rw [if_pos c] at h
        by_cases c : v11 = 0
        · rw [if_pos c] at h
          obtain rfl := Option.some.inj h
          exact fx3
        · rw [if_neg c] at h
          obtain rfl := Option.some.inj h
          exact fx3
      · rw [if_neg c] at h
        obtain rfl := Option.some.inj h
        exact fx3
    · rw [if_neg c] at h
      by_cases c : (r1.2.1 (q + 15) x2.toNatClampNeg) < (20 : Int32)
      · rw [if_pos c] at h
        obtain rfl := Option.some.inj h
        exact fx3
      · rw [if_neg c] at h
        by_cases c : (25 : Int32) < (r1.2.1 (q + 15) x2.toNatClampNeg)
        · rw [if_pos c] at h
          obtain rfl := Option.some.inj h
          exact fx3
        · rw [if_neg c] at h
          by_cases c : v9 = 0
          · rw [if_pos c] at h
            by_cases c : v11 = 0
            · rw [if_pos c] at h
              obtain rfl := Option.some.inj h
              exact fx3
            · rw [if_neg c] at h
              obtain rfl := Option.some.inj h
              exact fx3
          · rw [if_neg c] at h
            obtain rfl := Option.some.inj h
            exact fx3
def wlX12_types : List (Nat × Nat × Nat) := [(0, 102, 12), (0, 102, 23), (0, 171, 999), (1, 26, 999), (1, 27, 999)]
theorem fwtX12_types_168 {q : Nat} {y2 : Int32} {x : Int32 × QS} {z : (Bool × QS) ⊕ (Int32 × QS)} (hq : q_qok q) (h : tX12_types_168 q y2 x = some z) : q_Fw wlX12_types q ((fun x : Int32 × QS => x.2) x) ((Sum.elim (fun r : Bool × QS => r.2) (fun x : Int32 × QS => x.2)) z) := by
  unfold tX12_types_168 at h
  show q_Fw wlX12_types q x.2 _
  obtain ⟨hg1, h⟩ := q_guard h
  by_cases c : (x.2.2.1 (q + 13) y2.toNatClampNeg) ≤ x.1
  · rw [if_pos c] at h
    cases h
    exact q_Fw.rf _
  · rw [if_neg c] at h
    obtain ⟨hg2, h⟩ := q_guard h
    by_cases c : (x.2.2.1 (q + 27) x.1.toNatClampNeg) = 0
    · rw [if_pos c] at h
      cases h
      exact q_Fw.rf _
    · rw [if_neg c] at h
      obtain ⟨r3, e4, h⟩ := q_bind h
      have fx5 : q_Fw wlX12_types q x.2 r3.2 := q_Fw.tr (q_Fw.rf x.2) ((fwX12_fits hq e4).up rfl)
      by_cases c : r3.1 = true
      · rw [if_pos c] at h
        cases h
        exact fx5
      · rw [if_neg c] at h
        obtain ⟨hg6, h⟩ := q_guard h
        obtain ⟨r7, e8, h⟩ := q_bind h
        have fx9 : q_Fw wlX12_types q x.2 r7.2 := q_Fw.tr (fx5) (((fwX12_wrong e8).nov (p' := q) rfl).up rfl)
        cases h
        exact fx9
theorem fwX12_types_168 {S : QS} {q : Nat} {y2 : Int32} {y5 : Int32} {r : Bool × QS} (hq : q_qok q) (h : fX12_types_168 S q y2 y5 = some r) : q_Fw wlX12_types q S ((fun r : Bool × QS => r.2) r) := q_run_fw (fun x : Int32 × QS => x.2) (fun r : Bool × QS => r.2) (fun _ _ hz => fwtX12_types_168 hq hz) h
theorem fwtX12_types_113 {q : Nat} {y2 : Int32} {y3 : Int32} {x : Int32 × Int32 × QS} {z : ((Bool × QS) ⊕ (Int32 × QS)) ⊕ (Int32 × Int32 × QS)} (hq : q_qok q) (h : tX12_types_113 q y2 y3 x = some z) : q_Fw wlX12_types q ((fun x : Int32 × Int32 × QS => x.2.2) x) ((Sum.elim (Sum.elim (fun r : Bool × QS => r.2) (fun x : Int32 × QS => x.2)) (fun x : Int32 × Int32 × QS => x.2.2)) z) := by
  unfold tX12_types_113 at h
  show q_Fw wlX12_types q x.2.2 _
  obtain ⟨hg10, h⟩ := q_guard h
  by_cases c : (x.2.2.2.1 (q + 13) y2.toNatClampNeg) ≤ x.2.1
  · rw [if_pos c] at h
    cases h
    exact q_Fw.rf _
  · rw [if_neg c] at h
    obtain ⟨hg11, h⟩ := q_guard h
    by_cases c : (x.2.2.2.1 (q + 27) x.2.1.toNatClampNeg) = 0
    · rw [if_pos c] at h
      cases h
      exact q_Fw.rf _
    · rw [if_neg c] at h
      obtain ⟨r12, e13, h⟩ := q_bind h
      have fx14 : q_Fw wlX12_types q x.2.2 r12.2 := q_Fw.tr (q_Fw.rf x.2.2) ((fwX12_typesOn hq e13).up rfl)
      by_cases c : r12.1 = true
      · rw [if_pos c] at h
        cases h
        exact fx14
      · rw [if_neg c] at h
        by_cases c : x.1 = 0
        · rw [if_pos c] at h
          cases h
          exact fx14
        · rw [if_neg c] at h
          cases h
          exact fx14
theorem fwuX12_types_113 {S : QS} {q : Nat} {y2 : Int32} {y3 : Int32} {y4 : Int32} {y5 : Int32} {r : (Bool × QS) ⊕ (Int32 × QS)} (hq : q_qok q) (h : uX12_types_113 S q y2 y3 y4 y5 = some r) : q_Fw wlX12_types q S ((Sum.elim (fun r : Bool × QS => r.2) (fun x : Int32 × QS => x.2)) r) := q_run_fw (fun x : Int32 × Int32 × QS => x.2.2) (Sum.elim (fun r : Bool × QS => r.2) (fun x : Int32 × QS => x.2)) (fun _ _ hz => fwtX12_types_113 hq hz) h
theorem fwtX12_types_102 {q : Nat} {y2 : Int32} {y3 : Int32} {x : Int32 × QS} {z : (Bool × QS) ⊕ (Int32 × QS)} (hq : q_qok q) (h : tX12_types_102 q y2 y3 x = some z) : q_Fw wlX12_types q ((fun x : Int32 × QS => x.2) x) ((Sum.elim (fun r : Bool × QS => r.2) (fun x : Int32 × QS => x.2)) z) := by
  unfold tX12_types_102 at h
  show q_Fw wlX12_types q x.2 _
  by_cases c : x.1 = 0
  · rw [if_pos c] at h
    obtain ⟨r15, e16, h⟩ := q_bind h
    cases h
    exact (q_Fw.rf _).tr (fwX12_types_168 hq e16)
  · rw [if_neg c] at h
    exact (q_Fw.rf _).tr (fwuX12_types_113 hq h)
theorem fwX12_types_102 {S : QS} {q : Nat} {y2 : Int32} {y3 : Int32} {y4 : Int32} {r : Bool × QS} (hq : q_qok q) (h : fX12_types_102 S q y2 y3 y4 = some r) : q_Fw wlX12_types q S ((fun r : Bool × QS => r.2) r) := q_run_fw (fun x : Int32 × QS => x.2) (fun r : Bool × QS => r.2) (fun _ _ hz => fwtX12_types_102 hq hz) h
theorem fwtX12_types_47 {q : Nat} {y2 : Int32} {y3 : Int32} {x : Int32 × QS} {z : (Bool × QS) ⊕ (Int32 × QS)} (hq : q_qok q) (h : tX12_types_47 q y2 y3 x = some z) : q_Fw wlX12_types q ((fun x : Int32 × QS => x.2) x) ((Sum.elim (fun r : Bool × QS => r.2) (fun x : Int32 × QS => x.2)) z) := by
  unfold tX12_types_47 at h
  show q_Fw wlX12_types q x.2 _
  by_cases c : (12 : Int32) ≤ x.1
  · rw [if_pos c] at h
    obtain ⟨r17, e18, h⟩ := q_bind h
    cases h
    exact (q_Fw.rf _).tr (fwX12_types_102 hq e18)
  · rw [if_neg c] at h
    obtain ⟨hg19, h⟩ := q_guard h
    by_cases c : (x.2.2.1 (q + 8) y2.toNatClampNeg) ≤ x.1
    · rw [if_pos c] at h
      obtain ⟨hg20, h⟩ := q_guard h
      obtain ⟨S21, e22, h⟩ := q_bindS h
      have fx23 : q_Fw wlX12_types q x.2 S21 := e22 ▸ q_Fw.sI (i := 3) (b := 1) (k := 26) (jj := 999) (q_Fw.rf x.2) rfl rfl (Or.inl rfl) (Or.inl (q_nBq (k := 26) hq (by decide)))
      cases h
      exact fx23
    · rw [if_neg c] at h
      obtain ⟨hg24, h⟩ := q_guard h
      obtain ⟨hg25, h⟩ := q_guard h
      obtain ⟨S26, e27, h⟩ := q_bindS h
      have fx28 : q_Fw wlX12_types q x.2 S26 := e27 ▸ q_Fw.sI (i := 3) (b := 1) (k := 26) (jj := 999) (q_Fw.rf x.2) rfl rfl (Or.inl rfl) (Or.inl (q_nBq (k := 26) hq (by decide)))
      cases h
      exact fx28
theorem fwX12_types_47 {S : QS} {q : Nat} {y2 : Int32} {y3 : Int32} {y4 : Int32} {r : Bool × QS} (hq : q_qok q) (h : fX12_types_47 S q y2 y3 y4 = some r) : q_Fw wlX12_types q S ((fun r : Bool × QS => r.2) r) := q_run_fw (fun x : Int32 × QS => x.2) (fun r : Bool × QS => r.2) (fun _ _ hz => fwtX12_types_47 hq hz) h
theorem fwtX12_types_7 {q : Nat} {y2 : Int32} {x : Int32 × QS} {z : (Bool × QS) ⊕ (Int32 × QS)} (hq : q_qok q) (h : tX12_types_7 q y2 x = some z) : q_Fw wlX12_types q ((fun x : Int32 × QS => x.2) x) ((Sum.elim (fun r : Bool × QS => r.2) (fun x : Int32 × QS => x.2)) z) := by
  unfold tX12_types_7 at h
  show q_Fw wlX12_types q x.2 _
  obtain ⟨hg29, h⟩ := q_guard h
  by_cases c : (x.2.2.1 (q + 13) y2.toNatClampNeg) ≤ x.1
  · rw [if_pos c] at h
    obtain ⟨hg30, h⟩ := q_guard h
    obtain ⟨hg31, h⟩ := q_guard h
    obtain ⟨S32, e33, h⟩ := q_bindS h
    have fx34 : q_Fw wlX12_types q x.2 S32 := e33 ▸ q_Fw.sI (i := 4) (b := 1) (k := 27) (jj := 999) (q_Fw.rf x.2) rfl rfl (Or.inl rfl) (Or.inl (q_nBq (k := 27) hq (by decide)))
    obtain ⟨r35, e36, h⟩ := q_bind h
    cases h
    exact (fx34).tr (fwX12_types_47 hq e36)
  · rw [if_neg c] at h
    obtain ⟨hg37, h⟩ := q_guard h
    obtain ⟨S38, e39, h⟩ := q_bindS h
    have fx40 : q_Fw wlX12_types q x.2 S38 := e39 ▸ q_Fw.sI (i := 4) (b := 1) (k := 27) (jj := 999) (q_Fw.rf x.2) rfl rfl (Or.inl rfl) (Or.inl (q_nBq (k := 27) hq (by decide)))
    cases h
    exact fx40
theorem fwX12_types_7 {S : QS} {q : Nat} {y2 : Int32} {y3 : Int32} {r : Bool × QS} (hq : q_qok q) (h : fX12_types_7 S q y2 y3 = some r) : q_Fw wlX12_types q S ((fun r : Bool × QS => r.2) r) := q_run_fw (fun x : Int32 × QS => x.2) (fun r : Bool × QS => r.2) (fun _ _ hz => fwtX12_types_7 hq hz) h
theorem fwX12_types {S : QS} {q : Nat} {x2 : Int32} {r : Bool × QS} (hq : q_qok q) (h : fX12_types S q x2 = some r) : q_Fw wlX12_types q S r.2 := by
  unfold fX12_types at h
  obtain ⟨hg41, h⟩ := q_guard h
  exact (q_Fw.rf _).tr (fwX12_types_7 hq h)
def wlX12_fault : List (Nat × Nat × Nat) := [(0, 102, 10), (0, 102, 11), (0, 102, 12), (0, 102, 19), (0, 102, 23), (0, 161, 999), (0, 162, 999), (0, 163, 999), (0, 164, 999), (0, 165, 999), (0, 166, 999), (0, 167, 999), (0, 168, 999), (0, 169, 999), (0, 170, 999), (0, 171, 999), (1, 0, 0), (1, 0, 1), (1, 0, 2), (1, 0, 3), (1, 0, 4), (1, 0, 5), (1, 0, 6), (1, 1, 999), (1, 2, 999), (1, 3, 999), (1, 4, 999), (1, 5, 999), (1, 6, 999), (1, 7, 999), (1, 8, 999), (1, 9, 999), (1, 10, 999), (1, 11, 999), (1, 12, 999), (1, 13, 999), (1, 14, 999), (1, 15, 999), (1, 16, 999), (1, 17, 999), (1, 18, 999), (1, 19, 999), (1, 20, 999), (1, 21, 999), (1, 22, 999), (1, 23, 999), (1, 24, 999), (1, 25, 999), (1, 26, 999), (1, 27, 999)]
theorem fwtX12_fault_70 {q : Nat}  {x : Int32 × QS} {z : (Int32 × QS) ⊕ (Int32 × QS)} (hq : q_qok q) (h : tX12_fault_70 q x = some z) : q_Fw wlX12_fault q ((fun x : Int32 × QS => x.2) x) ((Sum.elim (fun r : Int32 × QS => r.2) (fun x : Int32 × QS => x.2)) z) := by
  unfold tX12_fault_70 at h
  show q_Fw wlX12_fault q x.2 _
  by_cases c : (x.2.2.1 q 2) ≤ x.1
  · rw [if_pos c] at h
    obtain ⟨S1, e2, h⟩ := q_bindS h
    have fx3 : q_Fw wlX12_fault q x.2 S1 := e2 ▸ q_Fw.sI (i := 2) (b := 0) (k := 102) (jj := 12) (q_Fw.rf x.2) rfl rfl (Or.inr rfl) (Or.inl rfl)
    cases h
    exact fx3
  · rw [if_neg c] at h
    obtain ⟨r4, e5, h⟩ := q_bind h
    have fx6 : q_Fw wlX12_fault q x.2 r4.2 := q_Fw.tr (q_Fw.rf x.2) ((fwX12_heights hq e5).up rfl)
    by_cases c : r4.1 = true
    · rw [if_pos c] at h
      obtain ⟨r7, e8, h⟩ := q_bind h
      have fx9 : q_Fw wlX12_fault q x.2 r7.2 := q_Fw.tr (fx6) ((fwX12_types hq e8).up rfl)
      by_cases c : r7.1 = true
      · rw [if_pos c] at h
        cases h
        exact fx9
      · rw [if_neg c] at h
        cases h
        exact fx9
    · rw [if_neg c] at h
      cases h
      exact fx6
theorem fwX12_fault_70 {S : QS} {q : Nat} {y2 : Int32} {r : Int32 × QS} (hq : q_qok q) (h : fX12_fault_70 S q y2 = some r) : q_Fw wlX12_fault q S ((fun r : Int32 × QS => r.2) r) := q_run_fw (fun x : Int32 × QS => x.2) (fun r : Int32 × QS => r.2) (fun _ _ hz => fwtX12_fault_70 hq hz) h
theorem fwX12_fault {S : QS} {q : Nat}  {r : Int32 × QS} (hq : q_qok q) (h : fX12_fault S q = some r) : q_Fw wlX12_fault q S r.2 := by
  unfold fX12_fault at h
  obtain ⟨r10, e11, h⟩ := q_bind h
  have fx12 : q_Fw wlX12_fault q S r10.2 := q_Fw.tr (q_Fw.rf S) (((fwX12_cut e11).nov (p' := q) rfl).up rfl)
  by_cases c : r10.1 = true
  · rw [if_pos c] at h
    obtain ⟨r13, e14, h⟩ := q_bind h
    have fx15 : q_Fw wlX12_fault q S r13.2 := q_Fw.tr (fx12) (((fwX12_isProgram e14).nov (p' := q) rfl).up rfl)
    by_cases c : r13.1 = true
    · rw [if_pos c] at h
      obtain ⟨r16, e17, h⟩ := q_bind h
      have fx18 : q_Fw wlX12_fault q S r16.2 := q_Fw.tr (fx15) ((fwX12_classNames hq e17).up rfl)
      by_cases c : r16.1 = true
      · rw [if_pos c] at h
        obtain ⟨r19, e20, h⟩ := q_bind h
        have fx21 : q_Fw wlX12_fault q S r19.2 := q_Fw.tr (fx18) ((fwX12_members hq e20).up rfl)
        by_cases c : r19.1 = true
        · rw [if_pos c] at h
          obtain ⟨r22, e23, h⟩ := q_bind h
          have fx24 : q_Fw wlX12_fault q S r22.2 := q_Fw.tr (fx21) ((fwX12_lines hq e23).up rfl)
          by_cases c : r22.1 = true
          · rw [if_pos c] at h
            obtain ⟨r25, e26, h⟩ := q_bind h
            have fx27 : q_Fw wlX12_fault q S r25.2 := q_Fw.tr (fx24) ((fwX12_settled hq e26).up rfl)
            by_cases c : r25.1 = true
            · rw [if_pos c] at h
              exact (fx27).tr (fwX12_fault_70 hq h)
            · rw [if_neg c] at h
              obtain rfl := Option.some.inj h
              exact fx27
          · rw [if_neg c] at h
            obtain rfl := Option.some.inj h
            exact fx24
        · rw [if_neg c] at h
          obtain rfl := Option.some.inj h
          exact fx21
      · rw [if_neg c] at h
        obtain rfl := Option.some.inj h
        exact fx18
    · rw [if_neg c] at h
      obtain ⟨S28, e29, h⟩ := q_bindS h
      have fx30 : q_Fw wlX12_fault q S S28 := e29 ▸ q_Fw.sI (i := 2) (b := 0) (k := 102) (jj := 12) (fx15) rfl rfl (Or.inr rfl) (Or.inl rfl)
      obtain rfl := Option.some.inj h
      exact fx30
  · rw [if_neg c] at h
    obtain ⟨S31, e32, h⟩ := q_bindS h
    have fx33 : q_Fw wlX12_fault q S S31 := e32 ▸ q_Fw.sI (i := 2) (b := 0) (k := 102) (jj := 12) (fx12) rfl rfl (Or.inr rfl) (Or.inl rfl)
    obtain rfl := Option.some.inj h
    exact fx33
def wlX12_input : List (Nat × Nat × Nat) := [(0, 102, 38), (0, 181, 999)]
theorem fwX12_input {S : QS}  {x1 : Int32} {r : Bool × QS} (h : fX12_input S x1 = some r) : q_Fw wlX12_input 0 S r.2 := by
  unfold fX12_input at h
  by_cases c : (S.2.1 102 38) = (256 : Int32)
  · rw [if_pos c] at h
    obtain rfl := Option.some.inj h
    exact q_Fw.rf _
  · rw [if_neg c] at h
    obtain ⟨hg1, h⟩ := q_guard h
    obtain ⟨S2, e3, h⟩ := q_bindS h
    have fx4 : q_Fw wlX12_input 0 S S2 := e3 ▸ q_Fw.sI (i := 1) (b := 0) (k := 181) (jj := 999) (q_Fw.rf S) rfl rfl (Or.inl rfl) (Or.inl rfl)
    obtain ⟨S5, e6, h⟩ := q_bindS h
    have fx7 : q_Fw wlX12_input 0 S S5 := e6 ▸ q_Fw.sI (i := 0) (b := 0) (k := 102) (jj := 38) (fx4) rfl rfl (Or.inr rfl) (Or.inl rfl)
    obtain rfl := Option.some.inj h
    exact fx7
def wlX12_enter : List (Nat × Nat × Nat) := [(0, 102, 35), (0, 172, 999), (0, 174, 999), (0, 175, 999)]
theorem fwtX12_enter_2 {q : Nat} {y1 : Int32} {x : Int32 × QS} {z : (QS) ⊕ (Int32 × QS)} (hq : q_qok q) (h : tX12_enter_2 q y1 x = some z) : q_Fw wlX12_enter q ((fun x : Int32 × QS => x.2) x) ((Sum.elim (fun r : QS => r) (fun x : Int32 × QS => x.2)) z) := by
  unfold tX12_enter_2 at h
  show q_Fw wlX12_enter q x.2 _
  by_cases c : (12 : Int32) ≤ x.1
  · rw [if_pos c] at h
    obtain ⟨hg1, h⟩ := q_guard h
    obtain ⟨S2, e3, h⟩ := q_bindS h
    have fx4 : q_Fw wlX12_enter q x.2 S2 := e3 ▸ q_Fw.sI (i := 2) (b := 0) (k := 174) (jj := 999) (q_Fw.rf x.2) rfl rfl (Or.inl rfl) (Or.inl rfl)
    obtain ⟨hg5, h⟩ := q_guard h
    obtain ⟨hg6, h⟩ := q_guard h
    obtain ⟨S7, e8, h⟩ := q_bindS h
    have fx9 : q_Fw wlX12_enter q x.2 S7 := e8 ▸ q_Fw.sI (i := 3) (b := 0) (k := 175) (jj := 999) (fx4) rfl rfl (Or.inl rfl) (Or.inl rfl)
    obtain ⟨S10, e11, h⟩ := q_bindS h
    have fx12 : q_Fw wlX12_enter q x.2 S10 := e11 ▸ q_Fw.sI (i := 0) (b := 0) (k := 102) (jj := 35) (fx9) rfl rfl (Or.inr rfl) (Or.inl rfl)
    cases h
    exact fx12
  · rw [if_neg c] at h
    obtain ⟨hg13, h⟩ := q_guard h
    obtain ⟨S14, e15, h⟩ := q_bindS h
    have fx16 : q_Fw wlX12_enter q x.2 S14 := e15 ▸ q_Fw.sJ (i := 1) (b := 0) (k := 172) (jj := 999) (q_Fw.rf x.2) rfl rfl (Or.inl rfl)
    cases h
    exact fx16
theorem fwX12_enter_2 {S : QS} {q : Nat} {y1 : Int32} {y2 : Int32} {r : QS} (hq : q_qok q) (h : fX12_enter_2 S q y1 y2 = some r) : q_Fw wlX12_enter q S ((fun r : QS => r) r) := q_run_fw (fun x : Int32 × QS => x.2) (fun r : QS => r) (fun _ _ hz => fwtX12_enter_2 hq hz) h
theorem fwX12_enter {S : QS} {q : Nat} {x1 : Int32} {r : QS} (hq : q_qok q) (h : fX12_enter S q x1 = some r) : q_Fw wlX12_enter q S r := by
  unfold fX12_enter at h
  exact (q_Fw.rf _).tr (fwX12_enter_2 hq h)
def wlX12_push : List (Nat × Nat × Nat) := [(0, 173, 999), (0, 174, 999)]
theorem fwX12_push {S : QS}  {x1 : Int64} {r : QS} (h : fX12_push S x1 = some r) : q_Fw wlX12_push 0 S r := by
  unfold fX12_push at h
  obtain ⟨hg1, h⟩ := q_guard h
  obtain ⟨hg2, h⟩ := q_guard h
  obtain ⟨S3, e4, h⟩ := q_bindS h
  have fx5 : q_Fw wlX12_push 0 S S3 := e4 ▸ q_Fw.sJ (i := 0) (b := 0) (k := 173) (jj := 999) (q_Fw.rf S) rfl rfl (Or.inl rfl)
  obtain ⟨hg6, h⟩ := q_guard h
  obtain ⟨hg7, h⟩ := q_guard h
  obtain ⟨S8, e9, h⟩ := q_bindS h
  have fx10 : q_Fw wlX12_push 0 S S8 := e9 ▸ q_Fw.sI (i := 1) (b := 0) (k := 174) (jj := 999) (fx5) rfl rfl (Or.inl rfl) (Or.inl rfl)
  obtain rfl := Option.some.inj h
  exact fx10
def wlX12_pop : List (Nat × Nat × Nat) := [(0, 174, 999)]
theorem fwX12_pop {S : QS}   {r : Int64 × QS} (h : fX12_pop S = some r) : q_Fw wlX12_pop 0 S r.2 := by
  unfold fX12_pop at h
  obtain ⟨hg1, h⟩ := q_guard h
  obtain ⟨hg2, h⟩ := q_guard h
  obtain ⟨S3, e4, h⟩ := q_bindS h
  have fx5 : q_Fw wlX12_pop 0 S S3 := e4 ▸ q_Fw.sI (i := 0) (b := 0) (k := 174) (jj := 999) (q_Fw.rf S) rfl rfl (Or.inl rfl) (Or.inl rfl)
  obtain ⟨hg6, h⟩ := q_guard h
  obtain ⟨hg7, h⟩ := q_guard h
  obtain rfl := Option.some.inj h
  exact fx5
def wlX12_ended : List (Nat × Nat × Nat) := [(0, 102, 42), (0, 102, 44)]
theorem fwX12_ended {S : QS}  {x1 : Int32} {x2 : Int32} {r : QS} (h : fX12_ended S x1 x2 = some r) : q_Fw wlX12_ended 0 S r := by
  unfold fX12_ended at h
  obtain ⟨S1, e2, h⟩ := q_bindS h
  have fx3 : q_Fw wlX12_ended 0 S S1 := e2 ▸ q_Fw.sI (i := 1) (b := 0) (k := 102) (jj := 44) (q_Fw.rf S) rfl rfl (Or.inr rfl) (Or.inl rfl)
  obtain ⟨S4, e5, h⟩ := q_bindS h
  have fx6 : q_Fw wlX12_ended 0 S S4 := e5 ▸ q_Fw.sI (i := 0) (b := 0) (k := 102) (jj := 42) (fx3) rfl rfl (Or.inr rfl) (Or.inl rfl)
  obtain rfl := Option.some.inj h
  exact fx6
def wlX12_object : List (Nat × Nat × Nat) := [(0, 102, 36), (0, 102, 37), (0, 102, 42), (0, 102, 44), (0, 176, 999), (0, 177, 999), (0, 178, 999), (0, 179, 999)]
theorem fwX12_object {S : QS}  {x1 : Int32} {x2 : Int32} {x3 : Int32} {x4 : Int32} {r : Int64 × QS} (h : fX12_object S x1 x2 x3 x4 = some r) : q_Fw wlX12_object 0 S r.2 := by
  unfold fX12_object at h
  by_cases c : (S.2.1 102 36) = (2000 : Int32)
  · rw [if_pos c] at h
    obtain ⟨r1, e2, h⟩ := q_bind h
    have fx3 : q_Fw wlX12_object 0 S r1 := q_Fw.tr (q_Fw.rf S) ((fwX12_ended e2).up rfl)
    obtain rfl := Option.some.inj h
    exact fx3
  · rw [if_neg c] at h
    by_cases c : ((S.2.1 102 37) + x3) ≤ (12000 : Int32)
    · rw [if_pos c] at h
      obtain ⟨hg4, h⟩ := q_guard h
      obtain ⟨S5, e6, h⟩ := q_bindS h
      have fx7 : q_Fw wlX12_object 0 S S5 := e6 ▸ q_Fw.sI (i := 4) (b := 0) (k := 176) (jj := 999) (q_Fw.rf S) rfl rfl (Or.inl rfl) (Or.inl rfl)
      obtain ⟨hg8, h⟩ := q_guard h
      obtain ⟨S9, e10, h⟩ := q_bindS h
      have fx11 : q_Fw wlX12_object 0 S S9 := e10 ▸ q_Fw.sI (i := 5) (b := 0) (k := 177) (jj := 999) (fx7) rfl rfl (Or.inl rfl) (Or.inl rfl)
      obtain ⟨hg12, h⟩ := q_guard h
      obtain ⟨S13, e14, h⟩ := q_bindS h
      have fx15 : q_Fw wlX12_object 0 S S13 := e14 ▸ q_Fw.sI (i := 6) (b := 0) (k := 178) (jj := 999) (fx11) rfl rfl (Or.inl rfl) (Or.inl rfl)
      obtain ⟨hg16, h⟩ := q_guard h
      obtain ⟨S17, e18, h⟩ := q_bindS h
      have fx19 : q_Fw wlX12_object 0 S S17 := e18 ▸ q_Fw.sI (i := 7) (b := 0) (k := 179) (jj := 999) (fx15) rfl rfl (Or.inl rfl) (Or.inl rfl)
      obtain ⟨S20, e21, h⟩ := q_bindS h
      have fx22 : q_Fw wlX12_object 0 S S20 := e21 ▸ q_Fw.sI (i := 1) (b := 0) (k := 102) (jj := 37) (fx19) rfl rfl (Or.inr rfl) (Or.inl rfl)
      obtain ⟨S23, e24, h⟩ := q_bindS h
      have fx25 : q_Fw wlX12_object 0 S S23 := e24 ▸ q_Fw.sI (i := 0) (b := 0) (k := 102) (jj := 36) (fx22) rfl rfl (Or.inr rfl) (Or.inl rfl)
      obtain rfl := Option.some.inj h
      exact fx25
    · rw [if_neg c] at h
      obtain ⟨r26, e27, h⟩ := q_bind h
      have fx28 : q_Fw wlX12_object 0 S r26 := q_Fw.tr (q_Fw.rf S) ((fwX12_ended e27).up rfl)
      obtain rfl := Option.some.inj h
      exact fx28
def wlX12_toss : List (Nat × Nat × Nat) := [(0, 102, 35), (0, 102, 42), (0, 102, 43), (0, 102, 44), (0, 173, 999), (0, 174, 999), (0, 175, 999)]
theorem fwtX12_toss_34 {q : Nat} {y1 : Int64} {y3 : Int32} {y4 : Int32} {y5 : Int32} {x : Int32 × QS} {z : ((QS) ⊕ (QS)) ⊕ (Int32 × QS)} (hq : q_qok q) (h : tX12_toss_34 q y1 y3 y4 y5 x = some z) : q_Fw wlX12_toss q ((fun x : Int32 × QS => x.2) x) ((Sum.elim (Sum.elim (fun r : QS => r) (fun x : QS => x)) (fun x : Int32 × QS => x.2)) z) := by
  unfold tX12_toss_34 at h
  show q_Fw wlX12_toss q x.2 _
  by_cases c : (x.2.2.1 q 5) ≤ x.1
  · rw [if_pos c] at h
    obtain ⟨S1, e2, h⟩ := q_bindS h
    have fx3 : q_Fw wlX12_toss q x.2 S1 := e2 ▸ q_Fw.sI (i := 0) (b := 0) (k := 102) (jj := 35) (q_Fw.rf x.2) rfl rfl (Or.inr rfl) (Or.inl rfl)
    cases h
    exact fx3
  · rw [if_neg c] at h
    obtain ⟨r4, e5, h⟩ := q_bind h
    by_cases c : r4 = true
    · rw [if_pos c] at h
      obtain ⟨hg6, h⟩ := q_guard h
      obtain ⟨r7, e8, h⟩ := q_bind h
      by_cases c : r7 = true
      · rw [if_pos c] at h
        obtain ⟨hg9, h⟩ := q_guard h
        obtain ⟨S10, e11, h⟩ := q_bindS h
        have fx12 : q_Fw wlX12_toss q x.2 S10 := e11 ▸ q_Fw.sI (i := 5) (b := 0) (k := 174) (jj := 999) (q_Fw.rf x.2) rfl rfl (Or.inl rfl) (Or.inl rfl)
        obtain ⟨r13, e14, h⟩ := q_bind h
        have fx15 : q_Fw wlX12_toss q x.2 r13 := q_Fw.tr (fx12) (((fwX12_push e14).nov (p' := q) rfl).up rfl)
        obtain ⟨hg16, h⟩ := q_guard h
        obtain ⟨hg17, h⟩ := q_guard h
        obtain ⟨S18, e19, h⟩ := q_bindS h
        have fx20 : q_Fw wlX12_toss q x.2 S18 := e19 ▸ q_Fw.sI (i := 6) (b := 0) (k := 175) (jj := 999) (fx15) rfl rfl (Or.inl rfl) (Or.inl rfl)
        cases h
        exact fx20
      · rw [if_neg c] at h
        cases h
        exact q_Fw.rf _
    · rw [if_neg c] at h
      cases h
      exact q_Fw.rf _
theorem fwuX12_toss_34 {S : QS} {q : Nat} {y1 : Int64} {y3 : Int32} {y4 : Int32} {y5 : Int32} {y6 : Int32} {r : (QS) ⊕ (QS)} (hq : q_qok q) (h : uX12_toss_34 S q y1 y3 y4 y5 y6 = some r) : q_Fw wlX12_toss q S ((Sum.elim (fun r : QS => r) (fun x : QS => x)) r) := q_run_fw (fun x : Int32 × QS => x.2) (Sum.elim (fun r : QS => r) (fun x : QS => x)) (fun _ _ hz => fwtX12_toss_34 hq hz) h
theorem fwtX12_toss_11 {q : Nat} {y1 : Int64} {y3 : Int32} {y4 : Int32} {x : QS} {z : (QS) ⊕ (QS)} (hq : q_qok q) (h : tX12_toss_11 q y1 y3 y4 x = some z) : q_Fw wlX12_toss q ((fun x : QS => x) x) ((Sum.elim (fun r : QS => r) (fun x : QS => x)) z) := by
  unfold tX12_toss_11 at h
  show q_Fw wlX12_toss q x _
  by_cases c : (x.2.1 102 35) ≤ 0
  · rw [if_pos c] at h
    obtain ⟨r21, e22, h⟩ := q_bind h
    obtain ⟨hg23, h⟩ := q_guard h
    obtain ⟨S24, e25, h⟩ := q_bindS h
    have fx26 : q_Fw wlX12_toss q x S24 := e25 ▸ q_Fw.sI (i := 2) (b := 0) (k := 102) (jj := 43) (q_Fw.rf x) rfl rfl (Or.inr rfl) (Or.inl rfl)
    obtain ⟨r27, e28, h⟩ := q_bind h
    have fx29 : q_Fw wlX12_toss q x r27 := q_Fw.tr (fx26) (((fwX12_ended e28).nov (p' := q) rfl).up rfl)
    cases h
    exact fx29
  · rw [if_neg c] at h
    obtain ⟨hg30, h⟩ := q_guard h
    exact (q_Fw.rf _).tr (fwuX12_toss_34 hq h)
theorem fwX12_toss_11 {S : QS} {q : Nat} {y1 : Int64} {y3 : Int32} {y4 : Int32} {r : QS} (hq : q_qok q) (h : fX12_toss_11 S q y1 y3 y4 = some r) : q_Fw wlX12_toss q S ((fun r : QS => r) r) := q_run_fw (fun x : QS => x) (fun r : QS => r) (fun _ _ hz => fwtX12_toss_11 hq hz) h
theorem fwX12_toss {S : QS} {q : Nat} {x1 : Int64} {x3 : Int32} {r : QS} (hq : q_qok q) (h : fX12_toss S q x1 x3 = some r) : q_Fw wlX12_toss q S r := by
  unfold fX12_toss at h
  obtain ⟨r31, e32, h⟩ := q_bind h
  obtain ⟨hg33, h⟩ := q_guard h
  exact (q_Fw.rf _).tr (fwX12_toss_11 hq h)
def wlX12_raise : List (Nat × Nat × Nat) := [(0, 102, 35), (0, 102, 36), (0, 102, 37), (0, 102, 42), (0, 102, 43), (0, 102, 44), (0, 173, 999), (0, 174, 999), (0, 175, 999), (0, 176, 999), (0, 177, 999), (0, 178, 999), (0, 179, 999)]
theorem fwX12_raise {S : QS} {q : Nat} {x1 : Int32} {x2 : Int32} {r : QS} (hq : q_qok q) (h : fX12_raise S q x1 x2 = some r) : q_Fw wlX12_raise q S r := by
  unfold fX12_raise at h
  obtain ⟨r1, e2, h⟩ := q_bind h
  have fx3 : q_Fw wlX12_raise q S r1.2 := q_Fw.tr (q_Fw.rf S) (((fwX12_object e2).nov (p' := q) rfl).up rfl)
  by_cases c : (lg_cmp r1.1 (0 : Int64)) = 0
  · rw [if_pos c] at h
    obtain rfl := Option.some.inj h
    exact fx3
  · rw [if_neg c] at h
    obtain ⟨r4, e5, h⟩ := q_bind h
    have fx6 : q_Fw wlX12_raise q S r4 := q_Fw.tr (fx3) ((fwX12_toss hq e5).up rfl)
    obtain rfl := Option.some.inj h
    exact fx6
def wlX12_next : List (Nat × Nat × Nat) := [(0, 175, 999)]
theorem fwX12_next {S : QS}   {r : QS} (h : fX12_next S = some r) : q_Fw wlX12_next 0 S r := by
  unfold fX12_next at h
  obtain ⟨hg1, h⟩ := q_guard h
  obtain ⟨hg2, h⟩ := q_guard h
  obtain ⟨S3, e4, h⟩ := q_bindS h
  have fx5 : q_Fw wlX12_next 0 S S3 := e4 ▸ q_Fw.sI (i := 0) (b := 0) (k := 175) (jj := 999) (q_Fw.rf S) rfl rfl (Or.inl rfl) (Or.inl rfl)
  obtain rfl := Option.some.inj h
  exact fx5
def wlX12_reckon : List (Nat × Nat × Nat) := [(0, 102, 35), (0, 102, 36), (0, 102, 37), (0, 102, 42), (0, 102, 43), (0, 102, 44), (0, 173, 999), (0, 174, 999), (0, 175, 999), (0, 176, 999), (0, 177, 999), (0, 178, 999), (0, 179, 999)]
theorem fwX12_reckon_36 {S : QS} {q : Nat} {y1 : Int32} {y3 : Int32} {y4 : Int32} {r : QS} (hq : q_qok q) (h : fX12_reckon_36 S q y1 y3 y4 = some r) : q_Fw wlX12_reckon q S r := by
  unfold fX12_reckon_36 at h
  obtain ⟨v3, hv, h⟩ := q_bind h
  obtain ⟨r4, e5, h⟩ := q_bind h
  have fx6 : q_Fw wlX12_reckon q S r4 := q_Fw.tr (q_Fw.rf S) (((fwX12_push e5).nov (p' := q) rfl).up rfl)
  obtain ⟨r7, e8, h⟩ := q_bind h
  have fx9 : q_Fw wlX12_reckon q S r7 := q_Fw.tr (fx6) (((fwX12_next e8).nov (p' := q) rfl).up rfl)
  obtain rfl := Option.some.inj h
  exact fx9
theorem fwX12_reckon_25 {S : QS} {q : Nat} {y1 : Int32} {y2 : Int32} {y3 : Int32} {y4 : Int32} {r : QS} (hq : q_qok q) (h : fX12_reckon_25 S q y1 y2 y3 y4 = some r) : q_Fw wlX12_reckon q S r := by
  unfold fX12_reckon_25 at h
  by_cases c : y3 = 0
  · rw [if_pos c] at h
    obtain ⟨r10, e11, h⟩ := q_bind h
    have fx12 : q_Fw wlX12_reckon q S r10 := q_Fw.tr (q_Fw.rf S) ((fwX12_raise hq e11).up rfl)
    obtain rfl := Option.some.inj h
    exact fx12
  · rw [if_neg c] at h
    exact (q_Fw.rf _).tr (fwX12_reckon_36 hq h)
theorem fwX12_reckon {S : QS} {q : Nat} {x1 : Int32} {x2 : Int32} {r : QS} (hq : q_qok q) (h : fX12_reckon S q x1 x2 = some r) : q_Fw wlX12_reckon q S r := by
  unfold fX12_reckon at h
  obtain ⟨r13, e14, h⟩ := q_bind h
  have fx15 : q_Fw wlX12_reckon q S r13.2 := q_Fw.tr (q_Fw.rf S) (((fwX12_pop e14).nov (p' := q) rfl).up rfl)
  obtain ⟨r16, e17, h⟩ := q_bind h
  have fx18 : q_Fw wlX12_reckon q S r16.2 := q_Fw.tr (fx15) (((fwX12_pop e17).nov (p' := q) rfl).up rfl)
  by_cases c : x1 = (11 : Int32)
  · rw [if_pos c] at h
    exact (fx18).tr (fwX12_reckon_25 hq h)
  · rw [if_neg c] at h
    by_cases c : x1 = (12 : Int32)
    · rw [if_pos c] at h
      exact (fx18).tr (fwX12_reckon_25 hq h)
    · rw [if_neg c] at h
      exact (fx18).tr (fwX12_reckon_36 hq h)
def wlX12_branch : List (Nat × Nat × Nat) := [(0, 174, 999), (0, 175, 999)]
theorem fwX12_branch {S : QS}  {x1 : Int32} {x2 : Int32} {r : QS} (h : fX12_branch S x1 x2 = some r) : q_Fw wlX12_branch 0 S r := by
  unfold fX12_branch at h
  obtain ⟨r1, e2, h⟩ := q_bind h
  have fx3 : q_Fw wlX12_branch 0 S r1.2 := q_Fw.tr (q_Fw.rf S) ((fwX12_pop e2).up rfl)
  obtain ⟨v11, hv, h⟩ := q_bind h
  have fx12 : q_Fw wlX12_branch 0 S v11.2 := by
    replace h := hv
    by_cases c : x1 = (26 : Int32)
    · rw [if_pos c] at h
      obtain ⟨v4, hv, h⟩ := q_bind h
      obtain ⟨v5, hv, h⟩ := q_bind h
      obtain ⟨v6, hv, h⟩ := q_bind h
      obtain rfl := Option.some.inj h
      exact fx3
    · rw [if_neg c] at h
      by_cases c : x1 = (27 : Int32)
      · rw [if_pos c] at h
        by_cases c : (lg_cmp r1.1 (1099511627776 : Int64)) = 0
        · rw [if_pos c] at h
          by_cases c : x1 = (26 : Int32)
          · rw [if_pos c] at h
            by_cases c : (1 : Int32) = (1 : Int32)
            · rw [if_pos c] at h
              obtain rfl := Option.some.inj h
              exact fx3
            · rw [if_neg c] at h
              obtain rfl := Option.some.inj h
              exact fx3
          · rw [if_neg c] at h
            by_cases c : (1 : Int32) = (0 : Int32)
            · rw [if_pos c] at h
              obtain rfl := Option.some.inj h
              exact fx3
            · rw [if_neg c] at h
              obtain rfl := Option.some.inj h
              exact fx3
        · rw [if_neg c] at h
          by_cases c : x1 = (26 : Int32)
          · rw [if_pos c] at h
            by_cases c : (0 : Int32) = (1 : Int32)
            · rw [if_pos c] at h
              obtain rfl := Option.some.inj h
              exact fx3
            · rw [if_neg c] at h
              obtain rfl := Option.some.inj h
              exact fx3
          · rw [if_neg c] at h
            by_cases c : (0 : Int32) = (0 : Int32)
            · rw [if_pos c] at h
              obtain rfl := Option.some.inj h
              exact fx3
            · rw [if_neg c] at h
              obtain rfl := Option.some.inj h
              exact fx3
      · rw [if_neg c] at h
        obtain ⟨r7, e8, h⟩ := q_bind h
        have fx9 : q_Fw wlX12_branch 0 S r7.2 := q_Fw.tr (fx3) ((fwX12_pop e8).up rfl)
        obtain ⟨v10, hv, h⟩ := q_bind h
        obtain rfl := Option.some.inj h
        exact fx9
  by_cases c : v11.1 = true
  · rw [if_pos c] at h
    obtain ⟨hg16, h⟩ := q_guard h
    obtain ⟨S17, e18, h⟩ := q_bindS h
    have fx19 : q_Fw wlX12_branch 0 S S17 := e18 ▸ q_Fw.sI (i := 1) (b := 0) (k := 175) (jj := 999) (fx12) rfl rfl (Or.inl rfl) (Or.inl rfl)
    obtain rfl := Option.some.inj h
    exact fx19
  · rw [if_neg c] at h
    obtain ⟨r13, e14, h⟩ := q_bind h
    have fx15 : q_Fw wlX12_branch 0 S r13 := q_Fw.tr (fx12) ((fwX12_next e14).up rfl)
    obtain rfl := Option.some.inj h
    exact fx15
def wlX12_make : List (Nat × Nat × Nat) := [(0, 102, 35), (0, 102, 36), (0, 102, 37), (0, 102, 42), (0, 102, 43), (0, 102, 44), (0, 173, 999), (0, 174, 999), (0, 175, 999), (0, 176, 999), (0, 177, 999), (0, 178, 999), (0, 179, 999), (0, 180, 999)]
theorem fwtX12_make_145 {q : Nat} {y4 : Int32} {y6 : Int64} {y8 : Int32} {x : Int32 × QS} {z : (QS) ⊕ (Int32 × QS)} (hq : q_qok q) (h : tX12_make_145 q y4 y6 y8 x = some z) : q_Fw wlX12_make q ((fun x : Int32 × QS => x.2) x) ((Sum.elim (fun r : QS => r) (fun x : Int32 × QS => x.2)) z) := by
  unfold tX12_make_145 at h
  show q_Fw wlX12_make q x.2 _
  by_cases c : (x.2.2.1 q 1) ≤ x.1
  · rw [if_pos c] at h
    obtain ⟨r1, e2, h⟩ := q_bind h
    have fx3 : q_Fw wlX12_make q x.2 r1 := q_Fw.tr (q_Fw.rf x.2) (((fwX12_push e2).nov (p' := q) rfl).up rfl)
    obtain ⟨r4, e5, h⟩ := q_bind h
    have fx6 : q_Fw wlX12_make q x.2 r4 := q_Fw.tr (fx3) (((fwX12_next e5).nov (p' := q) rfl).up rfl)
    cases h
    exact fx6
  · rw [if_neg c] at h
    obtain ⟨hg7, h⟩ := q_guard h
    by_cases c : (x.2.2.1 (q + 4) x.1.toNatClampNeg) = 0
    · rw [if_pos c] at h
      obtain ⟨hg8, h⟩ := q_guard h
      obtain ⟨r9, e10, h⟩ := q_bind h
      by_cases c : r9 = true
      · rw [if_pos c] at h
        obtain ⟨hg11, h⟩ := q_guard h
        obtain ⟨hg12, h⟩ := q_guard h
        obtain ⟨S13, e14, h⟩ := q_bindS h
        have fx15 : q_Fw wlX12_make q x.2 S13 := e14 ▸ q_Fw.sJ (i := 13) (b := 0) (k := 180) (jj := 999) (q_Fw.rf x.2) rfl rfl (Or.inl rfl)
        cases h
        exact fx15
      · rw [if_neg c] at h
        cases h
        exact q_Fw.rf _
    · rw [if_neg c] at h
      cases h
      exact q_Fw.rf _
theorem fwX12_make_145 {S : QS} {q : Nat} {y4 : Int32} {y6 : Int64} {y8 : Int32} {y9 : Int32} {r : QS} (hq : q_qok q) (h : fX12_make_145 S q y4 y6 y8 y9 = some r) : q_Fw wlX12_make q S ((fun r : QS => r) r) := q_run_fw (fun x : Int32 × QS => x.2) (fun r : QS => r) (fun _ _ hz => fwtX12_make_145 hq hz) h
theorem fwtX12_make_93 {q : Nat} {y1 : Int32} {y4 : Int32} {y5 : Int32} {y6 : Int64} {y8 : Int32} {x : Int32 × QS} {z : (QS) ⊕ (Int32 × QS)} (hq : q_qok q) (h : tX12_make_93 q y1 y4 y5 y6 y8 x = some z) : q_Fw wlX12_make q ((fun x : Int32 × QS => x.2) x) ((Sum.elim (fun r : QS => r) (fun x : Int32 × QS => x.2)) z) := by
  unfold tX12_make_93 at h
  show q_Fw wlX12_make q x.2 _
  by_cases c : y5 ≤ x.1
  · rw [if_pos c] at h
    by_cases c : y1 = (30 : Int32)
    · rw [if_pos c] at h
      obtain ⟨r22, e23, h⟩ := q_bind h
      cases h
      exact (q_Fw.rf _).tr (fwX12_make_145 hq e23)
    · rw [if_neg c] at h
      obtain ⟨r16, e17, h⟩ := q_bind h
      have fx18 : q_Fw wlX12_make q x.2 r16 := q_Fw.tr (q_Fw.rf x.2) (((fwX12_push e17).nov (p' := q) rfl).up rfl)
      obtain ⟨r19, e20, h⟩ := q_bind h
      have fx21 : q_Fw wlX12_make q x.2 r19 := q_Fw.tr (fx18) (((fwX12_next e20).nov (p' := q) rfl).up rfl)
      cases h
      exact fx21
  · rw [if_neg c] at h
    by_cases c : y1 = (31 : Int32)
    · rw [if_pos c] at h
      by_cases c : y4 = (40 : Int32)
      · rw [if_pos c] at h
        obtain ⟨hg32, h⟩ := q_guard h
        obtain ⟨S33, e34, h⟩ := q_bindS h
        have fx35 : q_Fw wlX12_make q x.2 S33 := e34 ▸ q_Fw.sJ (i := 13) (b := 0) (k := 180) (jj := 999) (q_Fw.rf x.2) rfl rfl (Or.inl rfl)
        cases h
        exact fx35
      · rw [if_neg c] at h
        obtain ⟨hg28, h⟩ := q_guard h
        obtain ⟨S29, e30, h⟩ := q_bindS h
        have fx31 : q_Fw wlX12_make q x.2 S29 := e30 ▸ q_Fw.sJ (i := 13) (b := 0) (k := 180) (jj := 999) (q_Fw.rf x.2) rfl rfl (Or.inl rfl)
        cases h
        exact fx31
    · rw [if_neg c] at h
      obtain ⟨hg24, h⟩ := q_guard h
      obtain ⟨S25, e26, h⟩ := q_bindS h
      have fx27 : q_Fw wlX12_make q x.2 S25 := e26 ▸ q_Fw.sJ (i := 13) (b := 0) (k := 180) (jj := 999) (q_Fw.rf x.2) rfl rfl (Or.inl rfl)
      cases h
      exact fx27
theorem fwX12_make_93 {S : QS} {q : Nat} {y1 : Int32} {y4 : Int32} {y5 : Int32} {y6 : Int64} {y8 : Int32} {y9 : Int32} {r : QS} (hq : q_qok q) (h : fX12_make_93 S q y1 y4 y5 y6 y8 y9 = some r) : q_Fw wlX12_make q S ((fun r : QS => r) r) := q_run_fw (fun x : Int32 × QS => x.2) (fun r : QS => r) (fun _ _ hz => fwtX12_make_93 hq hz) h
theorem fwX12_make {S : QS} {q : Nat} {x1 : Int32} {x2 : Int32} {x3 : Int32} {r : QS} (hq : q_qok q) (h : fX12_make S q x1 x2 x3 = some r) : q_Fw wlX12_make q S r := by
  unfold fX12_make at h
  obtain ⟨hg36, h⟩ := q_guard h
  obtain ⟨v41, hv, h⟩ := q_bind h
  have fx42 : q_Fw wlX12_make q S v41.2 := by
    replace h := hv
    by_cases c : x1 = (31 : Int32)
    · rw [if_pos c] at h
      obtain ⟨r38, e39, h⟩ := q_bind h
      have fx40 : q_Fw wlX12_make q S r38.2 := q_Fw.tr (q_Fw.rf S) (((fwX12_pop e39).nov (p' := q) rfl).up rfl)
      obtain rfl := Option.some.inj h
      exact fx40
    · rw [if_neg c] at h
      obtain ⟨hg37, h⟩ := q_guard h
      obtain rfl := Option.some.inj h
      exact q_Fw.rf _
  by_cases c : 0 ≤ v41.1
  · rw [if_pos c] at h
    obtain ⟨r43, e44, h⟩ := q_bind h
    have fx45 : q_Fw wlX12_make q S r43.2 := q_Fw.tr (fx42) (((fwX12_object e44).nov (p' := q) rfl).up rfl)
    by_cases c : (lg_cmp r43.1 (0 : Int64)) = 0
    · rw [if_pos c] at h
      obtain rfl := Option.some.inj h
      exact fx45
    · rw [if_neg c] at h
      obtain ⟨r46, e47, h⟩ := q_bind h
      obtain ⟨hg48, h⟩ := q_guard h
      exact (fx45).tr (fwX12_make_93 hq h)
  · rw [if_neg c] at h
    obtain ⟨r49, e50, h⟩ := q_bind h
    have fx51 : q_Fw wlX12_make q S r49 := q_Fw.tr (fx42) ((fwX12_raise hq e50).up rfl)
    obtain rfl := Option.some.inj h
    exact fx51
def wlX12_elementStep : List (Nat × Nat × Nat) := [(0, 102, 35), (0, 102, 36), (0, 102, 37), (0, 102, 42), (0, 102, 43), (0, 102, 44), (0, 173, 999), (0, 174, 999), (0, 175, 999), (0, 176, 999), (0, 177, 999), (0, 178, 999), (0, 179, 999), (0, 180, 999)]
theorem fwX12_elementStep {S : QS} {q : Nat} {x1 : Int32} {x2 : Int32} {r : QS} (hq : q_qok q) (h : fX12_elementStep S q x1 x2 = some r) : q_Fw wlX12_elementStep q S r := by
  unfold fX12_elementStep at h
  obtain ⟨v4, hv, h⟩ := q_bind h
  have fx5 : q_Fw wlX12_elementStep q S v4.2 := by
    replace h := hv
    by_cases c : x1 = (34 : Int32)
    · rw [if_pos c] at h
      obtain ⟨r1, e2, h⟩ := q_bind h
      have fx3 : q_Fw wlX12_elementStep q S r1.2 := q_Fw.tr (q_Fw.rf S) (((fwX12_pop e2).nov (p' := q) rfl).up rfl)
      obtain rfl := Option.some.inj h
      exact fx3
    · rw [if_neg c] at h
      obtain rfl := Option.some.inj h
      exact q_Fw.rf _
  obtain ⟨r6, e7, h⟩ := q_bind h
  have fx8 : q_Fw wlX12_elementStep q S r6.2 := q_Fw.tr (fx5) (((fwX12_pop e7).nov (p' := q) rfl).up rfl)
  obtain ⟨r9, e10, h⟩ := q_bind h
  have fx11 : q_Fw wlX12_elementStep q S r9.2 := q_Fw.tr (fx8) (((fwX12_pop e10).nov (p' := q) rfl).up rfl)
  by_cases c : (lg_cmp r9.1 (1099511627776 : Int64)) = 0
  · rw [if_pos c] at h
    obtain ⟨r56, e57, h⟩ := q_bind h
    have fx58 : q_Fw wlX12_elementStep q S r56 := q_Fw.tr (fx11) ((fwX12_raise hq e57).up rfl)
    obtain rfl := Option.some.inj h
    exact fx58
  · rw [if_neg c] at h
    obtain ⟨r12, e13, h⟩ := q_bind h
    by_cases c : (lg_cmp r6.1 (0 : Int64)) < 0
    · rw [if_pos c] at h
      obtain ⟨r14, e15, h⟩ := q_bind h
      have fx16 : q_Fw wlX12_elementStep q S r14 := q_Fw.tr (fx11) ((fwX12_raise hq e15).up rfl)
      obtain rfl := Option.some.inj h
      exact fx16
    · rw [if_neg c] at h
      obtain ⟨hg17, h⟩ := q_guard h
      by_cases c : (lg_cmp r6.1 (r9.2.2.1 179 r12.toNatClampNeg).toInt64) < 0
      · rw [if_pos c] at h
        obtain ⟨hg18, h⟩ := q_guard h
        by_cases c : x1 = (33 : Int32)
        · rw [if_pos c] at h
          obtain ⟨hg46, h⟩ := q_guard h
          obtain ⟨r47, e48, h⟩ := q_bind h
          have fx49 : q_Fw wlX12_elementStep q S r47 := q_Fw.tr (fx11) (((fwX12_push e48).nov (p' := q) rfl).up rfl)
          obtain ⟨r50, e51, h⟩ := q_bind h
          have fx52 : q_Fw wlX12_elementStep q S r50 := q_Fw.tr (fx49) (((fwX12_next e51).nov (p' := q) rfl).up rfl)
          obtain rfl := Option.some.inj h
          exact fx52
        · rw [if_neg c] at h
          obtain ⟨r19, e20, h⟩ := q_bind h
          by_cases c : r19 = true
          · rw [if_pos c] at h
            obtain ⟨r28, e29, h⟩ := q_bind h
            obtain ⟨hg30, h⟩ := q_guard h
            obtain ⟨hg31, h⟩ := q_guard h
            obtain ⟨r32, e33, h⟩ := q_bind h
            obtain ⟨r34, e35, h⟩ := q_bind h
            by_cases c : r34 = true
            · rw [if_pos c] at h
              obtain ⟨hg36, h⟩ := q_guard h
              obtain ⟨S37, e38, h⟩ := q_bindS h
              have fx39 : q_Fw wlX12_elementStep q S S37 := e38 ▸ q_Fw.sJ (i := 13) (b := 0) (k := 180) (jj := 999) (fx11) rfl rfl (Or.inl rfl)
              obtain ⟨r40, e41, h⟩ := q_bind h
              have fx42 : q_Fw wlX12_elementStep q S r40 := q_Fw.tr (fx39) (((fwX12_next e41).nov (p' := q) rfl).up rfl)
              obtain rfl := Option.some.inj h
              exact fx42
            · rw [if_neg c] at h
              obtain ⟨r43, e44, h⟩ := q_bind h
              have fx45 : q_Fw wlX12_elementStep q S r43 := q_Fw.tr (fx11) ((fwX12_raise hq e44).up rfl)
              obtain rfl := Option.some.inj h
              exact fx45
          · rw [if_neg c] at h
            obtain ⟨hg21, h⟩ := q_guard h
            obtain ⟨S22, e23, h⟩ := q_bindS h
            have fx24 : q_Fw wlX12_elementStep q S S22 := e23 ▸ q_Fw.sJ (i := 13) (b := 0) (k := 180) (jj := 999) (fx11) rfl rfl (Or.inl rfl)
            obtain ⟨r25, e26, h⟩ := q_bind h
            have fx27 : q_Fw wlX12_elementStep q S r25 := q_Fw.tr (fx24) (((fwX12_next e26).nov (p' := q) rfl).up rfl)
            obtain rfl := Option.some.inj h
            exact fx27
      · rw [if_neg c] at h
        obtain ⟨r53, e54, h⟩ := q_bind h
        have fx55 : q_Fw wlX12_elementStep q S r53 := q_Fw.tr (fx11) ((fwX12_raise hq e54).up rfl)
        obtain rfl := Option.some.inj h
        exact fx55
def wlX12_callStep : List (Nat × Nat × Nat) := [(0, 102, 35), (0, 102, 36), (0, 102, 37), (0, 102, 42), (0, 102, 43), (0, 102, 44), (0, 172, 999), (0, 173, 999), (0, 174, 999), (0, 175, 999), (0, 176, 999), (0, 177, 999), (0, 178, 999), (0, 179, 999)]
theorem fwtX12_callStep_141 {q : Nat} {y4 : Int32} {y5 : Int32} {x : Int32 × QS} {z : (QS) ⊕ (Int32 × QS)} (hq : q_qok q) (h : tX12_callStep_141 q y4 y5 x = some z) : q_Fw wlX12_callStep q ((fun x : Int32 × QS => x.2) x) ((Sum.elim (fun r : QS => r) (fun x : Int32 × QS => x.2)) z) := by
  unfold tX12_callStep_141 at h
  show q_Fw wlX12_callStep q x.2 _
  by_cases c : y4 ≤ x.1
  · rw [if_pos c] at h
    cases h
    exact q_Fw.rf _
  · rw [if_neg c] at h
    obtain ⟨hg1, h⟩ := q_guard h
    obtain ⟨hg2, h⟩ := q_guard h
    obtain ⟨S3, e4, h⟩ := q_bindS h
    have fx5 : q_Fw wlX12_callStep q x.2 S3 := e4 ▸ q_Fw.sJ (i := 6) (b := 0) (k := 172) (jj := 999) (q_Fw.rf x.2) rfl rfl (Or.inl rfl)
    cases h
    exact fx5
theorem fwX12_callStep_141 {S : QS} {q : Nat} {y4 : Int32} {y5 : Int32} {y7 : Int32} {r : QS} (hq : q_qok q) (h : fX12_callStep_141 S q y4 y5 y7 = some r) : q_Fw wlX12_callStep q S ((fun r : QS => r) r) := q_run_fw (fun x : Int32 × QS => x.2) (fun r : QS => r) (fun _ _ hz => fwtX12_callStep_141 hq hz) h
theorem fwX12_callStep_100 {S : QS} {q : Nat} {y3 : Int32} {y4 : Int32} {y5 : Int32} {y6 : Int32} {r : QS} (hq : q_qok q) (h : fX12_callStep_100 S q y3 y4 y5 y6 = some r) : q_Fw wlX12_callStep q S r := by
  unfold fX12_callStep_100 at h
  by_cases c : (S.2.1 102 35) = (64 : Int32)
  · rw [if_pos c] at h
    obtain ⟨r14, e15, h⟩ := q_bind h
    have fx16 : q_Fw wlX12_callStep q S r14 := q_Fw.tr (q_Fw.rf S) (((fwX12_ended e15).nov (p' := q) rfl).up rfl)
    obtain rfl := Option.some.inj h
    exact fx16
  · rw [if_neg c] at h
    obtain ⟨hg6, h⟩ := q_guard h
    obtain ⟨hg7, h⟩ := q_guard h
    obtain ⟨S8, e9, h⟩ := q_bindS h
    have fx10 : q_Fw wlX12_callStep q S S8 := e9 ▸ q_Fw.sI (i := 8) (b := 0) (k := 174) (jj := 999) (q_Fw.rf S) rfl rfl (Or.inl rfl) (Or.inl rfl)
    obtain ⟨r11, e12, h⟩ := q_bind h
    have fx13 : q_Fw wlX12_callStep q S r11 := q_Fw.tr (fx10) ((fwX12_enter hq e12).up rfl)
    exact (fx13).tr (fwX12_callStep_141 hq h)
theorem fwX12_callStep {S : QS} {q : Nat} {x1 : Int32} {x2 : Int32} {x3 : Int32} {r : QS} (hq : q_qok q) (h : fX12_callStep S q x1 x2 x3 = some r) : q_Fw wlX12_callStep q S r := by
  unfold fX12_callStep at h
  obtain ⟨hg17, h⟩ := q_guard h
  obtain ⟨hg18, h⟩ := q_guard h
  by_cases c : x1 = (40 : Int32)
  · rw [if_pos c] at h
    obtain ⟨hg19, h⟩ := q_guard h
    by_cases c : (lg_cmp (S.2.2.1 173 (((((S.2.1 102 35) - (1 : Int32)) * (8 : Int32)) + (S.2.1 174 ((S.2.1 102 35) - (1 : Int32)).toNatClampNeg)) - (S.2.1 (q + 8) x2.toNatClampNeg)).toNatClampNeg) (1099511627776 : Int64)) = 0
    · rw [if_pos c] at h
      obtain ⟨r25, e26, h⟩ := q_bind h
      have fx27 : q_Fw wlX12_callStep q S r25 := q_Fw.tr (q_Fw.rf S) ((fwX12_raise hq e26).up rfl)
      obtain rfl := Option.some.inj h
      exact fx27
    · rw [if_neg c] at h
      obtain ⟨hg20, h⟩ := q_guard h
      obtain ⟨r21, e22, h⟩ := q_bind h
      obtain ⟨hg23, h⟩ := q_guard h
      obtain ⟨hg24, h⟩ := q_guard h
      exact (q_Fw.rf _).tr (fwX12_callStep_100 hq h)
  · rw [if_neg c] at h
    exact (q_Fw.rf _).tr (fwX12_callStep_100 hq h)
