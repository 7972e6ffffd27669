def wlX3_spread : List (Nat × Nat × Nat) := [(0, 81, 4), (0, 82, 999), (0, 83, 999)]
theorem fwtX3_spread_97 {p : Nat} {y1 : Int32} {y2 : Int32} {x : Int32 × QS} {z : (QS) ⊕ (Int32 × QS)} (hp : q_pok p) (h : tX3_spread_97 p y1 y2 x = some z) : q_Fw wlX3_spread p ((fun x : Int32 × QS => x.2) x) ((Sum.elim (fun r : QS => r) (fun x : Int32 × QS => x.2)) z) := by
  unfold tX3_spread_97 at h
  show q_Fw wlX3_spread p x.2 _
  obtain ⟨hg1, h⟩ := q_guard h
  by_cases c : (x.2.2.1 (p + 32) y2.toNatClampNeg) ≤ x.1
  · rw [if_pos c] at h
    cases h
    exact q_Fw.rf _
  · rw [if_neg c] at h
    obtain ⟨r2, e3, h⟩ := q_bind h
    by_cases c : r2 = true
    · rw [if_pos c] at h
      obtain ⟨hg4, h⟩ := q_guard h
      obtain ⟨r5, e6, h⟩ := q_bind h
      have fx7 : q_Fw wlX3_spread p x.2 r5 := q_Fw.tr (q_Fw.rf x.2) ((fwX3_arrive hp e6).up rfl)
      cases h
      exact fx7
    · rw [if_neg c] at h
      cases h
      exact q_Fw.rf _
theorem fwX3_spread_97 {S : QS} {p : Nat} {y1 : Int32} {y2 : Int32} {y5 : Int32} {r : QS} (hp : q_pok p) (h : fX3_spread_97 S p y1 y2 y5 = some r) : q_Fw wlX3_spread p S ((fun r : QS => r) r) := q_run_fw (fun x : Int32 × QS => x.2) (fun r : QS => r) (fun _ _ hz => fwtX3_spread_97 hp hz) h
theorem fwX3_spread {S : QS} {p : Nat} {x1 : Int32} {x2 : Int32} {r : QS} (hp : q_pok p) (h : fX3_spread S p x1 x2 = some r) : q_Fw wlX3_spread p S r := by
  unfold fX3_spread at h
  obtain ⟨r8, e9, h⟩ := q_bind h
  by_cases c : r8 = 0
  · rw [if_pos c] at h
    obtain rfl := Option.some.inj h
    exact q_Fw.rf _
  · rw [if_neg c] at h
    obtain ⟨r10, e11, h⟩ := q_bind h
    obtain ⟨r12, e13, h⟩ := q_bind h
    obtain ⟨hg14, h⟩ := q_guard h
    obtain ⟨r15, e16, h⟩ := q_bind h
    obtain ⟨v20, hv, h⟩ := q_bind h
    have fx21 : q_Fw wlX3_spread p S v20 := by
      replace h := hv
      by_cases c : r15 = true
      · rw [if_pos c] at h
        obtain ⟨r17, e18, h⟩ := q_bind h
        have fx19 : q_Fw wlX3_spread p S r17 := q_Fw.tr (q_Fw.rf S) ((fwX3_arrive hp e18).up rfl)
        obtain rfl := Option.some.inj h
        exact fx19
      · rw [if_neg c] at h
        obtain rfl := Option.some.inj h
        exact q_Fw.rf _
    obtain ⟨hg22, h⟩ := q_guard h
    obtain ⟨r23, e24, h⟩ := q_bind h
    obtain ⟨v29, hv, h⟩ := q_bind h
    have fx30 : q_Fw wlX3_spread p S v29 := by
      replace h := hv
      by_cases c : r23 = true
      · rw [if_pos c] at h
        obtain ⟨hg25, h⟩ := q_guard h
        obtain ⟨r26, e27, h⟩ := q_bind h
        have fx28 : q_Fw wlX3_spread p S r26 := q_Fw.tr (fx21) ((fwX3_arrive hp e27).up rfl)
        obtain rfl := Option.some.inj h
        exact fx28
      · rw [if_neg c] at h
        obtain rfl := Option.some.inj h
        exact fx21
    obtain ⟨hg31, h⟩ := q_guard h
    exact (fx30).tr (fwX3_spread_97 hp h)
def wlX3_firstFault : List (Nat × Nat × Nat) := [(0, 81, 4), (0, 82, 999), (0, 83, 999), (1, 17, 999)]
theorem fwtX3_firstFault_107 {p : Nat} {y3 : Int32} {x : Int32 × QS} {z : (Int32 × QS) ⊕ (Int32 × QS)} (hp : q_pok p) (h : tX3_firstFault_107 p y3 x = some z) : q_Fw wlX3_firstFault p ((fun x : Int32 × QS => x.2) x) ((Sum.elim (fun r : Int32 × QS => r.2) (fun x : Int32 × QS => x.2)) z) := by
  unfold tX3_firstFault_107 at h
  show q_Fw wlX3_firstFault p x.2 _
  by_cases c : y3 ≤ x.1
  · rw [if_pos c] at h
    cases h
    exact q_Fw.rf _
  · rw [if_neg c] at h
    obtain ⟨hg1, h⟩ := q_guard h
    obtain ⟨r2, e3, h⟩ := q_bind h
    by_cases c : (x.2.2.1 82 x.1.toNatClampNeg) = r2
    · rw [if_pos c] at h
      obtain ⟨r4, e5, h⟩ := q_bind h
      by_cases c : r4 ≤ (1 : Int32)
      · rw [if_pos c] at h
        by_cases c : (x.2.2.1 82 x.1.toNatClampNeg) = 0
        · rw [if_pos c] at h
          obtain ⟨hg12, h⟩ := q_guard h
          obtain ⟨S13, e14, h⟩ := q_bindS h
          have fx15 : q_Fw wlX3_firstFault p x.2 S13 := e14 ▸ q_Fw.sI (i := 3) (b := 1) (k := 17) (jj := 999) (q_Fw.rf x.2) rfl rfl (Or.inl rfl) (Or.inl (q_nBp (k := 17) hp (by decide)))
          cases h
          exact fx15
        · rw [if_neg c] at h
          obtain ⟨r6, e7, h⟩ := q_bind h
          obtain ⟨hg8, h⟩ := q_guard h
          obtain ⟨S9, e10, h⟩ := q_bindS h
          have fx11 : q_Fw wlX3_firstFault p x.2 S9 := e10 ▸ q_Fw.sI (i := 3) (b := 1) (k := 17) (jj := 999) (q_Fw.rf x.2) rfl rfl (Or.inl rfl) (Or.inl (q_nBp (k := 17) hp (by decide)))
          cases h
          exact fx11
      · rw [if_neg c] at h
        cases h
        exact q_Fw.rf _
    · rw [if_neg c] at h
      cases h
      exact q_Fw.rf _
theorem fwX3_firstFault_107 {S : QS} {p : Nat} {y3 : Int32} {y4 : Int32} {r : Int32 × QS} (hp : q_pok p) (h : fX3_firstFault_107 S p y3 y4 = some r) : q_Fw wlX3_firstFault p S ((fun r : Int32 × QS => r.2) r) := q_run_fw (fun x : Int32 × QS => x.2) (fun r : Int32 × QS => r.2) (fun _ _ hz => fwtX3_firstFault_107 hp hz) h
theorem fwtX3_firstFault_61 {p : Nat} {y1 : Int32} {y2 : Int32} {y3 : Int32} {x : Int32 × Int32 × QS} {z : ((Int32 × QS) ⊕ (Int32 × QS)) ⊕ (Int32 × Int32 × QS)} (hp : q_pok p) (h : tX3_firstFault_61 p y1 y2 y3 x = some z) : q_Fw wlX3_firstFault p ((fun x : Int32 × Int32 × QS => x.2.2) x) ((Sum.elim (Sum.elim (fun r : Int32 × QS => r.2) (fun x : Int32 × QS => x.2)) (fun x : Int32 × Int32 × QS => x.2.2)) z) := by
  unfold tX3_firstFault_61 at h
  show q_Fw wlX3_firstFault p x.2.2 _
  by_cases c : y3 ≤ x.2.1
  · rw [if_pos c] at h
    cases h
    exact q_Fw.rf _
  · rw [if_neg c] at h
    obtain ⟨hg16, h⟩ := q_guard h
    by_cases c : (x.2.2.2.1 83 x.2.1.toNatClampNeg) = 0
    · rw [if_pos c] at h
      cases h
      exact q_Fw.rf _
    · rw [if_neg c] at h
      obtain ⟨hg17, h⟩ := q_guard h
      obtain ⟨S18, e19, h⟩ := q_bindS h
      have fx20 : q_Fw wlX3_firstFault p x.2.2 S18 := e19 ▸ q_Fw.sI (i := 2) (b := 0) (k := 83) (jj := 999) (q_Fw.rf x.2.2) rfl rfl (Or.inl rfl) (Or.inl rfl)
      obtain ⟨r21, e22, h⟩ := q_bind h
      have fx23 : q_Fw wlX3_firstFault p x.2.2 r21 := q_Fw.tr (fx20) ((fwX3_spread hp e22).up rfl)
      cases h
      exact fx23
theorem fwuX3_firstFault_61 {S : QS} {p : Nat} {y1 : Int32} {y2 : Int32} {y3 : Int32} {y4 : Int32} {y5 : Int32} {r : (Int32 × QS) ⊕ (Int32 × QS)} (hp : q_pok p) (h : uX3_firstFault_61 S p y1 y2 y3 y4 y5 = some r) : q_Fw wlX3_firstFault p S ((Sum.elim (fun r : Int32 × QS => r.2) (fun x : Int32 × QS => x.2)) r) := q_run_fw (fun x : Int32 × Int32 × QS => x.2.2) (Sum.elim (fun r : Int32 × QS => r.2) (fun x : Int32 × QS => x.2)) (fun _ _ hz => fwtX3_firstFault_61 hp hz) h
theorem fwtX3_firstFault_39 {p : Nat} {y1 : Int32} {y2 : Int32} {y3 : Int32} {x : Int32 × QS} {z : (Int32 × QS) ⊕ (Int32 × QS)} (hp : q_pok p) (h : tX3_firstFault_39 p y1 y2 y3 x = some z) : q_Fw wlX3_firstFault p ((fun x : Int32 × QS => x.2) x) ((Sum.elim (fun r : Int32 × QS => r.2) (fun x : Int32 × QS => x.2)) z) := by
  unfold tX3_firstFault_39 at h
  show q_Fw wlX3_firstFault p x.2 _
  by_cases c : (1000000 : Int32) ≤ x.1
  · rw [if_pos c] at h
    obtain ⟨r24, e25, h⟩ := q_bind h
    cases h
    exact (q_Fw.rf _).tr (fwX3_firstFault_107 hp e25)
  · rw [if_neg c] at h
    by_cases c : (x.2.2.1 81 4) = 0
    · rw [if_pos c] at h
      obtain ⟨r26, e27, h⟩ := q_bind h
      cases h
      exact (q_Fw.rf _).tr (fwX3_firstFault_107 hp e27)
    · rw [if_neg c] at h
      obtain ⟨S28, e29, h⟩ := q_bindS h
      have fx30 : q_Fw wlX3_firstFault p x.2 S28 := e29 ▸ q_Fw.sI (i := 0) (b := 0) (k := 81) (jj := 4) (q_Fw.rf x.2) rfl rfl (Or.inr rfl) (Or.inl rfl)
      exact (fx30).tr (fwuX3_firstFault_61 hp h)
theorem fwX3_firstFault_39 {S : QS} {p : Nat} {y1 : Int32} {y2 : Int32} {y3 : Int32} {y4 : Int32} {r : Int32 × QS} (hp : q_pok p) (h : fX3_firstFault_39 S p y1 y2 y3 y4 = some r) : q_Fw wlX3_firstFault p S ((fun r : Int32 × QS => r.2) r) := q_run_fw (fun x : Int32 × QS => x.2) (fun r : Int32 × QS => r.2) (fun _ _ hz => fwtX3_firstFault_39 hp hz) h
theorem fwX3_firstFault {S : QS} {p : Nat} {x1 : Int32} {r : Int32 × QS} (hp : q_pok p) (h : fX3_firstFault S p x1 = some r) : q_Fw wlX3_firstFault p S r.2 := by
  unfold fX3_firstFault at h
  obtain ⟨hg31, h⟩ := q_guard h
  obtain ⟨hg32, h⟩ := q_guard h
  obtain ⟨r33, e34, h⟩ := q_bind h
  have fx35 : q_Fw wlX3_firstFault p S r33 := q_Fw.tr (q_Fw.rf S) (q_Fw.arr (i := 1) (b := 0) (k := 82) (fwJ7_fill_fda19 rfl e34) rfl rfl)
  obtain ⟨r36, e37, h⟩ := q_bind h
  have fx38 : q_Fw wlX3_firstFault p S r36 := q_Fw.tr (fx35) ((fwX3_arrive hp e37).up rfl)
  exact (fx38).tr (fwX3_firstFault_39 hp h)
def wlX9_arrive : List (Nat × Nat × Nat) := [(0, 84, 6), (0, 85, 999), (0, 86, 999), (0, 87, 999)]
theorem fwtX9_arrive_67 {p : Nat} {y1 : Int32} {y2 : Int32} {y3 : Int32} {x : Int32 × Int32 × QS} {z : (QS) ⊕ (Int32 × Int32 × QS)} (hp : q_pok p) (h : tX9_arrive_67 p y1 y2 y3 x = some z) : q_Fw wlX9_arrive p ((fun x : Int32 × Int32 × QS => x.2.2) x) ((Sum.elim (fun r : QS => r) (fun x : Int32 × Int32 × QS => x.2.2)) z) := by
  unfold tX9_arrive_67 at h
  show q_Fw wlX9_arrive p x.2.2 _
  by_cases c : y3 ≤ x.2.1
  · rw [if_pos c] at h
    by_cases c : x.1 = 0
    · rw [if_pos c] at h
      cases h
      exact q_Fw.rf _
    · rw [if_neg c] at h
      obtain ⟨hg1, h⟩ := q_guard h
      obtain ⟨S2, e3, h⟩ := q_bindS h
      have fx4 : q_Fw wlX9_arrive p x.2.2 S2 := e3 ▸ q_Fw.sI (i := 3) (b := 0) (k := 87) (jj := 999) (q_Fw.rf x.2.2) rfl rfl (Or.inl rfl) (Or.inl rfl)
      obtain ⟨S5, e6, h⟩ := q_bindS h
      have fx7 : q_Fw wlX9_arrive p x.2.2 S5 := e6 ▸ q_Fw.sI (i := 0) (b := 0) (k := 84) (jj := 6) (fx4) rfl rfl (Or.inr rfl) (Or.inl rfl)
      cases h
      exact fx7
  · rw [if_neg c] at h
    obtain ⟨hg8, h⟩ := q_guard h
    obtain ⟨hg9, h⟩ := q_guard h
    obtain ⟨r10, e11, h⟩ := q_bind h
    obtain ⟨hg12, h⟩ := q_guard h
    obtain ⟨v13, hv, h⟩ := q_bind h
    obtain ⟨hg14, h⟩ := q_guard h
    obtain ⟨S15, e16, h⟩ := q_bindS h
    have fx17 : q_Fw wlX9_arrive p x.2.2 S15 := e16 ▸ q_Fw.sI (i := 1) (b := 0) (k := 85) (jj := 999) (q_Fw.rf x.2.2) rfl rfl (Or.inl rfl) (Or.inr (q_narB _))
    cases h
    exact fx17
theorem fwX9_arrive_67 {S : QS} {p : Nat} {y1 : Int32} {y2 : Int32} {y3 : Int32} {y4 : Int32} {y5 : Int32} {r : QS} (hp : q_pok p) (h : fX9_arrive_67 S p y1 y2 y3 y4 y5 = some r) : q_Fw wlX9_arrive p S ((fun r : QS => r) r) := q_run_fw (fun x : Int32 × Int32 × QS => x.2.2) (fun r : QS => r) (fun _ _ hz => fwtX9_arrive_67 hp hz) h
theorem fwX9_arrive {S : QS} {p : Nat} {x1 : Int32} {r : QS} (hp : q_pok p) (h : fX9_arrive S p x1 = some r) : q_Fw wlX9_arrive p S r := by
  unfold fX9_arrive at h
  obtain ⟨hg18, h⟩ := q_guard h
  obtain ⟨hg19, h⟩ := q_guard h
  obtain ⟨v20, hv, h⟩ := q_bind h
  obtain ⟨hg21, h⟩ := q_guard h
  by_cases c : (S.2.1 86 x1.toNatClampNeg) = 0
  · rw [if_pos c] at h
    obtain ⟨hg22, h⟩ := q_guard h
    obtain ⟨S23, e24, h⟩ := q_bindS h
    have fx25 : q_Fw wlX9_arrive p S S23 := e24 ▸ q_Fw.cp (i := 1) (b := 0) (k := 85) (q_Fw.rf S) rfl rfl (Or.inr rfl)
    obtain ⟨hg26, h⟩ := q_guard h
    obtain ⟨S27, e28, h⟩ := q_bindS h
    have fx29 : q_Fw wlX9_arrive p S S27 := e28 ▸ q_Fw.sI (i := 2) (b := 0) (k := 86) (jj := 999) (fx25) rfl rfl (Or.inl rfl) (Or.inl rfl)
    exact (fx29).tr (fwX9_arrive_67 hp h)
  · rw [if_neg c] at h
    exact (q_Fw.rf _).tr (fwX9_arrive_67 hp h)
def wlX9_enter : List (Nat × Nat × Nat) := [(0, 84, 6), (0, 85, 999), (0, 86, 999), (0, 87, 999), (0, 88, 999)]
theorem fwtX9_enter_2 {p : Nat} {y1 : Int32} {x : Int32 × QS} {z : (QS) ⊕ (Int32 × QS)} (hp : q_pok p) (h : tX9_enter_2 p y1 x = some z) : q_Fw wlX9_enter p ((fun x : Int32 × QS => x.2) x) ((Sum.elim (fun r : QS => r) (fun x : Int32 × QS => x.2)) z) := by
  unfold tX9_enter_2 at h
  show q_Fw wlX9_enter p x.2 _
  by_cases c : (12 : Int32) ≤ x.1
  · rw [if_pos c] at h
    obtain ⟨hg1, h⟩ := q_guard h
    obtain ⟨r2, e3, h⟩ := q_bind h
    have fx4 : q_Fw wlX9_enter p x.2 r2 := q_Fw.tr (q_Fw.rf x.2) ((fwX9_arrive hp e3).up rfl)
    cases h
    exact fx4
  · rw [if_neg c] at h
    obtain ⟨hg5, h⟩ := q_guard h
    obtain ⟨v7, hv, h⟩ := q_bind h
    obtain ⟨hg8, h⟩ := q_guard h
    obtain ⟨S9, e10, h⟩ := q_bindS h
    have fx11 : q_Fw wlX9_enter p x.2 S9 := e10 ▸ q_Fw.sI (i := 4) (b := 0) (k := 88) (jj := 999) (q_Fw.rf x.2) rfl rfl (Or.inl rfl) (Or.inr (q_narB _))
    cases h
    exact fx11
theorem fwX9_enter_2 {S : QS} {p : Nat} {y1 : Int32} {y2 : Int32} {r : QS} (hp : q_pok p) (h : fX9_enter_2 S p y1 y2 = some r) : q_Fw wlX9_enter p S ((fun r : QS => r) r) := q_run_fw (fun x : Int32 × QS => x.2) (fun r : QS => r) (fun _ _ hz => fwtX9_enter_2 hp hz) h
theorem fwX9_enter {S : QS} {p : Nat} {x1 : Int32} {r : QS} (hp : q_pok p) (h : fX9_enter S p x1 = some r) : q_Fw wlX9_enter p S r := by
  unfold fX9_enter at h
  exact (q_Fw.rf _).tr (fwX9_enter_2 hp h)
def wlX9_swap : List (Nat × Nat × Nat) := [(0, 88, 999)]
theorem fwX9_swap {S : QS}  {x1 : Int32} {x2 : Int32} {r : QS} (h : fX9_swap S x1 x2 = some r) : q_Fw wlX9_swap 0 S r := by
  unfold fX9_swap at h
  obtain ⟨hg1, h⟩ := q_guard h
  obtain ⟨hg2, h⟩ := q_guard h
  obtain ⟨hg3, h⟩ := q_guard h
  obtain ⟨S4, e5, h⟩ := q_bindS h
  have fx6 : q_Fw wlX9_swap 0 S S4 := e5 ▸ q_Fw.sI (i := 0) (b := 0) (k := 88) (jj := 999) (q_Fw.rf S) rfl rfl (Or.inl rfl) (Or.inr (q_narB _))
  obtain ⟨hg7, h⟩ := q_guard h
  obtain ⟨S8, e9, h⟩ := q_bindS h
  have fx10 : q_Fw wlX9_swap 0 S S8 := e9 ▸ q_Fw.sI (i := 0) (b := 0) (k := 88) (jj := 999) (fx6) rfl rfl (Or.inl rfl) (Or.inr (q_narB _))
  obtain rfl := Option.some.inj h
  exact fx10
def wlX9_perform : List (Nat × Nat × Nat) := [(0, 88, 999)]
theorem fwX9_perform {S : QS} {p : Nat} {x1 : Int32} {r : Bool × QS} (hp : q_pok p) (h : fX9_perform S p x1 = some r) : q_Fw wlX9_perform p S r.2 := by
  unfold fX9_perform at h
  obtain ⟨hg1, h⟩ := q_guard h
  obtain ⟨hg2, h⟩ := q_guard h
  obtain ⟨r3, e4, h⟩ := q_bind h
  obtain ⟨hg5, h⟩ := q_guard h
  by_cases c6 : (S.2.1 (p + 11) x1.toNatClampNeg) = (2 : Int32)
  · rw [if_pos c6] at h
    obtain ⟨hg7, h⟩ := q_guard h
    obtain ⟨hg8, h⟩ := q_guard h
    obtain ⟨S9, e10, h⟩ := q_bindS h
    have fx11 : q_Fw wlX9_perform p S S9 := e10 ▸ q_Fw.sI (i := 0) (b := 0) (k := 88) (jj := 999) (q_Fw.rf S) rfl rfl (Or.inl rfl) (Or.inr (q_narB _))
    obtain rfl := Option.some.inj h
    exact fx11
  rw [if_neg c6] at h
  by_cases c12 : (S.2.1 (p + 11) x1.toNatClampNeg) = (3 : Int32)
  · rw [if_pos c12] at h
    obtain ⟨hg13, h⟩ := q_guard h
    obtain ⟨hg14, h⟩ := q_guard h
    obtain ⟨S15, e16, h⟩ := q_bindS h
    have fx17 : q_Fw wlX9_perform p S S15 := e16 ▸ q_Fw.sI (i := 0) (b := 0) (k := 88) (jj := 999) (q_Fw.rf S) rfl rfl (Or.inl rfl) (Or.inr (q_narB _))
    obtain rfl := Option.some.inj h
    exact fx17
  rw [if_neg c12] at h
  by_cases c18 : (S.2.1 (p + 11) x1.toNatClampNeg) = (5 : Int32)
  · rw [if_pos c18] at h
    obtain ⟨hg19, h⟩ := q_guard h
    obtain ⟨hg20, h⟩ := q_guard h
    obtain ⟨S21, e22, h⟩ := q_bindS h
    have fx23 : q_Fw wlX9_perform p S S21 := e22 ▸ q_Fw.sI (i := 0) (b := 0) (k := 88) (jj := 999) (q_Fw.rf S) rfl rfl (Or.inl rfl) (Or.inr (q_narB _))
    obtain rfl := Option.some.inj h
    exact fx23
  rw [if_neg c18] at h
  by_cases c24 : (S.2.1 (p + 11) x1.toNatClampNeg) = (7 : Int32)
  · rw [if_pos c24] at h
    obtain ⟨r25, e26, h⟩ := q_bind h
    have fx27 : q_Fw wlX9_perform p S r25 := q_Fw.tr (q_Fw.rf S) (((fwX9_swap e26).nov (p' := p) rfl).up rfl)
    obtain rfl := Option.some.inj h
    exact fx27
  rw [if_neg c24] at h
  by_cases c28 : (S.2.1 (p + 11) x1.toNatClampNeg) = (33 : Int32)
  · rw [if_pos c28] at h
    obtain ⟨hg29, h⟩ := q_guard h
    obtain ⟨r30, e31, h⟩ := q_bind h
    obtain ⟨hg32, h⟩ := q_guard h
    obtain ⟨S33, e34, h⟩ := q_bindS h
    have fx35 : q_Fw wlX9_perform p S S33 := e34 ▸ q_Fw.sI (i := 0) (b := 0) (k := 88) (jj := 999) (q_Fw.rf S) rfl rfl (Or.inl rfl) (Or.inr (q_narB _))
    obtain ⟨hg36, h⟩ := q_guard h
    by_cases c : (S33.2.1 88 (((12 : Int32) + (S.2.1 (p + 17) x1.toNatClampNeg)) - r3).toNatClampNeg) = (68 : Int32)
    · rw [if_pos c] at h
      obtain rfl := Option.some.inj h
      exact fx35
    · rw [if_neg c] at h
      obtain rfl := Option.some.inj h
      exact fx35
  rw [if_neg c28] at h
  obtain ⟨r37, e38, h⟩ := q_bind h
  by_cases c : r37 = (1 : Int32)
  · rw [if_pos c] at h
    obtain ⟨r39, e40, h⟩ := q_bind h
    obtain ⟨hg41, h⟩ := q_guard h
    obtain ⟨S42, e43, h⟩ := q_bindS h
    have fx44 : q_Fw wlX9_perform p S S42 := e43 ▸ q_Fw.sI (i := 0) (b := 0) (k := 88) (jj := 999) (q_Fw.rf S) rfl rfl (Or.inl rfl) (Or.inr (q_narB _))
    obtain rfl := Option.some.inj h
    exact fx44
  · rw [if_neg c] at h
    obtain rfl := Option.some.inj h
    exact q_Fw.rf _
def wlX9_spread : List (Nat × Nat × Nat) := [(0, 84, 6), (0, 85, 999), (0, 86, 999), (0, 87, 999), (0, 88, 999)]
theorem fwtX9_spread_86 {p : Nat} {y1 : Int32} {y2 : Int32} {x : Int32 × QS} {z : (QS) ⊕ (Int32 × QS)} (hp : q_pok p) (h : tX9_spread_86 p y1 y2 x = some z) : q_Fw wlX9_spread p ((fun x : Int32 × QS => x.2) x) ((Sum.elim (fun r : QS => r) (fun x : Int32 × QS => x.2)) z) := by
  unfold tX9_spread_86 at h
  show q_Fw wlX9_spread p x.2 _
  obtain ⟨hg1, h⟩ := q_guard h
  by_cases c : (x.2.2.1 (p + 32) y2.toNatClampNeg) ≤ x.1
  · rw [if_pos c] at h
    cases h
    exact q_Fw.rf _
  · rw [if_neg c] at h
    obtain ⟨r2, e3, h⟩ := q_bind h
    by_cases c : r2 = true
    · rw [if_pos c] at h
      obtain ⟨hg4, h⟩ := q_guard h
      obtain ⟨S5, e6, h⟩ := q_bindS h
      have fx7 : q_Fw wlX9_spread p x.2 S5 := e6 ▸ q_Fw.cp (i := 4) (b := 0) (k := 88) (q_Fw.rf x.2) rfl rfl (Or.inr rfl)
      obtain ⟨hg8, h⟩ := q_guard h
      obtain ⟨hg9, h⟩ := q_guard h
      obtain ⟨S10, e11, h⟩ := q_bindS h
      have fx12 : q_Fw wlX9_spread p x.2 S10 := e11 ▸ q_Fw.sI (i := 4) (b := 0) (k := 88) (jj := 999) (fx7) rfl rfl (Or.inl rfl) (Or.inr (q_narB _))
      obtain ⟨hg13, h⟩ := q_guard h
      obtain ⟨r14, e15, h⟩ := q_bind h
      have fx16 : q_Fw wlX9_spread p x.2 r14 := q_Fw.tr (fx12) ((fwX9_arrive hp e15).up rfl)
      cases h
      exact fx16
    · rw [if_neg c] at h
      cases h
      exact q_Fw.rf _
theorem fwX9_spread_86 {S : QS} {p : Nat} {y1 : Int32} {y2 : Int32} {y3 : Int32} {r : QS} (hp : q_pok p) (h : fX9_spread_86 S p y1 y2 y3 = some r) : q_Fw wlX9_spread p S ((fun r : QS => r) r) := q_run_fw (fun x : Int32 × QS => x.2) (fun r : QS => r) (fun _ _ hz => fwtX9_spread_86 hp hz) h
theorem fwX9_spread {S : QS} {p : Nat} {x1 : Int32} {x2 : Int32} {r : QS} (hp : q_pok p) (h : fX9_spread S p x1 x2 = some r) : q_Fw wlX9_spread p S r := by
  unfold fX9_spread at h
  obtain ⟨hg17, h⟩ := q_guard h
  obtain ⟨S18, e19, h⟩ := q_bindS h
  have fx20 : q_Fw wlX9_spread p S S18 := e19 ▸ q_Fw.cp (i := 4) (b := 0) (k := 88) (q_Fw.rf S) rfl rfl (Or.inr rfl)
  obtain ⟨r21, e22, h⟩ := q_bind h
  have fx23 : q_Fw wlX9_spread p S r21.2 := q_Fw.tr (fx20) ((fwX9_perform hp e22).up rfl)
  obtain ⟨v39, hv, h⟩ := q_bind h
  have fx40 : q_Fw wlX9_spread p S v39 := by
    replace h := hv
    by_cases c : r21.1 = true
    · rw [if_pos c] at h
      obtain ⟨hg24, h⟩ := q_guard h
      obtain ⟨r25, e26, h⟩ := q_bind h
      obtain ⟨v30, hv, h⟩ := q_bind h
      have fx31 : q_Fw wlX9_spread p S v30 := by
        replace h := hv
        by_cases c : r25 = true
        · rw [if_pos c] at h
          obtain ⟨r27, e28, h⟩ := q_bind h
          have fx29 : q_Fw wlX9_spread p S r27 := q_Fw.tr (fx23) ((fwX9_arrive hp e28).up rfl)
          obtain rfl := Option.some.inj h
          exact fx29
        · rw [if_neg c] at h
          obtain rfl := Option.some.inj h
          exact fx23
      obtain ⟨hg32, h⟩ := q_guard h
      obtain ⟨r33, e34, h⟩ := q_bind h
      by_cases c : r33 = true
      · rw [if_pos c] at h
        obtain ⟨hg35, h⟩ := q_guard h
        obtain ⟨r36, e37, h⟩ := q_bind h
        have fx38 : q_Fw wlX9_spread p S r36 := q_Fw.tr (fx31) ((fwX9_arrive hp e37).up rfl)
        obtain rfl := Option.some.inj h
        exact fx38
      · rw [if_neg c] at h
        obtain rfl := Option.some.inj h
        exact fx31
    · rw [if_neg c] at h
      obtain rfl := Option.some.inj h
      exact fx23
  obtain ⟨hg41, h⟩ := q_guard h
  exact (fx40).tr (fwX9_spread_86 hp h)
def wlX9_firstFault : List (Nat × Nat × Nat) := [(0, 84, 6), (0, 85, 999), (0, 86, 999), (0, 87, 999), (0, 88, 999)]
theorem fwtX9_firstFault_119 {p : Nat} {y3 : Int32} {x : Int32 × QS} {z : (Int32 × QS) ⊕ (Int32 × QS)} (hp : q_pok p) (h : tX9_firstFault_119 p y3 x = some z) : q_Fw wlX9_firstFault p ((fun x : Int32 × QS => x.2) x) ((Sum.elim (fun r : Int32 × QS => r.2) (fun x : Int32 × QS => x.2)) z) := by
  unfold tX9_firstFault_119 at h
  show q_Fw wlX9_firstFault p x.2 _
  by_cases c : y3 ≤ x.1
  · rw [if_pos c] at h
    cases h
    exact q_Fw.rf _
  · rw [if_neg c] at h
    obtain ⟨hg1, h⟩ := q_guard h
    by_cases c : (x.2.2.1 86 x.1.toNatClampNeg) = 0
    · rw [if_pos c] at h
      cases h
      exact q_Fw.rf _
    · rw [if_neg c] at h
      obtain ⟨r2, e3, h⟩ := q_bind h
      by_cases c : r2 = true
      · rw [if_pos c] at h
        cases h
        exact q_Fw.rf _
      · rw [if_neg c] at h
        cases h
        exact q_Fw.rf _
theorem fwX9_firstFault_119 {S : QS} {p : Nat} {y3 : Int32} {y4 : Int32} {r : Int32 × QS} (hp : q_pok p) (h : fX9_firstFault_119 S p y3 y4 = some r) : q_Fw wlX9_firstFault p S ((fun r : Int32 × QS => r.2) r) := q_run_fw (fun x : Int32 × QS => x.2) (fun r : Int32 × QS => r.2) (fun _ _ hz => fwtX9_firstFault_119 hp hz) h
theorem fwtX9_firstFault_73 {p : Nat} {y1 : Int32} {y2 : Int32} {y3 : Int32} {x : Int32 × Int32 × QS} {z : ((Int32 × QS) ⊕ (Int32 × QS)) ⊕ (Int32 × Int32 × QS)} (hp : q_pok p) (h : tX9_firstFault_73 p y1 y2 y3 x = some z) : q_Fw wlX9_firstFault p ((fun x : Int32 × Int32 × QS => x.2.2) x) ((Sum.elim (Sum.elim (fun r : Int32 × QS => r.2) (fun x : Int32 × QS => x.2)) (fun x : Int32 × Int32 × QS => x.2.2)) z) := by
  unfold tX9_firstFault_73 at h
  show q_Fw wlX9_firstFault p x.2.2 _
  by_cases c : y3 ≤ x.2.1
  · rw [if_pos c] at h
    cases h
    exact q_Fw.rf _
  · rw [if_neg c] at h
    obtain ⟨hg4, h⟩ := q_guard h
    by_cases c : (x.2.2.2.1 87 x.2.1.toNatClampNeg) = 0
    · rw [if_pos c] at h
      cases h
      exact q_Fw.rf _
    · rw [if_neg c] at h
      obtain ⟨hg5, h⟩ := q_guard h
      obtain ⟨S6, e7, h⟩ := q_bindS h
      have fx8 : q_Fw wlX9_firstFault p x.2.2 S6 := e7 ▸ q_Fw.sI (i := 3) (b := 0) (k := 87) (jj := 999) (q_Fw.rf x.2.2) rfl rfl (Or.inl rfl) (Or.inl rfl)
      obtain ⟨r9, e10, h⟩ := q_bind h
      have fx11 : q_Fw wlX9_firstFault p x.2.2 r9 := q_Fw.tr (fx8) ((fwX9_spread hp e10).up rfl)
      cases h
      exact fx11
theorem fwuX9_firstFault_73 {S : QS} {p : Nat} {y1 : Int32} {y2 : Int32} {y3 : Int32} {y4 : Int32} {y5 : Int32} {r : (Int32 × QS) ⊕ (Int32 × QS)} (hp : q_pok p) (h : uX9_firstFault_73 S p y1 y2 y3 y4 y5 = some r) : q_Fw wlX9_firstFault p S ((Sum.elim (fun r : Int32 × QS => r.2) (fun x : Int32 × QS => x.2)) r) := q_run_fw (fun x : Int32 × Int32 × QS => x.2.2) (Sum.elim (fun r : Int32 × QS => r.2) (fun x : Int32 × QS => x.2)) (fun _ _ hz => fwtX9_firstFault_73 hp hz) h
theorem fwtX9_firstFault_51 {p : Nat} {y1 : Int32} {y2 : Int32} {y3 : Int32} {x : Int32 × QS} {z : (Int32 × QS) ⊕ (Int32 × QS)} (hp : q_pok p) (h : tX9_firstFault_51 p y1 y2 y3 x = some z) : q_Fw wlX9_firstFault p ((fun x : Int32 × QS => x.2) x) ((Sum.elim (fun r : Int32 × QS => r.2) (fun x : Int32 × QS => x.2)) z) := by
  unfold tX9_firstFault_51 at h
  show q_Fw wlX9_firstFault p x.2 _
  by_cases c : (1000000 : Int32) ≤ x.1
  · rw [if_pos c] at h
    obtain ⟨r12, e13, h⟩ := q_bind h
    cases h
    exact (q_Fw.rf _).tr (fwX9_firstFault_119 hp e13)
  · rw [if_neg c] at h
    by_cases c : (x.2.2.1 84 6) = 0
    · rw [if_pos c] at h
      obtain ⟨r14, e15, h⟩ := q_bind h
      cases h
      exact (q_Fw.rf _).tr (fwX9_firstFault_119 hp e15)
    · rw [if_neg c] at h
      obtain ⟨S16, e17, h⟩ := q_bindS h
      have fx18 : q_Fw wlX9_firstFault p x.2 S16 := e17 ▸ q_Fw.sI (i := 0) (b := 0) (k := 84) (jj := 6) (q_Fw.rf x.2) rfl rfl (Or.inr rfl) (Or.inl rfl)
      exact (fx18).tr (fwuX9_firstFault_73 hp h)
theorem fwX9_firstFault_51 {S : QS} {p : Nat} {y1 : Int32} {y2 : Int32} {y3 : Int32} {y4 : Int32} {r : Int32 × QS} (hp : q_pok p) (h : fX9_firstFault_51 S p y1 y2 y3 y4 = some r) : q_Fw wlX9_firstFault p S ((fun r : Int32 × QS => r.2) r) := q_run_fw (fun x : Int32 × QS => x.2) (fun r : Int32 × QS => r.2) (fun _ _ hz => fwtX9_firstFault_51 hp hz) h
theorem fwtX9_firstFault_23 {p : Nat} {y1 : Int32} {y2 : Int32} {y3 : Int32} {x : Int32 × QS} {z : (Int32 × QS) ⊕ (Int32 × QS)} (hp : q_pok p) (h : tX9_firstFault_23 p y1 y2 y3 x = some z) : q_Fw wlX9_firstFault p ((fun x : Int32 × QS => x.2) x) ((Sum.elim (fun r : Int32 × QS => r.2) (fun x : Int32 × QS => x.2)) z) := by
  unfold tX9_firstFault_23 at h
  show q_Fw wlX9_firstFault p x.2 _
  by_cases c : y3 ≤ x.1
  · rw [if_pos c] at h
    obtain ⟨r19, e20, h⟩ := q_bind h
    have fx21 : q_Fw wlX9_firstFault p x.2 r19 := q_Fw.tr (q_Fw.rf x.2) ((fwX9_enter hp e20).up rfl)
    obtain ⟨r22, e23, h⟩ := q_bind h
    cases h
    exact (fx21).tr (fwX9_firstFault_51 hp e23)
  · rw [if_neg c] at h
    obtain ⟨hg24, h⟩ := q_guard h
    obtain ⟨S25, e26, h⟩ := q_bindS h
    have fx27 : q_Fw wlX9_firstFault p x.2 S25 := e26 ▸ q_Fw.sI (i := 2) (b := 0) (k := 86) (jj := 999) (q_Fw.rf x.2) rfl rfl (Or.inl rfl) (Or.inl rfl)
    cases h
    exact fx27
theorem fwX9_firstFault_23 {S : QS} {p : Nat} {y1 : Int32} {y2 : Int32} {y3 : Int32} {y4 : Int32} {r : Int32 × QS} (hp : q_pok p) (h : fX9_firstFault_23 S p y1 y2 y3 y4 = some r) : q_Fw wlX9_firstFault p S ((fun r : Int32 × QS => r.2) r) := q_run_fw (fun x : Int32 × QS => x.2) (fun r : Int32 × QS => r.2) (fun _ _ hz => fwtX9_firstFault_23 hp hz) h
theorem fwX9_firstFault {S : QS} {p : Nat} {x1 : Int32} {r : Int32 × QS} (hp : q_pok p) (h : fX9_firstFault S p x1 = some r) : q_Fw wlX9_firstFault p S r.2 := by
  unfold fX9_firstFault at h
  obtain ⟨hg28, h⟩ := q_guard h
  obtain ⟨hg29, h⟩ := q_guard h
  exact (q_Fw.rf _).tr (fwX9_firstFault_23 hp h)
def wlX6_addInput : List (Nat × Nat × Nat) := [(0, 89, 11), (0, 100, 999)]
theorem fwX6_addInput {S : QS}  {x1 : Int32} {r : Bool × QS} (h : fX6_addInput S x1 = some r) : q_Fw wlX6_addInput 0 S r.2 := by
  unfold fX6_addInput at h
  by_cases c : (S.2.1 89 11) = (256 : Int32)
  · rw [if_pos c] at h
    obtain rfl := Option.some.inj h
    exact q_Fw.rf _
  · rw [if_neg c] at h
    obtain ⟨hg1, h⟩ := q_guard h
    obtain ⟨S2, e3, h⟩ := q_bindS h
    have fx4 : q_Fw wlX6_addInput 0 S S2 := e3 ▸ q_Fw.sI (i := 1) (b := 0) (k := 100) (jj := 999) (q_Fw.rf S) rfl rfl (Or.inl rfl) (Or.inl rfl)
    obtain ⟨S5, e6, h⟩ := q_bindS h
    have fx7 : q_Fw wlX6_addInput 0 S S5 := e6 ▸ q_Fw.sI (i := 0) (b := 0) (k := 89) (jj := 11) (fx4) rfl rfl (Or.inr rfl) (Or.inl rfl)
    obtain rfl := Option.some.inj h
    exact fx7
def wlX6_push : List (Nat × Nat × Nat) := [(0, 96, 999), (0, 97, 999), (0, 99, 999)]
theorem fwX6_push {S : QS}  {x1 : Int32} {x2 : Int32} {r : QS} (h : fX6_push S x1 x2 = some r) : q_Fw wlX6_push 0 S r := by
  unfold fX6_push at h
  obtain ⟨hg1, h⟩ := q_guard h
  by_cases c : (8 : Int32) ≤ (S.2.1 99 (S.2.1 89 7).toNatClampNeg)
  · rw [if_pos c] at h
    obtain rfl := Option.some.inj h
    exact q_Fw.rf _
  · rw [if_neg c] at h
    obtain ⟨hg2, h⟩ := q_guard h
    obtain ⟨hg3, h⟩ := q_guard h
    obtain ⟨S4, e5, h⟩ := q_bindS h
    have fx6 : q_Fw wlX6_push 0 S S4 := e5 ▸ q_Fw.sI (i := 0) (b := 0) (k := 96) (jj := 999) (q_Fw.rf S) rfl rfl (Or.inl rfl) (Or.inl rfl)
    obtain ⟨hg7, h⟩ := q_guard h
    obtain ⟨S8, e9, h⟩ := q_bindS h
    have fx10 : q_Fw wlX6_push 0 S S8 := e9 ▸ q_Fw.sI (i := 1) (b := 0) (k := 97) (jj := 999) (fx6) rfl rfl (Or.inl rfl) (Or.inr (q_narB _))
    obtain ⟨hg11, h⟩ := q_guard h
    obtain ⟨hg12, h⟩ := q_guard h
    obtain ⟨S13, e14, h⟩ := q_bindS h
    have fx15 : q_Fw wlX6_push 0 S S13 := e14 ▸ q_Fw.sI (i := 2) (b := 0) (k := 99) (jj := 999) (fx10) rfl rfl (Or.inl rfl) (Or.inl rfl)
    obtain rfl := Option.some.inj h
    exact fx15
def wlX6_pushInt : List (Nat × Nat × Nat) := [(0, 96, 999), (0, 97, 999), (0, 99, 999)]
theorem fwX6_pushInt {S : QS}  {x1 : Int32} {r : QS} (h : fX6_pushInt S x1 = some r) : q_Fw wlX6_pushInt 0 S r := by
  unfold fX6_pushInt at h
  obtain ⟨r1, e2, h⟩ := q_bind h
  have fx3 : q_Fw wlX6_pushInt 0 S r1 := q_Fw.tr (q_Fw.rf S) ((fwX6_push e2).up rfl)
  obtain rfl := Option.some.inj h
  exact fx3
def wlX6_pushObject : List (Nat × Nat × Nat) := [(0, 96, 999), (0, 97, 999), (0, 99, 999)]
theorem fwX6_pushObject {S : QS}  {x1 : Int32} {r : QS} (h : fX6_pushObject S x1 = some r) : q_Fw wlX6_pushObject 0 S r := by
  unfold fX6_pushObject at h
  obtain ⟨hg1, h⟩ := q_guard h
  obtain ⟨r2, e3, h⟩ := q_bind h
  have fx4 : q_Fw wlX6_pushObject 0 S r2 := q_Fw.tr (q_Fw.rf S) ((fwX6_push e3).up rfl)
  obtain rfl := Option.some.inj h
  exact fx4
def wlX6_pop : List (Nat × Nat × Nat) := [(0, 99, 999)]
theorem fwX6_pop {S : QS}   {r : Int32 × QS} (h : fX6_pop S = some r) : q_Fw wlX6_pop 0 S r.2 := by
  unfold fX6_pop at h
  obtain ⟨hg1, h⟩ := q_guard h
  by_cases c : (S.2.1 99 (S.2.1 89 7).toNatClampNeg) = 0
  · rw [if_pos c] at h
    obtain rfl := Option.some.inj h
    exact q_Fw.rf _
  · rw [if_neg c] at h
    obtain ⟨hg2, h⟩ := q_guard h
    obtain ⟨hg3, h⟩ := q_guard h
    obtain ⟨S4, e5, h⟩ := q_bindS h
    have fx6 : q_Fw wlX6_pop 0 S S4 := e5 ▸ q_Fw.sI (i := 0) (b := 0) (k := 99) (jj := 999) (q_Fw.rf S) rfl rfl (Or.inl rfl) (Or.inl rfl)
    obtain ⟨r7, e8, h⟩ := q_bind h
    obtain ⟨hg9, h⟩ := q_guard h
    obtain rfl := Option.some.inj h
    exact fx6
def wlX6_swap : List (Nat × Nat × Nat) := [(0, 96, 999), (0, 97, 999)]
theorem fwX6_swap {S : QS}  {x1 : Int32} {x2 : Int32} {r : QS} (h : fX6_swap S x1 x2 = some r) : q_Fw wlX6_swap 0 S r := by
  unfold fX6_swap at h
  obtain ⟨hg1, h⟩ := q_guard h
  obtain ⟨hg2, h⟩ := q_guard h
  obtain ⟨hg3, h⟩ := q_guard h
  obtain ⟨hg4, h⟩ := q_guard h
  obtain ⟨S5, e6, h⟩ := q_bindS h
  have fx7 : q_Fw wlX6_swap 0 S S5 := e6 ▸ q_Fw.sI (i := 0) (b := 0) (k := 96) (jj := 999) (q_Fw.rf S) rfl rfl (Or.inl rfl) (Or.inl rfl)
  obtain ⟨hg8, h⟩ := q_guard h
  obtain ⟨hg9, h⟩ := q_guard h
  obtain ⟨S10, e11, h⟩ := q_bindS h
  have fx12 : q_Fw wlX6_swap 0 S S10 := e11 ▸ q_Fw.sI (i := 1) (b := 0) (k := 97) (jj := 999) (fx7) rfl rfl (Or.inl rfl) (Or.inr (q_narB _))
  obtain ⟨hg13, h⟩ := q_guard h
  obtain ⟨S14, e15, h⟩ := q_bindS h
  have fx16 : q_Fw wlX6_swap 0 S S14 := e15 ▸ q_Fw.sI (i := 0) (b := 0) (k := 96) (jj := 999) (fx12) rfl rfl (Or.inl rfl) (Or.inl rfl)
  obtain ⟨hg17, h⟩ := q_guard h
  obtain ⟨S18, e19, h⟩ := q_bindS h
  have fx20 : q_Fw wlX6_swap 0 S S18 := e19 ▸ q_Fw.sI (i := 1) (b := 0) (k := 97) (jj := 999) (fx16) rfl rfl (Or.inl rfl) (Or.inr (q_narB _))
  obtain rfl := Option.some.inj h
  exact fx20
def wlX6_move : List (Nat × Nat × Nat) := [(0, 96, 999), (0, 97, 999), (0, 99, 999)]
theorem fwX6_move {S : QS}  {x1 : Int32} {x2 : Int32} {x3 : Int32} {r : QS} (h : fX6_move S x1 x2 x3 = some r) : q_Fw wlX6_move 0 S r := by
  unfold fX6_move at h
  obtain ⟨r1, e2, h⟩ := q_bind h
  by_cases c3 : x1 = (0 : Int32)
  · rw [if_pos c3] at h
    obtain ⟨r4, e5, h⟩ := q_bind h
    have fx6 : q_Fw wlX6_move 0 S r4 := q_Fw.tr (q_Fw.rf S) ((fwX6_pushInt e5).up rfl)
    obtain rfl := Option.some.inj h
    exact fx6
  rw [if_neg c3] at h
  by_cases c7 : x1 = (1 : Int32)
  · rw [if_pos c7] at h
    obtain ⟨r8, e9, h⟩ := q_bind h
    have fx10 : q_Fw wlX6_move 0 S r8 := q_Fw.tr (q_Fw.rf S) ((fwX6_pushObject e9).up rfl)
    obtain rfl := Option.some.inj h
    exact fx10
  rw [if_neg c7] at h
  by_cases c11 : x1 = (2 : Int32)
  · rw [if_pos c11] at h
    obtain ⟨hg12, h⟩ := q_guard h
    obtain ⟨hg13, h⟩ := q_guard h
    obtain ⟨r14, e15, h⟩ := q_bind h
    have fx16 : q_Fw wlX6_move 0 S r14 := q_Fw.tr (q_Fw.rf S) ((fwX6_push e15).up rfl)
    obtain rfl := Option.some.inj h
    exact fx16
  rw [if_neg c11] at h
  by_cases c17 : x1 = (3 : Int32)
  · rw [if_pos c17] at h
    obtain ⟨r18, e19, h⟩ := q_bind h
    have fx20 : q_Fw wlX6_move 0 S r18.2 := q_Fw.tr (q_Fw.rf S) ((fwX6_pop e19).up rfl)
    obtain ⟨hg21, h⟩ := q_guard h
    obtain ⟨S22, e23, h⟩ := q_bindS h
    have fx24 : q_Fw wlX6_move 0 S S22 := e23 ▸ q_Fw.sI (i := 0) (b := 0) (k := 96) (jj := 999) (fx20) rfl rfl (Or.inl rfl) (Or.inl rfl)
    obtain ⟨hg25, h⟩ := q_guard h
    obtain ⟨hg26, h⟩ := q_guard h
    obtain ⟨S27, e28, h⟩ := q_bindS h
    have fx29 : q_Fw wlX6_move 0 S S27 := e28 ▸ q_Fw.sI (i := 1) (b := 0) (k := 97) (jj := 999) (fx24) rfl rfl (Or.inl rfl) (Or.inr (q_narB _))
    obtain rfl := Option.some.inj h
    exact fx29
  rw [if_neg c17] at h
  by_cases c30 : x1 = (4 : Int32)
  · rw [if_pos c30] at h
    obtain ⟨hg31, h⟩ := q_guard h
    obtain ⟨hg32, h⟩ := q_guard h
    obtain ⟨S33, e34, h⟩ := q_bindS h
    have fx35 : q_Fw wlX6_move 0 S S33 := e34 ▸ q_Fw.sI (i := 0) (b := 0) (k := 96) (jj := 999) (q_Fw.rf S) rfl rfl (Or.inl rfl) (Or.inl rfl)
    obtain rfl := Option.some.inj h
    exact fx35
  rw [if_neg c30] at h
  by_cases c36 : x1 = (5 : Int32)
  · rw [if_pos c36] at h
    obtain ⟨hg37, h⟩ := q_guard h
    obtain ⟨hg38, h⟩ := q_guard h
    obtain ⟨r39, e40, h⟩ := q_bind h
    have fx41 : q_Fw wlX6_move 0 S r39 := q_Fw.tr (q_Fw.rf S) ((fwX6_push e40).up rfl)
    obtain rfl := Option.some.inj h
    exact fx41
  rw [if_neg c36] at h
  by_cases c42 : x1 = (6 : Int32)
  · rw [if_pos c42] at h
    obtain ⟨r43, e44, h⟩ := q_bind h
    have fx45 : q_Fw wlX6_move 0 S r43.2 := q_Fw.tr (q_Fw.rf S) ((fwX6_pop e44).up rfl)
    obtain rfl := Option.some.inj h
    exact fx45
  rw [if_neg c42] at h
  obtain ⟨r46, e47, h⟩ := q_bind h
  have fx48 : q_Fw wlX6_move 0 S r46 := q_Fw.tr (q_Fw.rf S) ((fwX6_swap e47).up rfl)
  obtain rfl := Option.some.inj h
  exact fx48
def wlX6_raise : List (Nat × Nat × Nat) := [(0, 89, 8), (0, 89, 9), (0, 90, 5), (0, 90, 6), (0, 91, 999), (0, 92, 999), (0, 93, 999), (0, 94, 999), (0, 95, 999)]
theorem fwX6_raise {S : QS}  {x1 : Int32} {r : QS} (h : fX6_raise S x1 = some r) : q_Fw wlX6_raise 0 S r := by
  unfold fX6_raise at h
  obtain ⟨r1, e2, h⟩ := q_bind h
  have fx3 : q_Fw wlX6_raise 0 S r1.2 := q_Fw.tr (q_Fw.rf S) ((fwX2_make e2).up rfl)
  obtain ⟨S4, e5, h⟩ := q_bindS h
  have fx6 : q_Fw wlX6_raise 0 S S4 := e5 ▸ q_Fw.sI (i := 1) (b := 0) (k := 89) (jj := 9) (fx3) rfl rfl (Or.inr rfl) (Or.inl rfl)
  by_cases c : (S4.2.1 89 9) = 0
  · rw [if_pos c] at h
    obtain ⟨S7, e8, h⟩ := q_bindS h
    have fx9 : q_Fw wlX6_raise 0 S S7 := e8 ▸ q_Fw.sI (i := 0) (b := 0) (k := 89) (jj := 8) (fx6) rfl rfl (Or.inr rfl) (Or.inl rfl)
    obtain rfl := Option.some.inj h
    exact fx9
  · rw [if_neg c] at h
    obtain rfl := Option.some.inj h
    exact fx6
def wlX6_calculate : List (Nat × Nat × Nat) := [(0, 89, 8), (0, 89, 9), (0, 90, 5), (0, 90, 6), (0, 91, 999), (0, 92, 999), (0, 93, 999), (0, 94, 999), (0, 95, 999), (0, 96, 999), (0, 97, 999), (0, 99, 999)]
theorem fwX6_calculate_45 {S : QS}  {y1 : Int32} {y2 : Int32} {y3 : Int32} {r : QS} (h : fX6_calculate_45 S y1 y2 y3 = some r) : q_Fw wlX6_calculate 0 S r := by
  unfold fX6_calculate_45 at h
  by_cases c1 : y1 = (8 : Int32)
  · rw [if_pos c1] at h
    obtain ⟨r2, e3, h⟩ := q_bind h
    have fx4 : q_Fw wlX6_calculate 0 S r2 := q_Fw.tr (q_Fw.rf S) ((fwX6_pushInt e3).up rfl)
    obtain rfl := Option.some.inj h
    exact fx4
  rw [if_neg c1] at h
  by_cases c5 : y1 = (9 : Int32)
  · rw [if_pos c5] at h
    obtain ⟨r6, e7, h⟩ := q_bind h
    have fx8 : q_Fw wlX6_calculate 0 S r6 := q_Fw.tr (q_Fw.rf S) ((fwX6_pushInt e7).up rfl)
    obtain rfl := Option.some.inj h
    exact fx8
  rw [if_neg c5] at h
  by_cases c9 : y1 = (10 : Int32)
  · rw [if_pos c9] at h
    obtain ⟨r10, e11, h⟩ := q_bind h
    have fx12 : q_Fw wlX6_calculate 0 S r10 := q_Fw.tr (q_Fw.rf S) ((fwX6_pushInt e11).up rfl)
    obtain rfl := Option.some.inj h
    exact fx12
  rw [if_neg c9] at h
  by_cases c13 : y1 = (11 : Int32)
  · rw [if_pos c13] at h
    obtain ⟨hg14, h⟩ := q_guard h
    obtain ⟨r15, e16, h⟩ := q_bind h
    have fx17 : q_Fw wlX6_calculate 0 S r15 := q_Fw.tr (q_Fw.rf S) ((fwX6_pushInt e16).up rfl)
    obtain rfl := Option.some.inj h
    exact fx17
  rw [if_neg c13] at h
  by_cases c18 : y1 = (12 : Int32)
  · rw [if_pos c18] at h
    obtain ⟨hg19, h⟩ := q_guard h
    obtain ⟨r20, e21, h⟩ := q_bind h
    have fx22 : q_Fw wlX6_calculate 0 S r20 := q_Fw.tr (q_Fw.rf S) ((fwX6_pushInt e21).up rfl)
    obtain rfl := Option.some.inj h
    exact fx22
  rw [if_neg c18] at h
  by_cases c23 : y1 = (13 : Int32)
  · rw [if_pos c23] at h
    obtain ⟨r24, e25, h⟩ := q_bind h
    have fx26 : q_Fw wlX6_calculate 0 S r24 := q_Fw.tr (q_Fw.rf S) ((fwX6_pushInt e25).up rfl)
    obtain rfl := Option.some.inj h
    exact fx26
  rw [if_neg c23] at h
  by_cases c27 : y1 = (14 : Int32)
  · rw [if_pos c27] at h
    obtain ⟨r28, e29, h⟩ := q_bind h
    have fx30 : q_Fw wlX6_calculate 0 S r28 := q_Fw.tr (q_Fw.rf S) ((fwX6_pushInt e29).up rfl)
    obtain rfl := Option.some.inj h
    exact fx30
  rw [if_neg c27] at h
  by_cases c31 : y1 = (15 : Int32)
  · rw [if_pos c31] at h
    obtain ⟨r32, e33, h⟩ := q_bind h
    have fx34 : q_Fw wlX6_calculate 0 S r32 := q_Fw.tr (q_Fw.rf S) ((fwX6_pushInt e33).up rfl)
    obtain rfl := Option.some.inj h
    exact fx34
  rw [if_neg c31] at h
  by_cases c35 : y1 = (16 : Int32)
  · rw [if_pos c35] at h
    obtain ⟨r36, e37, h⟩ := q_bind h
    have fx38 : q_Fw wlX6_calculate 0 S r36 := q_Fw.tr (q_Fw.rf S) ((fwX6_pushInt e37).up rfl)
    obtain rfl := Option.some.inj h
    exact fx38
  rw [if_neg c35] at h
  obtain ⟨r39, e40, h⟩ := q_bind h
  have fx41 : q_Fw wlX6_calculate 0 S r39 := q_Fw.tr (q_Fw.rf S) ((fwX6_pushInt e40).up rfl)
  obtain rfl := Option.some.inj h
  exact fx41
theorem fwX6_calculate_35 {S : QS}  {y1 : Int32} {y2 : Int32} {y3 : Int32} {r : QS} (h : fX6_calculate_35 S y1 y2 y3 = some r) : q_Fw wlX6_calculate 0 S r := by
  unfold fX6_calculate_35 at h
  by_cases c : y2 = 0
  · rw [if_pos c] at h
    obtain ⟨r42, e43, h⟩ := q_bind h
    have fx44 : q_Fw wlX6_calculate 0 S r42 := q_Fw.tr (q_Fw.rf S) ((fwX6_raise e43).up rfl)
    obtain rfl := Option.some.inj h
    exact fx44
  · rw [if_neg c] at h
    exact (q_Fw.rf _).tr (fwX6_calculate_45 h)
theorem fwX6_calculate {S : QS}  {x1 : Int32} {r : QS} (h : fX6_calculate S x1 = some r) : q_Fw wlX6_calculate 0 S r := by
  unfold fX6_calculate at h
  obtain ⟨r45, e46, h⟩ := q_bind h
  have fx47 : q_Fw wlX6_calculate 0 S r45.2 := q_Fw.tr (q_Fw.rf S) ((fwX6_pop e46).up rfl)
  by_cases c : x1 = (18 : Int32)
  · rw [if_pos c] at h
    obtain ⟨r51, e52, h⟩ := q_bind h
    have fx53 : q_Fw wlX6_calculate 0 S r51 := q_Fw.tr (fx47) ((fwX6_pushInt e52).up rfl)
    obtain rfl := Option.some.inj h
    exact fx53
  · rw [if_neg c] at h
    obtain ⟨r48, e49, h⟩ := q_bind h
    have fx50 : q_Fw wlX6_calculate 0 S r48.2 := q_Fw.tr (fx47) ((fwX6_pop e49).up rfl)
    by_cases c : x1 = (11 : Int32)
    · rw [if_pos c] at h
      exact (fx50).tr (fwX6_calculate_35 h)
    · rw [if_neg c] at h
      by_cases c : x1 = (12 : Int32)
      · rw [if_pos c] at h
        exact (fx50).tr (fwX6_calculate_35 h)
      · rw [if_neg c] at h
        exact (fx50).tr (fwX6_calculate_45 h)
def wlX6_decide : List (Nat × Nat × Nat) := [(0, 98, 999), (0, 99, 999)]
theorem fwX6_decide {S : QS}  {x1 : Int32} {x2 : Int32} {r : QS} (h : fX6_decide S x1 x2 = some r) : q_Fw wlX6_decide 0 S r := by
  unfold fX6_decide at h
  obtain ⟨v4, hv, h⟩ := q_bind h
  have fx5 : q_Fw wlX6_decide 0 S v4.2 := by
    replace h := hv
    by_cases c : x1 = (19 : Int32)
    · rw [if_pos c] at h
      obtain rfl := Option.some.inj h
      exact q_Fw.rf _
    · rw [if_neg c] at h
      obtain ⟨r1, e2, h⟩ := q_bind h
      have fx3 : q_Fw wlX6_decide 0 S r1.2 := q_Fw.tr (q_Fw.rf S) ((fwX6_pop e2).up rfl)
      obtain rfl := Option.some.inj h
      exact fx3
  obtain ⟨v9, hv, h⟩ := q_bind h
  have fx10 : q_Fw wlX6_decide 0 S v9.2 := by
    replace h := hv
    by_cases c : x1 = (19 : Int32)
    · rw [if_pos c] at h
      obtain rfl := Option.some.inj h
      exact fx5
    · rw [if_neg c] at h
      by_cases c : x1 = (26 : Int32)
      · rw [if_pos c] at h
        obtain rfl := Option.some.inj h
        exact fx5
      · rw [if_neg c] at h
        by_cases c : x1 = (27 : Int32)
        · rw [if_pos c] at h
          obtain rfl := Option.some.inj h
          exact fx5
        · rw [if_neg c] at h
          obtain ⟨r6, e7, h⟩ := q_bind h
          have fx8 : q_Fw wlX6_decide 0 S r6.2 := q_Fw.tr (fx5) ((fwX6_pop e7).up rfl)
          obtain rfl := Option.some.inj h
          exact fx8
  obtain ⟨v31, hv, h⟩ := q_bind h
  by_cases c : v31 = true
  · rw [if_pos c] at h
    obtain ⟨hg32, h⟩ := q_guard h
    obtain ⟨S33, e34, h⟩ := q_bindS h
    have fx35 : q_Fw wlX6_decide 0 S S33 := e34 ▸ q_Fw.sI (i := 0) (b := 0) (k := 98) (jj := 999) (fx10) rfl rfl (Or.inl rfl) (Or.inl rfl)
    obtain rfl := Option.some.inj h
    exact fx35
  · rw [if_neg c] at h
    obtain rfl := Option.some.inj h
    exact fx10
def wlX6_pushMade : List (Nat × Nat × Nat) := [(0, 89, 8), (0, 90, 5), (0, 90, 6), (0, 91, 999), (0, 92, 999), (0, 93, 999), (0, 94, 999), (0, 95, 999), (0, 96, 999), (0, 97, 999), (0, 99, 999)]
theorem fwX6_pushMade {S : QS}  {x1 : Int32} {x2 : Int32} {x3 : Int32} {r : QS} (h : fX6_pushMade S x1 x2 x3 = some r) : q_Fw wlX6_pushMade 0 S r := by
  unfold fX6_pushMade at h
  obtain ⟨r1, e2, h⟩ := q_bind h
  have fx3 : q_Fw wlX6_pushMade 0 S r1.2 := q_Fw.tr (q_Fw.rf S) ((fwX2_make e2).up rfl)
  by_cases c : r1.1 = 0
  · rw [if_pos c] at h
    obtain ⟨S7, e8, h⟩ := q_bindS h
    have fx9 : q_Fw wlX6_pushMade 0 S S7 := e8 ▸ q_Fw.sI (i := 0) (b := 0) (k := 89) (jj := 8) (fx3) rfl rfl (Or.inr rfl) (Or.inl rfl)
    obtain rfl := Option.some.inj h
    exact fx9
  · rw [if_neg c] at h
    obtain ⟨r4, e5, h⟩ := q_bind h
    have fx6 : q_Fw wlX6_pushMade 0 S r4 := q_Fw.tr (fx3) ((fwX6_pushObject e5).up rfl)
    obtain rfl := Option.some.inj h
    exact fx6
def wlX6_pushCell : List (Nat × Nat × Nat) := [(0, 96, 999), (0, 97, 999), (0, 99, 999)]
theorem fwX6_pushCell {S : QS}  {x1 : Int32} {x2 : Int32} {x3 : Bool} {r : QS} (h : fX6_pushCell S x1 x2 x3 = some r) : q_Fw wlX6_pushCell 0 S r := by
  unfold fX6_pushCell at h
  obtain ⟨r1, e2, h⟩ := q_bind h
  by_cases c : x3 = true
  · rw [if_pos c] at h
    obtain ⟨r6, e7, h⟩ := q_bind h
    have fx8 : q_Fw wlX6_pushCell 0 S r6 := q_Fw.tr (q_Fw.rf S) ((fwX6_pushInt e7).up rfl)
    obtain rfl := Option.some.inj h
    exact fx8
  · rw [if_neg c] at h
    obtain ⟨r3, e4, h⟩ := q_bind h
    have fx5 : q_Fw wlX6_pushCell 0 S r3 := q_Fw.tr (q_Fw.rf S) ((fwX6_pushObject e4).up rfl)
    obtain rfl := Option.some.inj h
    exact fx5
def wlX6_useArray : List (Nat × Nat × Nat) := [(0, 89, 8), (0, 89, 9), (0, 90, 5), (0, 90, 6), (0, 91, 999), (0, 92, 999), (0, 93, 999), (0, 94, 999), (0, 95, 999), (0, 96, 999), (0, 97, 999), (0, 99, 999)]
theorem fwX6_useArray {S : QS} {p : Nat} {x1 : Int32} {r : QS} (hp : q_pok p) (h : fX6_useArray S p x1 = some r) : q_Fw wlX6_useArray p S r := by
  unfold fX6_useArray at h
  obtain ⟨hg1, h⟩ := q_guard h
  by_cases c : (S.2.1 (p + 11) x1.toNatClampNeg) = (30 : Int32)
  · rw [if_pos c] at h
    obtain ⟨hg84, h⟩ := q_guard h
    obtain ⟨hg85, h⟩ := q_guard h
    obtain ⟨hg86, h⟩ := q_guard h
    obtain ⟨hg87, h⟩ := q_guard h
    obtain ⟨r88, e89, h⟩ := q_bind h
    have fx90 : q_Fw wlX6_useArray p S r88 := q_Fw.tr (q_Fw.rf S) (((fwX6_pushMade e89).nov (p' := p) rfl).up rfl)
    obtain rfl := Option.some.inj h
    exact fx90
  · rw [if_neg c] at h
    obtain ⟨v5, hv, h⟩ := q_bind h
    have fx6 : q_Fw wlX6_useArray p S v5.2 := by
      replace h := hv
      by_cases c : (S.2.1 (p + 11) x1.toNatClampNeg) = (34 : Int32)
      · rw [if_pos c] at h
        obtain ⟨r2, e3, h⟩ := q_bind h
        have fx4 : q_Fw wlX6_useArray p S r2.2 := q_Fw.tr (q_Fw.rf S) (((fwX6_pop e3).nov (p' := p) rfl).up rfl)
        obtain rfl := Option.some.inj h
        exact fx4
      · rw [if_neg c] at h
        obtain rfl := Option.some.inj h
        exact q_Fw.rf _
    obtain ⟨v10, hv, h⟩ := q_bind h
    have fx11 : q_Fw wlX6_useArray p S v10.2 := by
      replace h := hv
      by_cases c : (S.2.1 (p + 11) x1.toNatClampNeg) = (32 : Int32)
      · rw [if_pos c] at h
        obtain rfl := Option.some.inj h
        exact fx6
      · rw [if_neg c] at h
        obtain ⟨r7, e8, h⟩ := q_bind h
        have fx9 : q_Fw wlX6_useArray p S r7.2 := q_Fw.tr (fx6) (((fwX6_pop e8).nov (p' := p) rfl).up rfl)
        obtain rfl := Option.some.inj h
        exact fx9
    obtain ⟨v15, hv, h⟩ := q_bind h
    have fx16 : q_Fw wlX6_useArray p S v15.2 := by
      replace h := hv
      by_cases c : (S.2.1 (p + 11) x1.toNatClampNeg) = (31 : Int32)
      · rw [if_pos c] at h
        obtain rfl := Option.some.inj h
        exact fx11
      · rw [if_neg c] at h
        obtain ⟨r12, e13, h⟩ := q_bind h
        have fx14 : q_Fw wlX6_useArray p S r12.2 := q_Fw.tr (fx11) (((fwX6_pop e13).nov (p' := p) rfl).up rfl)
        obtain rfl := Option.some.inj h
        exact fx14
    by_cases c : (S.2.1 (p + 11) x1.toNatClampNeg) = (31 : Int32)
    · rw [if_pos c] at h
      by_cases c : 0 ≤ v10.1
      · rw [if_pos c] at h
        by_cases c : (S.2.1 (p + 11) x1.toNatClampNeg) = (31 : Int32)
        · rw [if_pos c] at h
          obtain ⟨hg76, h⟩ := q_guard h
          obtain ⟨hg77, h⟩ := q_guard h
          obtain ⟨r78, e79, h⟩ := q_bind h
          have fx80 : q_Fw wlX6_useArray p S r78 := q_Fw.tr (fx16) (((fwX6_pushMade e79).nov (p' := p) rfl).up rfl)
          obtain rfl := Option.some.inj h
          exact fx80
        · rw [if_neg c] at h
          by_cases c : v15.1 = 0
          · rw [if_pos c] at h
            obtain ⟨r73, e74, h⟩ := q_bind h
            have fx75 : q_Fw wlX6_useArray p S r73 := q_Fw.tr (fx16) (((fwX6_raise e74).nov (p' := p) rfl).up rfl)
            obtain rfl := Option.some.inj h
            exact fx75
          · rw [if_neg c] at h
            by_cases c : (S.2.1 (p + 11) x1.toNatClampNeg) = (32 : Int32)
            · rw [if_pos c] at h
              obtain ⟨hg69, h⟩ := q_guard h
              obtain ⟨r70, e71, h⟩ := q_bind h
              have fx72 : q_Fw wlX6_useArray p S r70 := q_Fw.tr (fx16) (((fwX6_pushInt e71).nov (p' := p) rfl).up rfl)
              obtain rfl := Option.some.inj h
              exact fx72
            · rw [if_neg c] at h
              obtain ⟨r49, e50, h⟩ := q_bind h
              by_cases c : r49 = true
              · rw [if_pos c] at h
                by_cases c : (S.2.1 (p + 11) x1.toNatClampNeg) = (33 : Int32)
                · rw [if_pos c] at h
                  obtain ⟨hg59, h⟩ := q_guard h
                  by_cases c : (v15.2.2.1 91 v15.1.toNatClampNeg) = (64 : Int32)
                  · rw [if_pos c] at h
                    obtain ⟨r63, e64, h⟩ := q_bind h
                    have fx65 : q_Fw wlX6_useArray p S r63 := q_Fw.tr (fx16) (((fwX6_pushCell e64).nov (p' := p) rfl).up rfl)
                    obtain rfl := Option.some.inj h
                    exact fx65
                  · rw [if_neg c] at h
                    obtain ⟨r60, e61, h⟩ := q_bind h
                    have fx62 : q_Fw wlX6_useArray p S r60 := q_Fw.tr (fx16) (((fwX6_pushCell e61).nov (p' := p) rfl).up rfl)
                    obtain rfl := Option.some.inj h
                    exact fx62
                · rw [if_neg c] at h
                  obtain ⟨r51, e52, h⟩ := q_bind h
                  by_cases c : r51 = true
                  · rw [if_pos c] at h
                    obtain ⟨r56, e57, h⟩ := q_bind h
                    have fx58 : q_Fw wlX6_useArray p S r56 := q_Fw.tr (fx16) (((fwX2_setCell e57).nov (p' := p) rfl).up rfl)
                    obtain rfl := Option.some.inj h
                    exact fx58
                  · rw [if_neg c] at h
                    obtain ⟨r53, e54, h⟩ := q_bind h
                    have fx55 : q_Fw wlX6_useArray p S r53 := q_Fw.tr (fx16) (((fwX6_raise e54).nov (p' := p) rfl).up rfl)
                    obtain rfl := Option.some.inj h
                    exact fx55
              · rw [if_neg c] at h
                obtain ⟨r66, e67, h⟩ := q_bind h
                have fx68 : q_Fw wlX6_useArray p S r66 := q_Fw.tr (fx16) (((fwX6_raise e67).nov (p' := p) rfl).up rfl)
                obtain rfl := Option.some.inj h
                exact fx68
      · rw [if_neg c] at h
        obtain ⟨r81, e82, h⟩ := q_bind h
        have fx83 : q_Fw wlX6_useArray p S r81 := q_Fw.tr (fx16) (((fwX6_raise e82).nov (p' := p) rfl).up rfl)
        obtain rfl := Option.some.inj h
        exact fx83
    · rw [if_neg c] at h
      by_cases c : (S.2.1 (p + 11) x1.toNatClampNeg) = (31 : Int32)
      · rw [if_pos c] at h
        obtain ⟨hg44, h⟩ := q_guard h
        obtain ⟨hg45, h⟩ := q_guard h
        obtain ⟨r46, e47, h⟩ := q_bind h
        have fx48 : q_Fw wlX6_useArray p S r46 := q_Fw.tr (fx16) (((fwX6_pushMade e47).nov (p' := p) rfl).up rfl)
        obtain rfl := Option.some.inj h
        exact fx48
      · rw [if_neg c] at h
        by_cases c : v15.1 = 0
        · rw [if_pos c] at h
          obtain ⟨r41, e42, h⟩ := q_bind h
          have fx43 : q_Fw wlX6_useArray p S r41 := q_Fw.tr (fx16) (((fwX6_raise e42).nov (p' := p) rfl).up rfl)
          obtain rfl := Option.some.inj h
          exact fx43
        · rw [if_neg c] at h
          by_cases c : (S.2.1 (p + 11) x1.toNatClampNeg) = (32 : Int32)
          · rw [if_pos c] at h
            obtain ⟨hg37, h⟩ := q_guard h
            obtain ⟨r38, e39, h⟩ := q_bind h
            have fx40 : q_Fw wlX6_useArray p S r38 := q_Fw.tr (fx16) (((fwX6_pushInt e39).nov (p' := p) rfl).up rfl)
            obtain rfl := Option.some.inj h
            exact fx40
          · rw [if_neg c] at h
            obtain ⟨r17, e18, h⟩ := q_bind h
            by_cases c : r17 = true
            · rw [if_pos c] at h
              by_cases c : (S.2.1 (p + 11) x1.toNatClampNeg) = (33 : Int32)
              · rw [if_pos c] at h
                obtain ⟨hg27, h⟩ := q_guard h
                by_cases c : (v15.2.2.1 91 v15.1.toNatClampNeg) = (64 : Int32)
                · rw [if_pos c] at h
                  obtain ⟨r31, e32, h⟩ := q_bind h
                  have fx33 : q_Fw wlX6_useArray p S r31 := q_Fw.tr (fx16) (((fwX6_pushCell e32).nov (p' := p) rfl).up rfl)
                  obtain rfl := Option.some.inj h
                  exact fx33
                · rw [if_neg c] at h
                  obtain ⟨r28, e29, h⟩ := q_bind h
                  have fx30 : q_Fw wlX6_useArray p S r28 := q_Fw.tr (fx16) (((fwX6_pushCell e29).nov (p' := p) rfl).up rfl)
                  obtain rfl := Option.some.inj h
                  exact fx30
              · rw [if_neg c] at h
                obtain ⟨r19, e20, h⟩ := q_bind h
                by_cases c : r19 = true
                · rw [if_pos c] at h
                  obtain ⟨r24, e25, h⟩ := q_bind h
                  have fx26 : q_Fw wlX6_useArray p S r24 := q_Fw.tr (fx16) (((fwX2_setCell e25).nov (p' := p) rfl).up rfl)
                  obtain rfl := Option.some.inj h
                  exact fx26
                · rw [if_neg c] at h
                  obtain ⟨r21, e22, h⟩ := q_bind h
                  have fx23 : q_Fw wlX6_useArray p S r21 := q_Fw.tr (fx16) (((fwX6_raise e22).nov (p' := p) rfl).up rfl)
                  obtain rfl := Option.some.inj h
                  exact fx23
            · rw [if_neg c] at h
              obtain ⟨r34, e35, h⟩ := q_bind h
              have fx36 : q_Fw wlX6_useArray p S r34 := q_Fw.tr (fx16) (((fwX6_raise e35).nov (p' := p) rfl).up rfl)
              obtain rfl := Option.some.inj h
              exact fx36
def wlX6_useObject : List (Nat × Nat × Nat) := [(0, 89, 8), (0, 89, 9), (0, 90, 5), (0, 90, 6), (0, 91, 999), (0, 92, 999), (0, 93, 999), (0, 94, 999), (0, 95, 999), (0, 96, 999), (0, 97, 999), (0, 99, 999)]
theorem fwX6_useObject {S : QS} {p : Nat} {x1 : Int32} {r : QS} (hp : q_pok p) (h : fX6_useObject S p x1 = some r) : q_Fw wlX6_useObject p S r := by
  unfold fX6_useObject at h
  obtain ⟨hg1, h⟩ := q_guard h
  obtain ⟨hg2, h⟩ := q_guard h
  obtain ⟨v6, hv, h⟩ := q_bind h
  have fx7 : q_Fw wlX6_useObject p S v6.2 := by
    replace h := hv
    by_cases c : (S.2.1 (p + 11) x1.toNatClampNeg) = (36 : Int32)
    · rw [if_pos c] at h
      obtain ⟨r3, e4, h⟩ := q_bind h
      have fx5 : q_Fw wlX6_useObject p S r3.2 := q_Fw.tr (q_Fw.rf S) (((fwX6_pop e4).nov (p' := p) rfl).up rfl)
      obtain rfl := Option.some.inj h
      exact fx5
    · rw [if_neg c] at h
      obtain rfl := Option.some.inj h
      exact q_Fw.rf _
  obtain ⟨r8, e9, h⟩ := q_bind h
  have fx10 : q_Fw wlX6_useObject p S r8.2 := q_Fw.tr (fx7) (((fwX6_pop e9).nov (p' := p) rfl).up rfl)
  obtain ⟨v14, hv, h⟩ := q_bind h
  by_cases c : (S.2.1 (p + 11) x1.toNatClampNeg) = (38 : Int32)
  · rw [if_pos c] at h
    by_cases c : v14 = true
    · rw [if_pos c] at h
      obtain ⟨r60, e61, h⟩ := q_bind h
      have fx62 : q_Fw wlX6_useObject p S r60 := q_Fw.tr (fx10) (((fwX6_pushInt e61).nov (p' := p) rfl).up rfl)
      obtain rfl := Option.some.inj h
      exact fx62
    · rw [if_neg c] at h
      obtain ⟨r57, e58, h⟩ := q_bind h
      have fx59 : q_Fw wlX6_useObject p S r57 := q_Fw.tr (fx10) (((fwX6_pushInt e58).nov (p' := p) rfl).up rfl)
      obtain rfl := Option.some.inj h
      exact fx59
  · rw [if_neg c] at h
    by_cases c : (S.2.1 (p + 11) x1.toNatClampNeg) = (37 : Int32)
    · rw [if_pos c] at h
      by_cases c : v14 = true
      · rw [if_pos c] at h
        obtain ⟨r33, e34, h⟩ := q_bind h
        have fx35 : q_Fw wlX6_useObject p S r33 := q_Fw.tr (fx10) (((fwX6_pushObject e34).nov (p' := p) rfl).up rfl)
        obtain rfl := Option.some.inj h
        exact fx35
      · rw [if_neg c] at h
        by_cases c : r8.1 = 0
        · rw [if_pos c] at h
          obtain ⟨r54, e55, h⟩ := q_bind h
          have fx56 : q_Fw wlX6_useObject p S r54 := q_Fw.tr (fx10) (((fwX6_pushObject e55).nov (p' := p) rfl).up rfl)
          obtain rfl := Option.some.inj h
          exact fx56
        · rw [if_neg c] at h
          by_cases c : (S.2.1 (p + 11) x1.toNatClampNeg) = (37 : Int32)
          · rw [if_pos c] at h
            obtain ⟨r51, e52, h⟩ := q_bind h
            have fx53 : q_Fw wlX6_useObject p S r51 := q_Fw.tr (fx10) (((fwX6_raise e52).nov (p' := p) rfl).up rfl)
            obtain rfl := Option.some.inj h
            exact fx53
          · rw [if_neg c] at h
            by_cases c : r8.1 = 0
            · rw [if_pos c] at h
              obtain ⟨r48, e49, h⟩ := q_bind h
              have fx50 : q_Fw wlX6_useObject p S r48 := q_Fw.tr (fx10) (((fwX6_raise e49).nov (p' := p) rfl).up rfl)
              obtain rfl := Option.some.inj h
              exact fx50
            · rw [if_neg c] at h
              by_cases c : (S.2.1 (p + 11) x1.toNatClampNeg) = (36 : Int32)
              · rw [if_pos c] at h
                obtain ⟨hg44, h⟩ := q_guard h
                obtain ⟨r45, e46, h⟩ := q_bind h
                have fx47 : q_Fw wlX6_useObject p S r45 := q_Fw.tr (fx10) (((fwX2_setCell e46).nov (p' := p) rfl).up rfl)
                obtain rfl := Option.some.inj h
                exact fx47
              · rw [if_neg c] at h
                obtain ⟨hg36, h⟩ := q_guard h
                obtain ⟨hg37, h⟩ := q_guard h
                by_cases c : (r8.2.2.1 (p + 8) (S.2.1 (p + 12) x1.toNatClampNeg).toNatClampNeg) = (66 : Int32)
                · rw [if_pos c] at h
                  obtain ⟨r41, e42, h⟩ := q_bind h
                  have fx43 : q_Fw wlX6_useObject p S r41 := q_Fw.tr (fx10) (((fwX6_pushCell e42).nov (p' := p) rfl).up rfl)
                  obtain rfl := Option.some.inj h
                  exact fx43
                · rw [if_neg c] at h
                  obtain ⟨r38, e39, h⟩ := q_bind h
                  have fx40 : q_Fw wlX6_useObject p S r38 := q_Fw.tr (fx10) (((fwX6_pushCell e39).nov (p' := p) rfl).up rfl)
                  obtain rfl := Option.some.inj h
                  exact fx40
    · rw [if_neg c] at h
      by_cases c : (S.2.1 (p + 11) x1.toNatClampNeg) = (37 : Int32)
      · rw [if_pos c] at h
        obtain ⟨r30, e31, h⟩ := q_bind h
        have fx32 : q_Fw wlX6_useObject p S r30 := q_Fw.tr (fx10) (((fwX6_raise e31).nov (p' := p) rfl).up rfl)
        obtain rfl := Option.some.inj h
        exact fx32
      · rw [if_neg c] at h
        by_cases c : r8.1 = 0
        · rw [if_pos c] at h
          obtain ⟨r27, e28, h⟩ := q_bind h
          have fx29 : q_Fw wlX6_useObject p S r27 := q_Fw.tr (fx10) (((fwX6_raise e28).nov (p' := p) rfl).up rfl)
          obtain rfl := Option.some.inj h
          exact fx29
        · rw [if_neg c] at h
          by_cases c : (S.2.1 (p + 11) x1.toNatClampNeg) = (36 : Int32)
          · rw [if_pos c] at h
            obtain ⟨hg23, h⟩ := q_guard h
            obtain ⟨r24, e25, h⟩ := q_bind h
            have fx26 : q_Fw wlX6_useObject p S r24 := q_Fw.tr (fx10) (((fwX2_setCell e25).nov (p' := p) rfl).up rfl)
            obtain rfl := Option.some.inj h
            exact fx26
          · rw [if_neg c] at h
            obtain ⟨hg15, h⟩ := q_guard h
            obtain ⟨hg16, h⟩ := q_guard h
            by_cases c : (r8.2.2.1 (p + 8) (S.2.1 (p + 12) x1.toNatClampNeg).toNatClampNeg) = (66 : Int32)
            · rw [if_pos c] at h
              obtain ⟨r20, e21, h⟩ := q_bind h
              have fx22 : q_Fw wlX6_useObject p S r20 := q_Fw.tr (fx10) (((fwX6_pushCell e21).nov (p' := p) rfl).up rfl)
              obtain rfl := Option.some.inj h
              exact fx22
            · rw [if_neg c] at h
              obtain ⟨r17, e18, h⟩ := q_bind h
              have fx19 : q_Fw wlX6_useObject p S r17 := q_Fw.tr (fx10) (((fwX6_pushCell e18).nov (p' := p) rfl).up rfl)
              obtain rfl := Option.some.inj h
              exact fx19
def wlX6_enter : List (Nat × Nat × Nat) := [(0, 89, 7), (0, 89, 8), (0, 96, 999), (0, 97, 999), (0, 98, 999), (0, 99, 999)]
theorem fwX6_enter {S : QS} {p : Nat} {x1 : Int32} {x2 : Int32} {r : QS} (hp : q_pok p) (h : fX6_enter S p x1 x2 = some r) : q_Fw wlX6_enter p S r := by
  unfold fX6_enter at h
  by_cases c : ((S.2.1 89 7) + (1 : Int32)) = (64 : Int32)
  · rw [if_pos c] at h
    obtain ⟨S31, e32, h⟩ := q_bindS h
    have fx33 : q_Fw wlX6_enter p S S31 := e32 ▸ q_Fw.sI (i := 1) (b := 0) (k := 89) (jj := 8) (q_Fw.rf S) rfl rfl (Or.inr rfl) (Or.inl rfl)
    obtain rfl := Option.some.inj h
    exact fx33
  · rw [if_neg c] at h
    obtain ⟨hg1, h⟩ := q_guard h
    obtain ⟨hg2, h⟩ := q_guard h
    obtain ⟨S3, e4, h⟩ := q_bindS h
    have fx5 : q_Fw wlX6_enter p S S3 := e4 ▸ q_Fw.sI (i := 5) (b := 0) (k := 99) (jj := 999) (q_Fw.rf S) rfl rfl (Or.inl rfl) (Or.inl rfl)
    obtain ⟨r6, e7, h⟩ := q_bind h
    obtain ⟨S8, e9, h⟩ := q_bindS h
    have fx10 : q_Fw wlX6_enter p S S8 := e9 ▸ q_Fw.sI (i := 0) (b := 0) (k := 89) (jj := 7) (fx5) rfl rfl (Or.inr rfl) (Or.inl rfl)
    obtain ⟨hg11, h⟩ := q_guard h
    obtain ⟨S12, e13, h⟩ := q_bindS h
    have fx14 : q_Fw wlX6_enter p S S12 := e13 ▸ q_Fw.cp (i := 2) (b := 0) (k := 96) (fx10) rfl rfl (Or.inl rfl)
    obtain ⟨hg15, h⟩ := q_guard h
    obtain ⟨S16, e17, h⟩ := q_bindS h
    have fx18 : q_Fw wlX6_enter p S S16 := e17 ▸ q_Fw.cp (i := 3) (b := 0) (k := 97) (fx14) rfl rfl (Or.inr rfl)
    obtain ⟨r19, e20, h⟩ := q_bind h
    have fx21 : q_Fw wlX6_enter p S r19 := q_Fw.tr (fx18) (q_Fw.arr (i := 3) (b := 0) (k := 97) (fwJ7_fill_eb02e e20) rfl rfl)
    obtain ⟨hg22, h⟩ := q_guard h
    obtain ⟨S23, e24, h⟩ := q_bindS h
    have fx25 : q_Fw wlX6_enter p S S23 := e24 ▸ q_Fw.sI (i := 5) (b := 0) (k := 99) (jj := 999) (fx21) rfl rfl (Or.inl rfl) (Or.inl rfl)
    obtain ⟨hg26, h⟩ := q_guard h
    obtain ⟨hg27, h⟩ := q_guard h
    obtain ⟨S28, e29, h⟩ := q_bindS h
    have fx30 : q_Fw wlX6_enter p S S28 := e29 ▸ q_Fw.sI (i := 4) (b := 0) (k := 98) (jj := 999) (fx25) rfl rfl (Or.inl rfl) (Or.inl rfl)
    obtain rfl := Option.some.inj h
    exact fx30
def wlX6_send : List (Nat × Nat × Nat) := [(0, 89, 7), (0, 89, 8), (0, 89, 9), (0, 90, 5), (0, 90, 6), (0, 91, 999), (0, 92, 999), (0, 93, 999), (0, 94, 999), (0, 95, 999), (0, 96, 999), (0, 97, 999), (0, 98, 999), (0, 99, 999)]
theorem fwX6_send {S : QS} {p : Nat} {x1 : Int32} {x2 : Int32} {r : QS} (hp : q_pok p) (h : fX6_send S p x1 x2 = some r) : q_Fw wlX6_send p S r := by
  unfold fX6_send at h
  by_cases c : x2 = 0
  · rw [if_pos c] at h
    obtain ⟨r8, e9, h⟩ := q_bind h
    have fx10 : q_Fw wlX6_send p S r8 := q_Fw.tr (q_Fw.rf S) (((fwX6_raise e9).nov (p' := p) rfl).up rfl)
    obtain rfl := Option.some.inj h
    exact fx10
  · rw [if_neg c] at h
    obtain ⟨hg1, h⟩ := q_guard h
    obtain ⟨r2, e3, h⟩ := q_bind h
    obtain ⟨hg4, h⟩ := q_guard h
    obtain ⟨r5, e6, h⟩ := q_bind h
    have fx7 : q_Fw wlX6_send p S r5 := q_Fw.tr (q_Fw.rf S) ((fwX6_enter hp e6).up rfl)
    obtain rfl := Option.some.inj h
    exact fx7
def wlX6_raiseObject : List (Nat × Nat × Nat) := [(0, 89, 8), (0, 89, 9), (0, 90, 5), (0, 90, 6), (0, 91, 999), (0, 92, 999), (0, 93, 999), (0, 94, 999), (0, 95, 999)]
theorem fwX6_raiseObject {S : QS}  {x1 : Int32} {r : QS} (h : fX6_raiseObject S x1 = some r) : q_Fw wlX6_raiseObject 0 S r := by
  unfold fX6_raiseObject at h
  by_cases c : x1 = 0
  · rw [if_pos c] at h
    obtain ⟨r4, e5, h⟩ := q_bind h
    have fx6 : q_Fw wlX6_raiseObject 0 S r4 := q_Fw.tr (q_Fw.rf S) ((fwX6_raise e5).up rfl)
    obtain rfl := Option.some.inj h
    exact fx6
  · rw [if_neg c] at h
    obtain ⟨S1, e2, h⟩ := q_bindS h
    have fx3 : q_Fw wlX6_raiseObject 0 S S1 := e2 ▸ q_Fw.sI (i := 1) (b := 0) (k := 89) (jj := 9) (q_Fw.rf S) rfl rfl (Or.inr rfl) (Or.inl rfl)
    obtain rfl := Option.some.inj h
    exact fx3
def wlX6_write : List (Nat × Nat × Nat) := [(0, 89, 14), (0, 101, 999)]
theorem fwX6_write {S : QS}  {x1 : Int32} {r : QS} (h : fX6_write S x1 = some r) : q_Fw wlX6_write 0 S r := by
  unfold fX6_write at h
  obtain ⟨v5, hv, h⟩ := q_bind h
  have fx6 : q_Fw wlX6_write 0 S v5 := by
    replace h := hv
    by_cases c : (256 : Int32) ≤ (S.2.1 89 14)
    · rw [if_pos c] at h
      obtain rfl := Option.some.inj h
      exact q_Fw.rf _
    · rw [if_neg c] at h
      obtain ⟨hg1, h⟩ := q_guard h
      obtain ⟨S2, e3, h⟩ := q_bindS h
      have fx4 : q_Fw wlX6_write 0 S S2 := e3 ▸ q_Fw.sI (i := 1) (b := 0) (k := 101) (jj := 999) (q_Fw.rf S) rfl rfl (Or.inl rfl) (Or.inl rfl)
      obtain rfl := Option.some.inj h
      exact fx4
  obtain ⟨S7, e8, h⟩ := q_bindS h
  have fx9 : q_Fw wlX6_write 0 S S7 := e8 ▸ q_Fw.sI (i := 0) (b := 0) (k := 89) (jj := 14) (fx6) rfl rfl (Or.inr rfl) (Or.inl rfl)
  obtain rfl := Option.some.inj h
  exact fx9
def wlX6_leave : List (Nat × Nat × Nat) := [(0, 89, 7), (0, 89, 8), (0, 96, 999), (0, 97, 999), (0, 99, 999)]
theorem fwX6_leave {S : QS}  {x1 : Bool} {r : QS} (h : fX6_leave S x1 = some r) : q_Fw wlX6_leave 0 S r := by
  unfold fX6_leave at h
  by_cases c : (S.2.1 89 7) = 0
  · rw [if_pos c] at h
    obtain ⟨S11, e12, h⟩ := q_bindS h
    have fx13 : q_Fw wlX6_leave 0 S S11 := e12 ▸ q_Fw.sI (i := 1) (b := 0) (k := 89) (jj := 8) (q_Fw.rf S) rfl rfl (Or.inr rfl) (Or.inl rfl)
    obtain rfl := Option.some.inj h
    exact fx13
  · rw [if_neg c] at h
    obtain ⟨r1, e2, h⟩ := q_bind h
    obtain ⟨S3, e4, h⟩ := q_bindS h
    have fx5 : q_Fw wlX6_leave 0 S S3 := e4 ▸ q_Fw.sI (i := 0) (b := 0) (k := 89) (jj := 7) (q_Fw.rf S) rfl rfl (Or.inr rfl) (Or.inl rfl)
    by_cases c : x1 = true
    · rw [if_pos c] at h
      obtain ⟨hg6, h⟩ := q_guard h
      obtain ⟨hg7, h⟩ := q_guard h
      obtain ⟨r8, e9, h⟩ := q_bind h
      have fx10 : q_Fw wlX6_leave 0 S r8 := q_Fw.tr (fx5) ((fwX6_push e9).up rfl)
      obtain rfl := Option.some.inj h
      exact fx10
    · rw [if_neg c] at h
      obtain rfl := Option.some.inj h
      exact fx5
def wlX6_transfer : List (Nat × Nat × Nat) := [(0, 89, 7), (0, 89, 8), (0, 89, 9), (0, 89, 12), (0, 89, 14), (0, 90, 5), (0, 90, 6), (0, 91, 999), (0, 92, 999), (0, 93, 999), (0, 94, 999), (0, 95, 999), (0, 96, 999), (0, 97, 999), (0, 98, 999), (0, 99, 999), (0, 101, 999)]
theorem fwX6_transfer {S : QS} {p : Nat} {x1 : Int32} {r : QS} (hp : q_pok p) (h : fX6_transfer S p x1 = some r) : q_Fw wlX6_transfer p S r := by
  unfold fX6_transfer at h
  obtain ⟨hg1, h⟩ := q_guard h
  obtain ⟨hg2, h⟩ := q_guard h
  by_cases c3 : (S.2.1 (p + 11) x1.toNatClampNeg) = (39 : Int32)
  · rw [if_pos c3] at h
    obtain ⟨hg4, h⟩ := q_guard h
    obtain ⟨r5, e6, h⟩ := q_bind h
    have fx7 : q_Fw wlX6_transfer p S r5 := q_Fw.tr (q_Fw.rf S) ((fwX6_enter hp e6).up rfl)
    obtain rfl := Option.some.inj h
    exact fx7
  rw [if_neg c3] at h
  by_cases c8 : (S.2.1 (p + 11) x1.toNatClampNeg) = (40 : Int32)
  · rw [if_pos c8] at h
    obtain ⟨r9, e10, h⟩ := q_bind h
    obtain ⟨hg11, h⟩ := q_guard h
    obtain ⟨hg12, h⟩ := q_guard h
    obtain ⟨r13, e14, h⟩ := q_bind h
    have fx15 : q_Fw wlX6_transfer p S r13 := q_Fw.tr (q_Fw.rf S) ((fwX6_send hp e14).up rfl)
    obtain rfl := Option.some.inj h
    exact fx15
  rw [if_neg c8] at h
  by_cases c16 : (S.2.1 (p + 11) x1.toNatClampNeg) = (41 : Int32)
  · rw [if_pos c16] at h
    obtain ⟨r17, e18, h⟩ := q_bind h
    have fx19 : q_Fw wlX6_transfer p S r17.2 := q_Fw.tr (q_Fw.rf S) (((fwX6_pop e18).nov (p' := p) rfl).up rfl)
    obtain ⟨r20, e21, h⟩ := q_bind h
    have fx22 : q_Fw wlX6_transfer p S r20 := q_Fw.tr (fx19) (((fwX6_raiseObject e21).nov (p' := p) rfl).up rfl)
    obtain rfl := Option.some.inj h
    exact fx22
  rw [if_neg c16] at h
  by_cases c23 : (S.2.1 (p + 11) x1.toNatClampNeg) = (44 : Int32)
  · rw [if_pos c23] at h
    obtain ⟨v25, hv, h⟩ := q_bind h
    obtain ⟨r26, e27, h⟩ := q_bind h
    have fx28 : q_Fw wlX6_transfer p S r26 := q_Fw.tr (q_Fw.rf S) (((fwX6_pushInt e27).nov (p' := p) rfl).up rfl)
    obtain ⟨S29, e30, h⟩ := q_bindS h
    have fx31 : q_Fw wlX6_transfer p S S29 := e30 ▸ q_Fw.sI (i := 3) (b := 0) (k := 89) (jj := 12) (fx28) rfl rfl (Or.inr rfl) (Or.inl rfl)
    obtain rfl := Option.some.inj h
    exact fx31
  rw [if_neg c23] at h
  by_cases c32 : (S.2.1 (p + 11) x1.toNatClampNeg) = (45 : Int32)
  · rw [if_pos c32] at h
    obtain ⟨r33, e34, h⟩ := q_bind h
    have fx35 : q_Fw wlX6_transfer p S r33.2 := q_Fw.tr (q_Fw.rf S) (((fwX6_pop e34).nov (p' := p) rfl).up rfl)
    obtain ⟨r36, e37, h⟩ := q_bind h
    have fx38 : q_Fw wlX6_transfer p S r36 := q_Fw.tr (fx35) (((fwX6_write e37).nov (p' := p) rfl).up rfl)
    obtain rfl := Option.some.inj h
    exact fx38
  rw [if_neg c32] at h
  obtain ⟨hg39, h⟩ := q_guard h
  by_cases c : (S.2.1 (p + 11) x1.toNatClampNeg) = (42 : Int32)
  · rw [if_pos c] at h
    obtain ⟨r43, e44, h⟩ := q_bind h
    have fx45 : q_Fw wlX6_transfer p S r43 := q_Fw.tr (q_Fw.rf S) (((fwX6_leave e44).nov (p' := p) rfl).up rfl)
    obtain rfl := Option.some.inj h
    exact fx45
  · rw [if_neg c] at h
    obtain ⟨r40, e41, h⟩ := q_bind h
    have fx42 : q_Fw wlX6_transfer p S r40 := q_Fw.tr (q_Fw.rf S) (((fwX6_leave e41).nov (p' := p) rfl).up rfl)
    obtain rfl := Option.some.inj h
    exact fx42
def wlX6_step : List (Nat × Nat × Nat) := [(0, 89, 7), (0, 89, 8), (0, 89, 9), (0, 89, 12), (0, 89, 14), (0, 89, 16), (0, 89, 18), (0, 90, 5), (0, 90, 6), (0, 91, 999), (0, 92, 999), (0, 93, 999), (0, 94, 999), (0, 95, 999), (0, 96, 999), (0, 97, 999), (0, 98, 999), (0, 99, 999), (0, 101, 999)]
theorem fwX6_step {S : QS} {p : Nat}  {r : QS} (hp : q_pok p) (h : fX6_step S p = some r) : q_Fw wlX6_step p S r := by
  unfold fX6_step at h
  obtain ⟨hg1, h⟩ := q_guard h
  obtain ⟨S2, e3, h⟩ := q_bindS h
  have fx4 : q_Fw wlX6_step p S S2 := e3 ▸ q_Fw.sI (i := 5) (b := 0) (k := 89) (jj := 16) (q_Fw.rf S) rfl rfl (Or.inr rfl) (Or.inl rfl)
  obtain ⟨r5, e6, h⟩ := q_bind h
  by_cases c : r5 = true
  · rw [if_pos c] at h
    obtain ⟨S33, e34, h⟩ := q_bindS h
    have fx35 : q_Fw wlX6_step p S S33 := e34 ▸ q_Fw.sI (i := 6) (b := 0) (k := 89) (jj := 18) (fx4) rfl rfl (Or.inr rfl) (Or.inl rfl)
    obtain rfl := Option.some.inj h
    exact fx35
  · rw [if_neg c] at h
    obtain ⟨hg7, h⟩ := q_guard h
    obtain ⟨S8, e9, h⟩ := q_bindS h
    have fx10 : q_Fw wlX6_step p S S8 := e9 ▸ q_Fw.sI (i := 16) (b := 0) (k := 98) (jj := 999) (fx4) rfl rfl (Or.inl rfl) (Or.inl rfl)
    obtain ⟨hg11, h⟩ := q_guard h
    by_cases c : (7 : Int32) < (S8.2.1 (p + 11) (S.2.1 98 (S.2.1 89 7).toNatClampNeg).toNatClampNeg)
    · rw [if_pos c] at h
      by_cases c : (18 : Int32) < (S8.2.1 (p + 11) (S.2.1 98 (S.2.1 89 7).toNatClampNeg).toNatClampNeg)
      · rw [if_pos c] at h
        by_cases c : (29 : Int32) < (S8.2.1 (p + 11) (S.2.1 98 (S.2.1 89 7).toNatClampNeg).toNatClampNeg)
        · rw [if_pos c] at h
          by_cases c : (34 : Int32) < (S8.2.1 (p + 11) (S.2.1 98 (S.2.1 89 7).toNatClampNeg).toNatClampNeg)
          · rw [if_pos c] at h
            by_cases c : (38 : Int32) < (S8.2.1 (p + 11) (S.2.1 98 (S.2.1 89 7).toNatClampNeg).toNatClampNeg)
            · rw [if_pos c] at h
              obtain ⟨r12, e13, h⟩ := q_bind h
              have fx14 : q_Fw wlX6_step p S r12 := q_Fw.tr (fx10) ((fwX6_transfer hp e13).up rfl)
              obtain rfl := Option.some.inj h
              exact fx14
            · rw [if_neg c] at h
              obtain ⟨r15, e16, h⟩ := q_bind h
              have fx17 : q_Fw wlX6_step p S r15 := q_Fw.tr (fx10) ((fwX6_useObject hp e16).up rfl)
              obtain rfl := Option.some.inj h
              exact fx17
          · rw [if_neg c] at h
            obtain ⟨r18, e19, h⟩ := q_bind h
            have fx20 : q_Fw wlX6_step p S r18 := q_Fw.tr (fx10) ((fwX6_useArray hp e19).up rfl)
            obtain rfl := Option.some.inj h
            exact fx20
        · rw [if_neg c] at h
          obtain ⟨hg21, h⟩ := q_guard h
          obtain ⟨r22, e23, h⟩ := q_bind h
          have fx24 : q_Fw wlX6_step p S r22 := q_Fw.tr (fx10) (((fwX6_decide e23).nov (p' := p) rfl).up rfl)
          obtain rfl := Option.some.inj h
          exact fx24
      · rw [if_neg c] at h
        obtain ⟨r25, e26, h⟩ := q_bind h
        have fx27 : q_Fw wlX6_step p S r25 := q_Fw.tr (fx10) (((fwX6_calculate e26).nov (p' := p) rfl).up rfl)
        obtain rfl := Option.some.inj h
        exact fx27
    · rw [if_neg c] at h
      obtain ⟨hg28, h⟩ := q_guard h
      obtain ⟨hg29, h⟩ := q_guard h
      obtain ⟨r30, e31, h⟩ := q_bind h
      have fx32 : q_Fw wlX6_step p S r30 := q_Fw.tr (fx10) (((fwX6_move e31).nov (p' := p) rfl).up rfl)
      obtain rfl := Option.some.inj h
      exact fx32
def wlX6_passUp : List (Nat × Nat × Nat) := [(0, 89, 7), (0, 89, 8), (0, 89, 9), (0, 89, 17), (0, 96, 999), (0, 97, 999), (0, 98, 999), (0, 99, 999)]
theorem fwtX6_passUp_20 {p : Nat} {y1 : Int32} {x : Int32 × Int32 × QS} {z : (QS) ⊕ (Int32 × Int32 × QS)} (hp : q_pok p) (h : tX6_passUp_20 p y1 x = some z) : q_Fw wlX6_passUp p ((fun x : Int32 × Int32 × QS => x.2.2) x) ((Sum.elim (fun r : QS => r) (fun x : Int32 × Int32 × QS => x.2.2)) z) := by
  unfold tX6_passUp_20 at h
  show q_Fw wlX6_passUp p x.2.2 _
  by_cases c : x.2.1 < 0
  · rw [if_pos c] at h
    obtain ⟨S1, e2, h⟩ := q_bindS h
    have fx3 : q_Fw wlX6_passUp p x.2.2 S1 := e2 ▸ q_Fw.sI (i := 1) (b := 0) (k := 89) (jj := 8) (q_Fw.rf x.2.2) rfl rfl (Or.inr rfl) (Or.inl rfl)
    obtain ⟨hg4, h⟩ := q_guard h
    obtain ⟨S5, e6, h⟩ := q_bindS h
    have fx7 : q_Fw wlX6_passUp p x.2.2 S5 := e6 ▸ q_Fw.sI (i := 3) (b := 0) (k := 89) (jj := 17) (fx3) rfl rfl (Or.inr rfl) (Or.inl rfl)
    cases h
    exact fx7
  · rw [if_neg c] at h
    obtain ⟨hg8, h⟩ := q_guard h
    obtain ⟨r9, e10, h⟩ := q_bind h
    by_cases c : r9 = (-1 : Int32)
    · rw [if_pos c] at h
      by_cases c : x.2.1 ≤ 0
      · rw [if_pos c] at h
        cases h
        exact q_Fw.rf _
      · rw [if_neg c] at h
        obtain ⟨hg11, h⟩ := q_guard h
        cases h
        exact q_Fw.rf _
    · rw [if_neg c] at h
      obtain ⟨S12, e13, h⟩ := q_bindS h
      have fx14 : q_Fw wlX6_passUp p x.2.2 S12 := e13 ▸ q_Fw.sI (i := 0) (b := 0) (k := 89) (jj := 7) (q_Fw.rf x.2.2) rfl rfl (Or.inr rfl) (Or.inl rfl)
      obtain ⟨hg15, h⟩ := q_guard h
      obtain ⟨S16, e17, h⟩ := q_bindS h
      have fx18 : q_Fw wlX6_passUp p x.2.2 S16 := e17 ▸ q_Fw.sI (i := 7) (b := 0) (k := 99) (jj := 999) (fx14) rfl rfl (Or.inl rfl) (Or.inl rfl)
      obtain ⟨hg19, h⟩ := q_guard h
      obtain ⟨S20, e21, h⟩ := q_bindS h
      have fx22 : q_Fw wlX6_passUp p x.2.2 S20 := e21 ▸ q_Fw.sI (i := 6) (b := 0) (k := 98) (jj := 999) (fx18) rfl rfl (Or.inl rfl) (Or.inl rfl)
      obtain ⟨r23, e24, h⟩ := q_bind h
      have fx25 : q_Fw wlX6_passUp p x.2.2 r23 := q_Fw.tr (fx22) (((fwX6_pushObject e24).nov (p' := p) rfl).up rfl)
      cases h
      exact fx25
theorem fwX6_passUp_20 {S : QS} {p : Nat} {y1 : Int32} {y2 : Int32} {y3 : Int32} {r : QS} (hp : q_pok p) (h : fX6_passUp_20 S p y1 y2 y3 = some r) : q_Fw wlX6_passUp p S ((fun r : QS => r) r) := q_run_fw (fun x : Int32 × Int32 × QS => x.2.2) (fun r : QS => r) (fun _ _ hz => fwtX6_passUp_20 hp hz) h
theorem fwX6_passUp {S : QS} {p : Nat}  {r : QS} (hp : q_pok p) (h : fX6_passUp S p = some r) : q_Fw wlX6_passUp p S r := by
  unfold fX6_passUp at h
  obtain ⟨S26, e27, h⟩ := q_bindS h
  have fx28 : q_Fw wlX6_passUp p S S26 := e27 ▸ q_Fw.sI (i := 2) (b := 0) (k := 89) (jj := 9) (q_Fw.rf S) rfl rfl (Or.inr rfl) (Or.inl rfl)
  exact (fx28).tr (fwX6_passUp_20 hp h)
def wlX10_feed : List (Nat × Nat × Nat) := [(0, 0, 1), (0, 0, 2), (0, 1, 999)]
theorem fwX10_feed {S : QS}  {x1 : Int32} {x2 : Int32} {x3 : Int32} {x4 : Int32} {x5 : Int32} {r : Int32 × QS} (h : fX10_feed S x1 x2 x3 x4 x5 = some r) : q_Fw wlX10_feed 0 S r.2 := by
  unfold fX10_feed at h
  by_cases c : (15980 : Int32) < (S.2.1 0 1)
  · rw [if_pos c] at h
    obtain rfl := Option.some.inj h
    exact q_Fw.rf _
  · rw [if_neg c] at h
    by_cases c : (S.2.1 0 2) ≤ (65516 : Int32)
    · rw [if_pos c] at h
      obtain ⟨hg1, h⟩ := q_guard h
      obtain ⟨S2, e3, h⟩ := q_bindS h
      have fx4 : q_Fw wlX10_feed 0 S S2 := e3 ▸ q_Fw.sI (i := 2) (b := 0) (k := 1) (jj := 999) (q_Fw.rf S) rfl rfl (Or.inl rfl) (Or.inl rfl)
      obtain ⟨hg5, h⟩ := q_guard h
      obtain ⟨S6, e7, h⟩ := q_bindS h
      have fx8 : q_Fw wlX10_feed 0 S S6 := e7 ▸ q_Fw.sI (i := 2) (b := 0) (k := 1) (jj := 999) (fx4) rfl rfl (Or.inl rfl) (Or.inl rfl)
      obtain ⟨hg9, h⟩ := q_guard h
      obtain ⟨S10, e11, h⟩ := q_bindS h
      have fx12 : q_Fw wlX10_feed 0 S S10 := e11 ▸ q_Fw.sI (i := 2) (b := 0) (k := 1) (jj := 999) (fx8) rfl rfl (Or.inl rfl) (Or.inl rfl)
      obtain ⟨hg13, h⟩ := q_guard h
      obtain ⟨S14, e15, h⟩ := q_bindS h
      have fx16 : q_Fw wlX10_feed 0 S S14 := e15 ▸ q_Fw.sI (i := 2) (b := 0) (k := 1) (jj := 999) (fx12) rfl rfl (Or.inl rfl) (Or.inl rfl)
      obtain ⟨hg17, h⟩ := q_guard h
      obtain ⟨S18, e19, h⟩ := q_bindS h
      have fx20 : q_Fw wlX10_feed 0 S S18 := e19 ▸ q_Fw.sI (i := 2) (b := 0) (k := 1) (jj := 999) (fx16) rfl rfl (Or.inl rfl) (Or.inl rfl)
      obtain ⟨S21, e22, h⟩ := q_bindS h
      have fx23 : q_Fw wlX10_feed 0 S S21 := e22 ▸ q_Fw.sI (i := 0) (b := 0) (k := 0) (jj := 1) (fx20) rfl rfl (Or.inr rfl) (Or.inl rfl)
      obtain ⟨S24, e25, h⟩ := q_bindS h
      have fx26 : q_Fw wlX10_feed 0 S S24 := e25 ▸ q_Fw.sI (i := 1) (b := 0) (k := 0) (jj := 2) (fx23) rfl rfl (Or.inr rfl) (Or.inl rfl)
      obtain rfl := Option.some.inj h
      exact fx26
    · rw [if_neg c] at h
      obtain rfl := Option.some.inj h
      exact q_Fw.rf _
def wlX10_end : List (Nat × Nat × Nat) := [(0, 0, 1), (0, 2, 1), (0, 3, 999)]
theorem fwX10_end {S : QS}  {x1 : Int32} {r : Bool × QS} (h : fX10_end S x1 = some r) : q_Fw wlX10_end 0 S r.2 := by
  unfold fX10_end at h
  by_cases c : x1 < 0
  · rw [if_pos c] at h
    obtain rfl := Option.some.inj h
    exact q_Fw.rf _
  · rw [if_neg c] at h
    by_cases c : x1 ≤ (S.2.1 0 1)
    · rw [if_pos c] at h
      obtain ⟨r1, e2, h⟩ := q_bind h
      have fx3 : q_Fw wlX10_end 0 S r1 := q_Fw.tr (q_Fw.rf S) ((fwX8_take e2).up rfl)
      obtain ⟨S4, e5, h⟩ := q_bindS h
      have fx6 : q_Fw wlX10_end 0 S S4 := e5 ▸ q_Fw.sI (i := 0) (b := 0) (k := 0) (jj := 1) (fx3) rfl rfl (Or.inr rfl) (Or.inl rfl)
      obtain rfl := Option.some.inj h
      exact fx6
    · rw [if_neg c] at h
      obtain rfl := Option.some.inj h
      exact q_Fw.rf _
def wlX10_input : List (Nat × Nat × Nat) := [(0, 89, 11), (0, 100, 999)]
theorem fwX10_input {S : QS}  {x1 : Int32} {r : Bool × QS} (h : fX10_input S x1 = some r) : q_Fw wlX10_input 0 S r.2 := by
  unfold fX10_input at h
  obtain ⟨r1, e2, h⟩ := q_bind h
  have fx3 : q_Fw wlX10_input 0 S r1.2 := q_Fw.tr (q_Fw.rf S) ((fwX6_addInput e2).up rfl)
  obtain rfl := Option.some.inj h
  exact fx3
def wlX12_word : List (Nat × Nat × Nat) := [(0, 102, 4), (0, 159, 999)]
theorem fwtX12_word_2  {y1 : Int32} {x : Int32 × QS} {z : (QS) ⊕ (Int32 × QS)} (h : tX12_word_2 y1 x = some z) : q_Fw wlX12_word 0 ((fun x : Int32 × QS => x.2) x) ((Sum.elim (fun r : QS => r) (fun x : Int32 × QS => x.2)) z) := by
  unfold tX12_word_2 at h
  show q_Fw wlX12_word 0 x.2 _
  by_cases c : x.1 < 0
  · rw [if_pos c] at h
    cases h
    exact q_Fw.rf _
  · rw [if_neg c] at h
    obtain ⟨hg1, h⟩ := q_guard h
    obtain ⟨S2, e3, h⟩ := q_bindS h
    have fx4 : q_Fw wlX12_word 0 x.2 S2 := e3 ▸ q_Fw.sI (i := 1) (b := 0) (k := 159) (jj := 999) (q_Fw.rf x.2) rfl rfl (Or.inl rfl) (Or.inr (q_narB _))
    obtain ⟨S5, e6, h⟩ := q_bindS h
    have fx7 : q_Fw wlX12_word 0 x.2 S5 := e6 ▸ q_Fw.sI (i := 0) (b := 0) (k := 102) (jj := 4) (fx4) rfl rfl (Or.inr rfl) (Or.inl rfl)
    cases h
    exact fx7
theorem fwX12_word_2 {S : QS}  {y1 : Int32} {y2 : Int32} {r : QS} (h : fX12_word_2 S y1 y2 = some r) : q_Fw wlX12_word 0 S ((fun r : QS => r) r) := q_run_fw (fun x : Int32 × QS => x.2) (fun r : QS => r) (fun _ _ hz => fwtX12_word_2 hz) h
theorem fwX12_word {S : QS}  {x1 : Int32} {r : QS} (h : fX12_word S x1 = some r) : q_Fw wlX12_word 0 S r := by
  unfold fX12_word at h
  exact (q_Fw.rf _).tr (fwX12_word_2 h)
