/-! ===== only numbers change ===== -/
theorem fxtJ7_fill_53178_5 {a0 : Nat} {n0 : Nat} {y1 : Int32} {y3 : Int32} {x : Int32 × QS} {z : (QS) ⊕ (Int32 × QS)} (h : tJ7_fill_53178_5 a0 n0 y1 y3 x = some z) : q_Fx ((fun x : Int32 × QS => x.2) x) ((Sum.elim (fun r : QS => r) (fun x : Int32 × QS => x.2)) z) := by
  unfold tJ7_fill_53178_5 at h
  show q_Fx x.2 _
  by_cases c : y3 ≤ x.1
  · rw [if_pos c] at h
    cases h
    exact q_Fx.rf _
  · rw [if_neg c] at h
    obtain ⟨hg1, h⟩ := q_guard h
    obtain ⟨S2, e3, h⟩ := q_bindS h
    have fx4 : q_Fx x.2 S2 := e3 ▸ q_Fx.sI (q_Fx.rf x.2)
    cases h
    exact fx4
theorem fxJ7_fill_53178_5 {S : QS} {a0 : Nat} {n0 : Nat} {y1 : Int32} {y2 : Int32} {y3 : Int32} {r : QS} (h : fJ7_fill_53178_5 S a0 n0 y1 y2 y3 = some r) : q_Fx S ((fun r : QS => r) r) := q_run_fx (fun x : Int32 × QS => x.2) (fun r : QS => r) (fun _ _ hz => fxtJ7_fill_53178_5 hz) h
theorem fxJ7_fill_53178 {S : QS}  {a0 : Nat} {n0 : Nat} {x1 : Int32} {r : QS} (h : fJ7_fill_53178 S a0 n0 x1 = some r) : q_Fx S r := by
  unfold fJ7_fill_53178 at h
  exact (q_Fx.rf _).tr (fxJ7_fill_53178_5 h)
theorem fxtJ7_fill_fda19_10 {a0 : Nat} {n0 : Nat} {y2 : Int32} {y3 : Int32} {x : Int32 × QS} {z : (QS) ⊕ (Int32 × QS)} (h : tJ7_fill_fda19_10 a0 n0 y2 y3 x = some z) : q_Fx ((fun x : Int32 × QS => x.2) x) ((Sum.elim (fun r : QS => r) (fun x : Int32 × QS => x.2)) z) := by
  unfold tJ7_fill_fda19_10 at h
  show q_Fx x.2 _
  by_cases c : y2 ≤ x.1
  · rw [if_pos c] at h
    cases h
    exact q_Fx.rf _
  · rw [if_neg c] at h
    obtain ⟨hg1, h⟩ := q_guard h
    obtain ⟨S2, e3, h⟩ := q_bindS h
    have fx4 : q_Fx x.2 S2 := e3 ▸ q_Fx.sI (q_Fx.rf x.2)
    cases h
    exact fx4
theorem fxJ7_fill_fda19_10 {S : QS} {a0 : Nat} {n0 : Nat} {y2 : Int32} {y3 : Int32} {y4 : Int32} {r : QS} (h : fJ7_fill_fda19_10 S a0 n0 y2 y3 y4 = some r) : q_Fx S ((fun r : QS => r) r) := q_run_fx (fun x : Int32 × QS => x.2) (fun r : QS => r) (fun _ _ hz => fxtJ7_fill_fda19_10 hz) h
theorem fxJ7_fill_fda19 {S : QS}  {a0 : Nat} {n0 : Nat} {x1 : Int32} {x2 : Int32} {x3 : Int32} {r : QS} (h : fJ7_fill_fda19 S a0 n0 x1 x2 x3 = some r) : q_Fx S r := by
  unfold fJ7_fill_fda19 at h
  obtain ⟨r5, e6, h⟩ := q_bind h
  exact (q_Fx.rf _).tr (fxJ7_fill_fda19_10 h)
theorem fxtJ7_fill_eb02e_10 {a0 : Nat} {n0 : Nat} {y2 : Int32} {y3 : Int32} {x : Int32 × QS} {z : (QS) ⊕ (Int32 × QS)} (h : tJ7_fill_eb02e_10 a0 n0 y2 y3 x = some z) : q_Fx ((fun x : Int32 × QS => x.2) x) ((Sum.elim (fun r : QS => r) (fun x : Int32 × QS => x.2)) z) := by
  unfold tJ7_fill_eb02e_10 at h
  show q_Fx x.2 _
  by_cases c : y2 ≤ x.1
  · rw [if_pos c] at h
    cases h
    exact q_Fx.rf _
  · rw [if_neg c] at h
    obtain ⟨hg1, h⟩ := q_guard h
    obtain ⟨S2, e3, h⟩ := q_bindS h
    have fx4 : q_Fx x.2 S2 := e3 ▸ q_Fx.sI (q_Fx.rf x.2)
    cases h
    exact fx4
theorem fxJ7_fill_eb02e_10 {S : QS} {a0 : Nat} {n0 : Nat} {y2 : Int32} {y3 : Int32} {y4 : Int32} {r : QS} (h : fJ7_fill_eb02e_10 S a0 n0 y2 y3 y4 = some r) : q_Fx S ((fun r : QS => r) r) := q_run_fx (fun x : Int32 × QS => x.2) (fun r : QS => r) (fun _ _ hz => fxtJ7_fill_eb02e_10 hz) h
theorem fxJ7_fill_eb02e {S : QS}  {a0 : Nat} {n0 : Nat} {x1 : Int32} {x2 : Int32} {x3 : Int32} {r : QS} (h : fJ7_fill_eb02e S a0 n0 x1 x2 x3 = some r) : q_Fx S r := by
  unfold fJ7_fill_eb02e at h
  obtain ⟨r5, e6, h⟩ := q_bind h
  exact (q_Fx.rf _).tr (fxJ7_fill_eb02e_10 h)

theorem fxX0_addClass {S : QS} {p : Nat} {x1 : Int32} {x2 : Int32} {r : QS} (h : fX0_addClass S p x1 x2 = some r) : q_Fx S r := by
  unfold fX0_addClass at h
  by_cases c : (32 : Int32) ≤ (S.2.1 (p + 1) 0)
  · rw [if_pos c] at h
    obtain rfl := Option.some.inj h
    exact q_Fx.rf _
  · rw [if_neg c] at h
    obtain ⟨hg1, h⟩ := q_guard h
    obtain ⟨S2, e3, h⟩ := q_bindS h
    have fx4 : q_Fx S S2 := e3 ▸ q_Fx.sI (q_Fx.rf S)
    obtain ⟨hg5, h⟩ := q_guard h
    obtain ⟨S6, e7, h⟩ := q_bindS h
    have fx8 : q_Fx S S6 := e7 ▸ q_Fx.sI (fx4)
    obtain ⟨v10, hv, h⟩ := q_bind h
    obtain ⟨hg11, h⟩ := q_guard h
    obtain ⟨S12, e13, h⟩ := q_bindS h
    have fx14 : q_Fx S S12 := e13 ▸ q_Fx.sI (fx8)
    obtain ⟨hg15, h⟩ := q_guard h
    obtain ⟨S16, e17, h⟩ := q_bindS h
    have fx18 : q_Fx S S16 := e17 ▸ q_Fx.sI (fx14)
    obtain ⟨S19, e20, h⟩ := q_bindS h
    have fx21 : q_Fx S S19 := e20 ▸ q_Fx.sI (fx18)
    obtain rfl := Option.some.inj h
    exact fx21
theorem fxtX0_begin_24 {p : Nat}  {x : Int32 × QS} {z : (QS) ⊕ (Int32 × QS)} (h : tX0_begin_24 p x = some z) : q_Fx ((fun x : Int32 × QS => x.2) x) ((Sum.elim (fun r : QS => r) (fun x : Int32 × QS => x.2)) z) := by
  unfold tX0_begin_24 at h
  show q_Fx x.2 _
  by_cases c : (8 : Int32) ≤ x.1
  · rw [if_pos c] at h
    cases h
    exact q_Fx.rf _
  · rw [if_neg c] at h
    obtain ⟨r1, e2, h⟩ := q_bind h
    have fx3 : q_Fx x.2 r1 := q_Fx.tr (q_Fx.rf x.2) (fxX0_addClass e2)
    cases h
    exact fx3
theorem fxX0_begin_24 {S : QS} {p : Nat} {y1 : Int32} {r : QS} (h : fX0_begin_24 S p y1 = some r) : q_Fx S ((fun r : QS => r) r) := q_run_fx (fun x : Int32 × QS => x.2) (fun r : QS => r) (fun _ _ hz => fxtX0_begin_24 hz) h
theorem fxX0_begin {S : QS} {p : Nat}  {r : QS} (h : fX0_begin S p = some r) : q_Fx S r := by
  unfold fX0_begin at h
  obtain ⟨S4, e5, h⟩ := q_bindS h
  have fx6 : q_Fx S S4 := e5 ▸ q_Fx.sI (q_Fx.rf S)
  obtain ⟨S7, e8, h⟩ := q_bindS h
  have fx9 : q_Fx S S7 := e8 ▸ q_Fx.sI (fx6)
  obtain ⟨r10, e11, h⟩ := q_bind h
  have fx12 : q_Fx S r10 := q_Fx.tr (fx9) (fxX0_addClass e11)
  obtain ⟨r13, e14, h⟩ := q_bind h
  have fx15 : q_Fx S r13 := q_Fx.tr (fx12) (fxX0_addClass e14)
  exact (fx15).tr (fxX0_begin_24 h)
theorem fxX0_addField {S : QS} {p : Nat} {x1 : Int32} {x2 : Int32} {x3 : Int32} {r : QS} (h : fX0_addField S p x1 x2 x3 = some r) : q_Fx S r := by
  unfold fX0_addField at h
  by_cases c : (48 : Int32) ≤ (S.2.1 (p + 1) 5)
  · rw [if_pos c] at h
    obtain rfl := Option.some.inj h
    exact q_Fx.rf _
  · rw [if_neg c] at h
    obtain ⟨r1, e2, h⟩ := q_bind h
    by_cases c : r1 = true
    · rw [if_pos c] at h
      obtain ⟨hg3, h⟩ := q_guard h
      obtain ⟨S4, e5, h⟩ := q_bindS h
      have fx6 : q_Fx S S4 := e5 ▸ q_Fx.sI (q_Fx.rf S)
      obtain ⟨hg7, h⟩ := q_guard h
      obtain ⟨S8, e9, h⟩ := q_bindS h
      have fx10 : q_Fx S S8 := e9 ▸ q_Fx.sI (fx6)
      obtain ⟨hg11, h⟩ := q_guard h
      obtain ⟨S12, e13, h⟩ := q_bindS h
      have fx14 : q_Fx S S12 := e13 ▸ q_Fx.sI (fx10)
      obtain ⟨hg15, h⟩ := q_guard h
      obtain ⟨hg16, h⟩ := q_guard h
      obtain ⟨S17, e18, h⟩ := q_bindS h
      have fx19 : q_Fx S S17 := e18 ▸ q_Fx.sI (fx14)
      obtain ⟨hg20, h⟩ := q_guard h
      obtain ⟨hg21, h⟩ := q_guard h
      obtain ⟨S22, e23, h⟩ := q_bindS h
      have fx24 : q_Fx S S22 := e23 ▸ q_Fx.sI (fx19)
      obtain ⟨S25, e26, h⟩ := q_bindS h
      have fx27 : q_Fx S S25 := e26 ▸ q_Fx.sI (fx24)
      obtain rfl := Option.some.inj h
      exact fx27
    · rw [if_neg c] at h
      obtain rfl := Option.some.inj h
      exact q_Fx.rf _
theorem fxX1_begin {S : QS} {p : Nat}  {r : QS} (h : fX1_begin S p = some r) : q_Fx S r := by
  unfold fX1_begin at h
  obtain ⟨S1, e2, h⟩ := q_bindS h
  have fx3 : q_Fx S S1 := e2 ▸ q_Fx.sI (q_Fx.rf S)
  obtain ⟨S4, e5, h⟩ := q_bindS h
  have fx6 : q_Fx S S4 := e5 ▸ q_Fx.sI (fx3)
  obtain ⟨S7, e8, h⟩ := q_bindS h
  have fx9 : q_Fx S S7 := e8 ▸ q_Fx.sI (fx6)
  obtain rfl := Option.some.inj h
  exact fx9
theorem fxX1_addInstruction {S : QS} {p : Nat} {x1 : Int32} {x2 : Int32} {x3 : Int32} {r : QS} (h : fX1_addInstruction S p x1 x2 x3 = some r) : q_Fx S r := by
  unfold fX1_addInstruction at h
  by_cases c : (1024 : Int32) ≤ (S.2.1 (p + 10) 0)
  · rw [if_pos c] at h
    obtain rfl := Option.some.inj h
    exact q_Fx.rf _
  · rw [if_neg c] at h
    obtain ⟨hg1, h⟩ := q_guard h
    obtain ⟨S2, e3, h⟩ := q_bindS h
    have fx4 : q_Fx S S2 := e3 ▸ q_Fx.sI (q_Fx.rf S)
    obtain ⟨hg5, h⟩ := q_guard h
    obtain ⟨S6, e7, h⟩ := q_bindS h
    have fx8 : q_Fx S S6 := e7 ▸ q_Fx.sI (fx4)
    obtain ⟨hg9, h⟩ := q_guard h
    obtain ⟨S10, e11, h⟩ := q_bindS h
    have fx12 : q_Fx S S10 := e11 ▸ q_Fx.sI (fx8)
    obtain ⟨hg13, h⟩ := q_guard h
    obtain ⟨S14, e15, h⟩ := q_bindS h
    have fx16 : q_Fx S S14 := e15 ▸ q_Fx.sI (fx12)
    obtain ⟨hg17, h⟩ := q_guard h
    obtain ⟨S18, e19, h⟩ := q_bindS h
    have fx20 : q_Fx S S18 := e19 ▸ q_Fx.sI (fx16)
    obtain ⟨hg21, h⟩ := q_guard h
    obtain ⟨S22, e23, h⟩ := q_bindS h
    have fx24 : q_Fx S S22 := e23 ▸ q_Fx.sI (fx20)
    obtain ⟨hg25, h⟩ := q_guard h
    obtain ⟨S26, e27, h⟩ := q_bindS h
    have fx28 : q_Fx S S26 := e27 ▸ q_Fx.sI (fx24)
    obtain ⟨r29, e30, h⟩ := q_bind h
    obtain ⟨v31, hv, h⟩ := q_bind h
    obtain ⟨S32, e33, h⟩ := q_bindS h
    have fx34 : q_Fx S S32 := e33 ▸ q_Fx.sI (fx28)
    obtain ⟨S35, e36, h⟩ := q_bindS h
    have fx37 : q_Fx S S35 := e36 ▸ q_Fx.sI (fx34)
    obtain rfl := Option.some.inj h
    exact fx37
theorem fxX1_addCatch {S : QS} {p : Nat} {x1 : Int32} {x2 : Int32} {x3 : Int32} {x4 : Int32} {r : QS} (h : fX1_addCatch S p x1 x2 x3 x4 = some r) : q_Fx S r := by
  unfold fX1_addCatch at h
  by_cases c : (64 : Int32) ≤ (S.2.1 (p + 10) 9)
  · rw [if_pos c] at h
    obtain rfl := Option.some.inj h
    exact q_Fx.rf _
  · rw [if_neg c] at h
    obtain ⟨hg1, h⟩ := q_guard h
    obtain ⟨S2, e3, h⟩ := q_bindS h
    have fx4 : q_Fx S S2 := e3 ▸ q_Fx.sI (q_Fx.rf S)
    obtain ⟨hg5, h⟩ := q_guard h
    obtain ⟨S6, e7, h⟩ := q_bindS h
    have fx8 : q_Fx S S6 := e7 ▸ q_Fx.sI (fx4)
    obtain ⟨hg9, h⟩ := q_guard h
    obtain ⟨S10, e11, h⟩ := q_bindS h
    have fx12 : q_Fx S S10 := e11 ▸ q_Fx.sI (fx8)
    obtain ⟨hg13, h⟩ := q_guard h
    obtain ⟨S14, e15, h⟩ := q_bindS h
    have fx16 : q_Fx S S14 := e15 ▸ q_Fx.sI (fx12)
    obtain ⟨S17, e18, h⟩ := q_bindS h
    have fx19 : q_Fx S S17 := e18 ▸ q_Fx.sI (fx16)
    obtain rfl := Option.some.inj h
    exact fx19
theorem fxX2_begin {S : QS}   {r : QS} (h : fX2_begin S = some r) : q_Fx S r := by
  unfold fX2_begin at h
  obtain ⟨S1, e2, h⟩ := q_bindS h
  have fx3 : q_Fx S S1 := e2 ▸ q_Fx.sI (q_Fx.rf S)
  obtain ⟨S4, e5, h⟩ := q_bindS h
  have fx6 : q_Fx S S4 := e5 ▸ q_Fx.sI (fx3)
  obtain ⟨hg7, h⟩ := q_guard h
  obtain ⟨S8, e9, h⟩ := q_bindS h
  have fx10 : q_Fx S S8 := e9 ▸ q_Fx.sI (fx6)
  obtain rfl := Option.some.inj h
  exact fx10
theorem fxX2_make {S : QS}  {x1 : Int32} {x2 : Int32} {x3 : Int32} {r : Int32 × QS} (h : fX2_make S x1 x2 x3 = some r) : q_Fx S r.2 := by
  unfold fX2_make at h
  by_cases c : (S.2.1 90 5) = (2000 : Int32)
  · rw [if_pos c] at h
    obtain rfl := Option.some.inj h
    exact q_Fx.rf _
  · rw [if_neg c] at h
    by_cases c : x2 < 0
    · rw [if_pos c] at h
      obtain rfl := Option.some.inj h
      exact q_Fx.rf _
    · rw [if_neg c] at h
      by_cases c : x2 ≤ ((12000 : Int32) - (S.2.1 90 6))
      · rw [if_pos c] at h
        obtain ⟨S1, e2, h⟩ := q_bindS h
        have fx3 : q_Fx S S1 := e2 ▸ q_Fx.sI (q_Fx.rf S)
        obtain ⟨hg4, h⟩ := q_guard h
        obtain ⟨S5, e6, h⟩ := q_bindS h
        have fx7 : q_Fx S S5 := e6 ▸ q_Fx.sI (fx3)
        obtain ⟨hg8, h⟩ := q_guard h
        obtain ⟨S9, e10, h⟩ := q_bindS h
        have fx11 : q_Fx S S9 := e10 ▸ q_Fx.sI (fx7)
        obtain ⟨hg12, h⟩ := q_guard h
        obtain ⟨S13, e14, h⟩ := q_bindS h
        have fx15 : q_Fx S S13 := e14 ▸ q_Fx.sI (fx11)
        obtain ⟨hg16, h⟩ := q_guard h
        obtain ⟨S17, e18, h⟩ := q_bindS h
        have fx19 : q_Fx S S17 := e18 ▸ q_Fx.sI (fx15)
        obtain ⟨r20, e21, h⟩ := q_bind h
        have fx22 : q_Fx S r20 := q_Fx.tr (fx19) (fxJ7_fill_fda19 e21)
        obtain ⟨S23, e24, h⟩ := q_bindS h
        have fx25 : q_Fx S S23 := e24 ▸ q_Fx.sI (fx22)
        obtain rfl := Option.some.inj h
        exact fx25
      · rw [if_neg c] at h
        obtain rfl := Option.some.inj h
        exact q_Fx.rf _
theorem fxX2_setCell {S : QS}  {x1 : Int32} {x2 : Int32} {x3 : Int32} {r : QS} (h : fX2_setCell S x1 x2 x3 = some r) : q_Fx S r := by
  unfold fX2_setCell at h
  obtain ⟨r1, e2, h⟩ := q_bind h
  by_cases c : r1 = true
  · rw [if_pos c] at h
    obtain ⟨hg3, h⟩ := q_guard h
    obtain ⟨hg4, h⟩ := q_guard h
    obtain ⟨S5, e6, h⟩ := q_bindS h
    have fx7 : q_Fx S S5 := e6 ▸ q_Fx.sI (q_Fx.rf S)
    obtain rfl := Option.some.inj h
    exact fx7
  · rw [if_neg c] at h
    obtain rfl := Option.some.inj h
    exact q_Fx.rf _

theorem fxX5_begin {S : QS} {p : Nat}  {r : QS} (h : fX5_begin S p = some r) : q_Fx S r := by
  unfold fX5_begin at h
  obtain ⟨r1, e2, h⟩ := q_bind h
  have fx3 : q_Fx S r1 := q_Fx.tr (q_Fx.rf S) (fxX0_begin e2)
  obtain ⟨r4, e5, h⟩ := q_bind h
  have fx6 : q_Fx S r4 := q_Fx.tr (fx3) (fxX1_begin e5)
  obtain ⟨S7, e8, h⟩ := q_bindS h
  have fx9 : q_Fx S S7 := e8 ▸ q_Fx.sI (fx6)
  obtain ⟨S10, e11, h⟩ := q_bindS h
  have fx12 : q_Fx S S10 := e11 ▸ q_Fx.sI (fx9)
  obtain ⟨r13, e14, h⟩ := q_bind h
  have fx15 : q_Fx S r13 := q_Fx.tr (fx12) (fxJ7_fill_53178 e14)
  obtain rfl := Option.some.inj h
  exact fx15
theorem fxX5_inherit {S : QS} {p : Nat} {x1 : Int32} {r : QS} (h : fX5_inherit S p x1 = some r) : q_Fx S r := by
  unfold fX5_inherit at h
  by_cases c : x1 ≤ 0
  · rw [if_pos c] at h
    obtain rfl := Option.some.inj h
    exact q_Fx.rf _
  · rw [if_neg c] at h
    by_cases c : x1 < (S.2.1 (p + 1) 0)
    · rw [if_pos c] at h
      obtain ⟨hg1, h⟩ := q_guard h
      by_cases c : (S.2.1 (p + 3) x1.toNatClampNeg) < 0
      · rw [if_pos c] at h
        obtain rfl := Option.some.inj h
        exact q_Fx.rf _
      · rw [if_neg c] at h
        obtain ⟨hg2, h⟩ := q_guard h
        obtain ⟨hg3, h⟩ := q_guard h
        obtain ⟨S4, e5, h⟩ := q_bindS h
        have fx6 : q_Fx S S4 := e5 ▸ q_Fx.sI (q_Fx.rf S)
        obtain ⟨hg7, h⟩ := q_guard h
        obtain ⟨S8, e9, h⟩ := q_bindS h
        have fx10 : q_Fx S S8 := e9 ▸ q_Fx.cp (fx6)
        obtain rfl := Option.some.inj h
        exact fx10
    · rw [if_neg c] at h
      obtain rfl := Option.some.inj h
      exact q_Fx.rf _
theorem fxX5_addParameter {S : QS} {p : Nat} {x1 : Int32} {x2 : Int32} {r : QS} (h : fX5_addParameter S p x1 x2 = some r) : q_Fx S r := by
  unfold fX5_addParameter at h
  obtain ⟨hg1, h⟩ := q_guard h
  obtain ⟨v7, hv, h⟩ := q_bind h
  have fx8 : q_Fx S v7 := by
    replace h := hv
    by_cases c : (12 : Int32) ≤ (S.2.1 (p + 25) x1.toNatClampNeg)
    · rw [if_pos c] at h
      obtain rfl := Option.some.inj h
      exact q_Fx.rf _
    · rw [if_neg c] at h
      obtain ⟨hg2, h⟩ := q_guard h
      obtain ⟨hg3, h⟩ := q_guard h
      obtain ⟨S4, e5, h⟩ := q_bindS h
      have fx6 : q_Fx S S4 := e5 ▸ q_Fx.sI (q_Fx.rf S)
      obtain rfl := Option.some.inj h
      exact fx6
  obtain ⟨hg9, h⟩ := q_guard h
  obtain ⟨hg10, h⟩ := q_guard h
  obtain ⟨S11, e12, h⟩ := q_bindS h
  have fx13 : q_Fx S S11 := e12 ▸ q_Fx.sI (fx8)
  obtain rfl := Option.some.inj h
  exact fx13
theorem fxX5_addBody {S : QS} {p : Nat} {x1 : Int32} {x2 : Int32} {x3 : Bool} {x4 : Int32} {r : QS} (h : fX5_addBody S p x1 x2 x3 x4 = some r) : q_Fx S r := by
  unfold fX5_addBody at h
  by_cases c : (48 : Int32) ≤ (S.2.1 p 2)
  · rw [if_pos c] at h
    obtain rfl := Option.some.inj h
    exact q_Fx.rf _
  · rw [if_neg c] at h
    obtain ⟨r1, e2, h⟩ := q_bind h
    by_cases c : r1 = true
    · rw [if_pos c] at h
      obtain ⟨S3, e4, h⟩ := q_bindS h
      have fx5 : q_Fx S S3 := e4 ▸ q_Fx.sI (q_Fx.rf S)
      obtain ⟨hg6, h⟩ := q_guard h
      obtain ⟨S7, e8, h⟩ := q_bindS h
      have fx9 : q_Fx S S7 := e8 ▸ q_Fx.sI (fx5)
      obtain ⟨hg10, h⟩ := q_guard h
      obtain ⟨S11, e12, h⟩ := q_bindS h
      have fx13 : q_Fx S S11 := e12 ▸ q_Fx.sI (fx9)
      obtain ⟨hg14, h⟩ := q_guard h
      obtain ⟨S15, e16, h⟩ := q_bindS h
      have fx17 : q_Fx S S15 := e16 ▸ q_Fx.sI (fx13)
      obtain ⟨hg18, h⟩ := q_guard h
      obtain ⟨S19, e20, h⟩ := q_bindS h
      have fx21 : q_Fx S S19 := e20 ▸ q_Fx.sI (fx17)
      obtain ⟨v23, hv, h⟩ := q_bind h
      obtain ⟨hg24, h⟩ := q_guard h
      obtain ⟨S25, e26, h⟩ := q_bindS h
      have fx27 : q_Fx S S25 := e26 ▸ q_Fx.sI (fx21)
      by_cases c : x3 = true
      · rw [if_pos c] at h
        obtain ⟨r28, e29, h⟩ := q_bind h
        have fx30 : q_Fx S r28 := q_Fx.tr (fx27) (fxX5_addParameter e29)
        obtain ⟨hg31, h⟩ := q_guard h
        obtain ⟨hg32, h⟩ := q_guard h
        obtain ⟨S33, e34, h⟩ := q_bindS h
        have fx35 : q_Fx S S33 := e34 ▸ q_Fx.sI (fx30)
        obtain rfl := Option.some.inj h
        exact fx35
      · rw [if_neg c] at h
        obtain rfl := Option.some.inj h
        exact fx27
    · rw [if_neg c] at h
      obtain rfl := Option.some.inj h
      exact q_Fx.rf _
theorem fxtX8_take_30   {x : Int32 × QS} {z : (QS) ⊕ (Int32 × QS)} (h : tX8_take_30 x = some z) : q_Fx ((fun x : Int32 × QS => x.2) x) ((Sum.elim (fun r : QS => r) (fun x : Int32 × QS => x.2)) z) := by
  unfold tX8_take_30 at h
  show q_Fx x.2 _
  by_cases c : (x.2.2.1 2 1) ≤ x.1
  · rw [if_pos c] at h
    cases h
    exact q_Fx.rf _
  · rw [if_neg c] at h
    obtain ⟨hg1, h⟩ := q_guard h
    obtain ⟨hg2, h⟩ := q_guard h
    obtain ⟨S3, e4, h⟩ := q_bindS h
    have fx5 : q_Fx x.2 S3 := e4 ▸ q_Fx.sI (q_Fx.rf x.2)
    cases h
    exact fx5
theorem fxX8_take_30 {S : QS}  {y3 : Int32} {r : QS} (h : fX8_take_30 S y3 = some r) : q_Fx S ((fun r : QS => r) r) := q_run_fx (fun x : Int32 × QS => x.2) (fun r : QS => r) (fun _ _ hz => fxtX8_take_30 hz) h
theorem fxX8_take {S : QS}  {x2 : Int32} {r : QS} (h : fX8_take S x2 = some r) : q_Fx S r := by
  unfold fX8_take at h
  by_cases c : x2 < 0
  · rw [if_pos c] at h
    obtain ⟨S6, e7, h⟩ := q_bindS h
    have fx8 : q_Fx S S6 := e7 ▸ q_Fx.sI (q_Fx.rf S)
    exact (fx8).tr (fxX8_take_30 h)
  · rw [if_neg c] at h
    by_cases c : (16000 : Int32) < x2
    · rw [if_pos c] at h
      obtain ⟨S9, e10, h⟩ := q_bindS h
      have fx11 : q_Fx S S9 := e10 ▸ q_Fx.sI (q_Fx.rf S)
      exact (fx11).tr (fxX8_take_30 h)
    · rw [if_neg c] at h
      by_cases c : x2 ≤ ((4 : Int32) * (nI 4000))
      · rw [if_pos c] at h
        obtain ⟨S12, e13, h⟩ := q_bindS h
        have fx14 : q_Fx S S12 := e13 ▸ q_Fx.sI (q_Fx.rf S)
        exact (fx14).tr (fxX8_take_30 h)
      · rw [if_neg c] at h
        obtain ⟨S15, e16, h⟩ := q_bindS h
        have fx17 : q_Fx S S15 := e16 ▸ q_Fx.sI (q_Fx.rf S)
        exact (fx17).tr (fxX8_take_30 h)
theorem fxX8_useUp {S : QS}   {r : QS} (h : fX8_useUp S = some r) : q_Fx S r := by
  unfold fX8_useUp at h
  obtain ⟨S1, e2, h⟩ := q_bindS h
  have fx3 : q_Fx S S1 := e2 ▸ q_Fx.sI (q_Fx.rf S)
  obtain rfl := Option.some.inj h
  exact fx3
theorem fxuX8_split_55 {S : QS}  {y1 : Int32} {y2 : Int32} {y3 : Int32} {y4 : Int32} {z : (Bool × QS) ⊕ (Int32 × Int32 × Int32 × QS)} (h : uX8_split_55 S y1 y2 y3 y4 = some z) : q_Fx S ((Sum.elim (fun r : Bool × QS => r.2) (fun x : Int32 × Int32 × Int32 × QS => x.2.2.2)) z) := by
  unfold uX8_split_55 at h
  by_cases c : y4 = (127 : Int32)
  · rw [if_pos c] at h
    cases h
    exact q_Fx.rf _
  · rw [if_neg c] at h
    obtain ⟨v1, hv, h⟩ := q_bind h
    obtain ⟨v2, hv, h⟩ := q_bind h
    obtain ⟨v3, hv, h⟩ := q_bind h
    obtain ⟨v18, hv, h⟩ := q_bind h
    have fx19 : q_Fx S v18 := by
      replace h := hv
      by_cases c : v2 = true
      · rw [if_pos c] at h
        obtain rfl := Option.some.inj h
        exact q_Fx.rf _
      · rw [if_neg c] at h
        by_cases c : v3 = true
        · rw [if_pos c] at h
          obtain ⟨hg4, h⟩ := q_guard h
          obtain ⟨S5, e6, h⟩ := q_bindS h
          have fx7 : q_Fx S S5 := e6 ▸ q_Fx.sI (q_Fx.rf S)
          obtain ⟨S8, e9, h⟩ := q_bindS h
          have fx10 : q_Fx S S8 := e9 ▸ q_Fx.sI (fx7)
          obtain rfl := Option.some.inj h
          exact fx10
        · rw [if_neg c] at h
          by_cases c : y2 = 0
          · rw [if_pos c] at h
            obtain ⟨hg11, h⟩ := q_guard h
            obtain ⟨S12, e13, h⟩ := q_bindS h
            have fx14 : q_Fx S S12 := e13 ▸ q_Fx.sI (q_Fx.rf S)
            obtain ⟨S15, e16, h⟩ := q_bindS h
            have fx17 : q_Fx S S15 := e16 ▸ q_Fx.sI (fx14)
            obtain rfl := Option.some.inj h
            exact fx17
          · rw [if_neg c] at h
            obtain rfl := Option.some.inj h
            exact q_Fx.rf _
    obtain ⟨v24, hv, h⟩ := q_bind h
    have fx25 : q_Fx S v24 := by
      replace h := hv
      by_cases c : v2 = true
      · rw [if_pos c] at h
        obtain rfl := Option.some.inj h
        exact fx19
      · rw [if_neg c] at h
        obtain ⟨hg20, h⟩ := q_guard h
        obtain ⟨S21, e22, h⟩ := q_bindS h
        have fx23 : q_Fx S S21 := e22 ▸ q_Fx.sI (fx19)
        obtain rfl := Option.some.inj h
        exact fx23
    by_cases c : v2 = true
    · rw [if_pos c] at h
      cases h
      exact fx25
    · rw [if_neg c] at h
      by_cases c : v3 = true
      · rw [if_pos c] at h
        cases h
        exact fx25
      · rw [if_neg c] at h
        cases h
        exact fx25
theorem fxtX8_split_11   {x : Int32 × Int32 × Int32 × QS} {z : (Bool × QS) ⊕ (Int32 × Int32 × Int32 × QS)} (h : tX8_split_11 x = some z) : q_Fx ((fun x : Int32 × Int32 × Int32 × QS => x.2.2.2) x) ((Sum.elim (fun r : Bool × QS => r.2) (fun x : Int32 × Int32 × Int32 × QS => x.2.2.2)) z) := by
  unfold tX8_split_11 at h
  show q_Fx x.2.2.2 _
  by_cases c : (x.2.2.2.2.1 2 1) ≤ x.2.2.1
  · rw [if_pos c] at h
    cases h
    exact q_Fx.rf _
  · rw [if_neg c] at h
    obtain ⟨hg26, h⟩ := q_guard h
    by_cases c : (32 : Int32) ≤ (x.2.2.2.2.1 3 x.2.2.1.toNatClampNeg)
    · rw [if_pos c] at h
      exact (q_Fx.rf _).tr (fxuX8_split_55 h)
    · rw [if_neg c] at h
      by_cases c : (x.2.2.2.2.1 3 x.2.2.1.toNatClampNeg) = (9 : Int32)
      · rw [if_pos c] at h
        exact (q_Fx.rf _).tr (fxuX8_split_55 h)
      · rw [if_neg c] at h
        by_cases c : (x.2.2.2.2.1 3 x.2.2.1.toNatClampNeg) = (10 : Int32)
        · rw [if_pos c] at h
          exact (q_Fx.rf _).tr (fxuX8_split_55 h)
        · rw [if_neg c] at h
          by_cases c : (x.2.2.2.2.1 3 x.2.2.1.toNatClampNeg) = (13 : Int32)
          · rw [if_pos c] at h
            exact (q_Fx.rf _).tr (fxuX8_split_55 h)
          · rw [if_neg c] at h
            cases h
            exact q_Fx.rf _
theorem fxX8_split_11 {S : QS}  {y1 : Int32} {y2 : Int32} {y3 : Int32} {r : Bool × QS} (h : fX8_split_11 S y1 y2 y3 = some r) : q_Fx S ((fun r : Bool × QS => r.2) r) := q_run_fx (fun x : Int32 × Int32 × Int32 × QS => x.2.2.2) (fun r : Bool × QS => r.2) (fun _ _ hz => fxtX8_split_11 hz) h
theorem fxX8_split {S : QS}   {r : Bool × QS} (h : fX8_split S = some r) : q_Fx S r.2 := by
  unfold fX8_split at h
  obtain ⟨S27, e28, h⟩ := q_bindS h
  have fx29 : q_Fx S S27 := e28 ▸ q_Fx.sI (q_Fx.rf S)
  exact (fx29).tr (fxX8_split_11 h)
theorem fxX7_takesPart_28 {S : QS}  {y1 : Int32} {y2 : Int32} {r : Bool × QS} (h : fX7_takesPart_28 S y1 y2 = some r) : q_Fx S r.2 := by
  unfold fX7_takesPart_28 at h
  obtain ⟨S1, e2, h⟩ := q_bindS h
  have fx3 : q_Fx S S1 := e2 ▸ q_Fx.sI (q_Fx.rf S)
  obtain ⟨v4, hv, h⟩ := q_bind h
  obtain ⟨S5, e6, h⟩ := q_bindS h
  have fx7 : q_Fx S S5 := e6 ▸ q_Fx.sI (fx3)
  by_cases c8 : y2 = (67 : Int32)
  · rw [if_pos c8] at h
    obtain ⟨r9, e10, h⟩ := q_bind h
    obtain rfl := Option.some.inj h
    exact fx7
  rw [if_neg c8] at h
  by_cases c11 : y2 = (69 : Int32)
  · rw [if_pos c11] at h
    obtain ⟨r12, e13, h⟩ := q_bind h
    by_cases c : r12 = true
    · rw [if_pos c] at h
      obtain rfl := Option.some.inj h
      exact fx7
    · rw [if_neg c] at h
      obtain ⟨r14, e15, h⟩ := q_bind h
      by_cases c : r14 = true
      · rw [if_pos c] at h
        obtain rfl := Option.some.inj h
        exact fx7
      · rw [if_neg c] at h
        obtain rfl := Option.some.inj h
        exact fx7
  rw [if_neg c11] at h
  by_cases c16 : y2 = (70 : Int32)
  · rw [if_pos c16] at h
    obtain ⟨r17, e18, h⟩ := q_bind h
    obtain rfl := Option.some.inj h
    exact fx7
  rw [if_neg c16] at h
  by_cases c19 : y2 = (78 : Int32)
  · rw [if_pos c19] at h
    obtain ⟨r20, e21, h⟩ := q_bind h
    obtain rfl := Option.some.inj h
    exact fx7
  rw [if_neg c19] at h
  by_cases c22 : y2 = (80 : Int32)
  · rw [if_pos c22] at h
    obtain rfl := Option.some.inj h
    exact fx7
  rw [if_neg c22] at h
  by_cases c23 : y2 = (82 : Int32)
  · rw [if_pos c23] at h
    obtain ⟨r24, e25, h⟩ := q_bind h
    by_cases c : r24 = true
    · rw [if_pos c] at h
      obtain rfl := Option.some.inj h
      exact fx7
    · rw [if_neg c] at h
      obtain ⟨r26, e27, h⟩ := q_bind h
      by_cases c : r26 = true
      · rw [if_pos c] at h
        obtain rfl := Option.some.inj h
        exact fx7
      · rw [if_neg c] at h
        obtain rfl := Option.some.inj h
        exact fx7
  rw [if_neg c23] at h
  by_cases c28 : y2 = (84 : Int32)
  · rw [if_pos c28] at h
    obtain ⟨r29, e30, h⟩ := q_bind h
    obtain rfl := Option.some.inj h
    exact fx7
  rw [if_neg c28] at h
  by_cases c31 : y2 = (89 : Int32)
  · rw [if_pos c31] at h
    obtain ⟨r32, e33, h⟩ := q_bind h
    by_cases c : r32 = true
    · rw [if_pos c] at h
      obtain ⟨r34, e35, h⟩ := q_bind h
      by_cases c : r34 = true
      · rw [if_pos c] at h
        obtain rfl := Option.some.inj h
        exact fx7
      · rw [if_neg c] at h
        obtain rfl := Option.some.inj h
        exact fx7
    · rw [if_neg c] at h
      obtain rfl := Option.some.inj h
      exact fx7
  rw [if_neg c31] at h
  by_cases c36 : y2 = (110 : Int32)
  · rw [if_pos c36] at h
    obtain ⟨r37, e38, h⟩ := q_bind h
    obtain rfl := Option.some.inj h
    exact fx7
  rw [if_neg c36] at h
  by_cases c39 : y2 = (111 : Int32)
  · rw [if_pos c39] at h
    obtain ⟨r40, e41, h⟩ := q_bind h
    obtain rfl := Option.some.inj h
    exact fx7
  rw [if_neg c39] at h
  obtain ⟨r42, e43, h⟩ := q_bind h
  obtain rfl := Option.some.inj h
  exact fx7
theorem fxX7_takesPart {S : QS}  {x1 : Int32} {x2 : Int32} {r : Bool × QS} (h : fX7_takesPart S x1 x2 = some r) : q_Fx S r.2 := by
  unfold fX7_takesPart at h
  by_cases c : x2 = (80 : Int32)
  · rw [if_pos c] at h
    obtain ⟨r44, e45, h⟩ := q_bind h
    by_cases c : r44 = true
    · rw [if_pos c] at h
      exact (q_Fx.rf _).tr (fxX7_takesPart_28 h)
    · rw [if_neg c] at h
      obtain ⟨r46, e47, h⟩ := q_bind h
      obtain rfl := Option.some.inj h
      exact q_Fx.rf _
  · rw [if_neg c] at h
    exact (q_Fx.rf _).tr (fxX7_takesPart_28 h)
theorem fxX7_expect {S : QS}  {x1 : Int32} {x2 : Int32} {x3 : Nat} {r : QS} (h : fX7_expect S x1 x2 x3 = some r) : q_Fx S r := by
  unfold fX7_expect at h
  obtain ⟨hg1, h⟩ := q_guard h
  obtain ⟨S2, e3, h⟩ := q_bindS h
  have fx4 : q_Fx S S2 := e3 ▸ q_Fx.sI (q_Fx.rf S)
  obtain ⟨S5, e6, h⟩ := q_bindS h
  have fx7 : q_Fx S S5 := e6 ▸ q_Fx.sT (fx4)
  obtain ⟨S8, e9, h⟩ := q_bindS h
  have fx10 : q_Fx S S8 := e9 ▸ q_Fx.sI (fx7)
  obtain rfl := Option.some.inj h
  exact fx10
theorem fxX7_beginsClass {S : QS}  {x1 : Int32} {r : Bool × QS} (h : fX7_beginsClass S x1 = some r) : q_Fx S r.2 := by
  unfold fX7_beginsClass at h
  obtain ⟨r1, e2, h⟩ := q_bind h
  have fx3 : q_Fx S r1 := q_Fx.tr (q_Fx.rf S) (fxX7_expect e2)
  obtain ⟨r4, e5, h⟩ := q_bind h
  obtain rfl := Option.some.inj h
  exact fx3
theorem fxX7_beginsMember {S : QS}  {x1 : Int32} {r : Bool × QS} (h : fX7_beginsMember S x1 = some r) : q_Fx S r.2 := by
  unfold fX7_beginsMember at h
  obtain ⟨r1, e2, h⟩ := q_bind h
  by_cases c : r1 = true
  · rw [if_pos c] at h
    obtain ⟨r11, e12, h⟩ := q_bind h
    have fx13 : q_Fx S r11 := q_Fx.tr (q_Fx.rf S) (fxX7_expect e12)
    obtain rfl := Option.some.inj h
    exact fx13
  · rw [if_neg c] at h
    obtain ⟨r3, e4, h⟩ := q_bind h
    obtain ⟨v5, hv, h⟩ := q_bind h
    obtain ⟨r6, e7, h⟩ := q_bind h
    have fx8 : q_Fx S r6 := q_Fx.tr (q_Fx.rf S) (fxX7_expect e7)
    by_cases c : r3 = true
    · rw [if_pos c] at h
      obtain rfl := Option.some.inj h
      exact fx8
    · rw [if_neg c] at h
      obtain ⟨r9, e10, h⟩ := q_bind h
      by_cases c : r9 = true
      · rw [if_pos c] at h
        obtain rfl := Option.some.inj h
        exact fx8
      · rw [if_neg c] at h
        obtain rfl := Option.some.inj h
        exact fx8
theorem fxX7_beginsLine {S : QS}  {x1 : Int32} {r : Bool × QS} (h : fX7_beginsLine S x1 = some r) : q_Fx S r.2 := by
  unfold fX7_beginsLine at h
  obtain ⟨r1, e2, h⟩ := q_bind h
  obtain ⟨v9, hv, h⟩ := q_bind h
  obtain ⟨r10, e11, h⟩ := q_bind h
  obtain ⟨r12, e13, h⟩ := q_bind h
  by_cases c : r12 = true
  · rw [if_pos c] at h
    obtain ⟨r14, e15, h⟩ := q_bind h
    have fx16 : q_Fx S r14 := q_Fx.tr (q_Fx.rf S) (fxX7_expect e15)
    obtain rfl := Option.some.inj h
    exact fx16
  · rw [if_neg c] at h
    by_cases c : v9 = (-1 : Int32)
    · rw [if_pos c] at h
      by_cases c : r10 = true
      · rw [if_pos c] at h
        by_cases c : r10 = true
        · rw [if_pos c] at h
          obtain ⟨r30, e31, h⟩ := q_bind h
          have fx32 : q_Fx S r30 := q_Fx.tr (q_Fx.rf S) (fxX7_expect e31)
          obtain rfl := Option.some.inj h
          exact fx32
        · rw [if_neg c] at h
          obtain ⟨r25, e26, h⟩ := q_bind h
          obtain ⟨r27, e28, h⟩ := q_bind h
          have fx29 : q_Fx S r27 := q_Fx.tr (q_Fx.rf S) (fxX7_expect e28)
          obtain rfl := Option.some.inj h
          exact fx29
      · rw [if_neg c] at h
        obtain ⟨r33, e34, h⟩ := q_bind h
        have fx35 : q_Fx S r33 := q_Fx.tr (q_Fx.rf S) (fxX7_expect e34)
        obtain rfl := Option.some.inj h
        exact fx35
    · rw [if_neg c] at h
      by_cases c : r10 = true
      · rw [if_pos c] at h
        obtain ⟨r22, e23, h⟩ := q_bind h
        have fx24 : q_Fx S r22 := q_Fx.tr (q_Fx.rf S) (fxX7_expect e23)
        obtain rfl := Option.some.inj h
        exact fx24
      · rw [if_neg c] at h
        obtain ⟨r17, e18, h⟩ := q_bind h
        obtain ⟨r19, e20, h⟩ := q_bind h
        have fx21 : q_Fx S r19 := q_Fx.tr (q_Fx.rf S) (fxX7_expect e20)
        obtain rfl := Option.some.inj h
        exact fx21
theorem fxX7_begins_57 {S : QS}  {y1 : Int32} {r : Bool × QS} (h : fX7_begins_57 S y1 = some r) : q_Fx S r.2 := by
  unfold fX7_begins_57 at h
  by_cases c1 : (S.2.1 77 3) = (0 : Int32)
  · rw [if_pos c1] at h
    obtain ⟨r2, e3, h⟩ := q_bind h
    have fx4 : q_Fx S r2.2 := q_Fx.tr (q_Fx.rf S) (fxX7_beginsClass e3)
    obtain rfl := Option.some.inj h
    exact fx4
  rw [if_neg c1] at h
  by_cases c5 : (S.2.1 77 3) = (1 : Int32)
  · rw [if_pos c5] at h
    obtain ⟨r6, e7, h⟩ := q_bind h
    have fx8 : q_Fx S r6.2 := q_Fx.tr (q_Fx.rf S) (fxX7_beginsMember e7)
    obtain rfl := Option.some.inj h
    exact fx8
  rw [if_neg c5] at h
  obtain ⟨r9, e10, h⟩ := q_bind h
  have fx11 : q_Fx S r9.2 := q_Fx.tr (q_Fx.rf S) (fxX7_beginsLine e10)
  obtain rfl := Option.some.inj h
  exact fx11
theorem fxX7_begins {S : QS}  {x1 : Int32} {r : Bool × QS} (h : fX7_begins S x1 = some r) : q_Fx S r.2 := by
  unfold fX7_begins at h
  by_cases c : (S.2.1 77 3) ≤ 0
  · rw [if_pos c] at h
    exact (q_Fx.rf _).tr (fxX7_begins_57 h)
  · rw [if_neg c] at h
    obtain ⟨r12, e13, h⟩ := q_bind h
    by_cases c : r12 = true
    · rw [if_pos c] at h
      obtain ⟨S14, e15, h⟩ := q_bindS h
      have fx16 : q_Fx S S14 := e15 ▸ q_Fx.sI (q_Fx.rf S)
      obtain ⟨v17, hv, h⟩ := q_bind h
      obtain ⟨hg18, h⟩ := q_guard h
      obtain ⟨S19, e20, h⟩ := q_bindS h
      have fx21 : q_Fx S S19 := e20 ▸ q_Fx.sI (fx16)
      obtain rfl := Option.some.inj h
      exact fx21
    · rw [if_neg c] at h
      exact (q_Fx.rf _).tr (fxX7_begins_57 h)
theorem fxtX7_firstFault_18   {x : Int32 × QS} {z : (Int32 × QS) ⊕ (Int32 × QS)} (h : tX7_firstFault_18 x = some z) : q_Fx ((fun x : Int32 × QS => x.2) x) ((Sum.elim (fun r : Int32 × QS => r.2) (fun x : Int32 × QS => x.2)) z) := by
  unfold tX7_firstFault_18 at h
  show q_Fx x.2 _
  by_cases c : (x.2.2.1 2 5) ≤ x.1
  · rw [if_pos c] at h
    by_cases c : (x.2.2.1 77 3) = 0
    · rw [if_pos c] at h
      obtain ⟨r1, e2, h⟩ := q_bind h
      by_cases c : (x.2.2.1 77 2) = r1
      · rw [if_pos c] at h
        cases h
        exact q_Fx.rf _
      · rw [if_neg c] at h
        cases h
        exact q_Fx.rf _
    · rw [if_neg c] at h
      cases h
      exact q_Fx.rf _
  · rw [if_neg c] at h
    obtain ⟨hg4, h⟩ := q_guard h
    obtain ⟨S5, e6, h⟩ := q_bindS h
    have fx7 : q_Fx x.2 S5 := e6 ▸ q_Fx.sI (q_Fx.rf x.2)
    obtain ⟨r8, e9, h⟩ := q_bind h
    obtain ⟨v20, hv, h⟩ := q_bind h
    have fx21 : q_Fx x.2 v20.2 := by
      replace h := hv
      by_cases c : r8 ≤ (S5.2.1 77 2)
      · rw [if_pos c] at h
        obtain ⟨r11, e12, h⟩ := q_bind h
        have fx13 : q_Fx x.2 r11.2 := q_Fx.tr (fx7) (fxX7_begins e12)
        obtain rfl := Option.some.inj h
        exact fx13
      · rw [if_neg c] at h
        obtain ⟨r14, e15, h⟩ := q_bind h
        obtain ⟨r17, e18, h⟩ := q_bind h
        have fx19 : q_Fx x.2 r17.2 := q_Fx.tr (fx7) (fxX7_takesPart e18)
        obtain rfl := Option.some.inj h
        exact fx19
    by_cases c : v20.1 = true
    · rw [if_pos c] at h
      cases h
      exact fx21
    · rw [if_neg c] at h
      cases h
      exact fx21
theorem fxX7_firstFault_18 {S : QS}  {y1 : Int32} {r : Int32 × QS} (h : fX7_firstFault_18 S y1 = some r) : q_Fx S ((fun r : Int32 × QS => r.2) r) := q_run_fx (fun x : Int32 × QS => x.2) (fun r : Int32 × QS => r.2) (fun _ _ hz => fxtX7_firstFault_18 hz) h
theorem fxX7_firstFault {S : QS}   {r : Int32 × QS} (h : fX7_firstFault S = some r) : q_Fx S r.2 := by
  unfold fX7_firstFault at h
  obtain ⟨S22, e23, h⟩ := q_bindS h
  have fx24 : q_Fx S S22 := e23 ▸ q_Fx.sT (q_Fx.rf S)
  obtain ⟨S25, e26, h⟩ := q_bindS h
  have fx27 : q_Fx S S25 := e26 ▸ q_Fx.sI (fx24)
  obtain ⟨S28, e29, h⟩ := q_bindS h
  have fx30 : q_Fx S S28 := e29 ▸ q_Fx.sI (fx27)
  exact (fx30).tr (fxX7_firstFault_18 h)

theorem fxtX4_classFault_2 {p : Nat}  {x : Int32 × QS} {z : (Int32 × QS) ⊕ (Int32 × QS)} (h : tX4_classFault_2 p x = some z) : q_Fx ((fun x : Int32 × QS => x.2) x) ((Sum.elim (fun r : Int32 × QS => r.2) (fun x : Int32 × QS => x.2)) z) := by
  unfold tX4_classFault_2 at h
  show q_Fx x.2 _
  by_cases c : (x.2.2.1 2 5) ≤ x.1
  · rw [if_pos c] at h
    cases h
    exact q_Fx.rf _
  · rw [if_neg c] at h
    obtain ⟨hg1, h⟩ := q_guard h
    by_cases c : (x.2.2.1 6 x.1.toNatClampNeg) = (48 : Int32)
    · rw [if_pos c] at h
      obtain ⟨r2, e3, h⟩ := q_bind h
      by_cases c : r2 = (-1 : Int32)
      · rw [if_pos c] at h
        by_cases c : (x.2.2.1 (p + 1) 0) = (32 : Int32)
        · rw [if_pos c] at h
          cases h
          exact q_Fx.rf _
        · rw [if_neg c] at h
          obtain ⟨r4, e5, h⟩ := q_bind h
          by_cases c : r4 = (-1 : Int32)
          · rw [if_pos c] at h
            cases h
            exact q_Fx.rf _
          · rw [if_neg c] at h
            obtain ⟨r6, e7, h⟩ := q_bind h
            have fx8 : q_Fx x.2 r6 := q_Fx.tr (q_Fx.rf x.2) (fxX0_addClass e7)
            cases h
            exact fx8
      · rw [if_neg c] at h
        cases h
        exact q_Fx.rf _
    · rw [if_neg c] at h
      cases h
      exact q_Fx.rf _
theorem fxX4_classFault_2 {S : QS} {p : Nat} {y1 : Int32} {r : Int32 × QS} (h : fX4_classFault_2 S p y1 = some r) : q_Fx S ((fun r : Int32 × QS => r.2) r) := q_run_fx (fun x : Int32 × QS => x.2) (fun r : Int32 × QS => r.2) (fun _ _ hz => fxtX4_classFault_2 hz) h
theorem fxX4_classFault {S : QS} {p : Nat}  {r : Int32 × QS} (h : fX4_classFault S p = some r) : q_Fx S r.2 := by
  unfold fX4_classFault at h
  exact (q_Fx.rf _).tr (fxX4_classFault_2 h)
theorem fxX4_fieldFault {S : QS} {p : Nat} {x1 : Int32} {x2 : Int32} {r : Int32 × QS} (h : fX4_fieldFault S p x1 x2 = some r) : q_Fx S r.2 := by
  unfold fX4_fieldFault at h
  obtain ⟨r1, e2, h⟩ := q_bind h
  obtain ⟨r3, e4, h⟩ := q_bind h
  obtain ⟨r5, e6, h⟩ := q_bind h
  by_cases c : r5 = (-1 : Int32)
  · rw [if_pos c] at h
    by_cases c : (S.2.1 (p + 1) 5) = (48 : Int32)
    · rw [if_pos c] at h
      obtain rfl := Option.some.inj h
      exact q_Fx.rf _
    · rw [if_neg c] at h
      obtain ⟨r7, e8, h⟩ := q_bind h
      by_cases c : r7 = (-1 : Int32)
      · rw [if_pos c] at h
        obtain rfl := Option.some.inj h
        exact q_Fx.rf _
      · rw [if_neg c] at h
        obtain ⟨r9, e10, h⟩ := q_bind h
        have fx11 : q_Fx S r9 := q_Fx.tr (q_Fx.rf S) (fxX0_addField e10)
        obtain rfl := Option.some.inj h
        exact fx11
  · rw [if_neg c] at h
    obtain rfl := Option.some.inj h
    exact q_Fx.rf _
theorem fxX4_headFault_162 {S : QS} {p : Nat} {y4 : Int32} {y5 : Int32} {r : Int32 × QS} (h : fX4_headFault_162 S p y4 y5 = some r) : q_Fx S r.2 := by
  unfold fX4_headFault_162 at h
  obtain ⟨r1, e2, h⟩ := q_bind h
  obtain ⟨v5, hv, h⟩ := q_bind h
  by_cases c : v5 = (-1 : Int32)
  · rw [if_pos c] at h
    obtain rfl := Option.some.inj h
    exact q_Fx.rf _
  · rw [if_neg c] at h
    obtain ⟨r6, e7, h⟩ := q_bind h
    obtain ⟨hg8, h⟩ := q_guard h
    by_cases c : r6 < (S.2.1 (p + 25) y4.toNatClampNeg)
    · rw [if_pos c] at h
      obtain rfl := Option.some.inj h
      exact q_Fx.rf _
    · rw [if_neg c] at h
      by_cases c : r6 ≤ (12 : Int32)
      · rw [if_pos c] at h
        obtain ⟨hg9, h⟩ := q_guard h
        obtain ⟨S10, e11, h⟩ := q_bindS h
        have fx12 : q_Fx S S10 := e11 ▸ q_Fx.sI (q_Fx.rf S)
        obtain ⟨hg13, h⟩ := q_guard h
        obtain ⟨S14, e15, h⟩ := q_bindS h
        have fx16 : q_Fx S S14 := e15 ▸ q_Fx.sI (fx12)
        obtain rfl := Option.some.inj h
        exact fx16
      · rw [if_neg c] at h
        obtain rfl := Option.some.inj h
        exact q_Fx.rf _
theorem fxtX4_headFault_102 {p : Nat} {y4 : Int32} {x : Int32 × QS} {z : (Int32 × QS) ⊕ (Int32 × QS)} (h : tX4_headFault_102 p y4 x = some z) : q_Fx ((fun x : Int32 × QS => x.2) x) ((Sum.elim (fun r : Int32 × QS => r.2) (fun x : Int32 × QS => x.2)) z) := by
  unfold tX4_headFault_102 at h
  show q_Fx x.2 _
  by_cases c : (x.2.2.1 2 5) ≤ x.1
  · rw [if_pos c] at h
    obtain ⟨r17, e18, h⟩ := q_bind h
    cases h
    exact (q_Fx.rf _).tr (fxX4_headFault_162 e18)
  · rw [if_neg c] at h
    obtain ⟨r19, e20, h⟩ := q_bind h
    by_cases c : r19 = true
    · rw [if_pos c] at h
      obtain ⟨r21, e22, h⟩ := q_bind h
      cases h
      exact (q_Fx.rf _).tr (fxX4_headFault_162 e22)
    · rw [if_neg c] at h
      obtain ⟨r23, e24, h⟩ := q_bind h
      by_cases c : r23 = (-1 : Int32)
      · rw [if_pos c] at h
        cases h
        exact q_Fx.rf _
      · rw [if_neg c] at h
        obtain ⟨r25, e26, h⟩ := q_bind h
        have fx27 : q_Fx x.2 r25 := q_Fx.tr (q_Fx.rf x.2) (fxX5_addParameter e26)
        cases h
        exact fx27
theorem fxX4_headFault_102 {S : QS} {p : Nat} {y4 : Int32} {y5 : Int32} {r : Int32 × QS} (h : fX4_headFault_102 S p y4 y5 = some r) : q_Fx S ((fun r : Int32 × QS => r.2) r) := q_run_fx (fun x : Int32 × QS => x.2) (fun r : Int32 × QS => r.2) (fun _ _ hz => fxtX4_headFault_102 hz) h
theorem fxX4_headFault_57 {S : QS} {p : Nat} {y1 : Int32} {y2 : Int32} {y3 : Int32} {r : Int32 × QS} (h : fX4_headFault_57 S p y1 y2 y3 = some r) : q_Fx S r.2 := by
  unfold fX4_headFault_57 at h
  obtain ⟨hg28, h⟩ := q_guard h
  obtain ⟨v29, hv, h⟩ := q_bind h
  obtain ⟨r30, e31, h⟩ := q_bind h
  have fx32 : q_Fx S r30 := q_Fx.tr (q_Fx.rf S) (fxX5_addBody e31)
  exact (fx32).tr (fxX4_headFault_102 h)
theorem fxX4_headFault {S : QS} {p : Nat} {x1 : Int32} {x2 : Int32} {r : Int32 × QS} (h : fX4_headFault S p x1 x2 = some r) : q_Fx S r.2 := by
  unfold fX4_headFault at h
  obtain ⟨r33, e34, h⟩ := q_bind h
  obtain ⟨r35, e36, h⟩ := q_bind h
  obtain ⟨r37, e38, h⟩ := q_bind h
  by_cases c : (S.2.1 p 2) = (48 : Int32)
  · rw [if_pos c] at h
    obtain rfl := Option.some.inj h
    exact q_Fx.rf _
  · rw [if_neg c] at h
    by_cases c : r37 = (-1 : Int32)
    · rw [if_pos c] at h
      exact (q_Fx.rf _).tr (fxX4_headFault_57 h)
    · rw [if_neg c] at h
      obtain ⟨r39, e40, h⟩ := q_bind h
      by_cases c : r39 = true
      · rw [if_pos c] at h
        exact (q_Fx.rf _).tr (fxX4_headFault_57 h)
      · rw [if_neg c] at h
        obtain rfl := Option.some.inj h
        exact q_Fx.rf _
theorem fxtX4_memberFault_5 {p : Nat}  {x : Int32 × Int32 × QS} {z : (Int32 × QS) ⊕ (Int32 × Int32 × QS)} (h : tX4_memberFault_5 p x = some z) : q_Fx ((fun x : Int32 × Int32 × QS => x.2.2) x) ((Sum.elim (fun r : Int32 × QS => r.2) (fun x : Int32 × Int32 × QS => x.2.2)) z) := by
  unfold tX4_memberFault_5 at h
  show q_Fx x.2.2 _
  by_cases c : (x.2.2.2.1 2 5) ≤ x.2.1
  · rw [if_pos c] at h
    cases h
    exact q_Fx.rf _
  · rw [if_neg c] at h
    obtain ⟨hg1, h⟩ := q_guard h
    obtain ⟨v16, hv, h⟩ := q_bind h
    have fx17 : q_Fx x.2.2 v16.2.2 := by
      replace h := hv
      by_cases c2 : (x.2.2.2.1 6 x.2.1.toNatClampNeg) = (48 : Int32)
      · rw [if_pos c2] at h
        obtain ⟨r3, e4, h⟩ := q_bind h
        have fx5 : q_Fx x.2.2 r3 := q_Fx.tr (q_Fx.rf x.2.2) (fxX5_inherit e4)
        obtain rfl := Option.some.inj h
        exact fx5
      rw [if_neg c2] at h
      by_cases c6 : (x.2.2.2.1 6 x.2.1.toNatClampNeg) = (49 : Int32)
      · rw [if_pos c6] at h
        obtain ⟨r7, e8, h⟩ := q_bind h
        have fx9 : q_Fx x.2.2 r7.2 := q_Fx.tr (q_Fx.rf x.2.2) (fxX4_fieldFault e8)
        obtain rfl := Option.some.inj h
        exact fx9
      rw [if_neg c6] at h
      by_cases c10 : (x.2.2.2.1 6 x.2.1.toNatClampNeg) = (50 : Int32) ∨ (x.2.2.2.1 6 x.2.1.toNatClampNeg) = (51 : Int32)
      · rw [if_pos c10] at h
        obtain ⟨r11, e12, h⟩ := q_bind h
        have fx13 : q_Fx x.2.2 r11.2 := q_Fx.tr (q_Fx.rf x.2.2) (fxX4_headFault e12)
        obtain rfl := Option.some.inj h
        exact fx13
      rw [if_neg c10] at h
      obtain rfl := Option.some.inj h
      exact q_Fx.rf _
    by_cases c : v16.2.1 = (-1 : Int32)
    · rw [if_pos c] at h
      cases h
      exact fx17
    · rw [if_neg c] at h
      cases h
      exact fx17
theorem fxX4_memberFault_5 {S : QS} {p : Nat} {y1 : Int32} {y2 : Int32} {r : Int32 × QS} (h : fX4_memberFault_5 S p y1 y2 = some r) : q_Fx S ((fun r : Int32 × QS => r.2) r) := q_run_fx (fun x : Int32 × Int32 × QS => x.2.2) (fun r : Int32 × QS => r.2) (fun _ _ hz => fxtX4_memberFault_5 hz) h
theorem fxX4_memberFault {S : QS} {p : Nat}  {r : Int32 × QS} (h : fX4_memberFault S p = some r) : q_Fx S r.2 := by
  unfold fX4_memberFault at h
  exact (q_Fx.rf _).tr (fxX4_memberFault_5 h)

theorem fxtX4_beginBody_68 {p : Nat}  {x : Int32 × QS} {z : (QS) ⊕ (Int32 × QS)} (h : tX4_beginBody_68 p x = some z) : q_Fx ((fun x : Int32 × QS => x.2) x) ((Sum.elim (fun r : QS => r) (fun x : Int32 × QS => x.2)) z) := by
  unfold tX4_beginBody_68 at h
  show q_Fx x.2 _
  by_cases c : (x.2.2.1 2 5) ≤ x.1
  · rw [if_pos c] at h
    cases h
    exact q_Fx.rf _
  · rw [if_neg c] at h
    obtain ⟨hg1, h⟩ := q_guard h
    by_cases c : (x.2.2.1 6 x.1.toNatClampNeg) = (52 : Int32)
    · rw [if_pos c] at h
      cases h
      exact q_Fx.rf _
    · rw [if_neg c] at h
      obtain ⟨hg2, h⟩ := q_guard h
      by_cases c : (x.2.2.1 6 x.1.toNatClampNeg) = (47 : Int32)
      · rw [if_pos c] at h
        by_cases c : (nI 8000) ≤ (x.2.2.1 78 6)
        · rw [if_pos c] at h
          obtain ⟨hg7, h⟩ := q_guard h
          by_cases c : (46 : Int32) ≤ (x.2.2.1 6 x.1.toNatClampNeg)
          · rw [if_pos c] at h
            cases h
            exact q_Fx.rf _
          · rw [if_neg c] at h
            obtain ⟨S8, e9, h⟩ := q_bindS h
            have fx10 : q_Fx x.2 S8 := e9 ▸ q_Fx.sI (q_Fx.rf x.2)
            cases h
            exact fx10
        · rw [if_neg c] at h
          obtain ⟨hg11, h⟩ := q_guard h
          obtain ⟨S12, e13, h⟩ := q_bindS h
          have fx14 : q_Fx x.2 S12 := e13 ▸ q_Fx.sI (q_Fx.rf x.2)
          obtain ⟨hg15, h⟩ := q_guard h
          obtain ⟨S16, e17, h⟩ := q_bindS h
          have fx18 : q_Fx x.2 S16 := e17 ▸ q_Fx.sI (fx14)
          obtain ⟨S19, e20, h⟩ := q_bindS h
          have fx21 : q_Fx x.2 S19 := e20 ▸ q_Fx.sI (fx18)
          cases h
          exact fx21
      · rw [if_neg c] at h
        obtain ⟨hg3, h⟩ := q_guard h
        by_cases c : (46 : Int32) ≤ (x.2.2.1 6 x.1.toNatClampNeg)
        · rw [if_pos c] at h
          cases h
          exact q_Fx.rf _
        · rw [if_neg c] at h
          obtain ⟨S4, e5, h⟩ := q_bindS h
          have fx6 : q_Fx x.2 S4 := e5 ▸ q_Fx.sI (q_Fx.rf x.2)
          cases h
          exact fx6
theorem fxX4_beginBody_68 {S : QS} {p : Nat} {y2 : Int32} {r : QS} (h : fX4_beginBody_68 S p y2 = some r) : q_Fx S ((fun r : QS => r) r) := q_run_fx (fun x : Int32 × QS => x.2) (fun r : QS => r) (fun _ _ hz => fxtX4_beginBody_68 hz) h
theorem fxX4_beginBody {S : QS} {p : Nat} {x1 : Int32} {r : QS} (h : fX4_beginBody S p x1 = some r) : q_Fx S r := by
  unfold fX4_beginBody at h
  obtain ⟨S22, e23, h⟩ := q_bindS h
  have fx24 : q_Fx S S22 := e23 ▸ q_Fx.sI (q_Fx.rf S)
  obtain ⟨hg25, h⟩ := q_guard h
  obtain ⟨S26, e27, h⟩ := q_bindS h
  have fx28 : q_Fx S S26 := e27 ▸ q_Fx.sI (fx24)
  obtain ⟨hg29, h⟩ := q_guard h
  obtain ⟨S30, e31, h⟩ := q_bindS h
  have fx32 : q_Fx S S30 := e31 ▸ q_Fx.sI (fx28)
  obtain ⟨S33, e34, h⟩ := q_bindS h
  have fx35 : q_Fx S S33 := e34 ▸ q_Fx.sI (fx32)
  obtain ⟨S36, e37, h⟩ := q_bindS h
  have fx38 : q_Fx S S36 := e37 ▸ q_Fx.sI (fx35)
  exact (fx38).tr (fxX4_beginBody_68 h)
theorem fxX4_catchFault {S : QS} {p : Nat} {x1 : Int32} {r : Int32 × QS} (h : fX4_catchFault S p x1 = some r) : q_Fx S r.2 := by
  unfold fX4_catchFault at h
  by_cases c : (S.2.1 (p + 10) 9) = (64 : Int32)
  · rw [if_pos c] at h
    obtain rfl := Option.some.inj h
    exact q_Fx.rf _
  · rw [if_neg c] at h
    obtain ⟨r1, e2, h⟩ := q_bind h
    by_cases c : r1 = (-1 : Int32)
    · rw [if_pos c] at h
      obtain rfl := Option.some.inj h
      exact q_Fx.rf _
    · rw [if_neg c] at h
      obtain ⟨r3, e4, h⟩ := q_bind h
      by_cases c : r1 < r3
      · rw [if_pos c] at h
        obtain ⟨r5, e6, h⟩ := q_bind h
        by_cases c : r5 = (-1 : Int32)
        · rw [if_pos c] at h
          obtain rfl := Option.some.inj h
          exact q_Fx.rf _
        · rw [if_neg c] at h
          by_cases c : r5 < (S.2.1 78 7)
          · rw [if_pos c] at h
            obtain ⟨r7, e8, h⟩ := q_bind h
            obtain ⟨r9, e10, h⟩ := q_bind h
            by_cases c : r9 = true
            · rw [if_pos c] at h
              obtain ⟨r11, e12, h⟩ := q_bind h
              have fx13 : q_Fx S r11 := q_Fx.tr (q_Fx.rf S) (fxX1_addCatch e12)
              obtain rfl := Option.some.inj h
              exact fx13
            · rw [if_neg c] at h
              obtain rfl := Option.some.inj h
              exact q_Fx.rf _
          · rw [if_neg c] at h
            obtain rfl := Option.some.inj h
            exact q_Fx.rf _
      · rw [if_neg c] at h
        obtain rfl := Option.some.inj h
        exact q_Fx.rf _
theorem fxX4_endFault {S : QS} {p : Nat} {x1 : Int32} {r : Int32 × QS} (h : fX4_endFault S p x1 = some r) : q_Fx S r.2 := by
  unfold fX4_endFault at h
  obtain ⟨hg1, h⟩ := q_guard h
  obtain ⟨S2, e3, h⟩ := q_bindS h
  have fx4 : q_Fx S S2 := e3 ▸ q_Fx.sI (q_Fx.rf S)
  obtain ⟨hg5, h⟩ := q_guard h
  obtain ⟨S6, e7, h⟩ := q_bindS h
  have fx8 : q_Fx S S6 := e7 ▸ q_Fx.sI (fx4)
  obtain ⟨hg9, h⟩ := q_guard h
  obtain ⟨v10, hv, h⟩ := q_bind h
  by_cases c : v10 = true
  · rw [if_pos c] at h
    obtain rfl := Option.some.inj h
    exact fx8
  · rw [if_neg c] at h
    obtain ⟨hg11, h⟩ := q_guard h
    obtain ⟨r12, e13, h⟩ := q_bind h
    by_cases c : r12 = true
    · rw [if_pos c] at h
      obtain rfl := Option.some.inj h
      exact fx8
    · rw [if_neg c] at h
      obtain rfl := Option.some.inj h
      exact fx8
theorem fxX4_setsReference_70 {S : QS} {p : Nat} {y1 : Int32} {y4 : Int32} {y5 : Int32} {r : Bool × QS} (h : fX4_setsReference_70 S p y1 y4 y5 = some r) : q_Fx S r.2 := by
  unfold fX4_setsReference_70 at h
  obtain ⟨hg1, h⟩ := q_guard h
  obtain ⟨r2, e3, h⟩ := q_bind h
  obtain ⟨hg4, h⟩ := q_guard h
  obtain ⟨S5, e6, h⟩ := q_bindS h
  have fx7 : q_Fx S S5 := e6 ▸ q_Fx.sI (q_Fx.rf S)
  obtain ⟨hg8, h⟩ := q_guard h
  by_cases c : (S5.2.1 (p + 12) y1.toNatClampNeg) = (-1 : Int32)
  · rw [if_pos c] at h
    obtain rfl := Option.some.inj h
    exact fx7
  · rw [if_neg c] at h
    obtain rfl := Option.some.inj h
    exact fx7
theorem fxX4_setsReference {S : QS} {p : Nat} {x1 : Int32} {x2 : Int32} {x3 : Int32} {r : Bool × QS} (h : fX4_setsReference S p x1 x2 x3 = some r) : q_Fx S r.2 := by
  unfold fX4_setsReference at h
  obtain ⟨r9, e10, h⟩ := q_bind h
  obtain ⟨r11, e12, h⟩ := q_bind h
  obtain ⟨r13, e14, h⟩ := q_bind h
  obtain ⟨r15, e16, h⟩ := q_bind h
  obtain ⟨hg17, h⟩ := q_guard h
  obtain ⟨S18, e19, h⟩ := q_bindS h
  have fx20 : q_Fx S S18 := e19 ▸ q_Fx.sI (q_Fx.rf S)
  obtain ⟨hg21, h⟩ := q_guard h
  by_cases c : (S18.2.1 (p + 13) x1.toNatClampNeg) = (-1 : Int32)
  · rw [if_pos c] at h
    obtain rfl := Option.some.inj h
    exact fx20
  · rw [if_neg c] at h
    by_cases c : x2 = (35 : Int32)
    · rw [if_pos c] at h
      exact (fx20).tr (fxX4_setsReference_70 h)
    · rw [if_neg c] at h
      by_cases c : x2 = (36 : Int32)
      · rw [if_pos c] at h
        exact (fx20).tr (fxX4_setsReference_70 h)
      · rw [if_neg c] at h
        obtain ⟨hg22, h⟩ := q_guard h
        obtain ⟨r23, e24, h⟩ := q_bind h
        by_cases c : r23 = (-1 : Int32)
        · rw [if_pos c] at h
          obtain rfl := Option.some.inj h
          exact fx20
        · rw [if_neg c] at h
          obtain ⟨hg25, h⟩ := q_guard h
          obtain ⟨v26, hv, h⟩ := q_bind h
          by_cases c : (S18.2.1 (p + 24) r23.toNatClampNeg) = (q_b v26)
          · rw [if_pos c] at h
            obtain ⟨hg27, h⟩ := q_guard h
            obtain ⟨hg28, h⟩ := q_guard h
            obtain ⟨S29, e30, h⟩ := q_bindS h
            have fx31 : q_Fx S S29 := e30 ▸ q_Fx.sI (fx20)
            obtain rfl := Option.some.inj h
            exact fx31
          · rw [if_neg c] at h
            obtain rfl := Option.some.inj h
            exact fx20
theorem fxX4_addsInstruction {S : QS} {p : Nat} {x1 : Int32} {r : Bool × QS} (h : fX4_addsInstruction S p x1 = some r) : q_Fx S r.2 := by
  unfold fX4_addsInstruction at h
  obtain ⟨hg1, h⟩ := q_guard h
  obtain ⟨r2, e3, h⟩ := q_bind h
  have fx4 : q_Fx S r2 := q_Fx.tr (q_Fx.rf S) (fxX1_addInstruction e3)
  by_cases c5 : (S.2.1 6 x1.toNatClampNeg) = (0 : Int32)
  · rw [if_pos c5] at h
    obtain ⟨r6, e7, h⟩ := q_bind h
    obtain ⟨hg8, h⟩ := q_guard h
    obtain ⟨S9, e10, h⟩ := q_bindS h
    have fx11 : q_Fx S S9 := e10 ▸ q_Fx.sI (fx4)
    obtain rfl := Option.some.inj h
    exact fx11
  rw [if_neg c5] at h
  by_cases c12 : (S.2.1 6 x1.toNatClampNeg) = (2 : Int32) ∨ (S.2.1 6 x1.toNatClampNeg) = (3 : Int32) ∨ (S.2.1 6 x1.toNatClampNeg) = (4 : Int32)
  · rw [if_pos c12] at h
    obtain ⟨r13, e14, h⟩ := q_bind h
    obtain ⟨hg15, h⟩ := q_guard h
    obtain ⟨S16, e17, h⟩ := q_bindS h
    have fx18 : q_Fx S S16 := e17 ▸ q_Fx.sI (fx4)
    obtain ⟨v21, hv, h⟩ := q_bind h
    obtain ⟨hg22, h⟩ := q_guard h
    obtain ⟨S23, e24, h⟩ := q_bindS h
    have fx25 : q_Fx S S23 := e24 ▸ q_Fx.sI (fx18)
    obtain ⟨hg26, h⟩ := q_guard h
    by_cases c : (S23.2.1 (p + 12) (S.2.1 (p + 10) 0).toNatClampNeg) < 0
    · rw [if_pos c] at h
      obtain rfl := Option.some.inj h
      exact fx25
    · rw [if_neg c] at h
      obtain ⟨hg27, h⟩ := q_guard h
      obtain ⟨hg28, h⟩ := q_guard h
      by_cases c : (S23.2.1 (p + 28) (S23.2.1 78 8).toNatClampNeg) ≤ (S23.2.1 (p + 12) (S.2.1 (p + 10) 0).toNatClampNeg)
      · rw [if_pos c] at h
        obtain rfl := Option.some.inj h
        exact fx25
      · rw [if_neg c] at h
        obtain rfl := Option.some.inj h
        exact fx25
  rw [if_neg c12] at h
  by_cases c29 : (S.2.1 6 x1.toNatClampNeg) = (30 : Int32) ∨ (S.2.1 6 x1.toNatClampNeg) = (37 : Int32) ∨ (S.2.1 6 x1.toNatClampNeg) = (38 : Int32)
  · rw [if_pos c29] at h
    obtain ⟨r30, e31, h⟩ := q_bind h
    obtain ⟨hg32, h⟩ := q_guard h
    obtain ⟨S33, e34, h⟩ := q_bindS h
    have fx35 : q_Fx S S33 := e34 ▸ q_Fx.sI (fx4)
    obtain ⟨hg36, h⟩ := q_guard h
    by_cases c : (S33.2.1 (p + 12) (S.2.1 (p + 10) 0).toNatClampNeg) = (-1 : Int32)
    · rw [if_pos c] at h
      obtain rfl := Option.some.inj h
      exact fx35
    · rw [if_neg c] at h
      obtain rfl := Option.some.inj h
      exact fx35
  rw [if_neg c29] at h
  by_cases c37 : (S.2.1 6 x1.toNatClampNeg) = (31 : Int32)
  · rw [if_pos c37] at h
    obtain ⟨r38, e39, h⟩ := q_bind h
    obtain ⟨r40, e41, h⟩ := q_bind h
    obtain ⟨hg42, h⟩ := q_guard h
    obtain ⟨S43, e44, h⟩ := q_bindS h
    have fx45 : q_Fx S S43 := e44 ▸ q_Fx.sI (fx4)
    obtain ⟨hg46, h⟩ := q_guard h
    by_cases c : (S43.2.1 (p + 12) (S.2.1 (p + 10) 0).toNatClampNeg) = (-1 : Int32)
    · rw [if_pos c] at h
      obtain rfl := Option.some.inj h
      exact fx45
    · rw [if_neg c] at h
      obtain rfl := Option.some.inj h
      exact fx45
  rw [if_neg c37] at h
  by_cases c47 : (S.2.1 6 x1.toNatClampNeg) = (35 : Int32) ∨ (S.2.1 6 x1.toNatClampNeg) = (36 : Int32) ∨ (S.2.1 6 x1.toNatClampNeg) = (39 : Int32) ∨ (S.2.1 6 x1.toNatClampNeg) = (40 : Int32)
  · rw [if_pos c47] at h
    obtain ⟨r48, e49, h⟩ := q_bind h
    have fx50 : q_Fx S r48.2 := q_Fx.tr (fx4) (fxX4_setsReference e49)
    obtain rfl := Option.some.inj h
    exact fx50
  rw [if_neg c47] at h
  obtain ⟨r51, e52, h⟩ := q_bind h
  obtain ⟨v55, hv, h⟩ := q_bind h
  obtain ⟨hg56, h⟩ := q_guard h
  obtain ⟨S57, e58, h⟩ := q_bindS h
  have fx59 : q_Fx S S57 := e58 ▸ q_Fx.sI (fx4)
  obtain ⟨r60, e61, h⟩ := q_bind h
  by_cases c : r60 = true
  · rw [if_pos c] at h
    obtain ⟨hg62, h⟩ := q_guard h
    by_cases c : (S57.2.1 (p + 12) (S.2.1 (p + 10) 0).toNatClampNeg) < 0
    · rw [if_pos c] at h
      obtain rfl := Option.some.inj h
      exact fx59
    · rw [if_neg c] at h
      obtain ⟨hg63, h⟩ := q_guard h
      by_cases c : (S57.2.1 78 7) ≤ (S57.2.1 (p + 12) (S.2.1 (p + 10) 0).toNatClampNeg)
      · rw [if_pos c] at h
        obtain rfl := Option.some.inj h
        exact fx59
      · rw [if_neg c] at h
        obtain rfl := Option.some.inj h
        exact fx59
  · rw [if_neg c] at h
    obtain rfl := Option.some.inj h
    exact fx59

theorem fxtX4_lineFault_7 {p : Nat}  {x : Int32 × QS} {z : (Int32 × QS) ⊕ (Int32 × QS)} (h : tX4_lineFault_7 p x = some z) : q_Fx ((fun x : Int32 × QS => x.2) x) ((Sum.elim (fun r : Int32 × QS => r.2) (fun x : Int32 × QS => x.2)) z) := by
  unfold tX4_lineFault_7 at h
  show q_Fx x.2 _
  by_cases c : (x.2.2.1 2 5) ≤ x.1
  · rw [if_pos c] at h
    cases h
    exact q_Fx.rf _
  · rw [if_neg c] at h
    obtain ⟨hg1, h⟩ := q_guard h
    obtain ⟨v30, hv, h⟩ := q_bind h
    have fx31 : q_Fx x.2 v30.2 := by
      replace h := hv
      by_cases c2 : (x.2.2.1 6 x.1.toNatClampNeg) = (46 : Int32)
      · rw [if_pos c2] at h
        obtain ⟨r3, e4, h⟩ := q_bind h
        have fx5 : q_Fx x.2 r3.2 := q_Fx.tr (q_Fx.rf x.2) (fxX4_catchFault e4)
        obtain rfl := Option.some.inj h
        exact fx5
      rw [if_neg c2] at h
      by_cases c6 : (x.2.2.1 6 x.1.toNatClampNeg) = (47 : Int32)
      · rw [if_pos c6] at h
        obtain ⟨r7, e8, h⟩ := q_bind h
        obtain ⟨v9, hv, h⟩ := q_bind h
        obtain rfl := Option.some.inj h
        exact q_Fx.rf _
      rw [if_neg c6] at h
      by_cases c10 : (x.2.2.1 6 x.1.toNatClampNeg) = (48 : Int32) ∨ (x.2.2.1 6 x.1.toNatClampNeg) = (49 : Int32) ∨ (x.2.2.1 6 x.1.toNatClampNeg) = (53 : Int32)
      · rw [if_pos c10] at h
        obtain rfl := Option.some.inj h
        exact q_Fx.rf _
      rw [if_neg c10] at h
      by_cases c11 : (x.2.2.1 6 x.1.toNatClampNeg) = (50 : Int32) ∨ (x.2.2.1 6 x.1.toNatClampNeg) = (51 : Int32)
      · rw [if_pos c11] at h
        obtain ⟨r12, e13, h⟩ := q_bind h
        have fx14 : q_Fx x.2 r12 := q_Fx.tr (q_Fx.rf x.2) (fxX4_beginBody e13)
        obtain rfl := Option.some.inj h
        exact fx14
      rw [if_neg c11] at h
      by_cases c15 : (x.2.2.1 6 x.1.toNatClampNeg) = (52 : Int32)
      · rw [if_pos c15] at h
        obtain ⟨r16, e17, h⟩ := q_bind h
        have fx18 : q_Fx x.2 r16.2 := q_Fx.tr (q_Fx.rf x.2) (fxX4_endFault e17)
        obtain rfl := Option.some.inj h
        exact fx18
      rw [if_neg c15] at h
      obtain ⟨hg19, h⟩ := q_guard h
      obtain ⟨r20, e21, h⟩ := q_bind h
      by_cases c : r20 = true
      · rw [if_pos c] at h
        obtain ⟨r22, e23, h⟩ := q_bind h
        have fx24 : q_Fx x.2 r22.2 := q_Fx.tr (q_Fx.rf x.2) (fxX4_addsInstruction e23)
        by_cases c : r22.1 = true
        · rw [if_pos c] at h
          obtain rfl := Option.some.inj h
          exact fx24
        · rw [if_neg c] at h
          obtain rfl := Option.some.inj h
          exact fx24
      · rw [if_neg c] at h
        obtain rfl := Option.some.inj h
        exact q_Fx.rf _
    by_cases c : v30.1 = (-1 : Int32)
    · rw [if_pos c] at h
      cases h
      exact fx31
    · rw [if_neg c] at h
      cases h
      exact fx31
theorem fxX4_lineFault_7 {S : QS} {p : Nat} {y1 : Int32} {r : Int32 × QS} (h : fX4_lineFault_7 S p y1 = some r) : q_Fx S ((fun r : Int32 × QS => r.2) r) := q_run_fx (fun x : Int32 × QS => x.2) (fun r : Int32 × QS => r.2) (fun _ _ hz => fxtX4_lineFault_7 hz) h
theorem fxX4_lineFault {S : QS} {p : Nat}  {r : Int32 × QS} (h : fX4_lineFault S p = some r) : q_Fx S r.2 := by
  unfold fX4_lineFault at h
  obtain ⟨S32, e33, h⟩ := q_bindS h
  have fx34 : q_Fx S S32 := e33 ▸ q_Fx.sI (q_Fx.rf S)
  exact (fx34).tr (fxX4_lineFault_7 h)
theorem fxtX4_mainFault_2 {p : Nat}  {x : Int32 × QS} {z : (Int32 × QS) ⊕ (Int32 × QS)} (h : tX4_mainFault_2 p x = some z) : q_Fx ((fun x : Int32 × QS => x.2) x) ((Sum.elim (fun r : Int32 × QS => r.2) (fun x : Int32 × QS => x.2)) z) := by
  unfold tX4_mainFault_2 at h
  show q_Fx x.2 _
  by_cases c : (x.2.2.1 p 2) ≤ x.1
  · rw [if_pos c] at h
    cases h
    exact q_Fx.rf _
  · rw [if_neg c] at h
    obtain ⟨hg1, h⟩ := q_guard h
    obtain ⟨v4, hv, h⟩ := q_bind h
    obtain ⟨hg5, h⟩ := q_guard h
    obtain ⟨hg6, h⟩ := q_guard h
    by_cases c : v4 = true
    · rw [if_pos c] at h
      obtain ⟨hg7, h⟩ := q_guard h
      obtain ⟨r8, e9, h⟩ := q_bind h
      by_cases c : r8 = true
      · rw [if_pos c] at h
        obtain ⟨r10, e11, h⟩ := q_bind h
        by_cases c : r10 = true
        · rw [if_pos c] at h
          obtain ⟨S12, e13, h⟩ := q_bindS h
          have fx14 : q_Fx x.2 S12 := e13 ▸ q_Fx.sI (q_Fx.rf x.2)
          cases h
          exact fx14
        · rw [if_neg c] at h
          cases h
          exact q_Fx.rf _
      · rw [if_neg c] at h
        cases h
        exact q_Fx.rf _
    · rw [if_neg c] at h
      cases h
      exact q_Fx.rf _
theorem fxX4_mainFault_2 {S : QS} {p : Nat} {y1 : Int32} {r : Int32 × QS} (h : fX4_mainFault_2 S p y1 = some r) : q_Fx S ((fun r : Int32 × QS => r.2) r) := q_run_fx (fun x : Int32 × QS => x.2) (fun r : Int32 × QS => r.2) (fun _ _ hz => fxtX4_mainFault_2 hz) h
theorem fxX4_mainFault {S : QS} {p : Nat}  {r : Int32 × QS} (h : fX4_mainFault S p = some r) : q_Fx S r.2 := by
  unfold fX4_mainFault at h
  exact (q_Fx.rf _).tr (fxX4_mainFault_2 h)

theorem fxX3_arrive {S : QS} {p : Nat} {x1 : Int32} {x2 : Int32} {r : QS} (h : fX3_arrive S p x1 x2 = some r) : q_Fx S r := by
  unfold fX3_arrive at h
  by_cases c : x1 < 0
  · rw [if_pos c] at h
    obtain rfl := Option.some.inj h
    exact q_Fx.rf _
  · rw [if_neg c] at h
    by_cases c : (S.2.1 (p + 10) 0) ≤ x1
    · rw [if_pos c] at h
      obtain rfl := Option.some.inj h
      exact q_Fx.rf _
    · rw [if_neg c] at h
      obtain ⟨hg1, h⟩ := q_guard h
      obtain ⟨hg2, h⟩ := q_guard h
      by_cases c : ((S.2.1 82 x1.toNatClampNeg) ||| x2) = (S.2.1 82 x1.toNatClampNeg)
      · rw [if_pos c] at h
        obtain rfl := Option.some.inj h
        exact q_Fx.rf _
      · rw [if_neg c] at h
        obtain ⟨hg3, h⟩ := q_guard h
        obtain ⟨hg4, h⟩ := q_guard h
        obtain ⟨S5, e6, h⟩ := q_bindS h
        have fx7 : q_Fx S S5 := e6 ▸ q_Fx.sI (q_Fx.rf S)
        obtain ⟨hg8, h⟩ := q_guard h
        obtain ⟨S9, e10, h⟩ := q_bindS h
        have fx11 : q_Fx S S9 := e10 ▸ q_Fx.sI (fx7)
        obtain ⟨S12, e13, h⟩ := q_bindS h
        have fx14 : q_Fx S S12 := e13 ▸ q_Fx.sI (fx11)
        obtain rfl := Option.some.inj h
        exact fx14
theorem fxtX3_spread_97 {p : Nat} {y1 : Int32} {y2 : Int32} {x : Int32 × QS} {z : (QS) ⊕ (Int32 × QS)} (h : tX3_spread_97 p y1 y2 x = some z) : q_Fx ((fun x : Int32 × QS => x.2) x) ((Sum.elim (fun r : QS => r) (fun x : Int32 × QS => x.2)) z) := by
  unfold tX3_spread_97 at h
  show q_Fx x.2 _
  obtain ⟨hg1, h⟩ := q_guard h
  by_cases c : (x.2.2.1 (p + 32) y2.toNatClampNeg) ≤ x.1
  · rw [if_pos c] at h
    cases h
    exact q_Fx.rf _
  · rw [if_neg c] at h
    obtain ⟨r2, e3, h⟩ := q_bind h
    by_cases c : r2 = true
    · rw [if_pos c] at h
      obtain ⟨hg4, h⟩ := q_guard h
      obtain ⟨r5, e6, h⟩ := q_bind h
      have fx7 : q_Fx x.2 r5 := q_Fx.tr (q_Fx.rf x.2) (fxX3_arrive e6)
      cases h
      exact fx7
    · rw [if_neg c] at h
      cases h
      exact q_Fx.rf _
theorem fxX3_spread_97 {S : QS} {p : Nat} {y1 : Int32} {y2 : Int32} {y5 : Int32} {r : QS} (h : fX3_spread_97 S p y1 y2 y5 = some r) : q_Fx S ((fun r : QS => r) r) := q_run_fx (fun x : Int32 × QS => x.2) (fun r : QS => r) (fun _ _ hz => fxtX3_spread_97 hz) h
theorem fxX3_spread {S : QS} {p : Nat} {x1 : Int32} {x2 : Int32} {r : QS} (h : fX3_spread S p x1 x2 = some r) : q_Fx S r := by
  unfold fX3_spread at h
  obtain ⟨r8, e9, h⟩ := q_bind h
  by_cases c : r8 = 0
  · rw [if_pos c] at h
    obtain rfl := Option.some.inj h
    exact q_Fx.rf _
  · rw [if_neg c] at h
    obtain ⟨r10, e11, h⟩ := q_bind h
    obtain ⟨r12, e13, h⟩ := q_bind h
    obtain ⟨hg14, h⟩ := q_guard h
    obtain ⟨r15, e16, h⟩ := q_bind h
    obtain ⟨v20, hv, h⟩ := q_bind h
    have fx21 : q_Fx S v20 := by
      replace h := hv
      by_cases c : r15 = true
      · rw [if_pos c] at h
        obtain ⟨r17, e18, h⟩ := q_bind h
        have fx19 : q_Fx S r17 := q_Fx.tr (q_Fx.rf S) (fxX3_arrive e18)
        obtain rfl := Option.some.inj h
        exact fx19
      · rw [if_neg c] at h
        obtain rfl := Option.some.inj h
        exact q_Fx.rf _
    obtain ⟨hg22, h⟩ := q_guard h
    obtain ⟨r23, e24, h⟩ := q_bind h
    obtain ⟨v29, hv, h⟩ := q_bind h
    have fx30 : q_Fx S v29 := by
      replace h := hv
      by_cases c : r23 = true
      · rw [if_pos c] at h
        obtain ⟨hg25, h⟩ := q_guard h
        obtain ⟨r26, e27, h⟩ := q_bind h
        have fx28 : q_Fx S r26 := q_Fx.tr (fx21) (fxX3_arrive e27)
        obtain rfl := Option.some.inj h
        exact fx28
      · rw [if_neg c] at h
        obtain rfl := Option.some.inj h
        exact fx21
    obtain ⟨hg31, h⟩ := q_guard h
    exact (fx30).tr (fxX3_spread_97 h)
theorem fxtX3_firstFault_107 {p : Nat} {y3 : Int32} {x : Int32 × QS} {z : (Int32 × QS) ⊕ (Int32 × QS)} (h : tX3_firstFault_107 p y3 x = some z) : q_Fx ((fun x : Int32 × QS => x.2) x) ((Sum.elim (fun r : Int32 × QS => r.2) (fun x : Int32 × QS => x.2)) z) := by
  unfold tX3_firstFault_107 at h
  show q_Fx x.2 _
  by_cases c : y3 ≤ x.1
  · rw [if_pos c] at h
    cases h
    exact q_Fx.rf _
  · rw [if_neg c] at h
    obtain ⟨hg1, h⟩ := q_guard h
    obtain ⟨r2, e3, h⟩ := q_bind h
    by_cases c : (x.2.2.1 82 x.1.toNatClampNeg) = r2
    · rw [if_pos c] at h
      obtain ⟨r4, e5, h⟩ := q_bind h
      by_cases c : r4 ≤ (1 : Int32)
      · rw [if_pos c] at h
        by_cases c : (x.2.2.1 82 x.1.toNatClampNeg) = 0
        · rw [if_pos c] at h
          obtain ⟨hg12, h⟩ := q_guard h
          obtain ⟨S13, e14, h⟩ := q_bindS h
          have fx15 : q_Fx x.2 S13 := e14 ▸ q_Fx.sI (q_Fx.rf x.2)
          cases h
          exact fx15
        · rw [if_neg c] at h
          obtain ⟨r6, e7, h⟩ := q_bind h
          obtain ⟨hg8, h⟩ := q_guard h
          obtain ⟨S9, e10, h⟩ := q_bindS h
          have fx11 : q_Fx x.2 S9 := e10 ▸ q_Fx.sI (q_Fx.rf x.2)
          cases h
          exact fx11
      · rw [if_neg c] at h
        cases h
        exact q_Fx.rf _
    · rw [if_neg c] at h
      cases h
      exact q_Fx.rf _
theorem fxX3_firstFault_107 {S : QS} {p : Nat} {y3 : Int32} {y4 : Int32} {r : Int32 × QS} (h : fX3_firstFault_107 S p y3 y4 = some r) : q_Fx S ((fun r : Int32 × QS => r.2) r) := q_run_fx (fun x : Int32 × QS => x.2) (fun r : Int32 × QS => r.2) (fun _ _ hz => fxtX3_firstFault_107 hz) h
theorem fxtX3_firstFault_61 {p : Nat} {y1 : Int32} {y2 : Int32} {y3 : Int32} {x : Int32 × Int32 × QS} {z : ((Int32 × QS) ⊕ (Int32 × QS)) ⊕ (Int32 × Int32 × QS)} (h : tX3_firstFault_61 p y1 y2 y3 x = some z) : q_Fx ((fun x : Int32 × Int32 × QS => x.2.2) x) ((Sum.elim (Sum.elim (fun r : Int32 × QS => r.2) (fun x : Int32 × QS => x.2)) (fun x : Int32 × Int32 × QS => x.2.2)) z) := by
  unfold tX3_firstFault_61 at h
  show q_Fx x.2.2 _
  by_cases c : y3 ≤ x.2.1
  · rw [if_pos c] at h
    cases h
    exact q_Fx.rf _
  · rw [if_neg c] at h
    obtain ⟨hg16, h⟩ := q_guard h
    by_cases c : (x.2.2.2.1 83 x.2.1.toNatClampNeg) = 0
    · rw [if_pos c] at h
      cases h
      exact q_Fx.rf _
    · rw [if_neg c] at h
      obtain ⟨hg17, h⟩ := q_guard h
      obtain ⟨S18, e19, h⟩ := q_bindS h
      have fx20 : q_Fx x.2.2 S18 := e19 ▸ q_Fx.sI (q_Fx.rf x.2.2)
      obtain ⟨r21, e22, h⟩ := q_bind h
      have fx23 : q_Fx x.2.2 r21 := q_Fx.tr (fx20) (fxX3_spread e22)
      cases h
      exact fx23
theorem fxuX3_firstFault_61 {S : QS} {p : Nat} {y1 : Int32} {y2 : Int32} {y3 : Int32} {y4 : Int32} {y5 : Int32} {r : (Int32 × QS) ⊕ (Int32 × QS)} (h : uX3_firstFault_61 S p y1 y2 y3 y4 y5 = some r) : q_Fx S ((Sum.elim (fun r : Int32 × QS => r.2) (fun x : Int32 × QS => x.2)) r) := q_run_fx (fun x : Int32 × Int32 × QS => x.2.2) (Sum.elim (fun r : Int32 × QS => r.2) (fun x : Int32 × QS => x.2)) (fun _ _ hz => fxtX3_firstFault_61 hz) h
theorem fxtX3_firstFault_39 {p : Nat} {y1 : Int32} {y2 : Int32} {y3 : Int32} {x : Int32 × QS} {z : (Int32 × QS) ⊕ (Int32 × QS)} (h : tX3_firstFault_39 p y1 y2 y3 x = some z) : q_Fx ((fun x : Int32 × QS => x.2) x) ((Sum.elim (fun r : Int32 × QS => r.2) (fun x : Int32 × QS => x.2)) z) := by
  unfold tX3_firstFault_39 at h
  show q_Fx x.2 _
  by_cases c : (1000000 : Int32) ≤ x.1
  · rw [if_pos c] at h
    obtain ⟨r24, e25, h⟩ := q_bind h
    cases h
    exact (q_Fx.rf _).tr (fxX3_firstFault_107 e25)
  · rw [if_neg c] at h
    by_cases c : (x.2.2.1 81 4) = 0
    · rw [if_pos c] at h
      obtain ⟨r26, e27, h⟩ := q_bind h
      cases h
      exact (q_Fx.rf _).tr (fxX3_firstFault_107 e27)
    · rw [if_neg c] at h
      obtain ⟨S28, e29, h⟩ := q_bindS h
      have fx30 : q_Fx x.2 S28 := e29 ▸ q_Fx.sI (q_Fx.rf x.2)
      exact (fx30).tr (fxuX3_firstFault_61 h)
theorem fxX3_firstFault_39 {S : QS} {p : Nat} {y1 : Int32} {y2 : Int32} {y3 : Int32} {y4 : Int32} {r : Int32 × QS} (h : fX3_firstFault_39 S p y1 y2 y3 y4 = some r) : q_Fx S ((fun r : Int32 × QS => r.2) r) := q_run_fx (fun x : Int32 × QS => x.2) (fun r : Int32 × QS => r.2) (fun _ _ hz => fxtX3_firstFault_39 hz) h
theorem fxX3_firstFault {S : QS} {p : Nat} {x1 : Int32} {r : Int32 × QS} (h : fX3_firstFault S p x1 = some r) : q_Fx S r.2 := by
  unfold fX3_firstFault at h
  obtain ⟨hg31, h⟩ := q_guard h
  obtain ⟨hg32, h⟩ := q_guard h
  obtain ⟨r33, e34, h⟩ := q_bind h
  have fx35 : q_Fx S r33 := q_Fx.tr (q_Fx.rf S) (fxJ7_fill_fda19 e34)
  obtain ⟨r36, e37, h⟩ := q_bind h
  have fx38 : q_Fx S r36 := q_Fx.tr (fx35) (fxX3_arrive e37)
  exact (fx38).tr (fxX3_firstFault_39 h)

theorem fxtX9_arrive_67 {p : Nat} {y1 : Int32} {y2 : Int32} {y3 : Int32} {x : Int32 × Int32 × QS} {z : (QS) ⊕ (Int32 × Int32 × QS)} (h : tX9_arrive_67 p y1 y2 y3 x = some z) : q_Fx ((fun x : Int32 × Int32 × QS => x.2.2) x) ((Sum.elim (fun r : QS => r) (fun x : Int32 × Int32 × QS => x.2.2)) z) := by
  unfold tX9_arrive_67 at h
  show q_Fx x.2.2 _
  by_cases c : y3 ≤ x.2.1
  · rw [if_pos c] at h
    by_cases c : x.1 = 0
    · rw [if_pos c] at h
      cases h
      exact q_Fx.rf _
    · rw [if_neg c] at h
      obtain ⟨hg1, h⟩ := q_guard h
      obtain ⟨S2, e3, h⟩ := q_bindS h
      have fx4 : q_Fx x.2.2 S2 := e3 ▸ q_Fx.sI (q_Fx.rf x.2.2)
      obtain ⟨S5, e6, h⟩ := q_bindS h
      have fx7 : q_Fx x.2.2 S5 := e6 ▸ q_Fx.sI (fx4)
      cases h
      exact fx7
  · rw [if_neg c] at h
    obtain ⟨hg8, h⟩ := q_guard h
    obtain ⟨hg9, h⟩ := q_guard h
    obtain ⟨r10, e11, h⟩ := q_bind h
    obtain ⟨hg12, h⟩ := q_guard h
    obtain ⟨v13, hv, h⟩ := q_bind h
    obtain ⟨hg14, h⟩ := q_guard h
    obtain ⟨S15, e16, h⟩ := q_bindS h
    have fx17 : q_Fx x.2.2 S15 := e16 ▸ q_Fx.sI (q_Fx.rf x.2.2)
    cases h
    exact fx17
theorem fxX9_arrive_67 {S : QS} {p : Nat} {y1 : Int32} {y2 : Int32} {y3 : Int32} {y4 : Int32} {y5 : Int32} {r : QS} (h : fX9_arrive_67 S p y1 y2 y3 y4 y5 = some r) : q_Fx S ((fun r : QS => r) r) := q_run_fx (fun x : Int32 × Int32 × QS => x.2.2) (fun r : QS => r) (fun _ _ hz => fxtX9_arrive_67 hz) h
theorem fxX9_arrive {S : QS} {p : Nat} {x1 : Int32} {r : QS} (h : fX9_arrive S p x1 = some r) : q_Fx S r := by
  unfold fX9_arrive at h
  obtain ⟨hg18, h⟩ := q_guard h
  obtain ⟨hg19, h⟩ := q_guard h
  obtain ⟨v20, hv, h⟩ := q_bind h
  obtain ⟨hg21, h⟩ := q_guard h
  by_cases c : (S.2.1 86 x1.toNatClampNeg) = 0
  · rw [if_pos c] at h
    obtain ⟨hg22, h⟩ := q_guard h
    obtain ⟨S23, e24, h⟩ := q_bindS h
    have fx25 : q_Fx S S23 := e24 ▸ q_Fx.cp (q_Fx.rf S)
    obtain ⟨hg26, h⟩ := q_guard h
    obtain ⟨S27, e28, h⟩ := q_bindS h
    have fx29 : q_Fx S S27 := e28 ▸ q_Fx.sI (fx25)
    exact (fx29).tr (fxX9_arrive_67 h)
  · rw [if_neg c] at h
    exact (q_Fx.rf _).tr (fxX9_arrive_67 h)
theorem fxtX9_enter_2 {p : Nat} {y1 : Int32} {x : Int32 × QS} {z : (QS) ⊕ (Int32 × QS)} (h : tX9_enter_2 p y1 x = some z) : q_Fx ((fun x : Int32 × QS => x.2) x) ((Sum.elim (fun r : QS => r) (fun x : Int32 × QS => x.2)) z) := by
  unfold tX9_enter_2 at h
  show q_Fx x.2 _
  by_cases c : (12 : Int32) ≤ x.1
  · rw [if_pos c] at h
    obtain ⟨hg1, h⟩ := q_guard h
    obtain ⟨r2, e3, h⟩ := q_bind h
    have fx4 : q_Fx x.2 r2 := q_Fx.tr (q_Fx.rf x.2) (fxX9_arrive e3)
    cases h
    exact fx4
  · rw [if_neg c] at h
    obtain ⟨hg5, h⟩ := q_guard h
    obtain ⟨v7, hv, h⟩ := q_bind h
    obtain ⟨hg8, h⟩ := q_guard h
    obtain ⟨S9, e10, h⟩ := q_bindS h
    have fx11 : q_Fx x.2 S9 := e10 ▸ q_Fx.sI (q_Fx.rf x.2)
    cases h
    exact fx11
theorem fxX9_enter_2 {S : QS} {p : Nat} {y1 : Int32} {y2 : Int32} {r : QS} (h : fX9_enter_2 S p y1 y2 = some r) : q_Fx S ((fun r : QS => r) r) := q_run_fx (fun x : Int32 × QS => x.2) (fun r : QS => r) (fun _ _ hz => fxtX9_enter_2 hz) h
theorem fxX9_enter {S : QS} {p : Nat} {x1 : Int32} {r : QS} (h : fX9_enter S p x1 = some r) : q_Fx S r := by
  unfold fX9_enter at h
  exact (q_Fx.rf _).tr (fxX9_enter_2 h)
theorem fxX9_swap {S : QS}  {x1 : Int32} {x2 : Int32} {r : QS} (h : fX9_swap S x1 x2 = some r) : q_Fx S r := by
  unfold fX9_swap at h
  obtain ⟨hg1, h⟩ := q_guard h
  obtain ⟨hg2, h⟩ := q_guard h
  obtain ⟨hg3, h⟩ := q_guard h
  obtain ⟨S4, e5, h⟩ := q_bindS h
  have fx6 : q_Fx S S4 := e5 ▸ q_Fx.sI (q_Fx.rf S)
  obtain ⟨hg7, h⟩ := q_guard h
  obtain ⟨S8, e9, h⟩ := q_bindS h
  have fx10 : q_Fx S S8 := e9 ▸ q_Fx.sI (fx6)
  obtain rfl := Option.some.inj h
  exact fx10
theorem fxX9_perform {S : QS} {p : Nat} {x1 : Int32} {r : Bool × QS} (h : fX9_perform S p x1 = some r) : q_Fx S r.2 := by
  unfold fX9_perform at h
  obtain ⟨hg1, h⟩ := q_guard h
  obtain ⟨hg2, h⟩ := q_guard h
  obtain ⟨r3, e4, h⟩ := q_bind h
  obtain ⟨hg5, h⟩ := q_guard h
  by_cases c6 : (S.2.1 (p + 11) x1.toNatClampNeg) = (2 : Int32)
  · rw [if_pos c6] at h
    obtain ⟨hg7, h⟩ := q_guard h
    obtain ⟨hg8, h⟩ := q_guard h
    obtain ⟨S9, e10, h⟩ := q_bindS h
    have fx11 : q_Fx S S9 := e10 ▸ q_Fx.sI (q_Fx.rf S)
    obtain rfl := Option.some.inj h
    exact fx11
  rw [if_neg c6] at h
  by_cases c12 : (S.2.1 (p + 11) x1.toNatClampNeg) = (3 : Int32)
  · rw [if_pos c12] at h
    obtain ⟨hg13, h⟩ := q_guard h
    obtain ⟨hg14, h⟩ := q_guard h
    obtain ⟨S15, e16, h⟩ := q_bindS h
    have fx17 : q_Fx S S15 := e16 ▸ q_Fx.sI (q_Fx.rf S)
    obtain rfl := Option.some.inj h
    exact fx17
  rw [if_neg c12] at h
  by_cases c18 : (S.2.1 (p + 11) x1.toNatClampNeg) = (5 : Int32)
  · rw [if_pos c18] at h
    obtain ⟨hg19, h⟩ := q_guard h
    obtain ⟨hg20, h⟩ := q_guard h
    obtain ⟨S21, e22, h⟩ := q_bindS h
    have fx23 : q_Fx S S21 := e22 ▸ q_Fx.sI (q_Fx.rf S)
    obtain rfl := Option.some.inj h
    exact fx23
  rw [if_neg c18] at h
  by_cases c24 : (S.2.1 (p + 11) x1.toNatClampNeg) = (7 : Int32)
  · rw [if_pos c24] at h
    obtain ⟨r25, e26, h⟩ := q_bind h
    have fx27 : q_Fx S r25 := q_Fx.tr (q_Fx.rf S) (fxX9_swap e26)
    obtain rfl := Option.some.inj h
    exact fx27
  rw [if_neg c24] at h
  by_cases c28 : (S.2.1 (p + 11) x1.toNatClampNeg) = (33 : Int32)
  · rw [if_pos c28] at h
    obtain ⟨hg29, h⟩ := q_guard h
    obtain ⟨r30, e31, h⟩ := q_bind h
    obtain ⟨hg32, h⟩ := q_guard h
    obtain ⟨S33, e34, h⟩ := q_bindS h
    have fx35 : q_Fx S S33 := e34 ▸ q_Fx.sI (q_Fx.rf S)
    obtain ⟨hg36, h⟩ := q_guard h
    by_cases c : (S33.2.1 88 (((12 : Int32) + (S.2.1 (p + 17) x1.toNatClampNeg)) - r3).toNatClampNeg) = (68 : Int32)
    · rw [if_pos c] at h
      obtain rfl := Option.some.inj h
      exact fx35
    · rw [if_neg c] at h
      obtain rfl := Option.some.inj h
      exact fx35
  rw [if_neg c28] at h
  obtain ⟨r37, e38, h⟩ := q_bind h
  by_cases c : r37 = (1 : Int32)
  · rw [if_pos c] at h
    obtain ⟨r39, e40, h⟩ := q_bind h
    obtain ⟨hg41, h⟩ := q_guard h
    obtain ⟨S42, e43, h⟩ := q_bindS h
    have fx44 : q_Fx S S42 := e43 ▸ q_Fx.sI (q_Fx.rf S)
    obtain rfl := Option.some.inj h
    exact fx44
  · rw [if_neg c] at h
    obtain rfl := Option.some.inj h
    exact q_Fx.rf _
theorem fxtX9_spread_86 {p : Nat} {y1 : Int32} {y2 : Int32} {x : Int32 × QS} {z : (QS) ⊕ (Int32 × QS)} (h : tX9_spread_86 p y1 y2 x = some z) : q_Fx ((fun x : Int32 × QS => x.2) x) ((Sum.elim (fun r : QS => r) (fun x : Int32 × QS => x.2)) z) := by
  unfold tX9_spread_86 at h
  show q_Fx x.2 _
  obtain ⟨hg1, h⟩ := q_guard h
  by_cases c : (x.2.2.1 (p + 32) y2.toNatClampNeg) ≤ x.1
  · rw [if_pos c] at h
    cases h
    exact q_Fx.rf _
  · rw [if_neg c] at h
    obtain ⟨r2, e3, h⟩ := q_bind h
    by_cases c : r2 = true
    · rw [if_pos c] at h
      obtain ⟨hg4, h⟩ := q_guard h
      obtain ⟨S5, e6, h⟩ := q_bindS h
      have fx7 : q_Fx x.2 S5 := e6 ▸ q_Fx.cp (q_Fx.rf x.2)
      obtain ⟨hg8, h⟩ := q_guard h
      obtain ⟨hg9, h⟩ := q_guard h
      obtain ⟨S10, e11, h⟩ := q_bindS h
      have fx12 : q_Fx x.2 S10 := e11 ▸ q_Fx.sI (fx7)
      obtain ⟨hg13, h⟩ := q_guard h
      obtain ⟨r14, e15, h⟩ := q_bind h
      have fx16 : q_Fx x.2 r14 := q_Fx.tr (fx12) (fxX9_arrive e15)
      cases h
      exact fx16
    · rw [if_neg c] at h
      cases h
      exact q_Fx.rf _
theorem fxX9_spread_86 {S : QS} {p : Nat} {y1 : Int32} {y2 : Int32} {y3 : Int32} {r : QS} (h : fX9_spread_86 S p y1 y2 y3 = some r) : q_Fx S ((fun r : QS => r) r) := q_run_fx (fun x : Int32 × QS => x.2) (fun r : QS => r) (fun _ _ hz => fxtX9_spread_86 hz) h
theorem fxX9_spread {S : QS} {p : Nat} {x1 : Int32} {x2 : Int32} {r : QS} (h : fX9_spread S p x1 x2 = some r) : q_Fx S r := by
  unfold fX9_spread at h
  obtain ⟨hg17, h⟩ := q_guard h
  obtain ⟨S18, e19, h⟩ := q_bindS h
  have fx20 : q_Fx S S18 := e19 ▸ q_Fx.cp (q_Fx.rf S)
  obtain ⟨r21, e22, h⟩ := q_bind h
  have fx23 : q_Fx S r21.2 := q_Fx.tr (fx20) (fxX9_perform e22)
  obtain ⟨v39, hv, h⟩ := q_bind h
  have fx40 : q_Fx S v39 := by
    replace h := hv
    by_cases c : r21.1 = true
    · rw [if_pos c] at h
      obtain ⟨hg24, h⟩ := q_guard h
      obtain ⟨r25, e26, h⟩ := q_bind h
      obtain ⟨v30, hv, h⟩ := q_bind h
      have fx31 : q_Fx S v30 := by
        replace h := hv
        by_cases c : r25 = true
        · rw [if_pos c] at h
          obtain ⟨r27, e28, h⟩ := q_bind h
          have fx29 : q_Fx S r27 := q_Fx.tr (fx23) (fxX9_arrive e28)
          obtain rfl := Option.some.inj h
          exact fx29
        · rw [if_neg c] at h
          obtain rfl := Option.some.inj h
          exact fx23
      obtain ⟨hg32, h⟩ := q_guard h
      obtain ⟨r33, e34, h⟩ := q_bind h
      by_cases c : r33 = true
      · rw [if_pos c] at h
        obtain ⟨hg35, h⟩ := q_guard h
        obtain ⟨r36, e37, h⟩ := q_bind h
        have fx38 : q_Fx S r36 := q_Fx.tr (fx31) (fxX9_arrive e37)
        obtain rfl := Option.some.inj h
        exact fx38
      · rw [if_neg c] at h
        obtain rfl := Option.some.inj h
        exact fx31
    · rw [if_neg c] at h
      obtain rfl := Option.some.inj h
      exact fx23
  obtain ⟨hg41, h⟩ := q_guard h
  exact (fx40).tr (fxX9_spread_86 h)
theorem fxtX9_firstFault_119 {p : Nat} {y3 : Int32} {x : Int32 × QS} {z : (Int32 × QS) ⊕ (Int32 × QS)} (h : tX9_firstFault_119 p y3 x = some z) : q_Fx ((fun x : Int32 × QS => x.2) x) ((Sum.elim (fun r : Int32 × QS => r.2) (fun x : Int32 × QS => x.2)) z) := by
  unfold tX9_firstFault_119 at h
  show q_Fx x.2 _
  by_cases c : y3 ≤ x.1
  · rw [if_pos c] at h
    cases h
    exact q_Fx.rf _
  · rw [if_neg c] at h
    obtain ⟨hg1, h⟩ := q_guard h
    by_cases c : (x.2.2.1 86 x.1.toNatClampNeg) = 0
    · rw [if_pos c] at h
      cases h
      exact q_Fx.rf _
    · rw [if_neg c] at h
      obtain ⟨r2, e3, h⟩ := q_bind h
      by_cases c : r2 = true
      · rw [if_pos c] at h
        cases h
        exact q_Fx.rf _
      · rw [if_neg c] at h
        cases h
        exact q_Fx.rf _
theorem fxX9_firstFault_119 {S : QS} {p : Nat} {y3 : Int32} {y4 : Int32} {r : Int32 × QS} (h : fX9_firstFault_119 S p y3 y4 = some r) : q_Fx S ((fun r : Int32 × QS => r.2) r) := q_run_fx (fun x : Int32 × QS => x.2) (fun r : Int32 × QS => r.2) (fun _ _ hz => fxtX9_firstFault_119 hz) h
theorem fxtX9_firstFault_73 {p : Nat} {y1 : Int32} {y2 : Int32} {y3 : Int32} {x : Int32 × Int32 × QS} {z : ((Int32 × QS) ⊕ (Int32 × QS)) ⊕ (Int32 × Int32 × QS)} (h : tX9_firstFault_73 p y1 y2 y3 x = some z) : q_Fx ((fun x : Int32 × Int32 × QS => x.2.2) x) ((Sum.elim (Sum.elim (fun r : Int32 × QS => r.2) (fun x : Int32 × QS => x.2)) (fun x : Int32 × Int32 × QS => x.2.2)) z) := by
  unfold tX9_firstFault_73 at h
  show q_Fx x.2.2 _
  by_cases c : y3 ≤ x.2.1
  · rw [if_pos c] at h
    cases h
    exact q_Fx.rf _
  · rw [if_neg c] at h
    obtain ⟨hg4, h⟩ := q_guard h
    by_cases c : (x.2.2.2.1 87 x.2.1.toNatClampNeg) = 0
    · rw [if_pos c] at h
      cases h
      exact q_Fx.rf _
    · rw [if_neg c] at h
      obtain ⟨hg5, h⟩ := q_guard h
      obtain ⟨S6, e7, h⟩ := q_bindS h
      have fx8 : q_Fx x.2.2 S6 := e7 ▸ q_Fx.sI (q_Fx.rf x.2.2)
      obtain ⟨r9, e10, h⟩ := q_bind h
      have fx11 : q_Fx x.2.2 r9 := q_Fx.tr (fx8) (fxX9_spread e10)
      cases h
      exact fx11
theorem fxuX9_firstFault_73 {S : QS} {p : Nat} {y1 : Int32} {y2 : Int32} {y3 : Int32} {y4 : Int32} {y5 : Int32} {r : (Int32 × QS) ⊕ (Int32 × QS)} (h : uX9_firstFault_73 S p y1 y2 y3 y4 y5 = some r) : q_Fx S ((Sum.elim (fun r : Int32 × QS => r.2) (fun x : Int32 × QS => x.2)) r) := q_run_fx (fun x : Int32 × Int32 × QS => x.2.2) (Sum.elim (fun r : Int32 × QS => r.2) (fun x : Int32 × QS => x.2)) (fun _ _ hz => fxtX9_firstFault_73 hz) h
theorem fxtX9_firstFault_51 {p : Nat} {y1 : Int32} {y2 : Int32} {y3 : Int32} {x : Int32 × QS} {z : (Int32 × QS) ⊕ (Int32 × QS)} (h : tX9_firstFault_51 p y1 y2 y3 x = some z) : q_Fx ((fun x : Int32 × QS => x.2) x) ((Sum.elim (fun r : Int32 × QS => r.2) (fun x : Int32 × QS => x.2)) z) := by
  unfold tX9_firstFault_51 at h
  show q_Fx x.2 _
  by_cases c : (1000000 : Int32) ≤ x.1
  · rw [if_pos c] at h
    obtain ⟨r12, e13, h⟩ := q_bind h
    cases h
    exact (q_Fx.rf _).tr (fxX9_firstFault_119 e13)
  · rw [if_neg c] at h
    by_cases c : (x.2.2.1 84 6) = 0
    · rw [if_pos c] at h
      obtain ⟨r14, e15, h⟩ := q_bind h
      cases h
      exact (q_Fx.rf _).tr (fxX9_firstFault_119 e15)
    · rw [if_neg c] at h
      obtain ⟨S16, e17, h⟩ := q_bindS h
      have fx18 : q_Fx x.2 S16 := e17 ▸ q_Fx.sI (q_Fx.rf x.2)
      exact (fx18).tr (fxuX9_firstFault_73 h)
theorem fxX9_firstFault_51 {S : QS} {p : Nat} {y1 : Int32} {y2 : Int32} {y3 : Int32} {y4 : Int32} {r : Int32 × QS} (h : fX9_firstFault_51 S p y1 y2 y3 y4 = some r) : q_Fx S ((fun r : Int32 × QS => r.2) r) := q_run_fx (fun x : Int32 × QS => x.2) (fun r : Int32 × QS => r.2) (fun _ _ hz => fxtX9_firstFault_51 hz) h
theorem fxtX9_firstFault_23 {p : Nat} {y1 : Int32} {y2 : Int32} {y3 : Int32} {x : Int32 × QS} {z : (Int32 × QS) ⊕ (Int32 × QS)} (h : tX9_firstFault_23 p y1 y2 y3 x = some z) : q_Fx ((fun x : Int32 × QS => x.2) x) ((Sum.elim (fun r : Int32 × QS => r.2) (fun x : Int32 × QS => x.2)) z) := by
  unfold tX9_firstFault_23 at h
  show q_Fx x.2 _
  by_cases c : y3 ≤ x.1
  · rw [if_pos c] at h
    obtain ⟨r19, e20, h⟩ := q_bind h
    have fx21 : q_Fx x.2 r19 := q_Fx.tr (q_Fx.rf x.2) (fxX9_enter e20)
    obtain ⟨r22, e23, h⟩ := q_bind h
    cases h
    exact (fx21).tr (fxX9_firstFault_51 e23)
  · rw [if_neg c] at h
    obtain ⟨hg24, h⟩ := q_guard h
    obtain ⟨S25, e26, h⟩ := q_bindS h
    have fx27 : q_Fx x.2 S25 := e26 ▸ q_Fx.sI (q_Fx.rf x.2)
    cases h
    exact fx27
theorem fxX9_firstFault_23 {S : QS} {p : Nat} {y1 : Int32} {y2 : Int32} {y3 : Int32} {y4 : Int32} {r : Int32 × QS} (h : fX9_firstFault_23 S p y1 y2 y3 y4 = some r) : q_Fx S ((fun r : Int32 × QS => r.2) r) := q_run_fx (fun x : Int32 × QS => x.2) (fun r : Int32 × QS => r.2) (fun _ _ hz => fxtX9_firstFault_23 hz) h
theorem fxX9_firstFault {S : QS} {p : Nat} {x1 : Int32} {r : Int32 × QS} (h : fX9_firstFault S p x1 = some r) : q_Fx S r.2 := by
  unfold fX9_firstFault at h
  obtain ⟨hg28, h⟩ := q_guard h
  obtain ⟨hg29, h⟩ := q_guard h
  exact (q_Fx.rf _).tr (fxX9_firstFault_23 h)

