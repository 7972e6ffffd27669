def wlJ7_fill_53178 : List (Nat × Nat × Nat) := [(1, 0, 999)]
theorem fwtJ7_fill_53178_5 {a0 : Nat} {n0 : Nat} {y1 : Int32} {y3 : Int32} {x : Int32 × QS} {z : (QS) ⊕ (Int32 × QS)} (hn : q_nB a0 = true) (h : tJ7_fill_53178_5 a0 n0 y1 y3 x = some z) : q_Fw wlJ7_fill_53178 a0 ((fun x : Int32 × QS => x.2) x) ((Sum.elim (fun r : QS => r) (fun x : Int32 × QS => x.2)) z) := by
  unfold tJ7_fill_53178_5 at h
  show q_Fw wlJ7_fill_53178 a0 x.2 _
  by_cases c : y3 ≤ x.1
  · rw [if_pos c] at h
    cases h
    exact q_Fw.rf _
  · rw [if_neg c] at h
    obtain ⟨hg1, h⟩ := q_guard h
    obtain ⟨S2, e3, h⟩ := q_bindS h
    have fx4 : q_Fw wlJ7_fill_53178 a0 x.2 S2 := e3 ▸ q_Fw.sI (i := 0) (b := 1) (k := 0) (jj := 999) (q_Fw.rf x.2) rfl rfl (Or.inl rfl) (Or.inl hn)
    cases h
    exact fx4
theorem fwJ7_fill_53178_5 {S : QS} {a0 : Nat} {n0 : Nat} {y1 : Int32} {y2 : Int32} {y3 : Int32} {r : QS} (hn : q_nB a0 = true) (h : fJ7_fill_53178_5 S a0 n0 y1 y2 y3 = some r) : q_Fw wlJ7_fill_53178 a0 S ((fun r : QS => r) r) := q_run_fw (fun x : Int32 × QS => x.2) (fun r : QS => r) (fun _ _ hz => fwtJ7_fill_53178_5 hn hz) h
theorem fwJ7_fill_53178 {S : QS}  {a0 : Nat} {n0 : Nat} {x1 : Int32} {r : QS} (hn : q_nB a0 = true) (h : fJ7_fill_53178 S a0 n0 x1 = some r) : q_Fw wlJ7_fill_53178 a0 S r := by
  unfold fJ7_fill_53178 at h
  exact (q_Fw.rf _).tr (fwJ7_fill_53178_5 hn h)
def wlJ7_fill_fda19 : List (Nat × Nat × Nat) := [(1, 0, 999)]
theorem fwtJ7_fill_fda19_10 {a0 : Nat} {n0 : Nat} {y2 : Int32} {y3 : Int32} {x : Int32 × QS} {z : (QS) ⊕ (Int32 × QS)} (hn : q_nB a0 = true) (h : tJ7_fill_fda19_10 a0 n0 y2 y3 x = some z) : q_Fw wlJ7_fill_fda19 a0 ((fun x : Int32 × QS => x.2) x) ((Sum.elim (fun r : QS => r) (fun x : Int32 × QS => x.2)) z) := by
  unfold tJ7_fill_fda19_10 at h
  show q_Fw wlJ7_fill_fda19 a0 x.2 _
  by_cases c : y2 ≤ x.1
  · rw [if_pos c] at h
    cases h
    exact q_Fw.rf _
  · rw [if_neg c] at h
    obtain ⟨hg1, h⟩ := q_guard h
    obtain ⟨S2, e3, h⟩ := q_bindS h
    have fx4 : q_Fw wlJ7_fill_fda19 a0 x.2 S2 := e3 ▸ q_Fw.sI (i := 0) (b := 1) (k := 0) (jj := 999) (q_Fw.rf x.2) rfl rfl (Or.inl rfl) (Or.inl hn)
    cases h
    exact fx4
theorem fwJ7_fill_fda19_10 {S : QS} {a0 : Nat} {n0 : Nat} {y2 : Int32} {y3 : Int32} {y4 : Int32} {r : QS} (hn : q_nB a0 = true) (h : fJ7_fill_fda19_10 S a0 n0 y2 y3 y4 = some r) : q_Fw wlJ7_fill_fda19 a0 S ((fun r : QS => r) r) := q_run_fw (fun x : Int32 × QS => x.2) (fun r : QS => r) (fun _ _ hz => fwtJ7_fill_fda19_10 hn hz) h
theorem fwJ7_fill_fda19 {S : QS}  {a0 : Nat} {n0 : Nat} {x1 : Int32} {x2 : Int32} {x3 : Int32} {r : QS} (hn : q_nB a0 = true) (h : fJ7_fill_fda19 S a0 n0 x1 x2 x3 = some r) : q_Fw wlJ7_fill_fda19 a0 S r := by
  unfold fJ7_fill_fda19 at h
  obtain ⟨r5, e6, h⟩ := q_bind h
  exact (q_Fw.rf _).tr (fwJ7_fill_fda19_10 hn h)
def wlJ7_fill_eb02e : List (Nat × Nat × Nat) := [(1, 0, 999)]
theorem fwtJ7_fill_eb02e_10 {a0 : Nat} {n0 : Nat} {y2 : Int32} {y3 : Int32} {x : Int32 × QS} {z : (QS) ⊕ (Int32 × QS)} (h : tJ7_fill_eb02e_10 a0 n0 y2 y3 x = some z) : q_Fw wlJ7_fill_eb02e a0 ((fun x : Int32 × QS => x.2) x) ((Sum.elim (fun r : QS => r) (fun x : Int32 × QS => x.2)) z) := by
  unfold tJ7_fill_eb02e_10 at h
  show q_Fw wlJ7_fill_eb02e a0 x.2 _
  by_cases c : y2 ≤ x.1
  · rw [if_pos c] at h
    cases h
    exact q_Fw.rf _
  · rw [if_neg c] at h
    obtain ⟨hg1, h⟩ := q_guard h
    obtain ⟨S2, e3, h⟩ := q_bindS h
    have fx4 : q_Fw wlJ7_fill_eb02e a0 x.2 S2 := e3 ▸ q_Fw.sI (i := 0) (b := 1) (k := 0) (jj := 999) (q_Fw.rf x.2) rfl rfl (Or.inl rfl) (Or.inr (q_narB _))
    cases h
    exact fx4
theorem fwJ7_fill_eb02e_10 {S : QS} {a0 : Nat} {n0 : Nat} {y2 : Int32} {y3 : Int32} {y4 : Int32} {r : QS} (h : fJ7_fill_eb02e_10 S a0 n0 y2 y3 y4 = some r) : q_Fw wlJ7_fill_eb02e a0 S ((fun r : QS => r) r) := q_run_fw (fun x : Int32 × QS => x.2) (fun r : QS => r) (fun _ _ hz => fwtJ7_fill_eb02e_10 hz) h
theorem fwJ7_fill_eb02e {S : QS}  {a0 : Nat} {n0 : Nat} {x1 : Int32} {x2 : Int32} {x3 : Int32} {r : QS} (h : fJ7_fill_eb02e S a0 n0 x1 x2 x3 = some r) : q_Fw wlJ7_fill_eb02e a0 S r := by
  unfold fJ7_fill_eb02e at h
  obtain ⟨r5, e6, h⟩ := q_bind h
  exact (q_Fw.rf _).tr (fwJ7_fill_eb02e_10 h)
def wlX0_addClass : List (Nat × Nat × Nat) := [(1, 1, 0), (1, 2, 999), (1, 3, 999), (1, 4, 999), (1, 5, 999)]
theorem fwX0_addClass {S : QS} {p : Nat} {x1 : Int32} {x2 : Int32} {r : QS} (hp : q_pok p) (h : fX0_addClass S p x1 x2 = some r) : q_Fw wlX0_addClass p S r := by
  unfold fX0_addClass at h
  by_cases c : (32 : Int32) ≤ (S.2.1 (p + 1) 0)
  · rw [if_pos c] at h
    obtain rfl := Option.some.inj h
    exact q_Fw.rf _
  · rw [if_neg c] at h
    obtain ⟨hg1, h⟩ := q_guard h
    obtain ⟨S2, e3, h⟩ := q_bindS h
    have fx4 : q_Fw wlX0_addClass p S S2 := e3 ▸ q_Fw.sI (i := 1) (b := 1) (k := 2) (jj := 999) (q_Fw.rf S) rfl rfl (Or.inl rfl) (Or.inl (q_nBp (k := 2) hp (by decide)))
    obtain ⟨hg5, h⟩ := q_guard h
    obtain ⟨S6, e7, h⟩ := q_bindS h
    have fx8 : q_Fw wlX0_addClass p S S6 := e7 ▸ q_Fw.sI (i := 2) (b := 1) (k := 3) (jj := 999) (fx4) rfl rfl (Or.inl rfl) (Or.inl (q_nBp (k := 3) hp (by decide)))
    obtain ⟨v10, hv, h⟩ := q_bind h
    obtain ⟨hg11, h⟩ := q_guard h
    obtain ⟨S12, e13, h⟩ := q_bindS h
    have fx14 : q_Fw wlX0_addClass p S S12 := e13 ▸ q_Fw.sI (i := 3) (b := 1) (k := 4) (jj := 999) (fx8) rfl rfl (Or.inl rfl) (Or.inl (q_nBp (k := 4) hp (by decide)))
    obtain ⟨hg15, h⟩ := q_guard h
    obtain ⟨S16, e17, h⟩ := q_bindS h
    have fx18 : q_Fw wlX0_addClass p S S16 := e17 ▸ q_Fw.sI (i := 4) (b := 1) (k := 5) (jj := 999) (fx14) rfl rfl (Or.inl rfl) (Or.inl (q_nBp (k := 5) hp (by decide)))
    obtain ⟨S19, e20, h⟩ := q_bindS h
    have fx21 : q_Fw wlX0_addClass p S S19 := e20 ▸ q_Fw.sI (i := 0) (b := 1) (k := 1) (jj := 0) (fx18) rfl rfl (Or.inr rfl) (Or.inl (q_nBp (k := 1) hp (by decide)))
    obtain rfl := Option.some.inj h
    exact fx21
def wlX0_begin : List (Nat × Nat × Nat) := [(1, 1, 0), (1, 1, 5), (1, 2, 999), (1, 3, 999), (1, 4, 999), (1, 5, 999)]
theorem fwtX0_begin_24 {p : Nat}  {x : Int32 × QS} {z : (QS) ⊕ (Int32 × QS)} (hp : q_pok p) (h : tX0_begin_24 p x = some z) : q_Fw wlX0_begin p ((fun x : Int32 × QS => x.2) x) ((Sum.elim (fun r : QS => r) (fun x : Int32 × QS => x.2)) z) := by
  unfold tX0_begin_24 at h
  show q_Fw wlX0_begin p x.2 _
  by_cases c : (8 : Int32) ≤ x.1
  · rw [if_pos c] at h
    cases h
    exact q_Fw.rf _
  · rw [if_neg c] at h
    obtain ⟨r1, e2, h⟩ := q_bind h
    have fx3 : q_Fw wlX0_begin p x.2 r1 := q_Fw.tr (q_Fw.rf x.2) ((fwX0_addClass hp e2).up rfl)
    cases h
    exact fx3
theorem fwX0_begin_24 {S : QS} {p : Nat} {y1 : Int32} {r : QS} (hp : q_pok p) (h : fX0_begin_24 S p y1 = some r) : q_Fw wlX0_begin p S ((fun r : QS => r) r) := q_run_fw (fun x : Int32 × QS => x.2) (fun r : QS => r) (fun _ _ hz => fwtX0_begin_24 hp hz) h
theorem fwX0_begin {S : QS} {p : Nat}  {r : QS} (hp : q_pok p) (h : fX0_begin S p = some r) : q_Fw wlX0_begin p S r := by
  unfold fX0_begin at h
  obtain ⟨S4, e5, h⟩ := q_bindS h
  have fx6 : q_Fw wlX0_begin p S S4 := e5 ▸ q_Fw.sI (i := 1) (b := 1) (k := 1) (jj := 5) (q_Fw.rf S) rfl rfl (Or.inr rfl) (Or.inl (q_nBp (k := 1) hp (by decide)))
  obtain ⟨S7, e8, h⟩ := q_bindS h
  have fx9 : q_Fw wlX0_begin p S S7 := e8 ▸ q_Fw.sI (i := 0) (b := 1) (k := 1) (jj := 0) (fx6) rfl rfl (Or.inr rfl) (Or.inl (q_nBp (k := 1) hp (by decide)))
  obtain ⟨r10, e11, h⟩ := q_bind h
  have fx12 : q_Fw wlX0_begin p S r10 := q_Fw.tr (fx9) ((fwX0_addClass hp e11).up rfl)
  obtain ⟨r13, e14, h⟩ := q_bind h
  have fx15 : q_Fw wlX0_begin p S r13 := q_Fw.tr (fx12) ((fwX0_addClass hp e14).up rfl)
  exact (fx15).tr (fwX0_begin_24 hp h)
def wlX0_addField : List (Nat × Nat × Nat) := [(1, 1, 5), (1, 5, 999), (1, 6, 999), (1, 7, 999), (1, 8, 999), (1, 9, 999)]
theorem fwX0_addField {S : QS} {p : Nat} {x1 : Int32} {x2 : Int32} {x3 : Int32} {r : QS} (hp : q_pok p) (h : fX0_addField S p x1 x2 x3 = some r) : q_Fw wlX0_addField p S r := by
  unfold fX0_addField at h
  by_cases c : (48 : Int32) ≤ (S.2.1 (p + 1) 5)
  · rw [if_pos c] at h
    obtain rfl := Option.some.inj h
    exact q_Fw.rf _
  · rw [if_neg c] at h
    obtain ⟨r1, e2, h⟩ := q_bind h
    by_cases c : r1 = true
    · rw [if_pos c] at h
      obtain ⟨hg3, h⟩ := q_guard h
      obtain ⟨S4, e5, h⟩ := q_bindS h
      have fx6 : q_Fw wlX0_addField p S S4 := e5 ▸ q_Fw.sI (i := 2) (b := 1) (k := 6) (jj := 999) (q_Fw.rf S) rfl rfl (Or.inl rfl) (Or.inl (q_nBp (k := 6) hp (by decide)))
      obtain ⟨hg7, h⟩ := q_guard h
      obtain ⟨S8, e9, h⟩ := q_bindS h
      have fx10 : q_Fw wlX0_addField p S S8 := e9 ▸ q_Fw.sI (i := 3) (b := 1) (k := 7) (jj := 999) (fx6) rfl rfl (Or.inl rfl) (Or.inl (q_nBp (k := 7) hp (by decide)))
      obtain ⟨hg11, h⟩ := q_guard h
      obtain ⟨S12, e13, h⟩ := q_bindS h
      have fx14 : q_Fw wlX0_addField p S S12 := e13 ▸ q_Fw.sI (i := 4) (b := 1) (k := 8) (jj := 999) (fx10) rfl rfl (Or.inl rfl) (Or.inl (q_nBp (k := 8) hp (by decide)))
      obtain ⟨hg15, h⟩ := q_guard h
      obtain ⟨hg16, h⟩ := q_guard h
      obtain ⟨S17, e18, h⟩ := q_bindS h
      have fx19 : q_Fw wlX0_addField p S S17 := e18 ▸ q_Fw.sI (i := 5) (b := 1) (k := 9) (jj := 999) (fx14) rfl rfl (Or.inl rfl) (Or.inl (q_nBp (k := 9) hp (by decide)))
      obtain ⟨hg20, h⟩ := q_guard h
      obtain ⟨hg21, h⟩ := q_guard h
      obtain ⟨S22, e23, h⟩ := q_bindS h
      have fx24 : q_Fw wlX0_addField p S S22 := e23 ▸ q_Fw.sI (i := 1) (b := 1) (k := 5) (jj := 999) (fx19) rfl rfl (Or.inl rfl) (Or.inl (q_nBp (k := 5) hp (by decide)))
      obtain ⟨S25, e26, h⟩ := q_bindS h
      have fx27 : q_Fw wlX0_addField p S S25 := e26 ▸ q_Fw.sI (i := 0) (b := 1) (k := 1) (jj := 5) (fx24) rfl rfl (Or.inr rfl) (Or.inl (q_nBp (k := 1) hp (by decide)))
      obtain rfl := Option.some.inj h
      exact fx27
    · rw [if_neg c] at h
      obtain rfl := Option.some.inj h
      exact q_Fw.rf _
def wlX1_begin : List (Nat × Nat × Nat) := [(1, 10, 0), (1, 10, 8), (1, 10, 9)]
theorem fwX1_begin {S : QS} {p : Nat}  {r : QS} (hp : q_pok p) (h : fX1_begin S p = some r) : q_Fw wlX1_begin p S r := by
  unfold fX1_begin at h
  obtain ⟨S1, e2, h⟩ := q_bindS h
  have fx3 : q_Fw wlX1_begin p S S1 := e2 ▸ q_Fw.sI (i := 0) (b := 1) (k := 10) (jj := 0) (q_Fw.rf S) rfl rfl (Or.inr rfl) (Or.inl (q_nBp (k := 10) hp (by decide)))
  obtain ⟨S4, e5, h⟩ := q_bindS h
  have fx6 : q_Fw wlX1_begin p S S4 := e5 ▸ q_Fw.sI (i := 1) (b := 1) (k := 10) (jj := 8) (fx3) rfl rfl (Or.inr rfl) (Or.inl (q_nBp (k := 10) hp (by decide)))
  obtain ⟨S7, e8, h⟩ := q_bindS h
  have fx9 : q_Fw wlX1_begin p S S7 := e8 ▸ q_Fw.sI (i := 2) (b := 1) (k := 10) (jj := 9) (fx6) rfl rfl (Or.inr rfl) (Or.inl (q_nBp (k := 10) hp (by decide)))
  obtain rfl := Option.some.inj h
  exact fx9
def wlX1_addInstruction : List (Nat × Nat × Nat) := [(1, 10, 0), (1, 10, 8), (1, 11, 999), (1, 12, 999), (1, 13, 999), (1, 14, 999), (1, 15, 999), (1, 16, 999), (1, 17, 999)]
theorem fwX1_addInstruction {S : QS} {p : Nat} {x1 : Int32} {x2 : Int32} {x3 : Int32} {r : QS} (hp : q_pok p) (h : fX1_addInstruction S p x1 x2 x3 = some r) : q_Fw wlX1_addInstruction p S r := by
  unfold fX1_addInstruction at h
  by_cases c : (1024 : Int32) ≤ (S.2.1 (p + 10) 0)
  · rw [if_pos c] at h
    obtain rfl := Option.some.inj h
    exact q_Fw.rf _
  · rw [if_neg c] at h
    obtain ⟨hg1, h⟩ := q_guard h
    obtain ⟨S2, e3, h⟩ := q_bindS h
    have fx4 : q_Fw wlX1_addInstruction p S S2 := e3 ▸ q_Fw.sI (i := 2) (b := 1) (k := 11) (jj := 999) (q_Fw.rf S) rfl rfl (Or.inl rfl) (Or.inl (q_nBp (k := 11) hp (by decide)))
    obtain ⟨hg5, h⟩ := q_guard h
    obtain ⟨S6, e7, h⟩ := q_bindS h
    have fx8 : q_Fw wlX1_addInstruction p S S6 := e7 ▸ q_Fw.sI (i := 3) (b := 1) (k := 12) (jj := 999) (fx4) rfl rfl (Or.inl rfl) (Or.inl (q_nBp (k := 12) hp (by decide)))
    obtain ⟨hg9, h⟩ := q_guard h
    obtain ⟨S10, e11, h⟩ := q_bindS h
    have fx12 : q_Fw wlX1_addInstruction p S S10 := e11 ▸ q_Fw.sI (i := 4) (b := 1) (k := 13) (jj := 999) (fx8) rfl rfl (Or.inl rfl) (Or.inl (q_nBp (k := 13) hp (by decide)))
    obtain ⟨hg13, h⟩ := q_guard h
    obtain ⟨S14, e15, h⟩ := q_bindS h
    have fx16 : q_Fw wlX1_addInstruction p S S14 := e15 ▸ q_Fw.sI (i := 5) (b := 1) (k := 14) (jj := 999) (fx12) rfl rfl (Or.inl rfl) (Or.inl (q_nBp (k := 14) hp (by decide)))
    obtain ⟨hg17, h⟩ := q_guard h
    obtain ⟨S18, e19, h⟩ := q_bindS h
    have fx20 : q_Fw wlX1_addInstruction p S S18 := e19 ▸ q_Fw.sI (i := 6) (b := 1) (k := 15) (jj := 999) (fx16) rfl rfl (Or.inl rfl) (Or.inl (q_nBp (k := 15) hp (by decide)))
    obtain ⟨hg21, h⟩ := q_guard h
    obtain ⟨S22, e23, h⟩ := q_bindS h
    have fx24 : q_Fw wlX1_addInstruction p S S22 := e23 ▸ q_Fw.sI (i := 8) (b := 1) (k := 17) (jj := 999) (fx20) rfl rfl (Or.inl rfl) (Or.inl (q_nBp (k := 17) hp (by decide)))
    obtain ⟨hg25, h⟩ := q_guard h
    obtain ⟨S26, e27, h⟩ := q_bindS h
    have fx28 : q_Fw wlX1_addInstruction p S S26 := e27 ▸ q_Fw.sI (i := 7) (b := 1) (k := 16) (jj := 999) (fx24) rfl rfl (Or.inl rfl) (Or.inl (q_nBp (k := 16) hp (by decide)))
    obtain ⟨r29, e30, h⟩ := q_bind h
    obtain ⟨v31, hv, h⟩ := q_bind h
    obtain ⟨S32, e33, h⟩ := q_bindS h
    have fx34 : q_Fw wlX1_addInstruction p S S32 := e33 ▸ q_Fw.sI (i := 1) (b := 1) (k := 10) (jj := 8) (fx28) rfl rfl (Or.inr rfl) (Or.inl (q_nBp (k := 10) hp (by decide)))
    obtain ⟨S35, e36, h⟩ := q_bindS h
    have fx37 : q_Fw wlX1_addInstruction p S S35 := e36 ▸ q_Fw.sI (i := 0) (b := 1) (k := 10) (jj := 0) (fx34) rfl rfl (Or.inr rfl) (Or.inl (q_nBp (k := 10) hp (by decide)))
    obtain rfl := Option.some.inj h
    exact fx37
def wlX1_addCatch : List (Nat × Nat × Nat) := [(1, 10, 9), (1, 18, 999), (1, 19, 999), (1, 20, 999), (1, 21, 999)]
theorem fwX1_addCatch {S : QS} {p : Nat} {x1 : Int32} {x2 : Int32} {x3 : Int32} {x4 : Int32} {r : QS} (hp : q_pok p) (h : fX1_addCatch S p x1 x2 x3 x4 = some r) : q_Fw wlX1_addCatch p S r := by
  unfold fX1_addCatch at h
  by_cases c : (64 : Int32) ≤ (S.2.1 (p + 10) 9)
  · rw [if_pos c] at h
    obtain rfl := Option.some.inj h
    exact q_Fw.rf _
  · rw [if_neg c] at h
    obtain ⟨hg1, h⟩ := q_guard h
    obtain ⟨S2, e3, h⟩ := q_bindS h
    have fx4 : q_Fw wlX1_addCatch p S S2 := e3 ▸ q_Fw.sI (i := 1) (b := 1) (k := 18) (jj := 999) (q_Fw.rf S) rfl rfl (Or.inl rfl) (Or.inl (q_nBp (k := 18) hp (by decide)))
    obtain ⟨hg5, h⟩ := q_guard h
    obtain ⟨S6, e7, h⟩ := q_bindS h
    have fx8 : q_Fw wlX1_addCatch p S S6 := e7 ▸ q_Fw.sI (i := 2) (b := 1) (k := 19) (jj := 999) (fx4) rfl rfl (Or.inl rfl) (Or.inl (q_nBp (k := 19) hp (by decide)))
    obtain ⟨hg9, h⟩ := q_guard h
    obtain ⟨S10, e11, h⟩ := q_bindS h
    have fx12 : q_Fw wlX1_addCatch p S S10 := e11 ▸ q_Fw.sI (i := 3) (b := 1) (k := 20) (jj := 999) (fx8) rfl rfl (Or.inl rfl) (Or.inl (q_nBp (k := 20) hp (by decide)))
    obtain ⟨hg13, h⟩ := q_guard h
    obtain ⟨S14, e15, h⟩ := q_bindS h
    have fx16 : q_Fw wlX1_addCatch p S S14 := e15 ▸ q_Fw.sI (i := 4) (b := 1) (k := 21) (jj := 999) (fx12) rfl rfl (Or.inl rfl) (Or.inl (q_nBp (k := 21) hp (by decide)))
    obtain ⟨S17, e18, h⟩ := q_bindS h
    have fx19 : q_Fw wlX1_addCatch p S S17 := e18 ▸ q_Fw.sI (i := 0) (b := 1) (k := 10) (jj := 9) (fx16) rfl rfl (Or.inr rfl) (Or.inl (q_nBp (k := 10) hp (by decide)))
    obtain rfl := Option.some.inj h
    exact fx19
def wlX2_begin : List (Nat × Nat × Nat) := [(0, 90, 5), (0, 90, 6), (0, 91, 999)]
theorem fwX2_begin {S : QS}   {r : QS} (h : fX2_begin S = some r) : q_Fw wlX2_begin 0 S r := by
  unfold fX2_begin at h
  obtain ⟨S1, e2, h⟩ := q_bindS h
  have fx3 : q_Fw wlX2_begin 0 S S1 := e2 ▸ q_Fw.sI (i := 0) (b := 0) (k := 90) (jj := 5) (q_Fw.rf S) rfl rfl (Or.inr rfl) (Or.inl rfl)
  obtain ⟨S4, e5, h⟩ := q_bindS h
  have fx6 : q_Fw wlX2_begin 0 S S4 := e5 ▸ q_Fw.sI (i := 1) (b := 0) (k := 90) (jj := 6) (fx3) rfl rfl (Or.inr rfl) (Or.inl rfl)
  obtain ⟨hg7, h⟩ := q_guard h
  obtain ⟨S8, e9, h⟩ := q_bindS h
  have fx10 : q_Fw wlX2_begin 0 S S8 := e9 ▸ q_Fw.sI (i := 2) (b := 0) (k := 91) (jj := 999) (fx6) rfl rfl (Or.inl rfl) (Or.inl rfl)
  obtain rfl := Option.some.inj h
  exact fx10
def wlX2_make : List (Nat × Nat × Nat) := [(0, 90, 5), (0, 90, 6), (0, 91, 999), (0, 92, 999), (0, 93, 999), (0, 94, 999), (0, 95, 999)]
theorem fwX2_make {S : QS}  {x1 : Int32} {x2 : Int32} {x3 : Int32} {r : Int32 × QS} (h : fX2_make S x1 x2 x3 = some r) : q_Fw wlX2_make 0 S r.2 := by
  unfold fX2_make at h
  by_cases c : (S.2.1 90 5) = (2000 : Int32)
  · rw [if_pos c] at h
    obtain rfl := Option.some.inj h
    exact q_Fw.rf _
  · rw [if_neg c] at h
    by_cases c : x2 < 0
    · rw [if_pos c] at h
      obtain rfl := Option.some.inj h
      exact q_Fw.rf _
    · rw [if_neg c] at h
      by_cases c : x2 ≤ ((12000 : Int32) - (S.2.1 90 6))
      · rw [if_pos c] at h
        obtain ⟨S1, e2, h⟩ := q_bindS h
        have fx3 : q_Fw wlX2_make 0 S S1 := e2 ▸ q_Fw.sI (i := 0) (b := 0) (k := 90) (jj := 5) (q_Fw.rf S) rfl rfl (Or.inr rfl) (Or.inl rfl)
        obtain ⟨hg4, h⟩ := q_guard h
        obtain ⟨S5, e6, h⟩ := q_bindS h
        have fx7 : q_Fw wlX2_make 0 S S5 := e6 ▸ q_Fw.sI (i := 2) (b := 0) (k := 91) (jj := 999) (fx3) rfl rfl (Or.inl rfl) (Or.inl rfl)
        obtain ⟨hg8, h⟩ := q_guard h
        obtain ⟨S9, e10, h⟩ := q_bindS h
        have fx11 : q_Fw wlX2_make 0 S S9 := e10 ▸ q_Fw.sI (i := 3) (b := 0) (k := 92) (jj := 999) (fx7) rfl rfl (Or.inl rfl) (Or.inl rfl)
        obtain ⟨hg12, h⟩ := q_guard h
        obtain ⟨S13, e14, h⟩ := q_bindS h
        have fx15 : q_Fw wlX2_make 0 S S13 := e14 ▸ q_Fw.sI (i := 4) (b := 0) (k := 93) (jj := 999) (fx11) rfl rfl (Or.inl rfl) (Or.inl rfl)
        obtain ⟨hg16, h⟩ := q_guard h
        obtain ⟨S17, e18, h⟩ := q_bindS h
        have fx19 : q_Fw wlX2_make 0 S S17 := e18 ▸ q_Fw.sI (i := 5) (b := 0) (k := 94) (jj := 999) (fx15) rfl rfl (Or.inl rfl) (Or.inl rfl)
        obtain ⟨r20, e21, h⟩ := q_bind h
        have fx22 : q_Fw wlX2_make 0 S r20 := q_Fw.tr (fx19) (q_Fw.arr (i := 6) (b := 0) (k := 95) (fwJ7_fill_fda19 rfl e21) rfl rfl)
        obtain ⟨S23, e24, h⟩ := q_bindS h
        have fx25 : q_Fw wlX2_make 0 S S23 := e24 ▸ q_Fw.sI (i := 1) (b := 0) (k := 90) (jj := 6) (fx22) rfl rfl (Or.inr rfl) (Or.inl rfl)
        obtain rfl := Option.some.inj h
        exact fx25
      · rw [if_neg c] at h
        obtain rfl := Option.some.inj h
        exact q_Fw.rf _
def wlX2_setCell : List (Nat × Nat × Nat) := [(0, 95, 999)]
theorem fwX2_setCell {S : QS}  {x1 : Int32} {x2 : Int32} {x3 : Int32} {r : QS} (h : fX2_setCell S x1 x2 x3 = some r) : q_Fw wlX2_setCell 0 S r := by
  unfold fX2_setCell at h
  obtain ⟨r1, e2, h⟩ := q_bind h
  by_cases c : r1 = true
  · rw [if_pos c] at h
    obtain ⟨hg3, h⟩ := q_guard h
    obtain ⟨hg4, h⟩ := q_guard h
    obtain ⟨S5, e6, h⟩ := q_bindS h
    have fx7 : q_Fw wlX2_setCell 0 S S5 := e6 ▸ q_Fw.sI (i := 0) (b := 0) (k := 95) (jj := 999) (q_Fw.rf S) rfl rfl (Or.inl rfl) (Or.inl rfl)
    obtain rfl := Option.some.inj h
    exact fx7
  · rw [if_neg c] at h
    obtain rfl := Option.some.inj h
    exact q_Fw.rf _
def wlX5_begin : List (Nat × Nat × Nat) := [(1, 0, 2), (1, 0, 16), (1, 1, 0), (1, 1, 5), (1, 2, 999), (1, 3, 999), (1, 4, 999), (1, 5, 999), (1, 10, 0), (1, 10, 8), (1, 10, 9), (1, 34, 999)]
theorem fwX5_begin {S : QS} {p : Nat}  {r : QS} (hp : q_pok p) (h : fX5_begin S p = some r) : q_Fw wlX5_begin p S r := by
  unfold fX5_begin at h
  obtain ⟨r1, e2, h⟩ := q_bind h
  have fx3 : q_Fw wlX5_begin p S r1 := q_Fw.tr (q_Fw.rf S) ((fwX0_begin hp e2).up rfl)
  obtain ⟨r4, e5, h⟩ := q_bind h
  have fx6 : q_Fw wlX5_begin p S r4 := q_Fw.tr (fx3) ((fwX1_begin hp e5).up rfl)
  obtain ⟨S7, e8, h⟩ := q_bindS h
  have fx9 : q_Fw wlX5_begin p S S7 := e8 ▸ q_Fw.sI (i := 0) (b := 1) (k := 0) (jj := 2) (fx6) rfl rfl (Or.inr rfl) (Or.inl (q_nBp (k := 0) hp (by decide)))
  obtain ⟨S10, e11, h⟩ := q_bindS h
  have fx12 : q_Fw wlX5_begin p S S10 := e11 ▸ q_Fw.sI (i := 1) (b := 1) (k := 0) (jj := 16) (fx9) rfl rfl (Or.inr rfl) (Or.inl (q_nBp (k := 0) hp (by decide)))
  obtain ⟨r13, e14, h⟩ := q_bind h
  have fx15 : q_Fw wlX5_begin p S r13 := q_Fw.tr (fx12) (q_Fw.arr (i := 11) (b := 1) (k := 34) (fwJ7_fill_53178 (q_nBp (k := 34) hp (by decide)) e14) rfl rfl)
  obtain rfl := Option.some.inj h
  exact fx15
def wlX5_inherit : List (Nat × Nat × Nat) := [(1, 5, 999), (1, 34, 999)]
theorem fwX5_inherit {S : QS} {p : Nat} {x1 : Int32} {r : QS} (hp : q_pok p) (h : fX5_inherit S p x1 = some r) : q_Fw wlX5_inherit p S r := by
  unfold fX5_inherit at h
  by_cases c : x1 ≤ 0
  · rw [if_pos c] at h
    obtain rfl := Option.some.inj h
    exact q_Fw.rf _
  · rw [if_neg c] at h
    by_cases c : x1 < (S.2.1 (p + 1) 0)
    · rw [if_pos c] at h
      obtain ⟨hg1, h⟩ := q_guard h
      by_cases c : (S.2.1 (p + 3) x1.toNatClampNeg) < 0
      · rw [if_pos c] at h
        obtain rfl := Option.some.inj h
        exact q_Fw.rf _
      · rw [if_neg c] at h
        obtain ⟨hg2, h⟩ := q_guard h
        obtain ⟨hg3, h⟩ := q_guard h
        obtain ⟨S4, e5, h⟩ := q_bindS h
        have fx6 : q_Fw wlX5_inherit p S S4 := e5 ▸ q_Fw.sI (i := 0) (b := 1) (k := 5) (jj := 999) (q_Fw.rf S) rfl rfl (Or.inl rfl) (Or.inl (q_nBp (k := 5) hp (by decide)))
        obtain ⟨hg7, h⟩ := q_guard h
        obtain ⟨S8, e9, h⟩ := q_bindS h
        have fx10 : q_Fw wlX5_inherit p S S8 := e9 ▸ q_Fw.cp (i := 1) (b := 1) (k := 34) (fx6) rfl rfl (Or.inl (q_nBp (k := 34) hp (by decide)))
        obtain rfl := Option.some.inj h
        exact fx10
    · rw [if_neg c] at h
      obtain rfl := Option.some.inj h
      exact q_Fw.rf _
def wlX5_addParameter : List (Nat × Nat × Nat) := [(1, 25, 999), (1, 26, 999)]
theorem fwX5_addParameter {S : QS} {p : Nat} {x1 : Int32} {x2 : Int32} {r : QS} (hp : q_pok p) (h : fX5_addParameter S p x1 x2 = some r) : q_Fw wlX5_addParameter p S r := by
  unfold fX5_addParameter at h
  obtain ⟨hg1, h⟩ := q_guard h
  obtain ⟨v7, hv, h⟩ := q_bind h
  have fx8 : q_Fw wlX5_addParameter p S v7 := by
    replace h := hv
    by_cases c : (12 : Int32) ≤ (S.2.1 (p + 25) x1.toNatClampNeg)
    · rw [if_pos c] at h
      obtain rfl := Option.some.inj h
      exact q_Fw.rf _
    · rw [if_neg c] at h
      obtain ⟨hg2, h⟩ := q_guard h
      obtain ⟨hg3, h⟩ := q_guard h
      obtain ⟨S4, e5, h⟩ := q_bindS h
      have fx6 : q_Fw wlX5_addParameter p S S4 := e5 ▸ q_Fw.sI (i := 1) (b := 1) (k := 26) (jj := 999) (q_Fw.rf S) rfl rfl (Or.inl rfl) (Or.inl (q_nBp (k := 26) hp (by decide)))
      obtain rfl := Option.some.inj h
      exact fx6
  obtain ⟨hg9, h⟩ := q_guard h
  obtain ⟨hg10, h⟩ := q_guard h
  obtain ⟨S11, e12, h⟩ := q_bindS h
  have fx13 : q_Fw wlX5_addParameter p S S11 := e12 ▸ q_Fw.sI (i := 0) (b := 1) (k := 25) (jj := 999) (fx8) rfl rfl (Or.inl rfl) (Or.inl (q_nBp (k := 25) hp (by decide)))
  obtain rfl := Option.some.inj h
  exact fx13
def wlX5_addBody : List (Nat × Nat × Nat) := [(1, 0, 2), (1, 22, 999), (1, 23, 999), (1, 24, 999), (1, 25, 999), (1, 26, 999), (1, 33, 999), (1, 34, 999)]
theorem fwX5_addBody {S : QS} {p : Nat} {x1 : Int32} {x2 : Int32} {x3 : Bool} {x4 : Int32} {r : QS} (hp : q_pok p) (h : fX5_addBody S p x1 x2 x3 x4 = some r) : q_Fw wlX5_addBody p S r := by
  unfold fX5_addBody at h
  by_cases c : (48 : Int32) ≤ (S.2.1 p 2)
  · rw [if_pos c] at h
    obtain rfl := Option.some.inj h
    exact q_Fw.rf _
  · rw [if_neg c] at h
    obtain ⟨r1, e2, h⟩ := q_bind h
    by_cases c : r1 = true
    · rw [if_pos c] at h
      obtain ⟨S3, e4, h⟩ := q_bindS h
      have fx5 : q_Fw wlX5_addBody p S S3 := e4 ▸ q_Fw.sI (i := 0) (b := 1) (k := 0) (jj := 2) (q_Fw.rf S) rfl rfl (Or.inr rfl) (Or.inl (q_nBp (k := 0) hp (by decide)))
      obtain ⟨hg6, h⟩ := q_guard h
      obtain ⟨S7, e8, h⟩ := q_bindS h
      have fx9 : q_Fw wlX5_addBody p S S7 := e8 ▸ q_Fw.sI (i := 1) (b := 1) (k := 22) (jj := 999) (fx5) rfl rfl (Or.inl rfl) (Or.inl (q_nBp (k := 22) hp (by decide)))
      obtain ⟨hg10, h⟩ := q_guard h
      obtain ⟨S11, e12, h⟩ := q_bindS h
      have fx13 : q_Fw wlX5_addBody p S S11 := e12 ▸ q_Fw.sI (i := 2) (b := 1) (k := 23) (jj := 999) (fx9) rfl rfl (Or.inl rfl) (Or.inl (q_nBp (k := 23) hp (by decide)))
      obtain ⟨hg14, h⟩ := q_guard h
      obtain ⟨S15, e16, h⟩ := q_bindS h
      have fx17 : q_Fw wlX5_addBody p S S15 := e16 ▸ q_Fw.sI (i := 3) (b := 1) (k := 24) (jj := 999) (fx13) rfl rfl (Or.inl rfl) (Or.inl (q_nBp (k := 24) hp (by decide)))
      obtain ⟨hg18, h⟩ := q_guard h
      obtain ⟨S19, e20, h⟩ := q_bindS h
      have fx21 : q_Fw wlX5_addBody p S S19 := e20 ▸ q_Fw.sI (i := 4) (b := 1) (k := 25) (jj := 999) (fx17) rfl rfl (Or.inl rfl) (Or.inl (q_nBp (k := 25) hp (by decide)))
      obtain ⟨v23, hv, h⟩ := q_bind h
      obtain ⟨hg24, h⟩ := q_guard h
      obtain ⟨S25, e26, h⟩ := q_bindS h
      have fx27 : q_Fw wlX5_addBody p S S25 := e26 ▸ q_Fw.sI (i := 6) (b := 1) (k := 33) (jj := 999) (fx21) rfl rfl (Or.inl rfl) (Or.inl (q_nBp (k := 33) hp (by decide)))
      by_cases c : x3 = true
      · rw [if_pos c] at h
        obtain ⟨r28, e29, h⟩ := q_bind h
        have fx30 : q_Fw wlX5_addBody p S r28 := q_Fw.tr (fx27) ((fwX5_addParameter hp e29).up rfl)
        obtain ⟨hg31, h⟩ := q_guard h
        obtain ⟨hg32, h⟩ := q_guard h
        obtain ⟨S33, e34, h⟩ := q_bindS h
        have fx35 : q_Fw wlX5_addBody p S S33 := e34 ▸ q_Fw.sI (i := 7) (b := 1) (k := 34) (jj := 999) (fx30) rfl rfl (Or.inl rfl) (Or.inl (q_nBp (k := 34) hp (by decide)))
        obtain rfl := Option.some.inj h
        exact fx35
      · rw [if_neg c] at h
        obtain rfl := Option.some.inj h
        exact fx27
    · rw [if_neg c] at h
      obtain rfl := Option.some.inj h
      exact q_Fw.rf _
def wlX8_take : List (Nat × Nat × Nat) := [(0, 2, 1), (0, 3, 999)]
theorem fwtX8_take_30   {x : Int32 × QS} {z : (QS) ⊕ (Int32 × QS)} (h : tX8_take_30 x = some z) : q_Fw wlX8_take 0 ((fun x : Int32 × QS => x.2) x) ((Sum.elim (fun r : QS => r) (fun x : Int32 × QS => x.2)) z) := by
  unfold tX8_take_30 at h
  show q_Fw wlX8_take 0 x.2 _
  by_cases c : (x.2.2.1 2 1) ≤ x.1
  · rw [if_pos c] at h
    cases h
    exact q_Fw.rf _
  · rw [if_neg c] at h
    obtain ⟨hg1, h⟩ := q_guard h
    obtain ⟨hg2, h⟩ := q_guard h
    obtain ⟨S3, e4, h⟩ := q_bindS h
    have fx5 : q_Fw wlX8_take 0 x.2 S3 := e4 ▸ q_Fw.sI (i := 1) (b := 0) (k := 3) (jj := 999) (q_Fw.rf x.2) rfl rfl (Or.inl rfl) (Or.inr (q_narB _))
    cases h
    exact fx5
theorem fwX8_take_30 {S : QS}  {y3 : Int32} {r : QS} (h : fX8_take_30 S y3 = some r) : q_Fw wlX8_take 0 S ((fun r : QS => r) r) := q_run_fw (fun x : Int32 × QS => x.2) (fun r : QS => r) (fun _ _ hz => fwtX8_take_30 hz) h
theorem fwX8_take {S : QS}  {x2 : Int32} {r : QS} (h : fX8_take S x2 = some r) : q_Fw wlX8_take 0 S r := by
  unfold fX8_take at h
  by_cases c : x2 < 0
  · rw [if_pos c] at h
    obtain ⟨S6, e7, h⟩ := q_bindS h
    have fx8 : q_Fw wlX8_take 0 S S6 := e7 ▸ q_Fw.sI (i := 0) (b := 0) (k := 2) (jj := 1) (q_Fw.rf S) rfl rfl (Or.inr rfl) (Or.inl rfl)
    exact (fx8).tr (fwX8_take_30 h)
  · rw [if_neg c] at h
    by_cases c : (16000 : Int32) < x2
    · rw [if_pos c] at h
      obtain ⟨S9, e10, h⟩ := q_bindS h
      have fx11 : q_Fw wlX8_take 0 S S9 := e10 ▸ q_Fw.sI (i := 0) (b := 0) (k := 2) (jj := 1) (q_Fw.rf S) rfl rfl (Or.inr rfl) (Or.inl rfl)
      exact (fx11).tr (fwX8_take_30 h)
    · rw [if_neg c] at h
      by_cases c : x2 ≤ ((4 : Int32) * (nI 4000))
      · rw [if_pos c] at h
        obtain ⟨S12, e13, h⟩ := q_bindS h
        have fx14 : q_Fw wlX8_take 0 S S12 := e13 ▸ q_Fw.sI (i := 0) (b := 0) (k := 2) (jj := 1) (q_Fw.rf S) rfl rfl (Or.inr rfl) (Or.inl rfl)
        exact (fx14).tr (fwX8_take_30 h)
      · rw [if_neg c] at h
        obtain ⟨S15, e16, h⟩ := q_bindS h
        have fx17 : q_Fw wlX8_take 0 S S15 := e16 ▸ q_Fw.sI (i := 0) (b := 0) (k := 2) (jj := 1) (q_Fw.rf S) rfl rfl (Or.inr rfl) (Or.inl rfl)
        exact (fx17).tr (fwX8_take_30 h)
def wlX8_useUp : List (Nat × Nat × Nat) := [(0, 2, 1)]
theorem fwX8_useUp {S : QS}   {r : QS} (h : fX8_useUp S = some r) : q_Fw wlX8_useUp 0 S r := by
  unfold fX8_useUp at h
  obtain ⟨S1, e2, h⟩ := q_bindS h
  have fx3 : q_Fw wlX8_useUp 0 S S1 := e2 ▸ q_Fw.sI (i := 0) (b := 0) (k := 2) (jj := 1) (q_Fw.rf S) rfl rfl (Or.inr rfl) (Or.inl rfl)
  obtain rfl := Option.some.inj h
  exact fx3
def wlX8_split : List (Nat × Nat × Nat) := [(0, 2, 5), (0, 4, 999), (0, 5, 999)]
theorem fwuX8_split_55 {S : QS}  {y1 : Int32} {y2 : Int32} {y3 : Int32} {y4 : Int32} {z : (Bool × QS) ⊕ (Int32 × Int32 × Int32 × QS)} (h : uX8_split_55 S y1 y2 y3 y4 = some z) : q_Fw wlX8_split 0 S ((Sum.elim (fun r : Bool × QS => r.2) (fun x : Int32 × Int32 × Int32 × QS => x.2.2.2)) z) := by
  unfold uX8_split_55 at h
  by_cases c : y4 = (127 : Int32)
  · rw [if_pos c] at h
    cases h
    exact q_Fw.rf _
  · rw [if_neg c] at h
    obtain ⟨v1, hv, h⟩ := q_bind h
    obtain ⟨v2, hv, h⟩ := q_bind h
    obtain ⟨v3, hv, h⟩ := q_bind h
    obtain ⟨v18, hv, h⟩ := q_bind h
    have fx19 : q_Fw wlX8_split 0 S v18 := by
      replace h := hv
      by_cases c : v2 = true
      · rw [if_pos c] at h
        obtain rfl := Option.some.inj h
        exact q_Fw.rf _
      · rw [if_neg c] at h
        by_cases c : v3 = true
        · rw [if_pos c] at h
          obtain ⟨hg4, h⟩ := q_guard h
          obtain ⟨S5, e6, h⟩ := q_bindS h
          have fx7 : q_Fw wlX8_split 0 S S5 := e6 ▸ q_Fw.sI (i := 1) (b := 0) (k := 4) (jj := 999) (q_Fw.rf S) rfl rfl (Or.inl rfl) (Or.inl rfl)
          obtain ⟨S8, e9, h⟩ := q_bindS h
          have fx10 : q_Fw wlX8_split 0 S S8 := e9 ▸ q_Fw.sI (i := 0) (b := 0) (k := 2) (jj := 5) (fx7) rfl rfl (Or.inr rfl) (Or.inl rfl)
          obtain rfl := Option.some.inj h
          exact fx10
        · rw [if_neg c] at h
          by_cases c : y2 = 0
          · rw [if_pos c] at h
            obtain ⟨hg11, h⟩ := q_guard h
            obtain ⟨S12, e13, h⟩ := q_bindS h
            have fx14 : q_Fw wlX8_split 0 S S12 := e13 ▸ q_Fw.sI (i := 1) (b := 0) (k := 4) (jj := 999) (q_Fw.rf S) rfl rfl (Or.inl rfl) (Or.inl rfl)
            obtain ⟨S15, e16, h⟩ := q_bindS h
            have fx17 : q_Fw wlX8_split 0 S S15 := e16 ▸ q_Fw.sI (i := 0) (b := 0) (k := 2) (jj := 5) (fx14) rfl rfl (Or.inr rfl) (Or.inl rfl)
            obtain rfl := Option.some.inj h
            exact fx17
          · rw [if_neg c] at h
            obtain rfl := Option.some.inj h
            exact q_Fw.rf _
    obtain ⟨v24, hv, h⟩ := q_bind h
    have fx25 : q_Fw wlX8_split 0 S v24 := by
      replace h := hv
      by_cases c : v2 = true
      · rw [if_pos c] at h
        obtain rfl := Option.some.inj h
        exact fx19
      · rw [if_neg c] at h
        obtain ⟨hg20, h⟩ := q_guard h
        obtain ⟨S21, e22, h⟩ := q_bindS h
        have fx23 : q_Fw wlX8_split 0 S S21 := e22 ▸ q_Fw.sI (i := 2) (b := 0) (k := 5) (jj := 999) (fx19) rfl rfl (Or.inl rfl) (Or.inl rfl)
        obtain rfl := Option.some.inj h
        exact fx23
    by_cases c : v2 = true
    · rw [if_pos c] at h
      cases h
      exact fx25
    · rw [if_neg c] at h
      by_cases c : v3 = true
      · rw [if_pos c] at h
        cases h
        exact fx25
      · rw [if_neg c] at h
        cases h
        exact fx25
theorem fwtX8_split_11   {x : Int32 × Int32 × Int32 × QS} {z : (Bool × QS) ⊕ (Int32 × Int32 × Int32 × QS)} (h : tX8_split_11 x = some z) : q_Fw wlX8_split 0 ((fun x : Int32 × Int32 × Int32 × QS => x.2.2.2) x) ((Sum.elim (fun r : Bool × QS => r.2) (fun x : Int32 × Int32 × Int32 × QS => x.2.2.2)) z) := by
  unfold tX8_split_11 at h
  show q_Fw wlX8_split 0 x.2.2.2 _
  by_cases c : (x.2.2.2.2.1 2 1) ≤ x.2.2.1
  · rw [if_pos c] at h
    cases h
    exact q_Fw.rf _
  · rw [if_neg c] at h
    obtain ⟨hg26, h⟩ := q_guard h
    by_cases c : (32 : Int32) ≤ (x.2.2.2.2.1 3 x.2.2.1.toNatClampNeg)
    · rw [if_pos c] at h
      exact (q_Fw.rf _).tr (fwuX8_split_55 h)
    · rw [if_neg c] at h
      by_cases c : (x.2.2.2.2.1 3 x.2.2.1.toNatClampNeg) = (9 : Int32)
      · rw [if_pos c] at h
        exact (q_Fw.rf _).tr (fwuX8_split_55 h)
      · rw [if_neg c] at h
        by_cases c : (x.2.2.2.2.1 3 x.2.2.1.toNatClampNeg) = (10 : Int32)
        · rw [if_pos c] at h
          exact (q_Fw.rf _).tr (fwuX8_split_55 h)
        · rw [if_neg c] at h
          by_cases c : (x.2.2.2.2.1 3 x.2.2.1.toNatClampNeg) = (13 : Int32)
          · rw [if_pos c] at h
            exact (q_Fw.rf _).tr (fwuX8_split_55 h)
          · rw [if_neg c] at h
            cases h
            exact q_Fw.rf _
theorem fwX8_split_11 {S : QS}  {y1 : Int32} {y2 : Int32} {y3 : Int32} {r : Bool × QS} (h : fX8_split_11 S y1 y2 y3 = some r) : q_Fw wlX8_split 0 S ((fun r : Bool × QS => r.2) r) := q_run_fw (fun x : Int32 × Int32 × Int32 × QS => x.2.2.2) (fun r : Bool × QS => r.2) (fun _ _ hz => fwtX8_split_11 hz) h
theorem fwX8_split {S : QS}   {r : Bool × QS} (h : fX8_split S = some r) : q_Fw wlX8_split 0 S r.2 := by
  unfold fX8_split at h
  obtain ⟨S27, e28, h⟩ := q_bindS h
  have fx29 : q_Fw wlX8_split 0 S S27 := e28 ▸ q_Fw.sI (i := 0) (b := 0) (k := 2) (jj := 5) (q_Fw.rf S) rfl rfl (Or.inr rfl) (Or.inl rfl)
  exact (fx29).tr (fwX8_split_11 h)
def wlX7_takesPart : List (Nat × Nat × Nat) := [(0, 77, 2), (0, 77, 3)]
theorem fwX7_takesPart_28 {S : QS}  {y1 : Int32} {y2 : Int32} {r : Bool × QS} (h : fX7_takesPart_28 S y1 y2 = some r) : q_Fw wlX7_takesPart 0 S r.2 := by
  unfold fX7_takesPart_28 at h
  obtain ⟨S1, e2, h⟩ := q_bindS h
  have fx3 : q_Fw wlX7_takesPart 0 S S1 := e2 ▸ q_Fw.sI (i := 0) (b := 0) (k := 77) (jj := 2) (q_Fw.rf S) rfl rfl (Or.inr rfl) (Or.inl rfl)
  obtain ⟨v4, hv, h⟩ := q_bind h
  obtain ⟨S5, e6, h⟩ := q_bindS h
  have fx7 : q_Fw wlX7_takesPart 0 S S5 := e6 ▸ q_Fw.sI (i := 1) (b := 0) (k := 77) (jj := 3) (fx3) rfl rfl (Or.inr rfl) (Or.inl rfl)
  by_cases c8 : y2 = (67 : Int32)
  · rw [if_pos c8] at h
    obtain ⟨r9, e10, h⟩ := q_bind h
    obtain rfl := Option.some.inj h
    exact fx7
  rw [if_neg c8] at h
  by_cases c11 : y2 = (69 : Int32)
  · rw [if_pos c11] at h
    obtain ⟨r12, e13, h⟩ := q_bind h
    by_cases c : r12 = true
    · rw [if_pos c] at h
      obtain rfl := Option.some.inj h
      exact fx7
    · rw [if_neg c] at h
      obtain ⟨r14, e15, h⟩ := q_bind h
      by_cases c : r14 = true
      · rw [if_pos c] at h
        obtain rfl := Option.some.inj h
        exact fx7
      · rw [if_neg c] at h
        obtain rfl := Option.some.inj h
        exact fx7
  rw [if_neg c11] at h
  by_cases c16 : y2 = (70 : Int32)
  · rw [if_pos c16] at h
    obtain ⟨r17, e18, h⟩ := q_bind h
    obtain rfl := Option.some.inj h
    exact fx7
  rw [if_neg c16] at h
  by_cases c19 : y2 = (78 : Int32)
  · rw [if_pos c19] at h
    obtain ⟨r20, e21, h⟩ := q_bind h
    obtain rfl := Option.some.inj h
    exact fx7
  rw [if_neg c19] at h
  by_cases c22 : y2 = (80 : Int32)
  · rw [if_pos c22] at h
    obtain rfl := Option.some.inj h
    exact fx7
  rw [if_neg c22] at h
  by_cases c23 : y2 = (82 : Int32)
  · rw [if_pos c23] at h
    obtain ⟨r24, e25, h⟩ := q_bind h
    by_cases c : r24 = true
    · rw [if_pos c] at h
      obtain rfl := Option.some.inj h
      exact fx7
    · rw [if_neg c] at h
      obtain ⟨r26, e27, h⟩ := q_bind h
      by_cases c : r26 = true
      · rw [if_pos c] at h
        obtain rfl := Option.some.inj h
        exact fx7
      · rw [if_neg c] at h
        obtain rfl := Option.some.inj h
        exact fx7
  rw [if_neg c23] at h
  by_cases c28 : y2 = (84 : Int32)
  · rw [if_pos c28] at h
    obtain ⟨r29, e30, h⟩ := q_bind h
    obtain rfl := Option.some.inj h
    exact fx7
  rw [if_neg c28] at h
  by_cases c31 : y2 = (89 : Int32)
  · rw [if_pos c31] at h
    obtain ⟨r32, e33, h⟩ := q_bind h
    by_cases c : r32 = true
    · rw [if_pos c] at h
      obtain ⟨r34, e35, h⟩ := q_bind h
      by_cases c : r34 = true
      · rw [if_pos c] at h
        obtain rfl := Option.some.inj h
        exact fx7
      · rw [if_neg c] at h
        obtain rfl := Option.some.inj h
        exact fx7
    · rw [if_neg c] at h
      obtain rfl := Option.some.inj h
      exact fx7
  rw [if_neg c31] at h
  by_cases c36 : y2 = (110 : Int32)
  · rw [if_pos c36] at h
    obtain ⟨r37, e38, h⟩ := q_bind h
    obtain rfl := Option.some.inj h
    exact fx7
  rw [if_neg c36] at h
  by_cases c39 : y2 = (111 : Int32)
  · rw [if_pos c39] at h
    obtain ⟨r40, e41, h⟩ := q_bind h
    obtain rfl := Option.some.inj h
    exact fx7
  rw [if_neg c39] at h
  obtain ⟨r42, e43, h⟩ := q_bind h
  obtain rfl := Option.some.inj h
  exact fx7
theorem fwX7_takesPart {S : QS}  {x1 : Int32} {x2 : Int32} {r : Bool × QS} (h : fX7_takesPart S x1 x2 = some r) : q_Fw wlX7_takesPart 0 S r.2 := by
  unfold fX7_takesPart at h
  by_cases c : x2 = (80 : Int32)
  · rw [if_pos c] at h
    obtain ⟨r44, e45, h⟩ := q_bind h
    by_cases c : r44 = true
    · rw [if_pos c] at h
      exact (q_Fw.rf _).tr (fwX7_takesPart_28 h)
    · rw [if_neg c] at h
      obtain ⟨r46, e47, h⟩ := q_bind h
      obtain rfl := Option.some.inj h
      exact q_Fw.rf _
  · rw [if_neg c] at h
    exact (q_Fw.rf _).tr (fwX7_takesPart_28 h)
def wlX7_expect : List (Nat × Nat × Nat) := [(0, 6, 999), (0, 77, 2)]
theorem fwX7_expect {S : QS}  {x1 : Int32} {x2 : Int32} {x3 : Nat} {r : QS} (h : fX7_expect S x1 x2 x3 = some r) : q_Fw wlX7_expect 0 S r := by
  unfold fX7_expect at h
  obtain ⟨hg1, h⟩ := q_guard h
  obtain ⟨S2, e3, h⟩ := q_bindS h
  have fx4 : q_Fw wlX7_expect 0 S S2 := e3 ▸ q_Fw.sI (i := 0) (b := 0) (k := 6) (jj := 999) (q_Fw.rf S) rfl rfl (Or.inl rfl) (Or.inr (q_narB _))
  obtain ⟨S5, e6, h⟩ := q_bindS h
  have fx7 : q_Fw wlX7_expect 0 S S5 := e6 ▸ q_Fw.sR (fx4)
  obtain ⟨S8, e9, h⟩ := q_bindS h
  have fx10 : q_Fw wlX7_expect 0 S S8 := e9 ▸ q_Fw.sI (i := 1) (b := 0) (k := 77) (jj := 2) (fx7) rfl rfl (Or.inr rfl) (Or.inl rfl)
  obtain rfl := Option.some.inj h
  exact fx10
def wlX7_beginsClass : List (Nat × Nat × Nat) := [(0, 6, 999), (0, 77, 2)]
theorem fwX7_beginsClass {S : QS}  {x1 : Int32} {r : Bool × QS} (h : fX7_beginsClass S x1 = some r) : q_Fw wlX7_beginsClass 0 S r.2 := by
  unfold fX7_beginsClass at h
  obtain ⟨r1, e2, h⟩ := q_bind h
  have fx3 : q_Fw wlX7_beginsClass 0 S r1 := q_Fw.tr (q_Fw.rf S) ((fwX7_expect e2).up rfl)
  obtain ⟨r4, e5, h⟩ := q_bind h
  obtain rfl := Option.some.inj h
  exact fx3
def wlX7_beginsMember : List (Nat × Nat × Nat) := [(0, 6, 999), (0, 77, 2)]
theorem fwX7_beginsMember {S : QS}  {x1 : Int32} {r : Bool × QS} (h : fX7_beginsMember S x1 = some r) : q_Fw wlX7_beginsMember 0 S r.2 := by
  unfold fX7_beginsMember at h
  obtain ⟨r1, e2, h⟩ := q_bind h
  by_cases c : r1 = true
  · rw [if_pos c] at h
    obtain ⟨r11, e12, h⟩ := q_bind h
    have fx13 : q_Fw wlX7_beginsMember 0 S r11 := q_Fw.tr (q_Fw.rf S) ((fwX7_expect e12).up rfl)
    obtain rfl := Option.some.inj h
    exact fx13
  · rw [if_neg c] at h
    obtain ⟨r3, e4, h⟩ := q_bind h
    obtain ⟨v5, hv, h⟩ := q_bind h
    obtain ⟨r6, e7, h⟩ := q_bind h
    have fx8 : q_Fw wlX7_beginsMember 0 S r6 := q_Fw.tr (q_Fw.rf S) ((fwX7_expect e7).up rfl)
    by_cases c : r3 = true
    · rw [if_pos c] at h
      obtain rfl := Option.some.inj h
      exact fx8
    · rw [if_neg c] at h
      obtain ⟨r9, e10, h⟩ := q_bind h
      by_cases c : r9 = true
      · rw [if_pos c] at h
        obtain rfl := Option.some.inj h
        exact fx8
      · rw [if_neg c] at h
        obtain rfl := Option.some.inj h
        exact fx8
def wlX7_beginsLine : List (Nat × Nat × Nat) := [(0, 6, 999), (0, 77, 2)]
theorem fwX7_beginsLine {S : QS}  {x1 : Int32} {r : Bool × QS} (h : fX7_beginsLine S x1 = some r) : q_Fw wlX7_beginsLine 0 S r.2 := by
  unfold fX7_beginsLine at h
  obtain ⟨r1, e2, h⟩ := q_bind h
  obtain ⟨v9, hv, h⟩ := q_bind h
  obtain ⟨r10, e11, h⟩ := q_bind h
  obtain ⟨r12, e13, h⟩ := q_bind h
  by_cases c : r12 = true
  · rw [if_pos c] at h
    obtain ⟨r14, e15, h⟩ := q_bind h
    have fx16 : q_Fw wlX7_beginsLine 0 S r14 := q_Fw.tr (q_Fw.rf S) ((fwX7_expect e15).up rfl)
    obtain rfl := Option.some.inj h
    exact fx16
  · rw [if_neg c] at h
    by_cases c : v9 = (-1 : Int32)
    · rw [if_pos c] at h
      by_cases c : r10 = true
      · rw [if_pos c] at h
        by_cases c : r10 = true
        · rw [if_pos c] at h
          obtain ⟨r30, e31, h⟩ := q_bind h
          have fx32 : q_Fw wlX7_beginsLine 0 S r30 := q_Fw.tr (q_Fw.rf S) ((fwX7_expect e31).up rfl)
          obtain rfl := Option.some.inj h
          exact fx32
        · rw [if_neg c] at h
          obtain ⟨r25, e26, h⟩ := q_bind h
          obtain ⟨r27, e28, h⟩ := q_bind h
          have fx29 : q_Fw wlX7_beginsLine 0 S r27 := q_Fw.tr (q_Fw.rf S) ((fwX7_expect e28).up rfl)
          obtain rfl := Option.some.inj h
          exact fx29
      · rw [if_neg c] at h
        obtain ⟨r33, e34, h⟩ := q_bind h
        have fx35 : q_Fw wlX7_beginsLine 0 S r33 := q_Fw.tr (q_Fw.rf S) ((fwX7_expect e34).up rfl)
        obtain rfl := Option.some.inj h
        exact fx35
    · rw [if_neg c] at h
      by_cases c : r10 = true
      · rw [if_pos c] at h
        obtain ⟨r22, e23, h⟩ := q_bind h
        have fx24 : q_Fw wlX7_beginsLine 0 S r22 := q_Fw.tr (q_Fw.rf S) ((fwX7_expect e23).up rfl)
        obtain rfl := Option.some.inj h
        exact fx24
      · rw [if_neg c] at h
        obtain ⟨r17, e18, h⟩ := q_bind h
        obtain ⟨r19, e20, h⟩ := q_bind h
        have fx21 : q_Fw wlX7_beginsLine 0 S r19 := q_Fw.tr (q_Fw.rf S) ((fwX7_expect e20).up rfl)
        obtain rfl := Option.some.inj h
        exact fx21
def wlX7_begins : List (Nat × Nat × Nat) := [(0, 6, 999), (0, 77, 2), (0, 77, 3)]
theorem fwX7_begins_57 {S : QS}  {y1 : Int32} {r : Bool × QS} (h : fX7_begins_57 S y1 = some r) : q_Fw wlX7_begins 0 S r.2 := by
  unfold fX7_begins_57 at h
  by_cases c1 : (S.2.1 77 3) = (0 : Int32)
  · rw [if_pos c1] at h
    obtain ⟨r2, e3, h⟩ := q_bind h
    have fx4 : q_Fw wlX7_begins 0 S r2.2 := q_Fw.tr (q_Fw.rf S) ((fwX7_beginsClass e3).up rfl)
    obtain rfl := Option.some.inj h
    exact fx4
  rw [if_neg c1] at h
  by_cases c5 : (S.2.1 77 3) = (1 : Int32)
  · rw [if_pos c5] at h
    obtain ⟨r6, e7, h⟩ := q_bind h
    have fx8 : q_Fw wlX7_begins 0 S r6.2 := q_Fw.tr (q_Fw.rf S) ((fwX7_beginsMember e7).up rfl)
    obtain rfl := Option.some.inj h
    exact fx8
  rw [if_neg c5] at h
  obtain ⟨r9, e10, h⟩ := q_bind h
  have fx11 : q_Fw wlX7_begins 0 S r9.2 := q_Fw.tr (q_Fw.rf S) ((fwX7_beginsLine e10).up rfl)
  obtain rfl := Option.some.inj h
  exact fx11
theorem fwX7_begins {S : QS}  {x1 : Int32} {r : Bool × QS} (h : fX7_begins S x1 = some r) : q_Fw wlX7_begins 0 S r.2 := by
  unfold fX7_begins at h
  by_cases c : (S.2.1 77 3) ≤ 0
  · rw [if_pos c] at h
    exact (q_Fw.rf _).tr (fwX7_begins_57 h)
  · rw [if_neg c] at h
    obtain ⟨r12, e13, h⟩ := q_bind h
    by_cases c : r12 = true
    · rw [if_pos c] at h
      obtain ⟨S14, e15, h⟩ := q_bindS h
      have fx16 : q_Fw wlX7_begins 0 S S14 := e15 ▸ q_Fw.sI (i := 2) (b := 0) (k := 77) (jj := 3) (q_Fw.rf S) rfl rfl (Or.inr rfl) (Or.inl rfl)
      obtain ⟨v17, hv, h⟩ := q_bind h
      obtain ⟨hg18, h⟩ := q_guard h
      obtain ⟨S19, e20, h⟩ := q_bindS h
      have fx21 : q_Fw wlX7_begins 0 S S19 := e20 ▸ q_Fw.sI (i := 0) (b := 0) (k := 6) (jj := 999) (fx16) rfl rfl (Or.inl rfl) (Or.inr (q_narB _))
      obtain rfl := Option.some.inj h
      exact fx21
    · rw [if_neg c] at h
      exact (q_Fw.rf _).tr (fwX7_begins_57 h)
def wlX7_firstFault : List (Nat × Nat × Nat) := [(0, 6, 999), (0, 77, 2), (0, 77, 3)]
theorem fwtX7_firstFault_18   {x : Int32 × QS} {z : (Int32 × QS) ⊕ (Int32 × QS)} (h : tX7_firstFault_18 x = some z) : q_Fw wlX7_firstFault 0 ((fun x : Int32 × QS => x.2) x) ((Sum.elim (fun r : Int32 × QS => r.2) (fun x : Int32 × QS => x.2)) z) := by
  unfold tX7_firstFault_18 at h
  show q_Fw wlX7_firstFault 0 x.2 _
  by_cases c : (x.2.2.1 2 5) ≤ x.1
  · rw [if_pos c] at h
    by_cases c : (x.2.2.1 77 3) = 0
    · rw [if_pos c] at h
      obtain ⟨r1, e2, h⟩ := q_bind h
      by_cases c : (x.2.2.1 77 2) = r1
      · rw [if_pos c] at h
        cases h
        exact q_Fw.rf _
      · rw [if_neg c] at h
        cases h
        exact q_Fw.rf _
    · rw [if_neg c] at h
      cases h
      exact q_Fw.rf _
  · rw [if_neg c] at h
    obtain ⟨hg4, h⟩ := q_guard h
    obtain ⟨S5, e6, h⟩ := q_bindS h
    have fx7 : q_Fw wlX7_firstFault 0 x.2 S5 := e6 ▸ q_Fw.sI (i := 0) (b := 0) (k := 6) (jj := 999) (q_Fw.rf x.2) rfl rfl (Or.inl rfl) (Or.inr (q_narB _))
    obtain ⟨r8, e9, h⟩ := q_bind h
    obtain ⟨v20, hv, h⟩ := q_bind h
    have fx21 : q_Fw wlX7_firstFault 0 x.2 v20.2 := by
      replace h := hv
      by_cases c : r8 ≤ (S5.2.1 77 2)
      · rw [if_pos c] at h
        obtain ⟨r11, e12, h⟩ := q_bind h
        have fx13 : q_Fw wlX7_firstFault 0 x.2 r11.2 := q_Fw.tr (fx7) ((fwX7_begins e12).up rfl)
        obtain rfl := Option.some.inj h
        exact fx13
      · rw [if_neg c] at h
        obtain ⟨r14, e15, h⟩ := q_bind h
        obtain ⟨r17, e18, h⟩ := q_bind h
        have fx19 : q_Fw wlX7_firstFault 0 x.2 r17.2 := q_Fw.tr (fx7) ((fwX7_takesPart e18).up rfl)
        obtain rfl := Option.some.inj h
        exact fx19
    by_cases c : v20.1 = true
    · rw [if_pos c] at h
      cases h
      exact fx21
    · rw [if_neg c] at h
      cases h
      exact fx21
theorem fwX7_firstFault_18 {S : QS}  {y1 : Int32} {r : Int32 × QS} (h : fX7_firstFault_18 S y1 = some r) : q_Fw wlX7_firstFault 0 S ((fun r : Int32 × QS => r.2) r) := q_run_fw (fun x : Int32 × QS => x.2) (fun r : Int32 × QS => r.2) (fun _ _ hz => fwtX7_firstFault_18 hz) h
theorem fwX7_firstFault {S : QS}   {r : Int32 × QS} (h : fX7_firstFault S = some r) : q_Fw wlX7_firstFault 0 S r.2 := by
  unfold fX7_firstFault at h
  obtain ⟨S22, e23, h⟩ := q_bindS h
  have fx24 : q_Fw wlX7_firstFault 0 S S22 := e23 ▸ q_Fw.sR (q_Fw.rf S)
  obtain ⟨S25, e26, h⟩ := q_bindS h
  have fx27 : q_Fw wlX7_firstFault 0 S S25 := e26 ▸ q_Fw.sI (i := 1) (b := 0) (k := 77) (jj := 2) (fx24) rfl rfl (Or.inr rfl) (Or.inl rfl)
  obtain ⟨S28, e29, h⟩ := q_bindS h
  have fx30 : q_Fw wlX7_firstFault 0 S S28 := e29 ▸ q_Fw.sI (i := 2) (b := 0) (k := 77) (jj := 3) (fx27) rfl rfl (Or.inr rfl) (Or.inl rfl)
  exact (fx30).tr (fwX7_firstFault_18 h)
def wlX4_classFault : List (Nat × Nat × Nat) := [(1, 1, 0), (1, 2, 999), (1, 3, 999), (1, 4, 999), (1, 5, 999)]
theorem fwtX4_classFault_2 {p : Nat}  {x : Int32 × QS} {z : (Int32 × QS) ⊕ (Int32 × QS)} (hp : q_pok p) (h : tX4_classFault_2 p x = some z) : q_Fw wlX4_classFault p ((fun x : Int32 × QS => x.2) x) ((Sum.elim (fun r : Int32 × QS => r.2) (fun x : Int32 × QS => x.2)) z) := by
  unfold tX4_classFault_2 at h
  show q_Fw wlX4_classFault p x.2 _
  by_cases c : (x.2.2.1 2 5) ≤ x.1
  · rw [if_pos c] at h
    cases h
    exact q_Fw.rf _
  · rw [if_neg c] at h
    obtain ⟨hg1, h⟩ := q_guard h
    by_cases c : (x.2.2.1 6 x.1.toNatClampNeg) = (48 : Int32)
    · rw [if_pos c] at h
      obtain ⟨r2, e3, h⟩ := q_bind h
      by_cases c : r2 = (-1 : Int32)
      · rw [if_pos c] at h
        by_cases c : (x.2.2.1 (p + 1) 0) = (32 : Int32)
        · rw [if_pos c] at h
          cases h
          exact q_Fw.rf _
        · rw [if_neg c] at h
          obtain ⟨r4, e5, h⟩ := q_bind h
          by_cases c : r4 = (-1 : Int32)
          · rw [if_pos c] at h
            cases h
            exact q_Fw.rf _
          · rw [if_neg c] at h
            obtain ⟨r6, e7, h⟩ := q_bind h
            have fx8 : q_Fw wlX4_classFault p x.2 r6 := q_Fw.tr (q_Fw.rf x.2) ((fwX0_addClass hp e7).up rfl)
            cases h
            exact fx8
      · rw [if_neg c] at h
        cases h
        exact q_Fw.rf _
    · rw [if_neg c] at h
      cases h
      exact q_Fw.rf _
theorem fwX4_classFault_2 {S : QS} {p : Nat} {y1 : Int32} {r : Int32 × QS} (hp : q_pok p) (h : fX4_classFault_2 S p y1 = some r) : q_Fw wlX4_classFault p S ((fun r : Int32 × QS => r.2) r) := q_run_fw (fun x : Int32 × QS => x.2) (fun r : Int32 × QS => r.2) (fun _ _ hz => fwtX4_classFault_2 hp hz) h
theorem fwX4_classFault {S : QS} {p : Nat}  {r : Int32 × QS} (hp : q_pok p) (h : fX4_classFault S p = some r) : q_Fw wlX4_classFault p S r.2 := by
  unfold fX4_classFault at h
  exact (q_Fw.rf _).tr (fwX4_classFault_2 hp h)
def wlX4_fieldFault : List (Nat × Nat × Nat) := [(1, 1, 5), (1, 5, 999), (1, 6, 999), (1, 7, 999), (1, 8, 999), (1, 9, 999)]
theorem fwX4_fieldFault {S : QS} {p : Nat} {x1 : Int32} {x2 : Int32} {r : Int32 × QS} (hp : q_pok p) (h : fX4_fieldFault S p x1 x2 = some r) : q_Fw wlX4_fieldFault p S r.2 := by
  unfold fX4_fieldFault at h
  obtain ⟨r1, e2, h⟩ := q_bind h
  obtain ⟨r3, e4, h⟩ := q_bind h
  obtain ⟨r5, e6, h⟩ := q_bind h
  by_cases c : r5 = (-1 : Int32)
  · rw [if_pos c] at h
    by_cases c : (S.2.1 (p + 1) 5) = (48 : Int32)
    · rw [if_pos c] at h
      obtain rfl := Option.some.inj h
      exact q_Fw.rf _
    · rw [if_neg c] at h
      obtain ⟨r7, e8, h⟩ := q_bind h
      by_cases c : r7 = (-1 : Int32)
      · rw [if_pos c] at h
        obtain rfl := Option.some.inj h
        exact q_Fw.rf _
      · rw [if_neg c] at h
        obtain ⟨r9, e10, h⟩ := q_bind h
        have fx11 : q_Fw wlX4_fieldFault p S r9 := q_Fw.tr (q_Fw.rf S) ((fwX0_addField hp e10).up rfl)
        obtain rfl := Option.some.inj h
        exact fx11
  · rw [if_neg c] at h
    obtain rfl := Option.some.inj h
    exact q_Fw.rf _
def wlX4_headFault : List (Nat × Nat × Nat) := [(1, 0, 2), (1, 22, 999), (1, 23, 999), (1, 24, 999), (1, 25, 999), (1, 26, 999), (1, 27, 999), (1, 28, 999), (1, 33, 999), (1, 34, 999)]
theorem fwX4_headFault_162 {S : QS} {p : Nat} {y4 : Int32} {y5 : Int32} {r : Int32 × QS} (hp : q_pok p) (h : fX4_headFault_162 S p y4 y5 = some r) : q_Fw wlX4_headFault p S r.2 := by
  unfold fX4_headFault_162 at h
  obtain ⟨r1, e2, h⟩ := q_bind h
  obtain ⟨v5, hv, h⟩ := q_bind h
  by_cases c : v5 = (-1 : Int32)
  · rw [if_pos c] at h
    obtain rfl := Option.some.inj h
    exact q_Fw.rf _
  · rw [if_neg c] at h
    obtain ⟨r6, e7, h⟩ := q_bind h
    obtain ⟨hg8, h⟩ := q_guard h
    by_cases c : r6 < (S.2.1 (p + 25) y4.toNatClampNeg)
    · rw [if_pos c] at h
      obtain rfl := Option.some.inj h
      exact q_Fw.rf _
    · rw [if_neg c] at h
      by_cases c : r6 ≤ (12 : Int32)
      · rw [if_pos c] at h
        obtain ⟨hg9, h⟩ := q_guard h
        obtain ⟨S10, e11, h⟩ := q_bindS h
        have fx12 : q_Fw wlX4_headFault p S S10 := e11 ▸ q_Fw.sI (i := 6) (b := 1) (k := 27) (jj := 999) (q_Fw.rf S) rfl rfl (Or.inl rfl) (Or.inl (q_nBp (k := 27) hp (by decide)))
        obtain ⟨hg13, h⟩ := q_guard h
        obtain ⟨S14, e15, h⟩ := q_bindS h
        have fx16 : q_Fw wlX4_headFault p S S14 := e15 ▸ q_Fw.sI (i := 7) (b := 1) (k := 28) (jj := 999) (fx12) rfl rfl (Or.inl rfl) (Or.inl (q_nBp (k := 28) hp (by decide)))
        obtain rfl := Option.some.inj h
        exact fx16
      · rw [if_neg c] at h
        obtain rfl := Option.some.inj h
        exact q_Fw.rf _
theorem fwtX4_headFault_102 {p : Nat} {y4 : Int32} {x : Int32 × QS} {z : (Int32 × QS) ⊕ (Int32 × QS)} (hp : q_pok p) (h : tX4_headFault_102 p y4 x = some z) : q_Fw wlX4_headFault p ((fun x : Int32 × QS => x.2) x) ((Sum.elim (fun r : Int32 × QS => r.2) (fun x : Int32 × QS => x.2)) z) := by
  unfold tX4_headFault_102 at h
  show q_Fw wlX4_headFault p x.2 _
  by_cases c : (x.2.2.1 2 5) ≤ x.1
  · rw [if_pos c] at h
    obtain ⟨r17, e18, h⟩ := q_bind h
    cases h
    exact (q_Fw.rf _).tr (fwX4_headFault_162 hp e18)
  · rw [if_neg c] at h
    obtain ⟨r19, e20, h⟩ := q_bind h
    by_cases c : r19 = true
    · rw [if_pos c] at h
      obtain ⟨r21, e22, h⟩ := q_bind h
      cases h
      exact (q_Fw.rf _).tr (fwX4_headFault_162 hp e22)
    · rw [if_neg c] at h
      obtain ⟨r23, e24, h⟩ := q_bind h
      by_cases c : r23 = (-1 : Int32)
      · rw [if_pos c] at h
        cases h
        exact q_Fw.rf _
      · rw [if_neg c] at h
        obtain ⟨r25, e26, h⟩ := q_bind h
        have fx27 : q_Fw wlX4_headFault p x.2 r25 := q_Fw.tr (q_Fw.rf x.2) ((fwX5_addParameter hp e26).up rfl)
        cases h
        exact fx27
theorem fwX4_headFault_102 {S : QS} {p : Nat} {y4 : Int32} {y5 : Int32} {r : Int32 × QS} (hp : q_pok p) (h : fX4_headFault_102 S p y4 y5 = some r) : q_Fw wlX4_headFault p S ((fun r : Int32 × QS => r.2) r) := q_run_fw (fun x : Int32 × QS => x.2) (fun r : Int32 × QS => r.2) (fun _ _ hz => fwtX4_headFault_102 hp hz) h
theorem fwX4_headFault_57 {S : QS} {p : Nat} {y1 : Int32} {y2 : Int32} {y3 : Int32} {r : Int32 × QS} (hp : q_pok p) (h : fX4_headFault_57 S p y1 y2 y3 = some r) : q_Fw wlX4_headFault p S r.2 := by
  unfold fX4_headFault_57 at h
  obtain ⟨hg28, h⟩ := q_guard h
  obtain ⟨v29, hv, h⟩ := q_bind h
  obtain ⟨r30, e31, h⟩ := q_bind h
  have fx32 : q_Fw wlX4_headFault p S r30 := q_Fw.tr (q_Fw.rf S) ((fwX5_addBody hp e31).up rfl)
  exact (fx32).tr (fwX4_headFault_102 hp h)
theorem fwX4_headFault {S : QS} {p : Nat} {x1 : Int32} {x2 : Int32} {r : Int32 × QS} (hp : q_pok p) (h : fX4_headFault S p x1 x2 = some r) : q_Fw wlX4_headFault p S r.2 := by
  unfold fX4_headFault at h
  obtain ⟨r33, e34, h⟩ := q_bind h
  obtain ⟨r35, e36, h⟩ := q_bind h
  obtain ⟨r37, e38, h⟩ := q_bind h
  by_cases c : (S.2.1 p 2) = (48 : Int32)
  · rw [if_pos c] at h
    obtain rfl := Option.some.inj h
    exact q_Fw.rf _
  · rw [if_neg c] at h
    by_cases c : r37 = (-1 : Int32)
    · rw [if_pos c] at h
      exact (q_Fw.rf _).tr (fwX4_headFault_57 hp h)
    · rw [if_neg c] at h
      obtain ⟨r39, e40, h⟩ := q_bind h
      by_cases c : r39 = true
      · rw [if_pos c] at h
        exact (q_Fw.rf _).tr (fwX4_headFault_57 hp h)
      · rw [if_neg c] at h
        obtain rfl := Option.some.inj h
        exact q_Fw.rf _
def wlX4_memberFault : List (Nat × Nat × Nat) := [(1, 0, 2), (1, 1, 5), (1, 5, 999), (1, 6, 999), (1, 7, 999), (1, 8, 999), (1, 9, 999), (1, 22, 999), (1, 23, 999), (1, 24, 999), (1, 25, 999), (1, 26, 999), (1, 27, 999), (1, 28, 999), (1, 33, 999), (1, 34, 999)]
theorem fwtX4_memberFault_5 {p : Nat}  {x : Int32 × Int32 × QS} {z : (Int32 × QS) ⊕ (Int32 × Int32 × QS)} (hp : q_pok p) (h : tX4_memberFault_5 p x = some z) : q_Fw wlX4_memberFault p ((fun x : Int32 × Int32 × QS => x.2.2) x) ((Sum.elim (fun r : Int32 × QS => r.2) (fun x : Int32 × Int32 × QS => x.2.2)) z) := by
  unfold tX4_memberFault_5 at h
  show q_Fw wlX4_memberFault p x.2.2 _
  by_cases c : (x.2.2.2.1 2 5) ≤ x.2.1
  · rw [if_pos c] at h
    cases h
    exact q_Fw.rf _
  · rw [if_neg c] at h
    obtain ⟨hg1, h⟩ := q_guard h
    obtain ⟨v16, hv, h⟩ := q_bind h
    have fx17 : q_Fw wlX4_memberFault p x.2.2 v16.2.2 := by
      replace h := hv
      by_cases c2 : (x.2.2.2.1 6 x.2.1.toNatClampNeg) = (48 : Int32)
      · rw [if_pos c2] at h
        obtain ⟨r3, e4, h⟩ := q_bind h
        have fx5 : q_Fw wlX4_memberFault p x.2.2 r3 := q_Fw.tr (q_Fw.rf x.2.2) ((fwX5_inherit hp e4).up rfl)
        obtain rfl := Option.some.inj h
        exact fx5
      rw [if_neg c2] at h
      by_cases c6 : (x.2.2.2.1 6 x.2.1.toNatClampNeg) = (49 : Int32)
      · rw [if_pos c6] at h
        obtain ⟨r7, e8, h⟩ := q_bind h
        have fx9 : q_Fw wlX4_memberFault p x.2.2 r7.2 := q_Fw.tr (q_Fw.rf x.2.2) ((fwX4_fieldFault hp e8).up rfl)
        obtain rfl := Option.some.inj h
        exact fx9
      rw [if_neg c6] at h
      by_cases c10 : (x.2.2.2.1 6 x.2.1.toNatClampNeg) = (50 : Int32) ∨ (x.2.2.2.1 6 x.2.1.toNatClampNeg) = (51 : Int32)
      · rw [if_pos c10] at h
        obtain ⟨r11, e12, h⟩ := q_bind h
        have fx13 : q_Fw wlX4_memberFault p x.2.2 r11.2 := q_Fw.tr (q_Fw.rf x.2.2) ((fwX4_headFault hp e12).up rfl)
        obtain rfl := Option.some.inj h
        exact fx13
      rw [if_neg c10] at h
      obtain rfl := Option.some.inj h
      exact q_Fw.rf _
    by_cases c : v16.2.1 = (-1 : Int32)
    · rw [if_pos c] at h
      cases h
      exact fx17
    · rw [if_neg c] at h
      cases h
      exact fx17
theorem fwX4_memberFault_5 {S : QS} {p : Nat} {y1 : Int32} {y2 : Int32} {r : Int32 × QS} (hp : q_pok p) (h : fX4_memberFault_5 S p y1 y2 = some r) : q_Fw wlX4_memberFault p S ((fun r : Int32 × QS => r.2) r) := q_run_fw (fun x : Int32 × Int32 × QS => x.2.2) (fun r : Int32 × QS => r.2) (fun _ _ hz => fwtX4_memberFault_5 hp hz) h
theorem fwX4_memberFault {S : QS} {p : Nat}  {r : Int32 × QS} (hp : q_pok p) (h : fX4_memberFault S p = some r) : q_Fw wlX4_memberFault p S r.2 := by
  unfold fX4_memberFault at h
  exact (q_Fw.rf _).tr (fwX4_memberFault_5 hp h)
def wlX4_beginBody : List (Nat × Nat × Nat) := [(0, 78, 6), (0, 78, 7), (0, 78, 8), (0, 79, 999), (0, 80, 999), (1, 29, 999), (1, 31, 999)]
theorem fwtX4_beginBody_68 {p : Nat}  {x : Int32 × QS} {z : (QS) ⊕ (Int32 × QS)} (hp : q_pok p) (h : tX4_beginBody_68 p x = some z) : q_Fw wlX4_beginBody p ((fun x : Int32 × QS => x.2) x) ((Sum.elim (fun r : QS => r) (fun x : Int32 × QS => x.2)) z) := by
  unfold tX4_beginBody_68 at h
  show q_Fw wlX4_beginBody p x.2 _
  by_cases c : (x.2.2.1 2 5) ≤ x.1
  · rw [if_pos c] at h
    cases h
    exact q_Fw.rf _
  · rw [if_neg c] at h
    obtain ⟨hg1, h⟩ := q_guard h
    by_cases c : (x.2.2.1 6 x.1.toNatClampNeg) = (52 : Int32)
    · rw [if_pos c] at h
      cases h
      exact q_Fw.rf _
    · rw [if_neg c] at h
      obtain ⟨hg2, h⟩ := q_guard h
      by_cases c : (x.2.2.1 6 x.1.toNatClampNeg) = (47 : Int32)
      · rw [if_pos c] at h
        by_cases c : (nI 8000) ≤ (x.2.2.1 78 6)
        · rw [if_pos c] at h
          obtain ⟨hg7, h⟩ := q_guard h
          by_cases c : (46 : Int32) ≤ (x.2.2.1 6 x.1.toNatClampNeg)
          · rw [if_pos c] at h
            cases h
            exact q_Fw.rf _
          · rw [if_neg c] at h
            obtain ⟨S8, e9, h⟩ := q_bindS h
            have fx10 : q_Fw wlX4_beginBody p x.2 S8 := e9 ▸ q_Fw.sI (i := 1) (b := 0) (k := 78) (jj := 7) (q_Fw.rf x.2) rfl rfl (Or.inr rfl) (Or.inl rfl)
            cases h
            exact fx10
        · rw [if_neg c] at h
          obtain ⟨hg11, h⟩ := q_guard h
          obtain ⟨S12, e13, h⟩ := q_bindS h
          have fx14 : q_Fw wlX4_beginBody p x.2 S12 := e13 ▸ q_Fw.sI (i := 3) (b := 0) (k := 79) (jj := 999) (q_Fw.rf x.2) rfl rfl (Or.inl rfl) (Or.inl rfl)
          obtain ⟨hg15, h⟩ := q_guard h
          obtain ⟨S16, e17, h⟩ := q_bindS h
          have fx18 : q_Fw wlX4_beginBody p x.2 S16 := e17 ▸ q_Fw.sI (i := 4) (b := 0) (k := 80) (jj := 999) (fx14) rfl rfl (Or.inl rfl) (Or.inl rfl)
          obtain ⟨S19, e20, h⟩ := q_bindS h
          have fx21 : q_Fw wlX4_beginBody p x.2 S19 := e20 ▸ q_Fw.sI (i := 0) (b := 0) (k := 78) (jj := 6) (fx18) rfl rfl (Or.inr rfl) (Or.inl rfl)
          cases h
          exact fx21
      · rw [if_neg c] at h
        obtain ⟨hg3, h⟩ := q_guard h
        by_cases c : (46 : Int32) ≤ (x.2.2.1 6 x.1.toNatClampNeg)
        · rw [if_pos c] at h
          cases h
          exact q_Fw.rf _
        · rw [if_neg c] at h
          obtain ⟨S4, e5, h⟩ := q_bindS h
          have fx6 : q_Fw wlX4_beginBody p x.2 S4 := e5 ▸ q_Fw.sI (i := 1) (b := 0) (k := 78) (jj := 7) (q_Fw.rf x.2) rfl rfl (Or.inr rfl) (Or.inl rfl)
          cases h
          exact fx6
theorem fwX4_beginBody_68 {S : QS} {p : Nat} {y2 : Int32} {r : QS} (hp : q_pok p) (h : fX4_beginBody_68 S p y2 = some r) : q_Fw wlX4_beginBody p S ((fun r : QS => r) r) := q_run_fw (fun x : Int32 × QS => x.2) (fun r : QS => r) (fun _ _ hz => fwtX4_beginBody_68 hp hz) h
theorem fwX4_beginBody {S : QS} {p : Nat} {x1 : Int32} {r : QS} (hp : q_pok p) (h : fX4_beginBody S p x1 = some r) : q_Fw wlX4_beginBody p S r := by
  unfold fX4_beginBody at h
  obtain ⟨S22, e23, h⟩ := q_bindS h
  have fx24 : q_Fw wlX4_beginBody p S S22 := e23 ▸ q_Fw.sI (i := 2) (b := 0) (k := 78) (jj := 8) (q_Fw.rf S) rfl rfl (Or.inr rfl) (Or.inl rfl)
  obtain ⟨hg25, h⟩ := q_guard h
  obtain ⟨S26, e27, h⟩ := q_bindS h
  have fx28 : q_Fw wlX4_beginBody p S S26 := e27 ▸ q_Fw.sI (i := 5) (b := 1) (k := 29) (jj := 999) (fx24) rfl rfl (Or.inl rfl) (Or.inl (q_nBp (k := 29) hp (by decide)))
  obtain ⟨hg29, h⟩ := q_guard h
  obtain ⟨S30, e31, h⟩ := q_bindS h
  have fx32 : q_Fw wlX4_beginBody p S S30 := e31 ▸ q_Fw.sI (i := 6) (b := 1) (k := 31) (jj := 999) (fx28) rfl rfl (Or.inl rfl) (Or.inl (q_nBp (k := 31) hp (by decide)))
  obtain ⟨S33, e34, h⟩ := q_bindS h
  have fx35 : q_Fw wlX4_beginBody p S S33 := e34 ▸ q_Fw.sI (i := 0) (b := 0) (k := 78) (jj := 6) (fx32) rfl rfl (Or.inr rfl) (Or.inl rfl)
  obtain ⟨S36, e37, h⟩ := q_bindS h
  have fx38 : q_Fw wlX4_beginBody p S S36 := e37 ▸ q_Fw.sI (i := 1) (b := 0) (k := 78) (jj := 7) (fx35) rfl rfl (Or.inr rfl) (Or.inl rfl)
  exact (fx38).tr (fwX4_beginBody_68 hp h)
def wlX4_catchFault : List (Nat × Nat × Nat) := [(1, 10, 9), (1, 18, 999), (1, 19, 999), (1, 20, 999), (1, 21, 999)]
theorem fwX4_catchFault {S : QS} {p : Nat} {x1 : Int32} {r : Int32 × QS} (hp : q_pok p) (h : fX4_catchFault S p x1 = some r) : q_Fw wlX4_catchFault p S r.2 := by
  unfold fX4_catchFault at h
  by_cases c : (S.2.1 (p + 10) 9) = (64 : Int32)
  · rw [if_pos c] at h
    obtain rfl := Option.some.inj h
    exact q_Fw.rf _
  · rw [if_neg c] at h
    obtain ⟨r1, e2, h⟩ := q_bind h
    by_cases c : r1 = (-1 : Int32)
    · rw [if_pos c] at h
      obtain rfl := Option.some.inj h
      exact q_Fw.rf _
    · rw [if_neg c] at h
      obtain ⟨r3, e4, h⟩ := q_bind h
      by_cases c : r1 < r3
      · rw [if_pos c] at h
        obtain ⟨r5, e6, h⟩ := q_bind h
        by_cases c : r5 = (-1 : Int32)
        · rw [if_pos c] at h
          obtain rfl := Option.some.inj h
          exact q_Fw.rf _
        · rw [if_neg c] at h
          by_cases c : r5 < (S.2.1 78 7)
          · rw [if_pos c] at h
            obtain ⟨r7, e8, h⟩ := q_bind h
            obtain ⟨r9, e10, h⟩ := q_bind h
            by_cases c : r9 = true
            · rw [if_pos c] at h
              obtain ⟨r11, e12, h⟩ := q_bind h
              have fx13 : q_Fw wlX4_catchFault p S r11 := q_Fw.tr (q_Fw.rf S) ((fwX1_addCatch hp e12).up rfl)
              obtain rfl := Option.some.inj h
              exact fx13
            · rw [if_neg c] at h
              obtain rfl := Option.some.inj h
              exact q_Fw.rf _
          · rw [if_neg c] at h
            obtain rfl := Option.some.inj h
            exact q_Fw.rf _
      · rw [if_neg c] at h
        obtain rfl := Option.some.inj h
        exact q_Fw.rf _
def wlX4_endFault : List (Nat × Nat × Nat) := [(1, 30, 999), (1, 32, 999)]
theorem fwX4_endFault {S : QS} {p : Nat} {x1 : Int32} {r : Int32 × QS} (hp : q_pok p) (h : fX4_endFault S p x1 = some r) : q_Fw wlX4_endFault p S r.2 := by
  unfold fX4_endFault at h
  obtain ⟨hg1, h⟩ := q_guard h
  obtain ⟨S2, e3, h⟩ := q_bindS h
  have fx4 : q_Fw wlX4_endFault p S S2 := e3 ▸ q_Fw.sI (i := 0) (b := 1) (k := 30) (jj := 999) (q_Fw.rf S) rfl rfl (Or.inl rfl) (Or.inl (q_nBp (k := 30) hp (by decide)))
  obtain ⟨hg5, h⟩ := q_guard h
  obtain ⟨S6, e7, h⟩ := q_bindS h
  have fx8 : q_Fw wlX4_endFault p S S6 := e7 ▸ q_Fw.sI (i := 1) (b := 1) (k := 32) (jj := 999) (fx4) rfl rfl (Or.inl rfl) (Or.inl (q_nBp (k := 32) hp (by decide)))
  obtain ⟨hg9, h⟩ := q_guard h
  obtain ⟨v10, hv, h⟩ := q_bind h
  by_cases c : v10 = true
  · rw [if_pos c] at h
    obtain rfl := Option.some.inj h
    exact fx8
  · rw [if_neg c] at h
    obtain ⟨hg11, h⟩ := q_guard h
    obtain ⟨r12, e13, h⟩ := q_bind h
    by_cases c : r12 = true
    · rw [if_pos c] at h
      obtain rfl := Option.some.inj h
      exact fx8
    · rw [if_neg c] at h
      obtain rfl := Option.some.inj h
      exact fx8
def wlX4_setsReference : List (Nat × Nat × Nat) := [(1, 12, 999), (1, 13, 999)]
theorem fwX4_setsReference_70 {S : QS} {p : Nat} {y1 : Int32} {y4 : Int32} {y5 : Int32} {r : Bool × QS} (hp : q_pok p) (h : fX4_setsReference_70 S p y1 y4 y5 = some r) : q_Fw wlX4_setsReference p S r.2 := by
  unfold fX4_setsReference_70 at h
  obtain ⟨hg1, h⟩ := q_guard h
  obtain ⟨r2, e3, h⟩ := q_bind h
  obtain ⟨hg4, h⟩ := q_guard h
  obtain ⟨S5, e6, h⟩ := q_bindS h
  have fx7 : q_Fw wlX4_setsReference p S S5 := e6 ▸ q_Fw.sI (i := 0) (b := 1) (k := 12) (jj := 999) (q_Fw.rf S) rfl rfl (Or.inl rfl) (Or.inl (q_nBp (k := 12) hp (by decide)))
  obtain ⟨hg8, h⟩ := q_guard h
  by_cases c : (S5.2.1 (p + 12) y1.toNatClampNeg) = (-1 : Int32)
  · rw [if_pos c] at h
    obtain rfl := Option.some.inj h
    exact fx7
  · rw [if_neg c] at h
    obtain rfl := Option.some.inj h
    exact fx7
theorem fwX4_setsReference {S : QS} {p : Nat} {x1 : Int32} {x2 : Int32} {x3 : Int32} {r : Bool × QS} (hp : q_pok p) (h : fX4_setsReference S p x1 x2 x3 = some r) : q_Fw wlX4_setsReference p S r.2 := by
  unfold fX4_setsReference at h
  obtain ⟨r9, e10, h⟩ := q_bind h
  obtain ⟨r11, e12, h⟩ := q_bind h
  obtain ⟨r13, e14, h⟩ := q_bind h
  obtain ⟨r15, e16, h⟩ := q_bind h
  obtain ⟨hg17, h⟩ := q_guard h
  obtain ⟨S18, e19, h⟩ := q_bindS h
  have fx20 : q_Fw wlX4_setsReference p S S18 := e19 ▸ q_Fw.sI (i := 1) (b := 1) (k := 13) (jj := 999) (q_Fw.rf S) rfl rfl (Or.inl rfl) (Or.inl (q_nBp (k := 13) hp (by decide)))
  obtain ⟨hg21, h⟩ := q_guard h
  by_cases c : (S18.2.1 (p + 13) x1.toNatClampNeg) = (-1 : Int32)
  · rw [if_pos c] at h
    obtain rfl := Option.some.inj h
    exact fx20
  · rw [if_neg c] at h
    by_cases c : x2 = (35 : Int32)
    · rw [if_pos c] at h
      exact (fx20).tr (fwX4_setsReference_70 hp h)
    · rw [if_neg c] at h
      by_cases c : x2 = (36 : Int32)
      · rw [if_pos c] at h
        exact (fx20).tr (fwX4_setsReference_70 hp h)
      · rw [if_neg c] at h
        obtain ⟨hg22, h⟩ := q_guard h
        obtain ⟨r23, e24, h⟩ := q_bind h
        by_cases c : r23 = (-1 : Int32)
        · rw [if_pos c] at h
          obtain rfl := Option.some.inj h
          exact fx20
        · rw [if_neg c] at h
          obtain ⟨hg25, h⟩ := q_guard h
          obtain ⟨v26, hv, h⟩ := q_bind h
          by_cases c : (S18.2.1 (p + 24) r23.toNatClampNeg) = (q_b v26)
          · rw [if_pos c] at h
            obtain ⟨hg27, h⟩ := q_guard h
            obtain ⟨hg28, h⟩ := q_guard h
            obtain ⟨S29, e30, h⟩ := q_bindS h
            have fx31 : q_Fw wlX4_setsReference p S S29 := e30 ▸ q_Fw.sI (i := 0) (b := 1) (k := 12) (jj := 999) (fx20) rfl rfl (Or.inl rfl) (Or.inl (q_nBp (k := 12) hp (by decide)))
            obtain rfl := Option.some.inj h
            exact fx31
          · rw [if_neg c] at h
            obtain rfl := Option.some.inj h
            exact fx20
def wlX4_addsInstruction : List (Nat × Nat × Nat) := [(1, 10, 0), (1, 10, 8), (1, 11, 999), (1, 12, 999), (1, 13, 999), (1, 14, 999), (1, 15, 999), (1, 16, 999), (1, 17, 999)]
theorem fwX4_addsInstruction {S : QS} {p : Nat} {x1 : Int32} {r : Bool × QS} (hp : q_pok p) (h : fX4_addsInstruction S p x1 = some r) : q_Fw wlX4_addsInstruction p S r.2 := by
  unfold fX4_addsInstruction at h
  obtain ⟨hg1, h⟩ := q_guard h
  obtain ⟨r2, e3, h⟩ := q_bind h
  have fx4 : q_Fw wlX4_addsInstruction p S r2 := q_Fw.tr (q_Fw.rf S) ((fwX1_addInstruction hp e3).up rfl)
  by_cases c5 : (S.2.1 6 x1.toNatClampNeg) = (0 : Int32)
  · rw [if_pos c5] at h
    obtain ⟨r6, e7, h⟩ := q_bind h
    obtain ⟨hg8, h⟩ := q_guard h
    obtain ⟨S9, e10, h⟩ := q_bindS h
    have fx11 : q_Fw wlX4_addsInstruction p S S9 := e10 ▸ q_Fw.sI (i := 3) (b := 1) (k := 12) (jj := 999) (fx4) rfl rfl (Or.inl rfl) (Or.inl (q_nBp (k := 12) hp (by decide)))
    obtain rfl := Option.some.inj h
    exact fx11
  rw [if_neg c5] at h
  by_cases c12 : (S.2.1 6 x1.toNatClampNeg) = (2 : Int32) ∨ (S.2.1 6 x1.toNatClampNeg) = (3 : Int32) ∨ (S.2.1 6 x1.toNatClampNeg) = (4 : Int32)
  · rw [if_pos c12] at h
    obtain ⟨r13, e14, h⟩ := q_bind h
    obtain ⟨hg15, h⟩ := q_guard h
    obtain ⟨S16, e17, h⟩ := q_bindS h
    have fx18 : q_Fw wlX4_addsInstruction p S S16 := e17 ▸ q_Fw.sI (i := 3) (b := 1) (k := 12) (jj := 999) (fx4) rfl rfl (Or.inl rfl) (Or.inl (q_nBp (k := 12) hp (by decide)))
    obtain ⟨v21, hv, h⟩ := q_bind h
    obtain ⟨hg22, h⟩ := q_guard h
    obtain ⟨S23, e24, h⟩ := q_bindS h
    have fx25 : q_Fw wlX4_addsInstruction p S S23 := e24 ▸ q_Fw.sI (i := 4) (b := 1) (k := 13) (jj := 999) (fx18) rfl rfl (Or.inl rfl) (Or.inl (q_nBp (k := 13) hp (by decide)))
    obtain ⟨hg26, h⟩ := q_guard h
    by_cases c : (S23.2.1 (p + 12) (S.2.1 (p + 10) 0).toNatClampNeg) < 0
    · rw [if_pos c] at h
      obtain rfl := Option.some.inj h
      exact fx25
    · rw [if_neg c] at h
      obtain ⟨hg27, h⟩ := q_guard h
      obtain ⟨hg28, h⟩ := q_guard h
      by_cases c : (S23.2.1 (p + 28) (S23.2.1 78 8).toNatClampNeg) ≤ (S23.2.1 (p + 12) (S.2.1 (p + 10) 0).toNatClampNeg)
      · rw [if_pos c] at h
        obtain rfl := Option.some.inj h
        exact fx25
      · rw [if_neg c] at h
        obtain rfl := Option.some.inj h
        exact fx25
  rw [if_neg c12] at h
  by_cases c29 : (S.2.1 6 x1.toNatClampNeg) = (30 : Int32) ∨ (S.2.1 6 x1.toNatClampNeg) = (37 : Int32) ∨ (S.2.1 6 x1.toNatClampNeg) = (38 : Int32)
  · rw [if_pos c29] at h
    obtain ⟨r30, e31, h⟩ := q_bind h
    obtain ⟨hg32, h⟩ := q_guard h
    obtain ⟨S33, e34, h⟩ := q_bindS h
    have fx35 : q_Fw wlX4_addsInstruction p S S33 := e34 ▸ q_Fw.sI (i := 3) (b := 1) (k := 12) (jj := 999) (fx4) rfl rfl (Or.inl rfl) (Or.inl (q_nBp (k := 12) hp (by decide)))
    obtain ⟨hg36, h⟩ := q_guard h
    by_cases c : (S33.2.1 (p + 12) (S.2.1 (p + 10) 0).toNatClampNeg) = (-1 : Int32)
    · rw [if_pos c] at h
      obtain rfl := Option.some.inj h
      exact fx35
    · rw [if_neg c] at h
      obtain rfl := Option.some.inj h
      exact fx35
  rw [if_neg c29] at h
  by_cases c37 : (S.2.1 6 x1.toNatClampNeg) = (31 : Int32)
  · rw [if_pos c37] at h
    obtain ⟨r38, e39, h⟩ := q_bind h
    obtain ⟨r40, e41, h⟩ := q_bind h
    obtain ⟨hg42, h⟩ := q_guard h
    obtain ⟨S43, e44, h⟩ := q_bindS h
    have fx45 : q_Fw wlX4_addsInstruction p S S43 := e44 ▸ q_Fw.sI (i := 3) (b := 1) (k := 12) (jj := 999) (fx4) rfl rfl (Or.inl rfl) (Or.inl (q_nBp (k := 12) hp (by decide)))
    obtain ⟨hg46, h⟩ := q_guard h
    by_cases c : (S43.2.1 (p + 12) (S.2.1 (p + 10) 0).toNatClampNeg) = (-1 : Int32)
    · rw [if_pos c] at h
      obtain rfl := Option.some.inj h
      exact fx45
    · rw [if_neg c] at h
      obtain rfl := Option.some.inj h
      exact fx45
  rw [if_neg c37] at h
  by_cases c47 : (S.2.1 6 x1.toNatClampNeg) = (35 : Int32) ∨ (S.2.1 6 x1.toNatClampNeg) = (36 : Int32) ∨ (S.2.1 6 x1.toNatClampNeg) = (39 : Int32) ∨ (S.2.1 6 x1.toNatClampNeg) = (40 : Int32)
  · rw [if_pos c47] at h
    obtain ⟨r48, e49, h⟩ := q_bind h
    have fx50 : q_Fw wlX4_addsInstruction p S r48.2 := q_Fw.tr (fx4) ((fwX4_setsReference hp e49).up rfl)
    obtain rfl := Option.some.inj h
    exact fx50
  rw [if_neg c47] at h
  obtain ⟨r51, e52, h⟩ := q_bind h
  obtain ⟨v55, hv, h⟩ := q_bind h
  obtain ⟨hg56, h⟩ := q_guard h
  obtain ⟨S57, e58, h⟩ := q_bindS h
  have fx59 : q_Fw wlX4_addsInstruction p S S57 := e58 ▸ q_Fw.sI (i := 3) (b := 1) (k := 12) (jj := 999) (fx4) rfl rfl (Or.inl rfl) (Or.inl (q_nBp (k := 12) hp (by decide)))
  obtain ⟨r60, e61, h⟩ := q_bind h
  by_cases c : r60 = true
  · rw [if_pos c] at h
    obtain ⟨hg62, h⟩ := q_guard h
    by_cases c : (S57.2.1 (p + 12) (S.2.1 (p + 10) 0).toNatClampNeg) < 0
    · rw [if_pos c] at h
      obtain rfl := Option.some.inj h
      exact fx59
    · rw [if_neg c] at h
      obtain ⟨hg63, h⟩ := q_guard h
      by_cases c : (S57.2.1 78 7) ≤ (S57.2.1 (p + 12) (S.2.1 (p + 10) 0).toNatClampNeg)
      · rw [if_pos c] at h
        obtain rfl := Option.some.inj h
        exact fx59
      · rw [if_neg c] at h
        obtain rfl := Option.some.inj h
        exact fx59
  · rw [if_neg c] at h
    obtain rfl := Option.some.inj h
    exact fx59
def wlX4_lineFault : List (Nat × Nat × Nat) := [(0, 78, 6), (0, 78, 7), (0, 78, 8), (0, 79, 999), (0, 80, 999), (1, 10, 0), (1, 10, 8), (1, 10, 9), (1, 11, 999), (1, 12, 999), (1, 13, 999), (1, 14, 999), (1, 15, 999), (1, 16, 999), (1, 17, 999), (1, 18, 999), (1, 19, 999), (1, 20, 999), (1, 21, 999), (1, 29, 999), (1, 30, 999), (1, 31, 999), (1, 32, 999)]
theorem fwtX4_lineFault_7 {p : Nat}  {x : Int32 × QS} {z : (Int32 × QS) ⊕ (Int32 × QS)} (hp : q_pok p) (h : tX4_lineFault_7 p x = some z) : q_Fw wlX4_lineFault p ((fun x : Int32 × QS => x.2) x) ((Sum.elim (fun r : Int32 × QS => r.2) (fun x : Int32 × QS => x.2)) z) := by
  unfold tX4_lineFault_7 at h
  show q_Fw wlX4_lineFault p x.2 _
  by_cases c : (x.2.2.1 2 5) ≤ x.1
  · rw [if_pos c] at h
    cases h
    exact q_Fw.rf _
  · rw [if_neg c] at h
    obtain ⟨hg1, h⟩ := q_guard h
    obtain ⟨v30, hv, h⟩ := q_bind h
    have fx31 : q_Fw wlX4_lineFault p x.2 v30.2 := by
      replace h := hv
      by_cases c2 : (x.2.2.1 6 x.1.toNatClampNeg) = (46 : Int32)
      · rw [if_pos c2] at h
        obtain ⟨r3, e4, h⟩ := q_bind h
        have fx5 : q_Fw wlX4_lineFault p x.2 r3.2 := q_Fw.tr (q_Fw.rf x.2) ((fwX4_catchFault hp e4).up rfl)
        obtain rfl := Option.some.inj h
        exact fx5
      rw [if_neg c2] at h
      by_cases c6 : (x.2.2.1 6 x.1.toNatClampNeg) = (47 : Int32)
      · rw [if_pos c6] at h
        obtain ⟨r7, e8, h⟩ := q_bind h
        obtain ⟨v9, hv, h⟩ := q_bind h
        obtain rfl := Option.some.inj h
        exact q_Fw.rf _
      rw [if_neg c6] at h
      by_cases c10 : (x.2.2.1 6 x.1.toNatClampNeg) = (48 : Int32) ∨ (x.2.2.1 6 x.1.toNatClampNeg) = (49 : Int32) ∨ (x.2.2.1 6 x.1.toNatClampNeg) = (53 : Int32)
      · rw [if_pos c10] at h
        obtain rfl := Option.some.inj h
        exact q_Fw.rf _
      rw [if_neg c10] at h
      by_cases c11 : (x.2.2.1 6 x.1.toNatClampNeg) = (50 : Int32) ∨ (x.2.2.1 6 x.1.toNatClampNeg) = (51 : Int32)
      · rw [if_pos c11] at h
        obtain ⟨r12, e13, h⟩ := q_bind h
        have fx14 : q_Fw wlX4_lineFault p x.2 r12 := q_Fw.tr (q_Fw.rf x.2) ((fwX4_beginBody hp e13).up rfl)
        obtain rfl := Option.some.inj h
        exact fx14
      rw [if_neg c11] at h
      by_cases c15 : (x.2.2.1 6 x.1.toNatClampNeg) = (52 : Int32)
      · rw [if_pos c15] at h
        obtain ⟨r16, e17, h⟩ := q_bind h
        have fx18 : q_Fw wlX4_lineFault p x.2 r16.2 := q_Fw.tr (q_Fw.rf x.2) ((fwX4_endFault hp e17).up rfl)
        obtain rfl := Option.some.inj h
        exact fx18
      rw [if_neg c15] at h
      obtain ⟨hg19, h⟩ := q_guard h
      obtain ⟨r20, e21, h⟩ := q_bind h
      by_cases c : r20 = true
      · rw [if_pos c] at h
        obtain ⟨r22, e23, h⟩ := q_bind h
        have fx24 : q_Fw wlX4_lineFault p x.2 r22.2 := q_Fw.tr (q_Fw.rf x.2) ((fwX4_addsInstruction hp e23).up rfl)
        by_cases c : r22.1 = true
        · rw [if_pos c] at h
          obtain rfl := Option.some.inj h
          exact fx24
        · rw [if_neg c] at h
          obtain rfl := Option.some.inj h
          exact fx24
      · rw [if_neg c] at h
        obtain rfl := Option.some.inj h
        exact q_Fw.rf _
    by_cases c : v30.1 = (-1 : Int32)
    · rw [if_pos c] at h
      cases h
      exact fx31
    · rw [if_neg c] at h
      cases h
      exact fx31
theorem fwX4_lineFault_7 {S : QS} {p : Nat} {y1 : Int32} {r : Int32 × QS} (hp : q_pok p) (h : fX4_lineFault_7 S p y1 = some r) : q_Fw wlX4_lineFault p S ((fun r : Int32 × QS => r.2) r) := q_run_fw (fun x : Int32 × QS => x.2) (fun r : Int32 × QS => r.2) (fun _ _ hz => fwtX4_lineFault_7 hp hz) h
theorem fwX4_lineFault {S : QS} {p : Nat}  {r : Int32 × QS} (hp : q_pok p) (h : fX4_lineFault S p = some r) : q_Fw wlX4_lineFault p S r.2 := by
  unfold fX4_lineFault at h
  obtain ⟨S32, e33, h⟩ := q_bindS h
  have fx34 : q_Fw wlX4_lineFault p S S32 := e33 ▸ q_Fw.sI (i := 2) (b := 0) (k := 78) (jj := 8) (q_Fw.rf S) rfl rfl (Or.inr rfl) (Or.inl rfl)
  exact (fx34).tr (fwX4_lineFault_7 hp h)
def wlX4_mainFault : List (Nat × Nat × Nat) := [(1, 0, 16)]
theorem fwtX4_mainFault_2 {p : Nat}  {x : Int32 × QS} {z : (Int32 × QS) ⊕ (Int32 × QS)} (hp : q_pok p) (h : tX4_mainFault_2 p x = some z) : q_Fw wlX4_mainFault p ((fun x : Int32 × QS => x.2) x) ((Sum.elim (fun r : Int32 × QS => r.2) (fun x : Int32 × QS => x.2)) z) := by
  unfold tX4_mainFault_2 at h
  show q_Fw wlX4_mainFault p x.2 _
  by_cases c : (x.2.2.1 p 2) ≤ x.1
  · rw [if_pos c] at h
    cases h
    exact q_Fw.rf _
  · rw [if_neg c] at h
    obtain ⟨hg1, h⟩ := q_guard h
    obtain ⟨v4, hv, h⟩ := q_bind h
    obtain ⟨hg5, h⟩ := q_guard h
    obtain ⟨hg6, h⟩ := q_guard h
    by_cases c : v4 = true
    · rw [if_pos c] at h
      obtain ⟨hg7, h⟩ := q_guard h
      obtain ⟨r8, e9, h⟩ := q_bind h
      by_cases c : r8 = true
      · rw [if_pos c] at h
        obtain ⟨r10, e11, h⟩ := q_bind h
        by_cases c : r10 = true
        · rw [if_pos c] at h
          obtain ⟨S12, e13, h⟩ := q_bindS h
          have fx14 : q_Fw wlX4_mainFault p x.2 S12 := e13 ▸ q_Fw.sI (i := 0) (b := 1) (k := 0) (jj := 16) (q_Fw.rf x.2) rfl rfl (Or.inr rfl) (Or.inl (q_nBp (k := 0) hp (by decide)))
          cases h
          exact fx14
        · rw [if_neg c] at h
          cases h
          exact q_Fw.rf _
      · rw [if_neg c] at h
        cases h
        exact q_Fw.rf _
    · rw [if_neg c] at h
      cases h
      exact q_Fw.rf _
theorem fwX4_mainFault_2 {S : QS} {p : Nat} {y1 : Int32} {r : Int32 × QS} (hp : q_pok p) (h : fX4_mainFault_2 S p y1 = some r) : q_Fw wlX4_mainFault p S ((fun r : Int32 × QS => r.2) r) := q_run_fw (fun x : Int32 × QS => x.2) (fun r : Int32 × QS => r.2) (fun _ _ hz => fwtX4_mainFault_2 hp hz) h
theorem fwX4_mainFault {S : QS} {p : Nat}  {r : Int32 × QS} (hp : q_pok p) (h : fX4_mainFault S p = some r) : q_Fw wlX4_mainFault p S r.2 := by
  unfold fX4_mainFault at h
  exact (q_Fw.rf _).tr (fwX4_mainFault_2 hp h)
def wlX3_arrive : List (Nat × Nat × Nat) := [(0, 81, 4), (0, 82, 999), (0, 83, 999)]
theorem fwX3_arrive {S : QS} {p : Nat} {x1 : Int32} {x2 : Int32} {r : QS} (hp : q_pok p) (h : fX3_arrive S p x1 x2 = some r) : q_Fw wlX3_arrive p S r := by
  unfold fX3_arrive at h
  by_cases c : x1 < 0
  · rw [if_pos c] at h
    obtain rfl := Option.some.inj h
    exact q_Fw.rf _
  · rw [if_neg c] at h
    by_cases c : (S.2.1 (p + 10) 0) ≤ x1
    · rw [if_pos c] at h
      obtain rfl := Option.some.inj h
      exact q_Fw.rf _
    · rw [if_neg c] at h
      obtain ⟨hg1, h⟩ := q_guard h
      obtain ⟨hg2, h⟩ := q_guard h
      by_cases c : ((S.2.1 82 x1.toNatClampNeg) ||| x2) = (S.2.1 82 x1.toNatClampNeg)
      · rw [if_pos c] at h
        obtain rfl := Option.some.inj h
        exact q_Fw.rf _
      · rw [if_neg c] at h
        obtain ⟨hg3, h⟩ := q_guard h
        obtain ⟨hg4, h⟩ := q_guard h
        obtain ⟨S5, e6, h⟩ := q_bindS h
        have fx7 : q_Fw wlX3_arrive p S S5 := e6 ▸ q_Fw.sI (i := 1) (b := 0) (k := 82) (jj := 999) (q_Fw.rf S) rfl rfl (Or.inl rfl) (Or.inl rfl)
        obtain ⟨hg8, h⟩ := q_guard h
        obtain ⟨S9, e10, h⟩ := q_bindS h
        have fx11 : q_Fw wlX3_arrive p S S9 := e10 ▸ q_Fw.sI (i := 2) (b := 0) (k := 83) (jj := 999) (fx7) rfl rfl (Or.inl rfl) (Or.inl rfl)
        obtain ⟨S12, e13, h⟩ := q_bindS h
        have fx14 : q_Fw wlX3_arrive p S S12 := e13 ▸ q_Fw.sI (i := 0) (b := 0) (k := 81) (jj := 4) (fx11) rfl rfl (Or.inr rfl) (Or.inl rfl)
        obtain rfl := Option.some.inj h
        exact fx14
