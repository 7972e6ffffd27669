def wlX12_feed : List (Nat × Nat × Nat) := [(0, 102, 4), (0, 102, 5), (0, 159, 999)]
theorem fwX12_feed {S : QS}  {x1 : Int32} {x2 : Int32} {x3 : Int32} {x4 : Int32} {x5 : Int32} {r : Int32 × QS} (h : fX12_feed S x1 x2 x3 x4 x5 = some r) : q_Fw wlX12_feed 0 S r.2 := by
  unfold fX12_feed at h
  by_cases c : (16000 : Int32) < ((S.2.1 102 4) + (20 : Int32))
  · rw [if_pos c] at h
    obtain rfl := Option.some.inj h
    exact q_Fw.rf _
  · rw [if_neg c] at h
    by_cases c : ((S.2.1 102 5) + (20 : Int32)) ≤ (65536 : Int32)
    · rw [if_pos c] at h
      obtain ⟨r1, e2, h⟩ := q_bind h
      have fx3 : q_Fw wlX12_feed 0 S r1 := q_Fw.tr (q_Fw.rf S) ((fwX12_word e2).up rfl)
      obtain ⟨r4, e5, h⟩ := q_bind h
      have fx6 : q_Fw wlX12_feed 0 S r4 := q_Fw.tr (fx3) ((fwX12_word e5).up rfl)
      obtain ⟨r7, e8, h⟩ := q_bind h
      have fx9 : q_Fw wlX12_feed 0 S r7 := q_Fw.tr (fx6) ((fwX12_word e8).up rfl)
      obtain ⟨r10, e11, h⟩ := q_bind h
      have fx12 : q_Fw wlX12_feed 0 S r10 := q_Fw.tr (fx9) ((fwX12_word e11).up rfl)
      obtain ⟨r13, e14, h⟩ := q_bind h
      have fx15 : q_Fw wlX12_feed 0 S r13 := q_Fw.tr (fx12) ((fwX12_word e14).up rfl)
      obtain ⟨S16, e17, h⟩ := q_bindS h
      have fx18 : q_Fw wlX12_feed 0 S S16 := e17 ▸ q_Fw.sI (i := 1) (b := 0) (k := 102) (jj := 5) (fx15) rfl rfl (Or.inr rfl) (Or.inl rfl)
      obtain rfl := Option.some.inj h
      exact fx18
    · rw [if_neg c] at h
      obtain rfl := Option.some.inj h
      exact q_Fw.rf _
def wlX12_end : List (Nat × Nat × Nat) := [(0, 102, 4), (0, 102, 7), (0, 160, 999)]
theorem fwtX12_end_16  {y1 : Int32} {x : Int32 × QS} {z : (Bool × QS) ⊕ (Int32 × QS)} (h : tX12_end_16 y1 x = some z) : q_Fw wlX12_end 0 ((fun x : Int32 × QS => x.2) x) ((Sum.elim (fun r : Bool × QS => r.2) (fun x : Int32 × QS => x.2)) z) := by
  unfold tX12_end_16 at h
  show q_Fw wlX12_end 0 x.2 _
  by_cases c : y1 ≤ x.1
  · rw [if_pos c] at h
    obtain ⟨S1, e2, h⟩ := q_bindS h
    have fx3 : q_Fw wlX12_end 0 x.2 S1 := e2 ▸ q_Fw.sI (i := 1) (b := 0) (k := 102) (jj := 7) (q_Fw.rf x.2) rfl rfl (Or.inr rfl) (Or.inl rfl)
    obtain ⟨S4, e5, h⟩ := q_bindS h
    have fx6 : q_Fw wlX12_end 0 x.2 S4 := e5 ▸ q_Fw.sI (i := 0) (b := 0) (k := 102) (jj := 4) (fx3) rfl rfl (Or.inr rfl) (Or.inl rfl)
    cases h
    exact fx6
  · rw [if_neg c] at h
    obtain ⟨hg7, h⟩ := q_guard h
    obtain ⟨hg8, h⟩ := q_guard h
    obtain ⟨S9, e10, h⟩ := q_bindS h
    have fx11 : q_Fw wlX12_end 0 x.2 S9 := e10 ▸ q_Fw.sI (i := 2) (b := 0) (k := 160) (jj := 999) (q_Fw.rf x.2) rfl rfl (Or.inl rfl) (Or.inr (q_narB _))
    cases h
    exact fx11
theorem fwX12_end_16 {S : QS}  {y1 : Int32} {y2 : Int32} {r : Bool × QS} (h : fX12_end_16 S y1 y2 = some r) : q_Fw wlX12_end 0 S ((fun r : Bool × QS => r.2) r) := q_run_fw (fun x : Int32 × QS => x.2) (fun r : Bool × QS => r.2) (fun _ _ hz => fwtX12_end_16 hz) h
theorem fwX12_end {S : QS}  {x1 : Int32} {r : Bool × QS} (h : fX12_end S x1 = some r) : q_Fw wlX12_end 0 S r.2 := by
  unfold fX12_end at h
  by_cases c : x1 < 0
  · rw [if_pos c] at h
    obtain rfl := Option.some.inj h
    exact q_Fw.rf _
  · rw [if_neg c] at h
    by_cases c : x1 ≤ (S.2.1 102 4)
    · rw [if_pos c] at h
      exact (q_Fw.rf _).tr (fwX12_end_16 h)
    · rw [if_neg c] at h
      obtain rfl := Option.some.inj h
      exact q_Fw.rf _
def wlX12_cut : List (Nat × Nat × Nat) := [(0, 102, 10), (0, 161, 999), (0, 162, 999)]
theorem fwuX12_cut_64 {S : QS}  {y1 : Int32} {y2 : Int32} {y3 : Int32} {y4 : Int32} {z : (Bool × QS) ⊕ (Int32 × Int32 × Int32 × QS)} (h : uX12_cut_64 S y1 y2 y3 y4 = some z) : q_Fw wlX12_cut 0 S ((Sum.elim (fun r : Bool × QS => r.2) (fun x : Int32 × Int32 × Int32 × QS => x.2.2.2)) z) := by
  unfold uX12_cut_64 at h
  obtain ⟨v1, hv, h⟩ := q_bind h
  obtain ⟨v2, hv, h⟩ := q_bind h
  obtain ⟨v3, hv, h⟩ := q_bind h
  obtain ⟨v4, hv, h⟩ := q_bind h
  by_cases c : v2 = true
  · rw [if_pos c] at h
    cases h
    exact q_Fw.rf _
  · rw [if_neg c] at h
    obtain ⟨v12, hv, h⟩ := q_bind h
    have fx13 : q_Fw wlX12_cut 0 S v12 := by
      replace h := hv
      by_cases c : v4 = 0
      · rw [if_pos c] at h
        obtain ⟨hg5, h⟩ := q_guard h
        obtain ⟨S6, e7, h⟩ := q_bindS h
        have fx8 : q_Fw wlX12_cut 0 S S6 := e7 ▸ q_Fw.sI (i := 1) (b := 0) (k := 161) (jj := 999) (q_Fw.rf S) rfl rfl (Or.inl rfl) (Or.inl rfl)
        obtain ⟨S9, e10, h⟩ := q_bindS h
        have fx11 : q_Fw wlX12_cut 0 S S9 := e10 ▸ q_Fw.sI (i := 0) (b := 0) (k := 102) (jj := 10) (fx8) rfl rfl (Or.inr rfl) (Or.inl rfl)
        obtain rfl := Option.some.inj h
        exact fx11
      · rw [if_neg c] at h
        obtain rfl := Option.some.inj h
        exact q_Fw.rf _
    obtain ⟨hg14, h⟩ := q_guard h
    obtain ⟨S15, e16, h⟩ := q_bindS h
    have fx17 : q_Fw wlX12_cut 0 S S15 := e16 ▸ q_Fw.sI (i := 2) (b := 0) (k := 162) (jj := 999) (fx13) rfl rfl (Or.inl rfl) (Or.inl rfl)
    by_cases c : v3 = true
    · rw [if_pos c] at h
      cases h
      exact fx17
    · rw [if_neg c] at h
      cases h
      exact fx17
theorem fwtX12_cut_11   {x : Int32 × Int32 × Int32 × QS} {z : (Bool × QS) ⊕ (Int32 × Int32 × Int32 × QS)} (h : tX12_cut_11 x = some z) : q_Fw wlX12_cut 0 ((fun x : Int32 × Int32 × Int32 × QS => x.2.2.2) x) ((Sum.elim (fun r : Bool × QS => r.2) (fun x : Int32 × Int32 × Int32 × QS => x.2.2.2)) z) := by
  unfold tX12_cut_11 at h
  show q_Fw wlX12_cut 0 x.2.2.2 _
  by_cases c : (x.2.2.2.2.1 102 7) ≤ x.2.2.1
  · rw [if_pos c] at h
    cases h
    exact q_Fw.rf _
  · rw [if_neg c] at h
    obtain ⟨hg18, h⟩ := q_guard h
    by_cases c : (x.2.2.2.2.1 160 x.2.2.1.toNatClampNeg) = (9 : Int32)
    · rw [if_pos c] at h
      exact (q_Fw.rf _).tr (fwuX12_cut_64 h)
    · rw [if_neg c] at h
      by_cases c : (x.2.2.2.2.1 160 x.2.2.1.toNatClampNeg) = (10 : Int32)
      · rw [if_pos c] at h
        exact (q_Fw.rf _).tr (fwuX12_cut_64 h)
      · rw [if_neg c] at h
        by_cases c : (x.2.2.2.2.1 160 x.2.2.1.toNatClampNeg) = (13 : Int32)
        · rw [if_pos c] at h
          exact (q_Fw.rf _).tr (fwuX12_cut_64 h)
        · rw [if_neg c] at h
          by_cases c : (x.2.2.2.2.1 160 x.2.2.1.toNatClampNeg) < (32 : Int32)
          · rw [if_pos c] at h
            cases h
            exact q_Fw.rf _
          · rw [if_neg c] at h
            by_cases c : (x.2.2.2.2.1 160 x.2.2.1.toNatClampNeg) ≤ (126 : Int32)
            · rw [if_pos c] at h
              exact (q_Fw.rf _).tr (fwuX12_cut_64 h)
            · rw [if_neg c] at h
              cases h
              exact q_Fw.rf _
theorem fwX12_cut_11 {S : QS}  {y1 : Int32} {y2 : Int32} {y3 : Int32} {r : Bool × QS} (h : fX12_cut_11 S y1 y2 y3 = some r) : q_Fw wlX12_cut 0 S ((fun r : Bool × QS => r.2) r) := q_run_fw (fun x : Int32 × Int32 × Int32 × QS => x.2.2.2) (fun r : Bool × QS => r.2) (fun _ _ hz => fwtX12_cut_11 hz) h
theorem fwX12_cut {S : QS}   {r : Bool × QS} (h : fX12_cut S = some r) : q_Fw wlX12_cut 0 S r.2 := by
  unfold fX12_cut at h
  obtain ⟨S19, e20, h⟩ := q_bindS h
  have fx21 : q_Fw wlX12_cut 0 S S19 := e20 ▸ q_Fw.sI (i := 0) (b := 0) (k := 102) (jj := 10) (q_Fw.rf S) rfl rfl (Or.inr rfl) (Or.inl rfl)
  exact (fx21).tr (fwX12_cut_11 h)
def wlX12_takes : List (Nat × Nat × Nat) := [(0, 102, 11)]
theorem fwX12_takes {S : QS}  {x1 : Bool} {r : Bool × QS} (h : fX12_takes S x1 = some r) : q_Fw wlX12_takes 0 S r.2 := by
  unfold fX12_takes at h
  by_cases c : x1 = true
  · rw [if_pos c] at h
    obtain ⟨S1, e2, h⟩ := q_bindS h
    have fx3 : q_Fw wlX12_takes 0 S S1 := e2 ▸ q_Fw.sI (i := 0) (b := 0) (k := 102) (jj := 11) (q_Fw.rf S) rfl rfl (Or.inr rfl) (Or.inl rfl)
    obtain rfl := Option.some.inj h
    exact fx3
  · rw [if_neg c] at h
    obtain rfl := Option.some.inj h
    exact q_Fw.rf _
def wlX12_isLine : List (Nat × Nat × Nat) := [(0, 102, 11)]
theorem fwX12_isLine {S : QS}   {r : Bool × QS} (h : fX12_isLine S = some r) : q_Fw wlX12_isLine 0 S r.2 := by
  unfold fX12_isLine at h
  by_cases c : (S.2.1 102 11) < (S.2.1 102 10)
  · rw [if_pos c] at h
    obtain ⟨r1, e2, h⟩ := q_bind h
    by_cases c : r1 = true
    · rw [if_pos c] at h
      obtain ⟨r116, e117, h⟩ := q_bind h
      obtain ⟨r118, e119, h⟩ := q_bind h
      have fx120 : q_Fw wlX12_isLine 0 S r118.2 := q_Fw.tr (q_Fw.rf S) ((fwX12_takes e119).up rfl)
      by_cases c : r118.1 = true
      · rw [if_pos c] at h
        obtain ⟨r121, e122, h⟩ := q_bind h
        have fx123 : q_Fw wlX12_isLine 0 S r121.2 := q_Fw.tr (fx120) ((fwX12_takes e122).up rfl)
        by_cases c : r121.1 = true
        · rw [if_pos c] at h
          obtain rfl := Option.some.inj h
          exact fx123
        · rw [if_neg c] at h
          obtain rfl := Option.some.inj h
          exact fx123
      · rw [if_neg c] at h
        obtain rfl := Option.some.inj h
        exact fx120
    · rw [if_neg c] at h
      obtain ⟨r3, e4, h⟩ := q_bind h
      by_cases c : r3 = true
      · rw [if_pos c] at h
        obtain ⟨S93, e94, h⟩ := q_bindS h
        have fx95 : q_Fw wlX12_isLine 0 S S93 := e94 ▸ q_Fw.sI (i := 0) (b := 0) (k := 102) (jj := 11) (q_Fw.rf S) rfl rfl (Or.inr rfl) (Or.inl rfl)
        obtain ⟨r96, e97, h⟩ := q_bind h
        obtain ⟨r98, e99, h⟩ := q_bind h
        have fx100 : q_Fw wlX12_isLine 0 S r98.2 := q_Fw.tr (fx95) ((fwX12_takes e99).up rfl)
        by_cases c : r98.1 = true
        · rw [if_pos c] at h
          obtain ⟨r101, e102, h⟩ := q_bind h
          obtain ⟨r103, e104, h⟩ := q_bind h
          have fx105 : q_Fw wlX12_isLine 0 S r103.2 := q_Fw.tr (fx100) ((fwX12_takes e104).up rfl)
          by_cases c : r103.1 = true
          · rw [if_pos c] at h
            obtain ⟨r106, e107, h⟩ := q_bind h
            obtain ⟨r108, e109, h⟩ := q_bind h
            have fx110 : q_Fw wlX12_isLine 0 S r108.2 := q_Fw.tr (fx105) ((fwX12_takes e109).up rfl)
            by_cases c : r108.1 = true
            · rw [if_pos c] at h
              obtain ⟨r111, e112, h⟩ := q_bind h
              obtain ⟨r113, e114, h⟩ := q_bind h
              have fx115 : q_Fw wlX12_isLine 0 S r113.2 := q_Fw.tr (fx110) ((fwX12_takes e114).up rfl)
              by_cases c : r113.1 = true
              · rw [if_pos c] at h
                obtain rfl := Option.some.inj h
                exact fx115
              · rw [if_neg c] at h
                obtain rfl := Option.some.inj h
                exact fx115
            · rw [if_neg c] at h
              obtain rfl := Option.some.inj h
              exact fx110
          · rw [if_neg c] at h
            obtain rfl := Option.some.inj h
            exact fx105
        · rw [if_neg c] at h
          obtain rfl := Option.some.inj h
          exact fx100
      · rw [if_neg c] at h
        obtain ⟨r5, e6, h⟩ := q_bind h
        by_cases c : 0 ≤ r5
        · rw [if_pos c] at h
          obtain ⟨S7, e8, h⟩ := q_bindS h
          have fx9 : q_Fw wlX12_isLine 0 S S7 := e8 ▸ q_Fw.sI (i := 0) (b := 0) (k := 102) (jj := 11) (q_Fw.rf S) rfl rfl (Or.inr rfl) (Or.inl rfl)
          obtain ⟨r10, e11, h⟩ := q_bind h
          by_cases c13 : r10 = (67 : Int32)
          · rw [if_pos c13] at h
            obtain ⟨r14, e15, h⟩ := q_bind h
            obtain ⟨r16, e17, h⟩ := q_bind h
            have fx18 : q_Fw wlX12_isLine 0 S r16.2 := q_Fw.tr (fx9) ((fwX12_takes e17).up rfl)
            obtain rfl := Option.some.inj h
            exact fx18
          rw [if_neg c13] at h
          by_cases c19 : r10 = (69 : Int32)
          · rw [if_pos c19] at h
            obtain ⟨r20, e21, h⟩ := q_bind h
            by_cases c : r20 = true
            · rw [if_pos c] at h
              obtain ⟨r22, e23, h⟩ := q_bind h
              have fx24 : q_Fw wlX12_isLine 0 S r22.2 := q_Fw.tr (fx9) ((fwX12_takes e23).up rfl)
              obtain rfl := Option.some.inj h
              exact fx24
            · rw [if_neg c] at h
              obtain ⟨r25, e26, h⟩ := q_bind h
              by_cases c : r25 = true
              · rw [if_pos c] at h
                obtain ⟨r30, e31, h⟩ := q_bind h
                have fx32 : q_Fw wlX12_isLine 0 S r30.2 := q_Fw.tr (fx9) ((fwX12_takes e31).up rfl)
                obtain rfl := Option.some.inj h
                exact fx32
              · rw [if_neg c] at h
                obtain ⟨r27, e28, h⟩ := q_bind h
                have fx29 : q_Fw wlX12_isLine 0 S r27.2 := q_Fw.tr (fx9) ((fwX12_takes e28).up rfl)
                obtain rfl := Option.some.inj h
                exact fx29
          rw [if_neg c19] at h
          by_cases c33 : r10 = (70 : Int32)
          · rw [if_pos c33] at h
            obtain ⟨r34, e35, h⟩ := q_bind h
            obtain ⟨r36, e37, h⟩ := q_bind h
            have fx38 : q_Fw wlX12_isLine 0 S r36.2 := q_Fw.tr (fx9) ((fwX12_takes e37).up rfl)
            obtain rfl := Option.some.inj h
            exact fx38
          rw [if_neg c33] at h
          by_cases c39 : r10 = (73 : Int32)
          · rw [if_pos c39] at h
            obtain ⟨r40, e41, h⟩ := q_bind h
            obtain ⟨r42, e43, h⟩ := q_bind h
            have fx44 : q_Fw wlX12_isLine 0 S r42.2 := q_Fw.tr (fx9) ((fwX12_takes e43).up rfl)
            by_cases c : r42.1 = true
            · rw [if_pos c] at h
              obtain ⟨r45, e46, h⟩ := q_bind h
              obtain ⟨r47, e48, h⟩ := q_bind h
              have fx49 : q_Fw wlX12_isLine 0 S r47.2 := q_Fw.tr (fx44) ((fwX12_takes e48).up rfl)
              by_cases c : r47.1 = true
              · rw [if_pos c] at h
                obtain rfl := Option.some.inj h
                exact fx49
              · rw [if_neg c] at h
                obtain rfl := Option.some.inj h
                exact fx49
            · rw [if_neg c] at h
              obtain rfl := Option.some.inj h
              exact fx44
          rw [if_neg c39] at h
          by_cases c50 : r10 = (75 : Int32) ∨ r10 = (78 : Int32)
          · rw [if_pos c50] at h
            obtain ⟨r51, e52, h⟩ := q_bind h
            obtain ⟨r53, e54, h⟩ := q_bind h
            have fx55 : q_Fw wlX12_isLine 0 S r53.2 := q_Fw.tr (fx9) ((fwX12_takes e54).up rfl)
            obtain rfl := Option.some.inj h
            exact fx55
          rw [if_neg c50] at h
          by_cases c56 : r10 = (76 : Int32)
          · rw [if_pos c56] at h
            obtain ⟨r57, e58, h⟩ := q_bind h
            obtain ⟨r59, e60, h⟩ := q_bind h
            have fx61 : q_Fw wlX12_isLine 0 S r59.2 := q_Fw.tr (fx9) ((fwX12_takes e60).up rfl)
            obtain rfl := Option.some.inj h
            exact fx61
          rw [if_neg c56] at h
          by_cases c62 : r10 = (84 : Int32)
          · rw [if_pos c62] at h
            obtain ⟨r63, e64, h⟩ := q_bind h
            by_cases c : r63 = true
            · rw [if_pos c] at h
              obtain ⟨r68, e69, h⟩ := q_bind h
              by_cases c : r68 = true
              · rw [if_pos c] at h
                obtain ⟨r70, e71, h⟩ := q_bind h
                have fx72 : q_Fw wlX12_isLine 0 S r70.2 := q_Fw.tr (fx9) ((fwX12_takes e71).up rfl)
                obtain rfl := Option.some.inj h
                exact fx72
              · rw [if_neg c] at h
                obtain ⟨r73, e74, h⟩ := q_bind h
                have fx75 : q_Fw wlX12_isLine 0 S r73.2 := q_Fw.tr (fx9) ((fwX12_takes e74).up rfl)
                obtain rfl := Option.some.inj h
                exact fx75
            · rw [if_neg c] at h
              obtain ⟨r65, e66, h⟩ := q_bind h
              have fx67 : q_Fw wlX12_isLine 0 S r65.2 := q_Fw.tr (fx9) ((fwX12_takes e66).up rfl)
              obtain rfl := Option.some.inj h
              exact fx67
          rw [if_neg c62] at h
          obtain rfl := Option.some.inj h
          exact fx9
        · rw [if_neg c] at h
          obtain ⟨r88, e89, h⟩ := q_bind h
          obtain ⟨r90, e91, h⟩ := q_bind h
          have fx92 : q_Fw wlX12_isLine 0 S r90.2 := q_Fw.tr (q_Fw.rf S) ((fwX12_takes e91).up rfl)
          by_cases c : r90.1 = true
          · rw [if_pos c] at h
            obtain rfl := Option.some.inj h
            exact fx92
          · rw [if_neg c] at h
            obtain rfl := Option.some.inj h
            exact fx92
  · rw [if_neg c] at h
    obtain rfl := Option.some.inj h
    exact q_Fw.rf _
def wlX12_isMember : List (Nat × Nat × Nat) := [(0, 102, 11)]
theorem fwtX12_isMember_241   {x : QS} {z : (Bool × QS) ⊕ (QS)} (h : tX12_isMember_241 x = some z) : q_Fw wlX12_isMember 0 ((fun x : QS => x) x) ((Sum.elim (fun r : Bool × QS => r.2) (fun x : QS => x)) z) := by
  unfold tX12_isMember_241 at h
  show q_Fw wlX12_isMember 0 x _
  obtain ⟨r1, e2, h⟩ := q_bind h
  by_cases c : r1 = true
  · rw [if_pos c] at h
    obtain ⟨S3, e4, h⟩ := q_bindS h
    have fx5 : q_Fw wlX12_isMember 0 x S3 := e4 ▸ q_Fw.sI (i := 0) (b := 0) (k := 102) (jj := 11) (q_Fw.rf x) rfl rfl (Or.inr rfl) (Or.inl rfl)
    cases h
    exact fx5
  · rw [if_neg c] at h
    obtain ⟨r6, e7, h⟩ := q_bind h
    have fx8 : q_Fw wlX12_isMember 0 x r6.2 := q_Fw.tr (q_Fw.rf x) ((fwX12_isLine e7).up rfl)
    by_cases c : r6.1 = true
    · rw [if_pos c] at h
      cases h
      exact fx8
    · rw [if_neg c] at h
      cases h
      exact fx8
theorem fwX12_isMember_241 {S : QS}   {r : Bool × QS} (h : fX12_isMember_241 S = some r) : q_Fw wlX12_isMember 0 S ((fun r : Bool × QS => r.2) r) := q_run_fw (fun x : QS => x) (fun r : Bool × QS => r.2) (fun _ _ hz => fwtX12_isMember_241 hz) h
theorem fwtX12_isMember_131   {x : QS} {z : (Bool × QS) ⊕ (QS)} (h : tX12_isMember_131 x = some z) : q_Fw wlX12_isMember 0 ((fun x : QS => x) x) ((Sum.elim (fun r : Bool × QS => r.2) (fun x : QS => x)) z) := by
  unfold tX12_isMember_131 at h
  show q_Fw wlX12_isMember 0 x _
  obtain ⟨r9, e10, h⟩ := q_bind h
  by_cases c : r9 = true
  · rw [if_pos c] at h
    obtain ⟨S11, e12, h⟩ := q_bindS h
    have fx13 : q_Fw wlX12_isMember 0 x S11 := e12 ▸ q_Fw.sI (i := 0) (b := 0) (k := 102) (jj := 11) (q_Fw.rf x) rfl rfl (Or.inr rfl) (Or.inl rfl)
    obtain ⟨r14, e15, h⟩ := q_bind h
    obtain ⟨v18, hv, h⟩ := q_bind h
    obtain ⟨r19, e20, h⟩ := q_bind h
    have fx21 : q_Fw wlX12_isMember 0 x r19.2 := q_Fw.tr (fx13) ((fwX12_takes e20).up rfl)
    by_cases c : r19.1 = true
    · rw [if_pos c] at h
      obtain ⟨r22, e23, h⟩ := q_bind h
      obtain ⟨r24, e25, h⟩ := q_bind h
      have fx26 : q_Fw wlX12_isMember 0 x r24.2 := q_Fw.tr (fx21) ((fwX12_takes e25).up rfl)
      by_cases c : r24.1 = true
      · rw [if_pos c] at h
        obtain ⟨r27, e28, h⟩ := q_bind h
        obtain ⟨r29, e30, h⟩ := q_bind h
        have fx31 : q_Fw wlX12_isMember 0 x r29.2 := q_Fw.tr (fx26) ((fwX12_takes e30).up rfl)
        by_cases c : r29.1 = true
        · rw [if_pos c] at h
          obtain ⟨r32, e33, h⟩ := q_bind h
          cases h
          exact (fx31).tr (fwX12_isMember_241 e33)
        · rw [if_neg c] at h
          cases h
          exact fx31
      · rw [if_neg c] at h
        cases h
        exact fx26
    · rw [if_neg c] at h
      cases h
      exact fx21
  · rw [if_neg c] at h
    obtain ⟨r34, e35, h⟩ := q_bind h
    obtain ⟨r36, e37, h⟩ := q_bind h
    have fx38 : q_Fw wlX12_isMember 0 x r36.2 := q_Fw.tr (q_Fw.rf x) ((fwX12_takes e37).up rfl)
    by_cases c : r36.1 = true
    · rw [if_pos c] at h
      cases h
      exact fx38
    · rw [if_neg c] at h
      cases h
      exact fx38
theorem fwX12_isMember_131 {S : QS}   {r : Bool × QS} (h : fX12_isMember_131 S = some r) : q_Fw wlX12_isMember 0 S ((fun r : Bool × QS => r.2) r) := q_run_fw (fun x : QS => x) (fun r : Bool × QS => r.2) (fun _ _ hz => fwtX12_isMember_131 hz) h
theorem fwX12_isMember {S : QS}   {r : Bool × QS} (h : fX12_isMember S = some r) : q_Fw wlX12_isMember 0 S r.2 := by
  unfold fX12_isMember at h
  obtain ⟨r39, e40, h⟩ := q_bind h
  by_cases c : r39 = true
  · rw [if_pos c] at h
    obtain ⟨S59, e60, h⟩ := q_bindS h
    have fx61 : q_Fw wlX12_isMember 0 S S59 := e60 ▸ q_Fw.sI (i := 0) (b := 0) (k := 102) (jj := 11) (q_Fw.rf S) rfl rfl (Or.inr rfl) (Or.inl rfl)
    obtain ⟨r62, e63, h⟩ := q_bind h
    obtain ⟨r64, e65, h⟩ := q_bind h
    have fx66 : q_Fw wlX12_isMember 0 S r64.2 := q_Fw.tr (fx61) ((fwX12_takes e65).up rfl)
    by_cases c : r64.1 = true
    · rw [if_pos c] at h
      obtain ⟨r67, e68, h⟩ := q_bind h
      obtain ⟨r69, e70, h⟩ := q_bind h
      have fx71 : q_Fw wlX12_isMember 0 S r69.2 := q_Fw.tr (fx66) ((fwX12_takes e70).up rfl)
      by_cases c : r69.1 = true
      · rw [if_pos c] at h
        obtain rfl := Option.some.inj h
        exact fx71
      · rw [if_neg c] at h
        obtain rfl := Option.some.inj h
        exact fx71
    · rw [if_neg c] at h
      obtain rfl := Option.some.inj h
      exact fx66
  · rw [if_neg c] at h
    obtain ⟨r41, e42, h⟩ := q_bind h
    obtain ⟨v45, hv, h⟩ := q_bind h
    obtain ⟨r46, e47, h⟩ := q_bind h
    have fx48 : q_Fw wlX12_isMember 0 S r46.2 := q_Fw.tr (q_Fw.rf S) ((fwX12_takes e47).up rfl)
    by_cases c : r46.1 = true
    · rw [if_pos c] at h
      obtain ⟨r49, e50, h⟩ := q_bind h
      obtain ⟨r51, e52, h⟩ := q_bind h
      have fx53 : q_Fw wlX12_isMember 0 S r51.2 := q_Fw.tr (fx48) ((fwX12_takes e52).up rfl)
      by_cases c : r51.1 = true
      · rw [if_pos c] at h
        obtain ⟨r54, e55, h⟩ := q_bind h
        obtain ⟨r56, e57, h⟩ := q_bind h
        have fx58 : q_Fw wlX12_isMember 0 S r56.2 := q_Fw.tr (fx53) ((fwX12_takes e57).up rfl)
        by_cases c : r56.1 = true
        · rw [if_pos c] at h
          exact (fx58).tr (fwX12_isMember_131 h)
        · rw [if_neg c] at h
          obtain rfl := Option.some.inj h
          exact fx58
      · rw [if_neg c] at h
        obtain rfl := Option.some.inj h
        exact fx53
    · rw [if_neg c] at h
      obtain rfl := Option.some.inj h
      exact fx48
def wlX12_isProgram : List (Nat × Nat × Nat) := [(0, 102, 11)]
theorem fwtX12_isProgram_99   {x : QS} {z : ((Bool × QS) ⊕ (QS)) ⊕ (QS)} (h : tX12_isProgram_99 x = some z) : q_Fw wlX12_isProgram 0 ((fun x : QS => x) x) ((Sum.elim (Sum.elim (fun r : Bool × QS => r.2) (fun x : QS => x)) (fun x : QS => x)) z) := by
  unfold tX12_isProgram_99 at h
  show q_Fw wlX12_isProgram 0 x _
  obtain ⟨r1, e2, h⟩ := q_bind h
  by_cases c : r1 = true
  · rw [if_pos c] at h
    obtain ⟨S3, e4, h⟩ := q_bindS h
    have fx5 : q_Fw wlX12_isProgram 0 x S3 := e4 ▸ q_Fw.sI (i := 0) (b := 0) (k := 102) (jj := 11) (q_Fw.rf x) rfl rfl (Or.inr rfl) (Or.inl rfl)
    cases h
    exact fx5
  · rw [if_neg c] at h
    obtain ⟨r6, e7, h⟩ := q_bind h
    have fx8 : q_Fw wlX12_isProgram 0 x r6.2 := q_Fw.tr (q_Fw.rf x) ((fwX12_isMember e7).up rfl)
    by_cases c : r6.1 = true
    · rw [if_pos c] at h
      cases h
      exact fx8
    · rw [if_neg c] at h
      cases h
      exact fx8
theorem fwuX12_isProgram_99 {S : QS}   {r : (Bool × QS) ⊕ (QS)} (h : uX12_isProgram_99 S = some r) : q_Fw wlX12_isProgram 0 S ((Sum.elim (fun r : Bool × QS => r.2) (fun x : QS => x)) r) := q_run_fw (fun x : QS => x) (Sum.elim (fun r : Bool × QS => r.2) (fun x : QS => x)) (fun _ _ hz => fwtX12_isProgram_99 hz) h
theorem fwtX12_isProgram_5   {x : QS} {z : (Bool × QS) ⊕ (QS)} (h : tX12_isProgram_5 x = some z) : q_Fw wlX12_isProgram 0 ((fun x : QS => x) x) ((Sum.elim (fun r : Bool × QS => r.2) (fun x : QS => x)) z) := by
  unfold tX12_isProgram_5 at h
  show q_Fw wlX12_isProgram 0 x _
  by_cases c : (x.2.1 102 10) ≤ (x.2.1 102 11)
  · rw [if_pos c] at h
    cases h
    exact q_Fw.rf _
  · rw [if_neg c] at h
    obtain ⟨r9, e10, h⟩ := q_bind h
    obtain ⟨r11, e12, h⟩ := q_bind h
    have fx13 : q_Fw wlX12_isProgram 0 x r11.2 := q_Fw.tr (q_Fw.rf x) ((fwX12_takes e12).up rfl)
    by_cases c : r11.1 = true
    · rw [if_pos c] at h
      obtain ⟨r14, e15, h⟩ := q_bind h
      obtain ⟨r16, e17, h⟩ := q_bind h
      have fx18 : q_Fw wlX12_isProgram 0 x r16.2 := q_Fw.tr (fx13) ((fwX12_takes e17).up rfl)
      by_cases c : r16.1 = true
      · rw [if_pos c] at h
        obtain ⟨r19, e20, h⟩ := q_bind h
        obtain ⟨r21, e22, h⟩ := q_bind h
        have fx23 : q_Fw wlX12_isProgram 0 x r21.2 := q_Fw.tr (fx18) ((fwX12_takes e22).up rfl)
        by_cases c : r21.1 = true
        · rw [if_pos c] at h
          obtain ⟨r24, e25, h⟩ := q_bind h
          obtain ⟨r26, e27, h⟩ := q_bind h
          have fx28 : q_Fw wlX12_isProgram 0 x r26.2 := q_Fw.tr (fx23) ((fwX12_takes e27).up rfl)
          by_cases c : r26.1 = true
          · rw [if_pos c] at h
            obtain ⟨r29, e30, h⟩ := q_bind h
            obtain ⟨r31, e32, h⟩ := q_bind h
            have fx33 : q_Fw wlX12_isProgram 0 x r31.2 := q_Fw.tr (fx28) ((fwX12_takes e32).up rfl)
            by_cases c : r31.1 = true
            · rw [if_pos c] at h
              exact (fx33).tr (fwuX12_isProgram_99 h)
            · rw [if_neg c] at h
              cases h
              exact fx33
          · rw [if_neg c] at h
            cases h
            exact fx28
        · rw [if_neg c] at h
          cases h
          exact fx23
      · rw [if_neg c] at h
        cases h
        exact fx18
    · rw [if_neg c] at h
      cases h
      exact fx13
theorem fwX12_isProgram_5 {S : QS}   {r : Bool × QS} (h : fX12_isProgram_5 S = some r) : q_Fw wlX12_isProgram 0 S ((fun r : Bool × QS => r.2) r) := q_run_fw (fun x : QS => x) (fun r : Bool × QS => r.2) (fun _ _ hz => fwtX12_isProgram_5 hz) h
theorem fwX12_isProgram {S : QS}   {r : Bool × QS} (h : fX12_isProgram S = some r) : q_Fw wlX12_isProgram 0 S r.2 := by
  unfold fX12_isProgram at h
  obtain ⟨S34, e35, h⟩ := q_bindS h
  have fx36 : q_Fw wlX12_isProgram 0 S S34 := e35 ▸ q_Fw.sI (i := 0) (b := 0) (k := 102) (jj := 11) (q_Fw.rf S) rfl rfl (Or.inr rfl) (Or.inl rfl)
  exact (fx36).tr (fwX12_isProgram_5 h)
def wlX12_wrong : List (Nat × Nat × Nat) := [(0, 102, 12)]
theorem fwX12_wrong {S : QS}  {x1 : Int32} {r : Bool × QS} (h : fX12_wrong S x1 = some r) : q_Fw wlX12_wrong 0 S r.2 := by
  unfold fX12_wrong at h
  obtain ⟨S1, e2, h⟩ := q_bindS h
  have fx3 : q_Fw wlX12_wrong 0 S S1 := e2 ▸ q_Fw.sI (i := 0) (b := 0) (k := 102) (jj := 12) (q_Fw.rf S) rfl rfl (Or.inr rfl) (Or.inl rfl)
  obtain rfl := Option.some.inj h
  exact fx3
def wlX12_classNames : List (Nat × Nat × Nat) := [(0, 102, 12), (0, 163, 999), (1, 0, 0), (1, 1, 999)]
theorem fwtX12_classNames_45 {q : Nat}  {x : Int32 × QS} {z : (Bool × QS) ⊕ (Int32 × QS)} (hq : q_qok q) (h : tX12_classNames_45 q x = some z) : q_Fw wlX12_classNames q ((fun x : Int32 × QS => x.2) x) ((Sum.elim (fun r : Bool × QS => r.2) (fun x : Int32 × QS => x.2)) z) := by
  unfold tX12_classNames_45 at h
  show q_Fw wlX12_classNames q x.2 _
  by_cases c : (x.2.2.1 102 10) ≤ x.1
  · rw [if_pos c] at h
    cases h
    exact q_Fw.rf _
  · rw [if_neg c] at h
    obtain ⟨r1, e2, h⟩ := q_bind h
    by_cases c : 0 ≤ r1
    · rw [if_pos c] at h
      obtain ⟨r3, e4, h⟩ := q_bind h
      have fx5 : q_Fw wlX12_classNames q x.2 r3.2 := q_Fw.tr (q_Fw.rf x.2) (((fwX12_wrong e4).nov (p' := q) rfl).up rfl)
      cases h
      exact fx5
    · rw [if_neg c] at h
      by_cases c : (x.2.2.1 q 0) = (24 : Int32)
      · rw [if_pos c] at h
        obtain ⟨r24, e25, h⟩ := q_bind h
        have fx26 : q_Fw wlX12_classNames q x.2 r24.2 := q_Fw.tr (q_Fw.rf x.2) (((fwX12_wrong e25).nov (p' := q) rfl).up rfl)
        cases h
        exact fx26
      · rw [if_neg c] at h
        obtain ⟨r6, e7, h⟩ := q_bind h
        by_cases c : 0 ≤ r6
        · rw [if_pos c] at h
          obtain ⟨hg8, h⟩ := q_guard h
          obtain ⟨S9, e10, h⟩ := q_bindS h
          have fx11 : q_Fw wlX12_classNames q x.2 S9 := e10 ▸ q_Fw.sI (i := 1) (b := 0) (k := 163) (jj := 999) (q_Fw.rf x.2) rfl rfl (Or.inl rfl) (Or.inl rfl)
          obtain ⟨hg12, h⟩ := q_guard h
          obtain ⟨S13, e14, h⟩ := q_bindS h
          have fx15 : q_Fw wlX12_classNames q x.2 S13 := e14 ▸ q_Fw.sI (i := 3) (b := 1) (k := 1) (jj := 999) (fx11) rfl rfl (Or.inl rfl) (Or.inl (q_nBq (k := 1) hq (by decide)))
          obtain ⟨S16, e17, h⟩ := q_bindS h
          have fx18 : q_Fw wlX12_classNames q x.2 S16 := e17 ▸ q_Fw.sI (i := 2) (b := 1) (k := 0) (jj := 0) (fx15) rfl rfl (Or.inr rfl) (Or.inl (q_nBq (k := 0) hq (by decide)))
          obtain ⟨r19, e20, h⟩ := q_bind h
          cases h
          exact fx18
        · rw [if_neg c] at h
          obtain ⟨r21, e22, h⟩ := q_bind h
          have fx23 : q_Fw wlX12_classNames q x.2 r21.2 := q_Fw.tr (q_Fw.rf x.2) (((fwX12_wrong e22).nov (p' := q) rfl).up rfl)
          cases h
          exact fx23
theorem fwX12_classNames_45 {S : QS} {q : Nat} {y2 : Int32} {r : Bool × QS} (hq : q_qok q) (h : fX12_classNames_45 S q y2 = some r) : q_Fw wlX12_classNames q S ((fun r : Bool × QS => r.2) r) := q_run_fw (fun x : Int32 × QS => x.2) (fun r : Bool × QS => r.2) (fun _ _ hz => fwtX12_classNames_45 hq hz) h
theorem fwtX12_classNames_7 {q : Nat}  {x : Int32 × QS} {z : (Bool × QS) ⊕ (Int32 × QS)} (hq : q_qok q) (h : tX12_classNames_7 q x = some z) : q_Fw wlX12_classNames q ((fun x : Int32 × QS => x.2) x) ((Sum.elim (fun r : Bool × QS => r.2) (fun x : Int32 × QS => x.2)) z) := by
  unfold tX12_classNames_7 at h
  show q_Fw wlX12_classNames q x.2 _
  by_cases c : (8 : Int32) ≤ x.1
  · rw [if_pos c] at h
    obtain ⟨r27, e28, h⟩ := q_bind h
    cases h
    exact (q_Fw.rf _).tr (fwX12_classNames_45 hq e28)
  · rw [if_neg c] at h
    by_cases c : x.1 = 0
    · rw [if_pos c] at h
      obtain ⟨hg37, h⟩ := q_guard h
      obtain ⟨S38, e39, h⟩ := q_bindS h
      have fx40 : q_Fw wlX12_classNames q x.2 S38 := e39 ▸ q_Fw.sI (i := 3) (b := 1) (k := 1) (jj := 999) (q_Fw.rf x.2) rfl rfl (Or.inl rfl) (Or.inl (q_nBq (k := 1) hq (by decide)))
      cases h
      exact fx40
    · rw [if_neg c] at h
      by_cases c : x.1 = (1 : Int32)
      · rw [if_pos c] at h
        obtain ⟨hg33, h⟩ := q_guard h
        obtain ⟨S34, e35, h⟩ := q_bindS h
        have fx36 : q_Fw wlX12_classNames q x.2 S34 := e35 ▸ q_Fw.sI (i := 3) (b := 1) (k := 1) (jj := 999) (q_Fw.rf x.2) rfl rfl (Or.inl rfl) (Or.inl (q_nBq (k := 1) hq (by decide)))
        cases h
        exact fx36
      · rw [if_neg c] at h
        obtain ⟨hg29, h⟩ := q_guard h
        obtain ⟨S30, e31, h⟩ := q_bindS h
        have fx32 : q_Fw wlX12_classNames q x.2 S30 := e31 ▸ q_Fw.sI (i := 3) (b := 1) (k := 1) (jj := 999) (q_Fw.rf x.2) rfl rfl (Or.inl rfl) (Or.inl (q_nBq (k := 1) hq (by decide)))
        cases h
        exact fx32
theorem fwX12_classNames_7 {S : QS} {q : Nat} {y2 : Int32} {r : Bool × QS} (hq : q_qok q) (h : fX12_classNames_7 S q y2 = some r) : q_Fw wlX12_classNames q S ((fun r : Bool × QS => r.2) r) := q_run_fw (fun x : Int32 × QS => x.2) (fun r : Bool × QS => r.2) (fun _ _ hz => fwtX12_classNames_7 hq hz) h
theorem fwX12_classNames {S : QS} {q : Nat}  {r : Bool × QS} (hq : q_qok q) (h : fX12_classNames S q = some r) : q_Fw wlX12_classNames q S r.2 := by
  unfold fX12_classNames at h
  obtain ⟨S41, e42, h⟩ := q_bindS h
  have fx43 : q_Fw wlX12_classNames q S S41 := e42 ▸ q_Fw.sI (i := 2) (b := 1) (k := 0) (jj := 0) (q_Fw.rf S) rfl rfl (Or.inr rfl) (Or.inl (q_nBq (k := 0) hq (by decide)))
  exact (fx43).tr (fwX12_classNames_7 hq h)
def wlX12_field : List (Nat × Nat × Nat) := [(0, 102, 12), (0, 164, 999), (1, 0, 1), (1, 3, 999), (1, 4, 999)]
theorem fwX12_field {S : QS} {q : Nat} {x2 : Int32} {x3 : Int32} {r : Bool × QS} (hq : q_qok q) (h : fX12_field S q x2 x3 = some r) : q_Fw wlX12_field q S r.2 := by
  unfold fX12_field at h
  by_cases c : (S.2.1 q 1) = (48 : Int32)
  · rw [if_pos c] at h
    obtain ⟨r1, e2, h⟩ := q_bind h
    have fx3 : q_Fw wlX12_field q S r1.2 := q_Fw.tr (q_Fw.rf S) (((fwX12_wrong e2).nov (p' := q) rfl).up rfl)
    obtain rfl := Option.some.inj h
    exact fx3
  · rw [if_neg c] at h
    obtain ⟨hg4, h⟩ := q_guard h
    obtain ⟨hg5, h⟩ := q_guard h
    obtain ⟨r6, e7, h⟩ := q_bind h
    by_cases c : r6 < 0
    · rw [if_pos c] at h
      obtain ⟨r8, e9, h⟩ := q_bind h
      by_cases c : 0 ≤ r8
      · rw [if_pos c] at h
        obtain ⟨hg10, h⟩ := q_guard h
        obtain ⟨S11, e12, h⟩ := q_bindS h
        have fx13 : q_Fw wlX12_field q S S11 := e12 ▸ q_Fw.sI (i := 1) (b := 0) (k := 164) (jj := 999) (q_Fw.rf S) rfl rfl (Or.inl rfl) (Or.inl rfl)
        obtain ⟨hg14, h⟩ := q_guard h
        obtain ⟨S15, e16, h⟩ := q_bindS h
        have fx17 : q_Fw wlX12_field q S S15 := e16 ▸ q_Fw.sI (i := 3) (b := 1) (k := 3) (jj := 999) (fx13) rfl rfl (Or.inl rfl) (Or.inl (q_nBq (k := 3) hq (by decide)))
        obtain ⟨hg18, h⟩ := q_guard h
        obtain ⟨S19, e20, h⟩ := q_bindS h
        have fx21 : q_Fw wlX12_field q S S19 := e20 ▸ q_Fw.sI (i := 4) (b := 1) (k := 4) (jj := 999) (fx17) rfl rfl (Or.inl rfl) (Or.inl (q_nBq (k := 4) hq (by decide)))
        obtain ⟨S22, e23, h⟩ := q_bindS h
        have fx24 : q_Fw wlX12_field q S S22 := e23 ▸ q_Fw.sI (i := 2) (b := 1) (k := 0) (jj := 1) (fx21) rfl rfl (Or.inr rfl) (Or.inl (q_nBq (k := 0) hq (by decide)))
        obtain rfl := Option.some.inj h
        exact fx24
      · rw [if_neg c] at h
        obtain ⟨r25, e26, h⟩ := q_bind h
        have fx27 : q_Fw wlX12_field q S r25.2 := q_Fw.tr (q_Fw.rf S) (((fwX12_wrong e26).nov (p' := q) rfl).up rfl)
        obtain rfl := Option.some.inj h
        exact fx27
    · rw [if_neg c] at h
      obtain ⟨r28, e29, h⟩ := q_bind h
      have fx30 : q_Fw wlX12_field q S r28.2 := q_Fw.tr (q_Fw.rf S) (((fwX12_wrong e29).nov (p' := q) rfl).up rfl)
      obtain rfl := Option.some.inj h
      exact fx30
def wlX12_body : List (Nat × Nat × Nat) := [(0, 102, 12), (0, 165, 999), (0, 166, 999), (1, 0, 2), (1, 6, 999), (1, 7, 999), (1, 8, 999), (1, 9, 999), (1, 10, 999), (1, 11, 999)]
theorem fwX12_body_282 {S : QS} {q : Nat} {y2 : Int32} {y3 : Int32} {y4 : Int32} {y7 : Int32} {y8 : Int32} {y9 : Int32} {r : Bool × QS} (hq : q_qok q) (h : fX12_body_282 S q y2 y3 y4 y7 y8 y9 = some r) : q_Fw wlX12_body q S r.2 := by
  unfold fX12_body_282 at h
  obtain ⟨hg1, h⟩ := q_guard h
  obtain ⟨S2, e3, h⟩ := q_bindS h
  have fx4 : q_Fw wlX12_body q S S2 := e3 ▸ q_Fw.sI (i := 2) (b := 0) (k := 166) (jj := 999) (q_Fw.rf S) rfl rfl (Or.inl rfl) (Or.inl rfl)
  obtain ⟨r5, e6, h⟩ := q_bind h
  by_cases c : (lg_cmp r5 y8.toInt64) < 0
  · rw [if_pos c] at h
    obtain ⟨r7, e8, h⟩ := q_bind h
    have fx9 : q_Fw wlX12_body q S r7.2 := q_Fw.tr (fx4) (((fwX12_wrong e8).nov (p' := q) rfl).up rfl)
    obtain rfl := Option.some.inj h
    exact fx9
  · rw [if_neg c] at h
    by_cases c : (lg_cmp r5 (12 : Int64)) ≤ 0
    · rw [if_pos c] at h
      obtain ⟨hg10, h⟩ := q_guard h
      obtain ⟨S11, e12, h⟩ := q_bindS h
      have fx13 : q_Fw wlX12_body q S S11 := e12 ▸ q_Fw.sI (i := 1) (b := 0) (k := 165) (jj := 999) (fx4) rfl rfl (Or.inl rfl) (Or.inl rfl)
      obtain ⟨hg14, h⟩ := q_guard h
      obtain ⟨S15, e16, h⟩ := q_bindS h
      have fx17 : q_Fw wlX12_body q S S15 := e16 ▸ q_Fw.sI (i := 4) (b := 1) (k := 6) (jj := 999) (fx13) rfl rfl (Or.inl rfl) (Or.inl (q_nBq (k := 6) hq (by decide)))
      obtain ⟨hg18, h⟩ := q_guard h
      obtain ⟨S19, e20, h⟩ := q_bindS h
      have fx21 : q_Fw wlX12_body q S S19 := e20 ▸ q_Fw.sI (i := 5) (b := 1) (k := 7) (jj := 999) (fx17) rfl rfl (Or.inl rfl) (Or.inl (q_nBq (k := 7) hq (by decide)))
      obtain ⟨hg22, h⟩ := q_guard h
      obtain ⟨S23, e24, h⟩ := q_bindS h
      have fx25 : q_Fw wlX12_body q S S23 := e24 ▸ q_Fw.sI (i := 6) (b := 1) (k := 8) (jj := 999) (fx21) rfl rfl (Or.inl rfl) (Or.inl (q_nBq (k := 8) hq (by decide)))
      obtain ⟨hg26, h⟩ := q_guard h
      obtain ⟨S27, e28, h⟩ := q_bindS h
      have fx29 : q_Fw wlX12_body q S S27 := e28 ▸ q_Fw.sI (i := 9) (b := 1) (k := 11) (jj := 999) (fx25) rfl rfl (Or.inl rfl) (Or.inl (q_nBq (k := 11) hq (by decide)))
      obtain ⟨S30, e31, h⟩ := q_bindS h
      have fx32 : q_Fw wlX12_body q S S30 := e31 ▸ q_Fw.sI (i := 3) (b := 1) (k := 0) (jj := 2) (fx29) rfl rfl (Or.inr rfl) (Or.inl (q_nBq (k := 0) hq (by decide)))
      obtain rfl := Option.some.inj h
      exact fx32
    · rw [if_neg c] at h
      obtain ⟨r33, e34, h⟩ := q_bind h
      have fx35 : q_Fw wlX12_body q S r33.2 := q_Fw.tr (fx4) (((fwX12_wrong e34).nov (p' := q) rfl).up rfl)
      obtain rfl := Option.some.inj h
      exact fx35
theorem fwtX12_body_159 {q : Nat} {y2 : Int32} {y3 : Int32} {y4 : Int32} {y7 : Int32} {x : Int32 × Int32 × QS} {z : (Bool × QS) ⊕ (Int32 × Int32 × QS)} (hq : q_qok q) (h : tX12_body_159 q y2 y3 y4 y7 x = some z) : q_Fw wlX12_body q ((fun x : Int32 × Int32 × QS => x.2.2) x) ((Sum.elim (fun r : Bool × QS => r.2) (fun x : Int32 × Int32 × QS => x.2.2)) z) := by
  unfold tX12_body_159 at h
  show q_Fw wlX12_body q x.2.2 _
  obtain ⟨r36, e37, h⟩ := q_bind h
  by_cases c : r36 = true
  · rw [if_pos c] at h
    obtain ⟨r38, e39, h⟩ := q_bind h
    obtain ⟨v42, hv, h⟩ := q_bind h
    obtain ⟨hg43, h⟩ := q_guard h
    obtain ⟨S44, e45, h⟩ := q_bindS h
    have fx46 : q_Fw wlX12_body q x.2.2 S44 := e45 ▸ q_Fw.sI (i := 8) (b := 1) (k := 10) (jj := 999) (q_Fw.rf x.2.2) rfl rfl (Or.inl rfl) (Or.inl (q_nBq (k := 10) hq (by decide)))
    obtain ⟨r47, e48, h⟩ := q_bind h
    by_cases c : r47 = true
    · rw [if_pos c] at h
      obtain ⟨r49, e50, h⟩ := q_bind h
      cases h
      exact (fx46).tr (fwX12_body_282 hq e50)
    · rw [if_neg c] at h
      obtain ⟨hg51, h⟩ := q_guard h
      by_cases c : 0 ≤ (S44.2.1 (q + 10) y7.toNatClampNeg)
      · rw [if_pos c] at h
        obtain ⟨r52, e53, h⟩ := q_bind h
        cases h
        exact (fx46).tr (fwX12_body_282 hq e53)
      · rw [if_neg c] at h
        obtain ⟨r54, e55, h⟩ := q_bind h
        have fx56 : q_Fw wlX12_body q x.2.2 r54.2 := q_Fw.tr (fx46) (((fwX12_wrong e55).nov (p' := q) rfl).up rfl)
        cases h
        exact fx56
  · rw [if_neg c] at h
    obtain ⟨r57, e58, h⟩ := q_bind h
    by_cases c : 0 ≤ r57
    · rw [if_pos c] at h
      by_cases c : (12 : Int32) ≤ x.1
      · rw [if_pos c] at h
        cases h
        exact q_Fw.rf _
      · rw [if_neg c] at h
        obtain ⟨hg59, h⟩ := q_guard h
        obtain ⟨S60, e61, h⟩ := q_bindS h
        have fx62 : q_Fw wlX12_body q x.2.2 S60 := e61 ▸ q_Fw.sI (i := 7) (b := 1) (k := 9) (jj := 999) (q_Fw.rf x.2.2) rfl rfl (Or.inl rfl) (Or.inl (q_nBq (k := 9) hq (by decide)))
        cases h
        exact fx62
    · rw [if_neg c] at h
      obtain ⟨r63, e64, h⟩ := q_bind h
      have fx65 : q_Fw wlX12_body q x.2.2 r63.2 := q_Fw.tr (q_Fw.rf x.2.2) (((fwX12_wrong e64).nov (p' := q) rfl).up rfl)
      cases h
      exact fx65
theorem fwX12_body_159 {S : QS} {q : Nat} {y2 : Int32} {y3 : Int32} {y4 : Int32} {y7 : Int32} {y8 : Int32} {y9 : Int32} {r : Bool × QS} (hq : q_qok q) (h : fX12_body_159 S q y2 y3 y4 y7 y8 y9 = some r) : q_Fw wlX12_body q S ((fun r : Bool × QS => r.2) r) := q_run_fw (fun x : Int32 × Int32 × QS => x.2.2) (fun r : Bool × QS => r.2) (fun _ _ hz => fwtX12_body_159 hq hz) h
theorem fwX12_body_100 {S : QS} {q : Nat} {y2 : Int32} {y3 : Int32} {y4 : Int32} {r : Bool × QS} (hq : q_qok q) (h : fX12_body_100 S q y2 y3 y4 = some r) : q_Fw wlX12_body q S r.2 := by
  unfold fX12_body_100 at h
  by_cases c : (S.2.1 q 2) = (48 : Int32)
  · rw [if_pos c] at h
    obtain ⟨r73, e74, h⟩ := q_bind h
    have fx75 : q_Fw wlX12_body q S r73.2 := q_Fw.tr (q_Fw.rf S) (((fwX12_wrong e74).nov (p' := q) rfl).up rfl)
    obtain rfl := Option.some.inj h
    exact fx75
  · rw [if_neg c] at h
    obtain ⟨v66, hv, h⟩ := q_bind h
    obtain ⟨v71, hv, h⟩ := q_bind h
    have fx72 : q_Fw wlX12_body q S v71 := by
      replace h := hv
      by_cases c : y4 = 0
      · rw [if_pos c] at h
        obtain rfl := Option.some.inj h
        exact q_Fw.rf _
      · rw [if_neg c] at h
        obtain ⟨hg67, h⟩ := q_guard h
        obtain ⟨S68, e69, h⟩ := q_bindS h
        have fx70 : q_Fw wlX12_body q S S68 := e69 ▸ q_Fw.sI (i := 7) (b := 1) (k := 9) (jj := 999) (q_Fw.rf S) rfl rfl (Or.inl rfl) (Or.inl (q_nBq (k := 9) hq (by decide)))
        obtain rfl := Option.some.inj h
        exact fx70
    exact (fx72).tr (fwX12_body_159 hq h)
theorem fwX12_body {S : QS} {q : Nat} {x2 : Int32} {x3 : Int32} {r : Bool × QS} (hq : q_qok q) (h : fX12_body S q x2 x3 = some r) : q_Fw wlX12_body q S r.2 := by
  unfold fX12_body at h
  obtain ⟨r76, e77, h⟩ := q_bind h
  obtain ⟨hg78, h⟩ := q_guard h
  obtain ⟨hg79, h⟩ := q_guard h
  obtain ⟨r80, e81, h⟩ := q_bind h
  obtain ⟨v87, hv, h⟩ := q_bind h
  by_cases c : r80 < 0
  · rw [if_pos c] at h
    exact (q_Fw.rf _).tr (fwX12_body_100 hq h)
  · rw [if_neg c] at h
    by_cases c : v87 = true
    · rw [if_pos c] at h
      exact (q_Fw.rf _).tr (fwX12_body_100 hq h)
    · rw [if_neg c] at h
      obtain ⟨r88, e89, h⟩ := q_bind h
      have fx90 : q_Fw wlX12_body q S r88.2 := q_Fw.tr (q_Fw.rf S) (((fwX12_wrong e89).nov (p' := q) rfl).up rfl)
      obtain rfl := Option.some.inj h
      exact fx90
def wlX12_members : List (Nat × Nat × Nat) := [(0, 102, 12), (0, 164, 999), (0, 165, 999), (0, 166, 999), (1, 0, 1), (1, 0, 2), (1, 3, 999), (1, 4, 999), (1, 6, 999), (1, 7, 999), (1, 8, 999), (1, 9, 999), (1, 10, 999), (1, 11, 999)]
theorem fwtX12_members_33 {q : Nat}  {x : Int32 × Int32 × QS} {z : ((Bool × QS) ⊕ (Int32 × QS)) ⊕ (Int32 × Int32 × QS)} (hq : q_qok q) (h : tX12_members_33 q x = some z) : q_Fw wlX12_members q ((fun x : Int32 × Int32 × QS => x.2.2) x) ((Sum.elim (Sum.elim (fun r : Bool × QS => r.2) (fun x : Int32 × QS => x.2)) (fun x : Int32 × Int32 × QS => x.2.2)) z) := by
  unfold tX12_members_33 at h
  show q_Fw wlX12_members q x.2.2 _
  obtain ⟨r1, e2, h⟩ := q_bind h
  by_cases c : r1 = true
  · rw [if_pos c] at h
    cases h
    exact q_Fw.rf _
  · rw [if_neg c] at h
    obtain ⟨r3, e4, h⟩ := q_bind h
    by_cases c : r3 = true
    · rw [if_pos c] at h
      obtain ⟨r10, e11, h⟩ := q_bind h
      have fx12 : q_Fw wlX12_members q x.2.2 r10.2 := q_Fw.tr (q_Fw.rf x.2.2) ((fwX12_field hq e11).up rfl)
      by_cases c : r10.1 = true
      · rw [if_pos c] at h
        obtain ⟨r13, e14, h⟩ := q_bind h
        cases h
        exact fx12
      · rw [if_neg c] at h
        cases h
        exact fx12
    · rw [if_neg c] at h
      obtain ⟨r5, e6, h⟩ := q_bind h
      have fx7 : q_Fw wlX12_members q x.2.2 r5.2 := q_Fw.tr (q_Fw.rf x.2.2) ((fwX12_body hq e6).up rfl)
      by_cases c : r5.1 = true
      · rw [if_pos c] at h
        obtain ⟨r8, e9, h⟩ := q_bind h
        cases h
        exact fx7
      · rw [if_neg c] at h
        cases h
        exact fx7
theorem fwuX12_members_33 {S : QS} {q : Nat} {y2 : Int32} {y3 : Int32} {r : (Bool × QS) ⊕ (Int32 × QS)} (hq : q_qok q) (h : uX12_members_33 S q y2 y3 = some r) : q_Fw wlX12_members q S ((Sum.elim (fun r : Bool × QS => r.2) (fun x : Int32 × QS => x.2)) r) := q_run_fw (fun x : Int32 × Int32 × QS => x.2.2) (Sum.elim (fun r : Bool × QS => r.2) (fun x : Int32 × QS => x.2)) (fun _ _ hz => fwtX12_members_33 hq hz) h
theorem fwtX12_members_15 {q : Nat}  {x : Int32 × QS} {z : (Bool × QS) ⊕ (Int32 × QS)} (hq : q_qok q) (h : tX12_members_15 q x = some z) : q_Fw wlX12_members q ((fun x : Int32 × QS => x.2) x) ((Sum.elim (fun r : Bool × QS => r.2) (fun x : Int32 × QS => x.2)) z) := by
  unfold tX12_members_15 at h
  show q_Fw wlX12_members q x.2 _
  obtain ⟨r15, e16, h⟩ := q_bind h
  by_cases c : r15 ≤ x.1
  · rw [if_pos c] at h
    cases h
    exact q_Fw.rf _
  · rw [if_neg c] at h
    obtain ⟨hg17, h⟩ := q_guard h
    exact (q_Fw.rf _).tr (fwuX12_members_33 hq h)
theorem fwX12_members_15 {S : QS} {q : Nat} {y3 : Int32} {r : Bool × QS} (hq : q_qok q) (h : fX12_members_15 S q y3 = some r) : q_Fw wlX12_members q S ((fun r : Bool × QS => r.2) r) := q_run_fw (fun x : Int32 × QS => x.2) (fun r : Bool × QS => r.2) (fun _ _ hz => fwtX12_members_15 hq hz) h
theorem fwX12_members {S : QS} {q : Nat}  {r : Bool × QS} (hq : q_qok q) (h : fX12_members S q = some r) : q_Fw wlX12_members q S r.2 := by
  unfold fX12_members at h
  obtain ⟨S18, e19, h⟩ := q_bindS h
  have fx20 : q_Fw wlX12_members q S S18 := e19 ▸ q_Fw.sI (i := 4) (b := 1) (k := 0) (jj := 1) (q_Fw.rf S) rfl rfl (Or.inr rfl) (Or.inl (q_nBq (k := 0) hq (by decide)))
  obtain ⟨S21, e22, h⟩ := q_bindS h
  have fx23 : q_Fw wlX12_members q S S21 := e22 ▸ q_Fw.sI (i := 5) (b := 1) (k := 0) (jj := 2) (fx20) rfl rfl (Or.inr rfl) (Or.inl (q_nBq (k := 0) hq (by decide)))
  exact (fx23).tr (fwX12_members_15 hq h)
def wlX12_catchLine : List (Nat × Nat × Nat) := [(0, 102, 12), (1, 0, 5), (1, 21, 999), (1, 22, 999), (1, 23, 999), (1, 24, 999), (1, 25, 999)]
theorem fwX12_catchLine {S : QS} {q : Nat} {x2 : Int32} {x3 : Int32} {x4 : Int32} {r : Bool × QS} (hq : q_qok q) (h : fX12_catchLine S q x2 x3 x4 = some r) : q_Fw wlX12_catchLine q S r.2 := by
  unfold fX12_catchLine at h
  by_cases c : (S.2.1 q 5) = (64 : Int32)
  · rw [if_pos c] at h
    obtain ⟨r52, e53, h⟩ := q_bind h
    have fx54 : q_Fw wlX12_catchLine q S r52.2 := q_Fw.tr (q_Fw.rf S) (((fwX12_wrong e53).nov (p' := q) rfl).up rfl)
    obtain rfl := Option.some.inj h
    exact fx54
  · rw [if_neg c] at h
    obtain ⟨r1, e2, h⟩ := q_bind h
    by_cases c : 0 ≤ r1
    · rw [if_pos c] at h
      obtain ⟨r3, e4, h⟩ := q_bind h
      by_cases c : r1 < r3
      · rw [if_pos c] at h
        obtain ⟨r5, e6, h⟩ := q_bind h
        by_cases c : r5 < 0
        · rw [if_pos c] at h
          obtain ⟨r7, e8, h⟩ := q_bind h
          have fx9 : q_Fw wlX12_catchLine q S r7.2 := q_Fw.tr (q_Fw.rf S) (((fwX12_wrong e8).nov (p' := q) rfl).up rfl)
          obtain rfl := Option.some.inj h
          exact fx9
        · rw [if_neg c] at h
          by_cases c : r5 < x4
          · rw [if_pos c] at h
            obtain ⟨r10, e11, h⟩ := q_bind h
            by_cases c : r10 < 0
            · rw [if_pos c] at h
              obtain ⟨r12, e13, h⟩ := q_bind h
              have fx14 : q_Fw wlX12_catchLine q S r12.2 := q_Fw.tr (q_Fw.rf S) (((fwX12_wrong e13).nov (p' := q) rfl).up rfl)
              obtain rfl := Option.some.inj h
              exact fx14
            · rw [if_neg c] at h
              obtain ⟨r15, e16, h⟩ := q_bind h
              by_cases c : r15 = true
              · rw [if_pos c] at h
                obtain ⟨hg17, h⟩ := q_guard h
                obtain ⟨S18, e19, h⟩ := q_bindS h
                have fx20 : q_Fw wlX12_catchLine q S S18 := e19 ▸ q_Fw.sI (i := 2) (b := 1) (k := 21) (jj := 999) (q_Fw.rf S) rfl rfl (Or.inl rfl) (Or.inl (q_nBq (k := 21) hq (by decide)))
                obtain ⟨hg21, h⟩ := q_guard h
                obtain ⟨S22, e23, h⟩ := q_bindS h
                have fx24 : q_Fw wlX12_catchLine q S S22 := e23 ▸ q_Fw.sI (i := 3) (b := 1) (k := 22) (jj := 999) (fx20) rfl rfl (Or.inl rfl) (Or.inl (q_nBq (k := 22) hq (by decide)))
                obtain ⟨hg25, h⟩ := q_guard h
                obtain ⟨S26, e27, h⟩ := q_bindS h
                have fx28 : q_Fw wlX12_catchLine q S S26 := e27 ▸ q_Fw.sI (i := 4) (b := 1) (k := 23) (jj := 999) (fx24) rfl rfl (Or.inl rfl) (Or.inl (q_nBq (k := 23) hq (by decide)))
                obtain ⟨hg29, h⟩ := q_guard h
                obtain ⟨S30, e31, h⟩ := q_bindS h
                have fx32 : q_Fw wlX12_catchLine q S S30 := e31 ▸ q_Fw.sI (i := 5) (b := 1) (k := 24) (jj := 999) (fx28) rfl rfl (Or.inl rfl) (Or.inl (q_nBq (k := 24) hq (by decide)))
                obtain ⟨hg33, h⟩ := q_guard h
                obtain ⟨S34, e35, h⟩ := q_bindS h
                have fx36 : q_Fw wlX12_catchLine q S S34 := e35 ▸ q_Fw.sI (i := 6) (b := 1) (k := 25) (jj := 999) (fx32) rfl rfl (Or.inl rfl) (Or.inl (q_nBq (k := 25) hq (by decide)))
                obtain ⟨S37, e38, h⟩ := q_bindS h
                have fx39 : q_Fw wlX12_catchLine q S S37 := e38 ▸ q_Fw.sI (i := 1) (b := 1) (k := 0) (jj := 5) (fx36) rfl rfl (Or.inr rfl) (Or.inl (q_nBq (k := 0) hq (by decide)))
                obtain rfl := Option.some.inj h
                exact fx39
              · rw [if_neg c] at h
                obtain ⟨r40, e41, h⟩ := q_bind h
                have fx42 : q_Fw wlX12_catchLine q S r40.2 := q_Fw.tr (q_Fw.rf S) (((fwX12_wrong e41).nov (p' := q) rfl).up rfl)
                obtain rfl := Option.some.inj h
                exact fx42
          · rw [if_neg c] at h
            obtain ⟨r43, e44, h⟩ := q_bind h
            have fx45 : q_Fw wlX12_catchLine q S r43.2 := q_Fw.tr (q_Fw.rf S) (((fwX12_wrong e44).nov (p' := q) rfl).up rfl)
            obtain rfl := Option.some.inj h
            exact fx45
      · rw [if_neg c] at h
        obtain ⟨r46, e47, h⟩ := q_bind h
        have fx48 : q_Fw wlX12_catchLine q S r46.2 := q_Fw.tr (q_Fw.rf S) (((fwX12_wrong e47).nov (p' := q) rfl).up rfl)
        obtain rfl := Option.some.inj h
        exact fx48
    · rw [if_neg c] at h
      obtain ⟨r49, e50, h⟩ := q_bind h
      have fx51 : q_Fw wlX12_catchLine q S r49.2 := q_Fw.tr (q_Fw.rf S) (((fwX12_wrong e50).nov (p' := q) rfl).up rfl)
      obtain rfl := Option.some.inj h
      exact fx51
def wlX12_localStep : List (Nat × Nat × Nat) := [(0, 102, 12), (1, 16, 999)]
theorem fwX12_localStep {S : QS} {q : Nat} {x2 : Int32} {x3 : Int32} {x4 : Int32} {r : Bool × QS} (hq : q_qok q) (h : fX12_localStep S q x2 x3 x4 = some r) : q_Fw wlX12_localStep q S r.2 := by
  unfold fX12_localStep at h
  obtain ⟨r1, e2, h⟩ := q_bind h
  by_cases c : (lg_cmp r1 (0 : Int64)) < 0
  · rw [if_pos c] at h
    obtain ⟨r3, e4, h⟩ := q_bind h
    have fx5 : q_Fw wlX12_localStep q S r3.2 := q_Fw.tr (q_Fw.rf S) (((fwX12_wrong e4).nov (p' := q) rfl).up rfl)
    obtain rfl := Option.some.inj h
    exact fx5
  · rw [if_neg c] at h
    obtain ⟨hg6, h⟩ := q_guard h
    by_cases c : (lg_cmp r1 (S.2.1 (q + 11) x2.toNatClampNeg).toInt64) < 0
    · rw [if_pos c] at h
      obtain ⟨hg7, h⟩ := q_guard h
      obtain ⟨S8, e9, h⟩ := q_bindS h
      have fx10 : q_Fw wlX12_localStep q S S8 := e9 ▸ q_Fw.sI (i := 1) (b := 1) (k := 16) (jj := 999) (q_Fw.rf S) rfl rfl (Or.inl rfl) (Or.inl (q_nBq (k := 16) hq (by decide)))
      obtain rfl := Option.some.inj h
      exact fx10
    · rw [if_neg c] at h
      obtain ⟨r11, e12, h⟩ := q_bind h
      have fx13 : q_Fw wlX12_localStep q S r11.2 := q_Fw.tr (q_Fw.rf S) (((fwX12_wrong e12).nov (p' := q) rfl).up rfl)
      obtain rfl := Option.some.inj h
      exact fx13
def wlX12_makes : List (Nat × Nat × Nat) := [(0, 102, 12), (1, 0, 4), (1, 16, 999), (1, 20, 999)]
theorem fwX12_makes_47 {S : QS} {q : Nat} {y2 : Int32} {y3 : Int32} {y5 : Int32} {r : Bool × QS} (hq : q_qok q) (h : fX12_makes_47 S q y2 y3 y5 = some r) : q_Fw wlX12_makes q S r.2 := by
  unfold fX12_makes_47 at h
  obtain ⟨v1, hv, h⟩ := q_bind h
  obtain ⟨hg2, h⟩ := q_guard h
  obtain ⟨S3, e4, h⟩ := q_bindS h
  have fx5 : q_Fw wlX12_makes q S S3 := e4 ▸ q_Fw.sI (i := 3) (b := 1) (k := 20) (jj := 999) (q_Fw.rf S) rfl rfl (Or.inl rfl) (Or.inl (q_nBq (k := 20) hq (by decide)))
  obtain ⟨hg6, h⟩ := q_guard h
  obtain ⟨S7, e8, h⟩ := q_bindS h
  have fx9 : q_Fw wlX12_makes q S S7 := e8 ▸ q_Fw.sI (i := 2) (b := 1) (k := 16) (jj := 999) (fx5) rfl rfl (Or.inl rfl) (Or.inl (q_nBq (k := 16) hq (by decide)))
  obtain ⟨S10, e11, h⟩ := q_bindS h
  have fx12 : q_Fw wlX12_makes q S S10 := e11 ▸ q_Fw.sI (i := 1) (b := 1) (k := 0) (jj := 4) (fx9) rfl rfl (Or.inr rfl) (Or.inl (q_nBq (k := 0) hq (by decide)))
  obtain rfl := Option.some.inj h
  exact fx12
theorem fwX12_makes {S : QS} {q : Nat} {x2 : Int32} {x3 : Int32} {x4 : Int32} {r : Bool × QS} (hq : q_qok q) (h : fX12_makes S q x2 x3 x4 = some r) : q_Fw wlX12_makes q S r.2 := by
  unfold fX12_makes at h
  obtain ⟨r13, e14, h⟩ := q_bind h
  obtain ⟨v17, hv, h⟩ := q_bind h
  by_cases c : 0 ≤ v17
  · rw [if_pos c] at h
    exact (q_Fw.rf _).tr (fwX12_makes_47 hq h)
  · rw [if_neg c] at h
    obtain ⟨r18, e19, h⟩ := q_bind h
    by_cases c : r18 = true
    · rw [if_pos c] at h
      exact (q_Fw.rf _).tr (fwX12_makes_47 hq h)
    · rw [if_neg c] at h
      obtain ⟨r20, e21, h⟩ := q_bind h
      have fx22 : q_Fw wlX12_makes q S r20.2 := q_Fw.tr (q_Fw.rf S) (((fwX12_wrong e21).nov (p' := q) rfl).up rfl)
      obtain rfl := Option.some.inj h
      exact fx22
def wlX12_reference : List (Nat × Nat × Nat) := [(0, 102, 12), (1, 16, 999), (1, 17, 999)]
theorem fwX12_reference_133 {S : QS} {q : Nat} {y2 : Int32} {y6 : Int32} {y7 : Int32} {r : Bool × QS} (hq : q_qok q) (h : fX12_reference_133 S q y2 y6 y7 = some r) : q_Fw wlX12_reference q S r.2 := by
  unfold fX12_reference_133 at h
  obtain ⟨hg1, h⟩ := q_guard h
  obtain ⟨S2, e3, h⟩ := q_bindS h
  have fx4 : q_Fw wlX12_reference q S S2 := e3 ▸ q_Fw.sI (i := 1) (b := 1) (k := 16) (jj := 999) (q_Fw.rf S) rfl rfl (Or.inl rfl) (Or.inl (q_nBq (k := 16) hq (by decide)))
  obtain ⟨hg5, h⟩ := q_guard h
  obtain ⟨S6, e7, h⟩ := q_bindS h
  have fx8 : q_Fw wlX12_reference q S S6 := e7 ▸ q_Fw.sI (i := 2) (b := 1) (k := 17) (jj := 999) (fx4) rfl rfl (Or.inl rfl) (Or.inl (q_nBq (k := 17) hq (by decide)))
  obtain rfl := Option.some.inj h
  exact fx8
theorem fwX12_reference_110 {S : QS} {q : Nat} {y2 : Int32} {y3 : Int32} {y4 : Int32} {y6 : Int32} {y7 : Int32} {r : Bool × QS} (hq : q_qok q) (h : fX12_reference_110 S q y2 y3 y4 y6 y7 = some r) : q_Fw wlX12_reference q S r.2 := by
  unfold fX12_reference_110 at h
  by_cases c : y3 = (40 : Int32)
  · rw [if_pos c] at h
    obtain ⟨hg9, h⟩ := q_guard h
    by_cases c : (S.2.1 (q + 7) y7.toNatClampNeg) = 0
    · rw [if_pos c] at h
      obtain ⟨r10, e11, h⟩ := q_bind h
      have fx12 : q_Fw wlX12_reference q S r10.2 := q_Fw.tr (q_Fw.rf S) (((fwX12_wrong e11).nov (p' := q) rfl).up rfl)
      obtain rfl := Option.some.inj h
      exact fx12
    · rw [if_neg c] at h
      exact (q_Fw.rf _).tr (fwX12_reference_133 hq h)
  · rw [if_neg c] at h
    exact (q_Fw.rf _).tr (fwX12_reference_133 hq h)
theorem fwX12_reference {S : QS} {q : Nat} {x2 : Int32} {x3 : Int32} {x4 : Int32} {r : Bool × QS} (hq : q_qok q) (h : fX12_reference S q x2 x3 x4 = some r) : q_Fw wlX12_reference q S r.2 := by
  unfold fX12_reference at h
  obtain ⟨r13, e14, h⟩ := q_bind h
  obtain ⟨hg15, h⟩ := q_guard h
  obtain ⟨r16, e17, h⟩ := q_bind h
  by_cases c : 0 ≤ r16
  · rw [if_pos c] at h
    obtain ⟨v27, hv, h⟩ := q_bind h
    by_cases c : v27 < 0
    · rw [if_pos c] at h
      obtain ⟨r28, e29, h⟩ := q_bind h
      have fx30 : q_Fw wlX12_reference q S r28.2 := q_Fw.tr (q_Fw.rf S) (((fwX12_wrong e29).nov (p' := q) rfl).up rfl)
      obtain rfl := Option.some.inj h
      exact fx30
    · rw [if_neg c] at h
      by_cases c : x3 = (39 : Int32)
      · rw [if_pos c] at h
        obtain ⟨hg31, h⟩ := q_guard h
        by_cases c : (S.2.1 (q + 7) v27.toNatClampNeg) = 0
        · rw [if_pos c] at h
          exact (q_Fw.rf _).tr (fwX12_reference_110 hq h)
        · rw [if_neg c] at h
          obtain ⟨r32, e33, h⟩ := q_bind h
          have fx34 : q_Fw wlX12_reference q S r32.2 := q_Fw.tr (q_Fw.rf S) (((fwX12_wrong e33).nov (p' := q) rfl).up rfl)
          obtain rfl := Option.some.inj h
          exact fx34
      · rw [if_neg c] at h
        exact (q_Fw.rf _).tr (fwX12_reference_110 hq h)
  · rw [if_neg c] at h
    obtain ⟨r35, e36, h⟩ := q_bind h
    have fx37 : q_Fw wlX12_reference q S r35.2 := q_Fw.tr (q_Fw.rf S) (((fwX12_wrong e36).nov (p' := q) rfl).up rfl)
    obtain rfl := Option.some.inj h
    exact fx37
def wlX12_code : List (Nat × Nat × Nat) := [(0, 102, 12), (0, 169, 999), (1, 0, 3), (1, 0, 4), (1, 15, 999), (1, 16, 999), (1, 17, 999), (1, 18, 999), (1, 20, 999)]
theorem fwX12_code_46 {S : QS} {q : Nat} {y2 : Int32} {y3 : Int32} {y4 : Int32} {y5 : Int32} {r : Bool × QS} (hq : q_qok q) (h : fX12_code_46 S q y2 y3 y4 y5 = some r) : q_Fw wlX12_code q S r.2 := by
  unfold fX12_code_46 at h
  obtain ⟨hg1, h⟩ := q_guard h
  obtain ⟨S2, e3, h⟩ := q_bindS h
  have fx4 : q_Fw wlX12_code q S S2 := e3 ▸ q_Fw.sI (i := 1) (b := 0) (k := 169) (jj := 999) (q_Fw.rf S) rfl rfl (Or.inl rfl) (Or.inl rfl)
  obtain ⟨hg5, h⟩ := q_guard h
  obtain ⟨S6, e7, h⟩ := q_bindS h
  have fx8 : q_Fw wlX12_code q S S6 := e7 ▸ q_Fw.sI (i := 4) (b := 1) (k := 15) (jj := 999) (fx4) rfl rfl (Or.inl rfl) (Or.inl (q_nBq (k := 15) hq (by decide)))
  obtain ⟨hg9, h⟩ := q_guard h
  obtain ⟨S10, e11, h⟩ := q_bindS h
  have fx12 : q_Fw wlX12_code q S S10 := e11 ▸ q_Fw.sI (i := 7) (b := 1) (k := 18) (jj := 999) (fx8) rfl rfl (Or.inl rfl) (Or.inl (q_nBq (k := 18) hq (by decide)))
  obtain ⟨hg13, h⟩ := q_guard h
  obtain ⟨S14, e15, h⟩ := q_bindS h
  have fx16 : q_Fw wlX12_code q S S14 := e15 ▸ q_Fw.sI (i := 5) (b := 1) (k := 16) (jj := 999) (fx12) rfl rfl (Or.inl rfl) (Or.inl (q_nBq (k := 16) hq (by decide)))
  obtain ⟨hg17, h⟩ := q_guard h
  obtain ⟨S18, e19, h⟩ := q_bindS h
  have fx20 : q_Fw wlX12_code q S S18 := e19 ▸ q_Fw.sI (i := 6) (b := 1) (k := 17) (jj := 999) (fx16) rfl rfl (Or.inl rfl) (Or.inl (q_nBq (k := 17) hq (by decide)))
  obtain ⟨S21, e22, h⟩ := q_bindS h
  have fx23 : q_Fw wlX12_code q S S21 := e22 ▸ q_Fw.sI (i := 2) (b := 1) (k := 0) (jj := 3) (fx20) rfl rfl (Or.inr rfl) (Or.inl (q_nBq (k := 0) hq (by decide)))
  obtain ⟨r24, e25, h⟩ := q_bind h
  by_cases c27 : r24 = (67 : Int32) ∨ r24 = (69 : Int32)
  · rw [if_pos c27] at h
    obtain ⟨r28, e29, h⟩ := q_bind h
    have fx30 : q_Fw wlX12_code q S r28.2 := q_Fw.tr (fx23) ((fwX12_makes hq e29).up rfl)
    obtain rfl := Option.some.inj h
    exact fx30
  rw [if_neg c27] at h
  by_cases c31 : r24 = (70 : Int32)
  · rw [if_pos c31] at h
    obtain ⟨r32, e33, h⟩ := q_bind h
    have fx34 : q_Fw wlX12_code q S r32.2 := q_Fw.tr (fx23) ((fwX12_reference hq e33).up rfl)
    obtain rfl := Option.some.inj h
    exact fx34
  rw [if_neg c31] at h
  by_cases c35 : r24 = (73 : Int32)
  · rw [if_pos c35] at h
    obtain ⟨r36, e37, h⟩ := q_bind h
    have fx38 : q_Fw wlX12_code q S r36.2 := q_Fw.tr (fx23) ((fwX12_localStep hq e37).up rfl)
    by_cases c : r36.1 = true
    · rw [if_pos c] at h
      obtain ⟨r39, e40, h⟩ := q_bind h
      obtain ⟨hg41, h⟩ := q_guard h
      obtain ⟨S42, e43, h⟩ := q_bindS h
      have fx44 : q_Fw wlX12_code q S S42 := e43 ▸ q_Fw.sI (i := 6) (b := 1) (k := 17) (jj := 999) (fx38) rfl rfl (Or.inl rfl) (Or.inl (q_nBq (k := 17) hq (by decide)))
      obtain rfl := Option.some.inj h
      exact fx44
    · rw [if_neg c] at h
      obtain rfl := Option.some.inj h
      exact fx38
  rw [if_neg c35] at h
  by_cases c45 : r24 = (75 : Int32)
  · rw [if_pos c45] at h
    obtain ⟨r46, e47, h⟩ := q_bind h
    have fx48 : q_Fw wlX12_code q S r46.2 := q_Fw.tr (fx23) ((fwX12_localStep hq e47).up rfl)
    obtain rfl := Option.some.inj h
    exact fx48
  rw [if_neg c45] at h
  by_cases c49 : r24 = (76 : Int32)
  · rw [if_pos c49] at h
    obtain ⟨r50, e51, h⟩ := q_bind h
    obtain ⟨hg52, h⟩ := q_guard h
    obtain ⟨S53, e54, h⟩ := q_bindS h
    have fx55 : q_Fw wlX12_code q S S53 := e54 ▸ q_Fw.sI (i := 5) (b := 1) (k := 16) (jj := 999) (fx23) rfl rfl (Or.inl rfl) (Or.inl (q_nBq (k := 16) hq (by decide)))
    obtain ⟨hg56, h⟩ := q_guard h
    by_cases c : (S53.2.1 (q + 16) (S.2.1 q 3).toNatClampNeg) < 0
    · rw [if_pos c] at h
      obtain ⟨r57, e58, h⟩ := q_bind h
      have fx59 : q_Fw wlX12_code q S r57.2 := q_Fw.tr (fx55) (((fwX12_wrong e58).nov (p' := q) rfl).up rfl)
      by_cases c : r57.1 = true
      · rw [if_pos c] at h
        obtain rfl := Option.some.inj h
        exact fx59
      · rw [if_neg c] at h
        obtain rfl := Option.some.inj h
        exact fx59
    · rw [if_neg c] at h
      obtain ⟨hg60, h⟩ := q_guard h
      by_cases c : (S53.2.1 (q + 16) (S.2.1 q 3).toNatClampNeg) < y4
      · rw [if_pos c] at h
        obtain rfl := Option.some.inj h
        exact fx55
      · rw [if_neg c] at h
        obtain ⟨r61, e62, h⟩ := q_bind h
        have fx63 : q_Fw wlX12_code q S r61.2 := q_Fw.tr (fx55) (((fwX12_wrong e62).nov (p' := q) rfl).up rfl)
        by_cases c : r61.1 = true
        · rw [if_pos c] at h
          obtain rfl := Option.some.inj h
          exact fx63
        · rw [if_neg c] at h
          obtain rfl := Option.some.inj h
          exact fx63
  rw [if_neg c49] at h
  by_cases c64 : r24 = (78 : Int32)
  · rw [if_pos c64] at h
    obtain ⟨r65, e66, h⟩ := q_bind h
    obtain ⟨hg67, h⟩ := q_guard h
    obtain ⟨S68, e69, h⟩ := q_bindS h
    have fx70 : q_Fw wlX12_code q S S68 := e69 ▸ q_Fw.sI (i := 5) (b := 1) (k := 16) (jj := 999) (fx23) rfl rfl (Or.inl rfl) (Or.inl (q_nBq (k := 16) hq (by decide)))
    obtain rfl := Option.some.inj h
    exact fx70
  rw [if_neg c64] at h
  by_cases c71 : r24 = (84 : Int32)
  · rw [if_pos c71] at h
    obtain ⟨r72, e73, h⟩ := q_bind h
    obtain ⟨hg74, h⟩ := q_guard h
    obtain ⟨S75, e76, h⟩ := q_bindS h
    have fx77 : q_Fw wlX12_code q S S75 := e76 ▸ q_Fw.sI (i := 5) (b := 1) (k := 16) (jj := 999) (fx23) rfl rfl (Or.inl rfl) (Or.inl (q_nBq (k := 16) hq (by decide)))
    obtain ⟨hg78, h⟩ := q_guard h
    by_cases c : 0 ≤ (S75.2.1 (q + 16) (S.2.1 q 3).toNatClampNeg)
    · rw [if_pos c] at h
      obtain rfl := Option.some.inj h
      exact fx77
    · rw [if_neg c] at h
      obtain ⟨r79, e80, h⟩ := q_bind h
      have fx81 : q_Fw wlX12_code q S r79.2 := q_Fw.tr (fx77) (((fwX12_wrong e80).nov (p' := q) rfl).up rfl)
      by_cases c : r79.1 = true
      · rw [if_pos c] at h
        obtain rfl := Option.some.inj h
        exact fx81
      · rw [if_neg c] at h
        obtain rfl := Option.some.inj h
        exact fx81
  rw [if_neg c71] at h
  obtain rfl := Option.some.inj h
  exact fx23
theorem fwX12_code_31 {S : QS} {q : Nat} {y2 : Int32} {y3 : Int32} {y4 : Int32} {y5 : Int32} {r : Bool × QS} (hq : q_qok q) (h : fX12_code_31 S q y2 y3 y4 y5 = some r) : q_Fw wlX12_code q S r.2 := by
  unfold fX12_code_31 at h
  by_cases c : (S.2.1 q 4) = (48 : Int32)
  · rw [if_pos c] at h
    obtain ⟨r94, e95, h⟩ := q_bind h
    have fx96 : q_Fw wlX12_code q S r94.2 := q_Fw.tr (q_Fw.rf S) (((fwX12_wrong e95).nov (p' := q) rfl).up rfl)
    obtain rfl := Option.some.inj h
    exact fx96
  · rw [if_neg c] at h
    exact (q_Fw.rf _).tr (fwX12_code_46 hq h)
theorem fwX12_code {S : QS} {q : Nat} {x2 : Int32} {x3 : Int32} {x4 : Int32} {r : Bool × QS} (hq : q_qok q) (h : fX12_code S q x2 x3 x4 = some r) : q_Fw wlX12_code q S r.2 := by
  unfold fX12_code at h
  obtain ⟨r97, e98, h⟩ := q_bind h
  by_cases c : (S.2.1 q 3) = (1024 : Int32)
  · rw [if_pos c] at h
    obtain ⟨r99, e100, h⟩ := q_bind h
    have fx101 : q_Fw wlX12_code q S r99.2 := q_Fw.tr (q_Fw.rf S) (((fwX12_wrong e100).nov (p' := q) rfl).up rfl)
    obtain rfl := Option.some.inj h
    exact fx101
  · rw [if_neg c] at h
    by_cases c : r97 = (30 : Int32)
    · rw [if_pos c] at h
      exact (q_Fw.rf _).tr (fwX12_code_31 hq h)
    · rw [if_neg c] at h
      by_cases c : r97 = (31 : Int32)
      · rw [if_pos c] at h
        exact (q_Fw.rf _).tr (fwX12_code_31 hq h)
      · rw [if_neg c] at h
        exact (q_Fw.rf _).tr (fwX12_code_46 hq h)
def wlX12_linesOf : List (Nat × Nat × Nat) := [(0, 102, 12), (0, 102, 19), (0, 167, 999), (0, 168, 999), (0, 169, 999), (1, 0, 3), (1, 0, 4), (1, 0, 5), (1, 12, 999), (1, 13, 999), (1, 15, 999), (1, 16, 999), (1, 17, 999), (1, 18, 999), (1, 20, 999), (1, 21, 999), (1, 22, 999), (1, 23, 999), (1, 24, 999), (1, 25, 999)]
theorem fwtX12_linesOf_131 {q : Nat} {y2 : Int32} {y6 : Int32} {x : Int32 × QS} {z : (Bool × QS) ⊕ (Int32 × QS)} (hq : q_qok q) (h : tX12_linesOf_131 q y2 y6 x = some z) : q_Fw wlX12_linesOf q ((fun x : Int32 × QS => x.2) x) ((Sum.elim (fun r : Bool × QS => r.2) (fun x : Int32 × QS => x.2)) z) := by
  unfold tX12_linesOf_131 at h
  show q_Fw wlX12_linesOf q x.2 _
  obtain ⟨r1, e2, h⟩ := q_bind h
  by_cases c : r1 = true
  · rw [if_pos c] at h
    obtain ⟨hg3, h⟩ := q_guard h
    obtain ⟨v4, hv, h⟩ := q_bind h
    obtain ⟨v7, hv, h⟩ := q_bind h
    by_cases c : v7 = true
    · rw [if_pos c] at h
      cases h
      exact q_Fw.rf _
    · rw [if_neg c] at h
      obtain ⟨r8, e9, h⟩ := q_bind h
      have fx10 : q_Fw wlX12_linesOf q x.2 r8.2 := q_Fw.tr (q_Fw.rf x.2) (((fwX12_wrong e9).nov (p' := q) rfl).up rfl)
      by_cases c : r8.1 = true
      · rw [if_pos c] at h
        cases h
        exact fx10
      · rw [if_neg c] at h
        cases h
        exact fx10
  · rw [if_neg c] at h
    obtain ⟨r11, e12, h⟩ := q_bind h
    by_cases c : r11 = true
    · rw [if_pos c] at h
      obtain ⟨r25, e26, h⟩ := q_bind h
      by_cases c : r25 < 0
      · rw [if_pos c] at h
        obtain ⟨r27, e28, h⟩ := q_bind h
        have fx29 : q_Fw wlX12_linesOf q x.2 r27.2 := q_Fw.tr (q_Fw.rf x.2) (((fwX12_wrong e28).nov (p' := q) rfl).up rfl)
        cases h
        exact fx29
      · rw [if_neg c] at h
        obtain ⟨r30, e31, h⟩ := q_bind h
        obtain ⟨hg32, h⟩ := q_guard h
        by_cases c : (x.2.2.1 167 r30.toNatClampNeg) = x.1
        · rw [if_pos c] at h
          obtain ⟨r33, e34, h⟩ := q_bind h
          cases h
          exact q_Fw.rf _
        · rw [if_neg c] at h
          obtain ⟨r35, e36, h⟩ := q_bind h
          have fx37 : q_Fw wlX12_linesOf q x.2 r35.2 := q_Fw.tr (q_Fw.rf x.2) (((fwX12_wrong e36).nov (p' := q) rfl).up rfl)
          cases h
          exact fx37
    · rw [if_neg c] at h
      obtain ⟨r13, e14, h⟩ := q_bind h
      by_cases c : r13 = true
      · rw [if_pos c] at h
        obtain ⟨r20, e21, h⟩ := q_bind h
        have fx22 : q_Fw wlX12_linesOf q x.2 r20.2 := q_Fw.tr (q_Fw.rf x.2) ((fwX12_catchLine hq e21).up rfl)
        by_cases c : r20.1 = true
        · rw [if_pos c] at h
          obtain ⟨r23, e24, h⟩ := q_bind h
          cases h
          exact fx22
        · rw [if_neg c] at h
          cases h
          exact fx22
      · rw [if_neg c] at h
        obtain ⟨r15, e16, h⟩ := q_bind h
        have fx17 : q_Fw wlX12_linesOf q x.2 r15.2 := q_Fw.tr (q_Fw.rf x.2) ((fwX12_code hq e16).up rfl)
        by_cases c : r15.1 = true
        · rw [if_pos c] at h
          obtain ⟨r18, e19, h⟩ := q_bind h
          cases h
          exact fx17
        · rw [if_neg c] at h
          cases h
          exact fx17
theorem fwX12_linesOf_131 {S : QS} {q : Nat} {y2 : Int32} {y5 : Int32} {y6 : Int32} {r : Bool × QS} (hq : q_qok q) (h : fX12_linesOf_131 S q y2 y5 y6 = some r) : q_Fw wlX12_linesOf q S ((fun r : Bool × QS => r.2) r) := q_run_fw (fun x : Int32 × QS => x.2) (fun r : Bool × QS => r.2) (fun _ _ hz => fwtX12_linesOf_131 hq hz) h
theorem fwtX12_linesOf_33 {q : Nat} {y2 : Int32} {y3 : Int32} {x : Int32 × Int32 × QS} {z : (Bool × QS) ⊕ (Int32 × Int32 × QS)} (hq : q_qok q) (h : tX12_linesOf_33 q y2 y3 x = some z) : q_Fw wlX12_linesOf q ((fun x : Int32 × Int32 × QS => x.2.2) x) ((Sum.elim (fun r : Bool × QS => r.2) (fun x : Int32 × Int32 × QS => x.2.2)) z) := by
  unfold tX12_linesOf_33 at h
  show q_Fw wlX12_linesOf q x.2.2 _
  obtain ⟨r38, e39, h⟩ := q_bind h
  by_cases c : r38 = true
  · rw [if_pos c] at h
    obtain ⟨hg40, h⟩ := q_guard h
    obtain ⟨S41, e42, h⟩ := q_bindS h
    have fx43 : q_Fw wlX12_linesOf q x.2.2 S41 := e42 ▸ q_Fw.sI (i := 9) (b := 1) (k := 13) (jj := 999) (q_Fw.rf x.2.2) rfl rfl (Or.inl rfl) (Or.inl (q_nBq (k := 13) hq (by decide)))
    obtain ⟨r44, e45, h⟩ := q_bind h
    cases h
    exact (fx43).tr (fwX12_linesOf_131 hq e45)
  · rw [if_neg c] at h
    obtain ⟨r46, e47, h⟩ := q_bind h
    obtain ⟨v61, hv, h⟩ := q_bind h
    have fx62 : q_Fw wlX12_linesOf q x.2.2 v61.2 := by
      replace h := hv
      by_cases c : r46 = true
      · rw [if_pos c] at h
        obtain ⟨hg50, h⟩ := q_guard h
        obtain ⟨S51, e52, h⟩ := q_bindS h
        have fx53 : q_Fw wlX12_linesOf q x.2.2 S51 := e52 ▸ q_Fw.sI (i := 2) (b := 0) (k := 167) (jj := 999) (q_Fw.rf x.2.2) rfl rfl (Or.inl rfl) (Or.inl rfl)
        obtain ⟨hg54, h⟩ := q_guard h
        obtain ⟨S55, e56, h⟩ := q_bindS h
        have fx57 : q_Fw wlX12_linesOf q x.2.2 S55 := e56 ▸ q_Fw.sI (i := 3) (b := 0) (k := 168) (jj := 999) (fx53) rfl rfl (Or.inl rfl) (Or.inl rfl)
        obtain ⟨S58, e59, h⟩ := q_bindS h
        have fx60 : q_Fw wlX12_linesOf q x.2.2 S58 := e59 ▸ q_Fw.sI (i := 1) (b := 0) (k := 102) (jj := 19) (fx57) rfl rfl (Or.inr rfl) (Or.inl rfl)
        obtain rfl := Option.some.inj h
        exact fx60
      · rw [if_neg c] at h
        obtain ⟨r48, e49, h⟩ := q_bind h
        by_cases c : r48 = true
        · rw [if_pos c] at h
          obtain rfl := Option.some.inj h
          exact q_Fw.rf _
        · rw [if_neg c] at h
          obtain rfl := Option.some.inj h
          exact q_Fw.rf _
    obtain ⟨r63, e64, h⟩ := q_bind h
    cases h
    exact fx62
theorem fwX12_linesOf_33 {S : QS} {q : Nat} {y2 : Int32} {y3 : Int32} {y4 : Int32} {y5 : Int32} {r : Bool × QS} (hq : q_qok q) (h : fX12_linesOf_33 S q y2 y3 y4 y5 = some r) : q_Fw wlX12_linesOf q S ((fun r : Bool × QS => r.2) r) := q_run_fw (fun x : Int32 × Int32 × QS => x.2.2) (fun r : Bool × QS => r.2) (fun _ _ hz => fwtX12_linesOf_33 hq hz) h
theorem fwX12_linesOf {S : QS} {q : Nat} {x2 : Int32} {r : Bool × QS} (hq : q_qok q) (h : fX12_linesOf S q x2 = some r) : q_Fw wlX12_linesOf q S r.2 := by
  unfold fX12_linesOf at h
  obtain ⟨hg65, h⟩ := q_guard h
  obtain ⟨hg66, h⟩ := q_guard h
  obtain ⟨S67, e68, h⟩ := q_bindS h
  have fx69 : q_Fw wlX12_linesOf q S S67 := e68 ▸ q_Fw.sI (i := 8) (b := 1) (k := 12) (jj := 999) (q_Fw.rf S) rfl rfl (Or.inl rfl) (Or.inl (q_nBq (k := 12) hq (by decide)))
  obtain ⟨S70, e71, h⟩ := q_bindS h
  have fx72 : q_Fw wlX12_linesOf q S S70 := e71 ▸ q_Fw.sI (i := 1) (b := 0) (k := 102) (jj := 19) (fx69) rfl rfl (Or.inr rfl) (Or.inl rfl)
  exact (fx72).tr (fwX12_linesOf_33 hq h)
def wlX12_lines : List (Nat × Nat × Nat) := [(0, 102, 12), (0, 102, 19), (0, 167, 999), (0, 168, 999), (0, 169, 999), (1, 0, 3), (1, 0, 4), (1, 0, 5), (1, 12, 999), (1, 13, 999), (1, 15, 999), (1, 16, 999), (1, 17, 999), (1, 18, 999), (1, 20, 999), (1, 21, 999), (1, 22, 999), (1, 23, 999), (1, 24, 999), (1, 25, 999)]
theorem fwtX12_lines_17 {q : Nat}  {x : Int32 × QS} {z : (Bool × QS) ⊕ (Int32 × QS)} (hq : q_qok q) (h : tX12_lines_17 q x = some z) : q_Fw wlX12_lines q ((fun x : Int32 × QS => x.2) x) ((Sum.elim (fun r : Bool × QS => r.2) (fun x : Int32 × QS => x.2)) z) := by
  unfold tX12_lines_17 at h
  show q_Fw wlX12_lines q x.2 _
  by_cases c : (x.2.2.1 q 2) ≤ x.1
  · rw [if_pos c] at h
    cases h
    exact q_Fw.rf _
  · rw [if_neg c] at h
    obtain ⟨r1, e2, h⟩ := q_bind h
    have fx3 : q_Fw wlX12_lines q x.2 r1.2 := q_Fw.tr (q_Fw.rf x.2) ((fwX12_linesOf hq e2).up rfl)
    by_cases c : r1.1 = true
    · rw [if_pos c] at h
      cases h
      exact fx3
    · rw [if_neg c] at h
      cases h
      exact fx3
theorem fwX12_lines_17 {S : QS} {q : Nat} {y2 : Int32} {r : Bool × QS} (hq : q_qok q) (h : fX12_lines_17 S q y2 = some r) : q_Fw wlX12_lines q S ((fun r : Bool × QS => r.2) r) := q_run_fw (fun x : Int32 × QS => x.2) (fun r : Bool × QS => r.2) (fun _ _ hz => fwtX12_lines_17 hq hz) h
theorem fwX12_lines {S : QS} {q : Nat}  {r : Bool × QS} (hq : q_qok q) (h : fX12_lines S q = some r) : q_Fw wlX12_lines q S r.2 := by
  unfold fX12_lines at h
  obtain ⟨S4, e5, h⟩ := q_bindS h
  have fx6 : q_Fw wlX12_lines q S S4 := e5 ▸ q_Fw.sI (i := 5) (b := 1) (k := 0) (jj := 3) (q_Fw.rf S) rfl rfl (Or.inr rfl) (Or.inl (q_nBq (k := 0) hq (by decide)))
  obtain ⟨S7, e8, h⟩ := q_bindS h
  have fx9 : q_Fw wlX12_lines q S S7 := e8 ▸ q_Fw.sI (i := 6) (b := 1) (k := 0) (jj := 4) (fx6) rfl rfl (Or.inr rfl) (Or.inl (q_nBq (k := 0) hq (by decide)))
  obtain ⟨S10, e11, h⟩ := q_bindS h
  have fx12 : q_Fw wlX12_lines q S S10 := e11 ▸ q_Fw.sI (i := 7) (b := 1) (k := 0) (jj := 5) (fx9) rfl rfl (Or.inr rfl) (Or.inl (q_nBq (k := 0) hq (by decide)))
  exact (fx12).tr (fwX12_lines_17 hq h)
def wlX12_settled : List (Nat × Nat × Nat) := [(0, 102, 12), (1, 0, 6), (1, 2, 999), (1, 5, 999), (1, 14, 999), (1, 20, 999)]
theorem fwtX12_settled_183 {q : Nat}  {x : Int32 × QS} {z : (Bool × QS) ⊕ (Int32 × QS)} (hq : q_qok q) (h : tX12_settled_183 q x = some z) : q_Fw wlX12_settled q ((fun x : Int32 × QS => x.2) x) ((Sum.elim (fun r : Bool × QS => r.2) (fun x : Int32 × QS => x.2)) z) := by
  unfold tX12_settled_183 at h
  show q_Fw wlX12_settled q x.2 _
  by_cases c : (x.2.2.1 q 2) ≤ x.1
  · rw [if_pos c] at h
    by_cases c : 0 ≤ (x.2.2.1 q 6)
    · rw [if_pos c] at h
      cases h
      exact q_Fw.rf _
    · rw [if_neg c] at h
      obtain ⟨r1, e2, h⟩ := q_bind h
      have fx3 : q_Fw wlX12_settled q x.2 r1.2 := q_Fw.tr (q_Fw.rf x.2) (((fwX12_wrong e2).nov (p' := q) rfl).up rfl)
      by_cases c : r1.1 = true
      · rw [if_pos c] at h
        cases h
        exact fx3
      · rw [if_neg c] at h
        cases h
        exact fx3
  · rw [if_neg c] at h
    obtain ⟨hg4, h⟩ := q_guard h
    obtain ⟨hg5, h⟩ := q_guard h
    obtain ⟨r6, e7, h⟩ := q_bind h
    by_cases c : r6 = true
    · rw [if_pos c] at h
      obtain ⟨hg8, h⟩ := q_guard h
      obtain ⟨r9, e10, h⟩ := q_bind h
      by_cases c : r9 = true
      · rw [if_pos c] at h
        obtain ⟨hg11, h⟩ := q_guard h
        by_cases c : (x.2.2.1 (q + 7) x.1.toNatClampNeg) = 0
        · rw [if_pos c] at h
          obtain ⟨hg12, h⟩ := q_guard h
          by_cases c : (x.2.2.1 (q + 8) x.1.toNatClampNeg) = 0
          · rw [if_pos c] at h
            obtain ⟨hg13, h⟩ := q_guard h
            by_cases c : (x.2.2.1 (q + 10) x.1.toNatClampNeg) = (-1 : Int32)
            · rw [if_pos c] at h
              obtain ⟨S14, e15, h⟩ := q_bindS h
              have fx16 : q_Fw wlX12_settled q x.2 S14 := e15 ▸ q_Fw.sI (i := 1) (b := 1) (k := 0) (jj := 6) (q_Fw.rf x.2) rfl rfl (Or.inr rfl) (Or.inl (q_nBq (k := 0) hq (by decide)))
              cases h
              exact fx16
            · rw [if_neg c] at h
              cases h
              exact q_Fw.rf _
          · rw [if_neg c] at h
            cases h
            exact q_Fw.rf _
        · rw [if_neg c] at h
          cases h
          exact q_Fw.rf _
      · rw [if_neg c] at h
        cases h
        exact q_Fw.rf _
    · rw [if_neg c] at h
      cases h
      exact q_Fw.rf _
theorem fwX12_settled_183 {S : QS} {q : Nat} {y2 : Int32} {r : Bool × QS} (hq : q_qok q) (h : fX12_settled_183 S q y2 = some r) : q_Fw wlX12_settled q S ((fun r : Bool × QS => r.2) r) := q_run_fw (fun x : Int32 × QS => x.2) (fun r : Bool × QS => r.2) (fun _ _ hz => fwtX12_settled_183 hq hz) h
theorem fwtX12_settled_113 {q : Nat}  {x : Int32 × Int32 × QS} {z : ((Bool × QS) ⊕ (Int32 × QS)) ⊕ (Int32 × Int32 × QS)} (hq : q_qok q) (h : tX12_settled_113 q x = some z) : q_Fw wlX12_settled q ((fun x : Int32 × Int32 × QS => x.2.2) x) ((Sum.elim (Sum.elim (fun r : Bool × QS => r.2) (fun x : Int32 × QS => x.2)) (fun x : Int32 × Int32 × QS => x.2.2)) z) := by
  unfold tX12_settled_113 at h
  show q_Fw wlX12_settled q x.2.2 _
  by_cases c : (x.2.2.2.1 q 2) ≤ x.2.1
  · rw [if_pos c] at h
    cases h
    exact q_Fw.rf _
  · rw [if_neg c] at h
    obtain ⟨hg17, h⟩ := q_guard h
    obtain ⟨hg18, h⟩ := q_guard h
    obtain ⟨hg19, h⟩ := q_guard h
    obtain ⟨hg20, h⟩ := q_guard h
    obtain ⟨r21, e22, h⟩ := q_bind h
    obtain ⟨hg23, h⟩ := q_guard h
    obtain ⟨S24, e25, h⟩ := q_bindS h
    have fx26 : q_Fw wlX12_settled q x.2.2 S24 := e25 ▸ q_Fw.sI (i := 4) (b := 1) (k := 14) (jj := 999) (q_Fw.rf x.2.2) rfl rfl (Or.inl rfl) (Or.inl (q_nBq (k := 14) hq (by decide)))
    cases h
    exact fx26
theorem fwuX12_settled_113 {S : QS} {q : Nat} {y2 : Int32} {y4 : Int32} {r : (Bool × QS) ⊕ (Int32 × QS)} (hq : q_qok q) (h : uX12_settled_113 S q y2 y4 = some r) : q_Fw wlX12_settled q S ((Sum.elim (fun r : Bool × QS => r.2) (fun x : Int32 × QS => x.2)) r) := q_run_fw (fun x : Int32 × Int32 × QS => x.2.2) (Sum.elim (fun r : Bool × QS => r.2) (fun x : Int32 × QS => x.2)) (fun _ _ hz => fwtX12_settled_113 hq hz) h
theorem fwtX12_settled_66 {q : Nat} {y2 : Int32} {x : Int32 × Int32 × QS} {z : ((Bool × QS) ⊕ (Int32 × QS)) ⊕ (Int32 × Int32 × QS)} (hq : q_qok q) (h : tX12_settled_66 q y2 x = some z) : q_Fw wlX12_settled q ((fun x : Int32 × Int32 × QS => x.2.2) x) ((Sum.elim (Sum.elim (fun r : Bool × QS => r.2) (fun x : Int32 × QS => x.2)) (fun x : Int32 × Int32 × QS => x.2.2)) z) := by
  unfold tX12_settled_66 at h
  show q_Fw wlX12_settled q x.2.2 _
  by_cases c : (x.2.2.2.1 q 1) ≤ x.2.1
  · rw [if_pos c] at h
    obtain ⟨hg27, h⟩ := q_guard h
    obtain ⟨S28, e29, h⟩ := q_bindS h
    have fx30 : q_Fw wlX12_settled q x.2.2 S28 := e29 ▸ q_Fw.sI (i := 2) (b := 1) (k := 2) (jj := 999) (q_Fw.rf x.2.2) rfl rfl (Or.inl rfl) (Or.inl (q_nBq (k := 2) hq (by decide)))
    obtain ⟨r31, e32, h⟩ := q_bind h
    cases h
    exact (fx30).tr (fwuX12_settled_113 hq e32)
  · rw [if_neg c] at h
    obtain ⟨hg33, h⟩ := q_guard h
    by_cases c : (x.2.2.2.1 (q + 3) x.2.1.toNatClampNeg) = y2
    · rw [if_pos c] at h
      obtain ⟨hg34, h⟩ := q_guard h
      obtain ⟨S35, e36, h⟩ := q_bindS h
      have fx37 : q_Fw wlX12_settled q x.2.2 S35 := e36 ▸ q_Fw.sI (i := 3) (b := 1) (k := 5) (jj := 999) (q_Fw.rf x.2.2) rfl rfl (Or.inl rfl) (Or.inl (q_nBq (k := 5) hq (by decide)))
      cases h
      exact fx37
    · rw [if_neg c] at h
      cases h
      exact q_Fw.rf _
theorem fwuX12_settled_66 {S : QS} {q : Nat} {y2 : Int32} {y3 : Int32} {y4 : Int32} {r : (Bool × QS) ⊕ (Int32 × QS)} (hq : q_qok q) (h : uX12_settled_66 S q y2 y3 y4 = some r) : q_Fw wlX12_settled q S ((Sum.elim (fun r : Bool × QS => r.2) (fun x : Int32 × QS => x.2)) r) := q_run_fw (fun x : Int32 × Int32 × QS => x.2.2) (Sum.elim (fun r : Bool × QS => r.2) (fun x : Int32 × QS => x.2)) (fun _ _ hz => fwtX12_settled_66 hq hz) h
theorem fwtX12_settled_29 {q : Nat}  {x : Int32 × QS} {z : (Bool × QS) ⊕ (Int32 × QS)} (hq : q_qok q) (h : tX12_settled_29 q x = some z) : q_Fw wlX12_settled q ((fun x : Int32 × QS => x.2) x) ((Sum.elim (fun r : Bool × QS => r.2) (fun x : Int32 × QS => x.2)) z) := by
  unfold tX12_settled_29 at h
  show q_Fw wlX12_settled q x.2 _
  obtain ⟨r38, e39, h⟩ := q_bind h
  by_cases c : r38 ≤ x.1
  · rw [if_pos c] at h
    obtain ⟨S40, e41, h⟩ := q_bindS h
    have fx42 : q_Fw wlX12_settled q x.2 S40 := e41 ▸ q_Fw.sI (i := 1) (b := 1) (k := 0) (jj := 6) (q_Fw.rf x.2) rfl rfl (Or.inr rfl) (Or.inl (q_nBq (k := 0) hq (by decide)))
    obtain ⟨r43, e44, h⟩ := q_bind h
    cases h
    exact (fx42).tr (fwX12_settled_183 hq e44)
  · rw [if_neg c] at h
    obtain ⟨hg45, h⟩ := q_guard h
    by_cases c : 0 ≤ (x.2.2.1 (q + 1) x.1.toNatClampNeg)
    · rw [if_pos c] at h
      obtain ⟨hg46, h⟩ := q_guard h
      obtain ⟨hg47, h⟩ := q_guard h
      exact (q_Fw.rf _).tr (fwuX12_settled_66 hq h)
    · rw [if_neg c] at h
      exact (q_Fw.rf _).tr (fwuX12_settled_66 hq h)
theorem fwX12_settled_29 {S : QS} {q : Nat} {y2 : Int32} {r : Bool × QS} (hq : q_qok q) (h : fX12_settled_29 S q y2 = some r) : q_Fw wlX12_settled q S ((fun r : Bool × QS => r.2) r) := q_run_fw (fun x : Int32 × QS => x.2) (fun r : Bool × QS => r.2) (fun _ _ hz => fwtX12_settled_29 hq hz) h
theorem fwtX12_settled_2 {q : Nat}  {x : Int32 × QS} {z : (Bool × QS) ⊕ (Int32 × QS)} (hq : q_qok q) (h : tX12_settled_2 q x = some z) : q_Fw wlX12_settled q ((fun x : Int32 × QS => x.2) x) ((Sum.elim (fun r : Bool × QS => r.2) (fun x : Int32 × QS => x.2)) z) := by
  unfold tX12_settled_2 at h
  show q_Fw wlX12_settled q x.2 _
  by_cases c : (6 : Int32) ≤ x.1
  · rw [if_pos c] at h
    obtain ⟨r48, e49, h⟩ := q_bind h
    cases h
    exact (q_Fw.rf _).tr (fwX12_settled_29 hq e49)
  · rw [if_neg c] at h
    obtain ⟨hg50, h⟩ := q_guard h
    obtain ⟨S51, e52, h⟩ := q_bindS h
    have fx53 : q_Fw wlX12_settled q x.2 S51 := e52 ▸ q_Fw.sI (i := 5) (b := 1) (k := 20) (jj := 999) (q_Fw.rf x.2) rfl rfl (Or.inl rfl) (Or.inl (q_nBq (k := 20) hq (by decide)))
    cases h
    exact fx53
theorem fwX12_settled_2 {S : QS} {q : Nat} {y2 : Int32} {r : Bool × QS} (hq : q_qok q) (h : fX12_settled_2 S q y2 = some r) : q_Fw wlX12_settled q S ((fun r : Bool × QS => r.2) r) := q_run_fw (fun x : Int32 × QS => x.2) (fun r : Bool × QS => r.2) (fun _ _ hz => fwtX12_settled_2 hq hz) h
theorem fwX12_settled {S : QS} {q : Nat}  {r : Bool × QS} (hq : q_qok q) (h : fX12_settled S q = some r) : q_Fw wlX12_settled q S r.2 := by
  unfold fX12_settled at h
  exact (q_Fw.rf _).tr (fwX12_settled_2 hq h)
def wlX12_added : List (Nat × Nat × Nat) := [(0, 170, 999)]
theorem fwX12_added {S : QS}  {x1 : Int32} {x2 : Int32} {r : Bool × QS} (h : fX12_added S x1 x2 = some r) : q_Fw wlX12_added 0 S r.2 := by
  unfold fX12_added at h
  obtain ⟨hg1, h⟩ := q_guard h
  obtain ⟨hg2, h⟩ := q_guard h
  obtain ⟨v3, hv, h⟩ := q_bind h
  obtain ⟨hg4, h⟩ := q_guard h
  obtain ⟨hg5, h⟩ := q_guard h
  obtain ⟨S6, e7, h⟩ := q_bindS h
  have fx8 : q_Fw wlX12_added 0 S S6 := e7 ▸ q_Fw.sI (i := 0) (b := 0) (k := 170) (jj := 999) (q_Fw.rf S) rfl rfl (Or.inl rfl) (Or.inl rfl)
  obtain rfl := Option.some.inj h
  exact fx8
