set_option maxRecDepth 20000 in
theorem sX12_fault_70 {g : QG} {Q : Option Value → QS → Prop} {q : Nat}  {x : Int32 × QS} {z : (Int32 × QS) ⊕ (Int32 × QS)} (w : q_Wire x.2) (hq : q_qok q) (h : tX12_fault_70 q x = some z) (hQ : (Sum.elim (fun r0 : Int32 × QS => Q (some (.int r0.1)) r0.2) (fun y : Int32 × QS => q_L g mX12_fault 11 0 0 Q 0 0 70 [(0, .ref 102), (1, .ref q), (2, .int y.1)] [] y.2) z)) : q_L g mX12_fault 11 0 0 Q 0 0 70 [(0, .ref 102), (1, .ref q), (2, .int x.1)] [] x.2 := by
  unfold tX12_fault_70 at h
  refine q_iload_n 2 rfl rfl dX12_fault_70 ?_
  refine q_aload_n 1 rfl rfl dX12_fault_71 ?_
  refine q_getI (q_shQ0 w hq) (by decide) (by decide) rfl lfX12_267 dX12_fault_72 ?_
  refine q_icmp_ge 104 (by decide) dX12_fault_75 (fun c => ?_) (fun c => ?_)
  · rw [if_pos c] at h
    refine q_aload_n 0 rfl rfl dX12_fault_104 ?_
    refine q_iconst (v := (-1 : Int32)) (by decide) dX12_fault_105 ?_
    refine q_putI (q_sh102 w) (by decide) (by decide) rfl rfl ⟨rfl, rfl⟩ lfX12_33 dX12_fault_106 ?_
    obtain ⟨S1, e2, h⟩ := q_bindS h
    refine q_st e2 ?_
    have fx3 : q_Fx x.2 S1 := e2 ▸ q_Fx.sI (q_Fx.rf x.2)
    refine q_iconst (v := (0 : Int32)) (by decide) dX12_fault_109 ?_
    cases h
    exact q_iret rfl rfl dX12_fault_110 hQ
  · rw [if_neg c] at h
    refine q_aload_n 0 rfl rfl dX12_fault_78 ?_
    refine q_aload_n 1 rfl rfl dX12_fault_79 ?_
    refine q_iload_n 2 rfl rfl dX12_fault_80 ?_
    obtain ⟨r4, e5, h⟩ := q_bind h
    refine q_callV (ci := 12) (d := 10) (Mc := mX12_heights) (kc := 0) (nc := 0) [.ref q, .int x.1] okX12_heights (q_sh102 w) (by decide) rfl lmX12_504 inX12_heights seX12_heights rfl (Nat.le_of_ble_eq_true rfl) (Nat.le_of_ble_eq_true rfl) (Nat.le_refl _) (Nat.le_refl _) dX12_fault_81 (q_L.deep (by decide) (kX12_heights (Q := fun r S' => r = some (.int (q_b r4.1)) ∧ S' = r4.2) w hq e5 ⟨rfl, rfl⟩)) (q_kI ?_)
    have fx6 : q_Fx x.2 r4.2 := q_Fx.tr (q_Fx.rf x.2) (fxX12_heights e5)
    refine q_if_eq 96 (by decide) dX12_fault_84 (fun c => ?_) (fun c => ?_)
    · have c := q_b_0.mp c; rw [q_if0 c] at h
      refine q_iconst (v := (4 : Int32)) (by decide) dX12_fault_96 ?_
      cases h
      exact q_iret rfl rfl dX12_fault_97 hQ
    · have c := q_b_n.mp c; rw [q_if1 c] at h
      refine q_aload_n 0 rfl rfl dX12_fault_87 ?_
      refine q_aload_n 1 rfl rfl dX12_fault_88 ?_
      refine q_iload_n 2 rfl rfl dX12_fault_89 ?_
      obtain ⟨r7, e8, h⟩ := q_bind h
      refine q_callV (ci := 12) (d := 10) (Mc := mX12_types) (kc := 0) (nc := 0) [.ref q, .int x.1] okX12_types (q_sh102 (w.fx fx6)) (by decide) rfl lmX12_506 inX12_types seX12_types rfl (Nat.le_of_ble_eq_true rfl) (Nat.le_of_ble_eq_true rfl) (Nat.le_refl _) (Nat.le_refl _) dX12_fault_90 (q_L.deep (by decide) (kX12_types (Q := fun r S' => r = some (.int (q_b r7.1)) ∧ S' = r7.2) (w.fx fx6) hq e8 ⟨rfl, rfl⟩)) (q_kI ?_)
      have fx9 : q_Fx x.2 r7.2 := q_Fx.tr (fx6) (fxX12_types e8)
      refine q_if_ne 98 (by decide) dX12_fault_93 (fun c => ?_) (fun c => ?_)
      · have c := q_b_n.mp c; rw [q_if1 c] at h
        refine q_iinc (v := (x.1 + (1 : Int32))) 2 [(2, .int (x.1 + (1 : Int32))), (0, .ref 102), (1, .ref q)] (by decide) rfl (congrArg (fun t => x.1 + t) (by decide)) rfl dX12_fault_98 ?_
        refine q_goto 70 (by decide) dX12_fault_101 ?_
        refine q_sub [1, 2, 0] rfl ?_
        cases h
        exact hQ
      · have c := q_b_0.mp c; rw [q_if0 c] at h
        refine q_iconst (v := (4 : Int32)) (by decide) dX12_fault_96 ?_
        cases h
        exact q_iret rfl rfl dX12_fault_97 hQ
theorem lX12_fault_70 {g : QG} {Q : Option Value → QS → Prop} {q : Nat}  {r : Int32 × QS} (hq : q_qok q) (hQ : Q (some (.int r.1)) r.2) : ∀ (c : Nat) (x : Int32 × QS), q_Wire x.2 → q_it (tX12_fault_70 q) c x = some r → q_L g mX12_fault 11 0 0 Q 0 0 70 [(0, .ref 102), (1, .ref q), (2, .int x.1)] [] x.2 := by
  intro c
  induction c with
  | zero => intro x w h; cases h
  | succ c ih =>
    intro x w h
    simp only [q_it] at h
    cases hz : tX12_fault_70 q x with
    | none => rw [hz] at h; cases h
    | some z =>
      rw [hz] at h
      refine sX12_fault_70 w hq hz ?_
      rcases z with z | y
      · cases h; exact hQ
      · have fz := fxtX12_fault_70 hz; exact ih y (w.fx fz) h
theorem kX12_fault_70 {S : QS} {g : QG} {Q : Option Value → QS → Prop} {q : Nat} {y2 : Int32} {r : Int32 × QS} (w : q_Wire S) (hq : q_qok q) (h : fX12_fault_70 S q y2 = some r) (hQ : Q (some (.int r.1)) r.2) : q_L g mX12_fault 11 0 0 Q 0 0 70 [(0, .ref 102), (1, .ref q), (2, .int y2)] [] S := by
  obtain ⟨c, hc⟩ := q_run_it h
  exact lX12_fault_70 hq hQ c (y2, S) w hc
set_option maxRecDepth 20000 in
theorem kX12_fault {S : QS} {g : QG} {Q : Option Value → QS → Prop} {q : Nat}  {r : Int32 × QS} (w : q_Wire S) (hq : q_qok q) (h : fX12_fault S q = some r) (hQ : Q (some (.int r.1)) r.2) : q_M g mX12_fault 11 0 0 [.ref 102, .ref q] S Q := by
  unfold fX12_fault at h
  show q_L g mX12_fault 11 0 0 Q 0 0 0 [(0, .ref 102), (1, .ref q)] [] S
  refine q_aload_n 0 rfl rfl dX12_fault_0 ?_
  obtain ⟨r10, e11, h⟩ := q_bind h
  refine q_callV (ci := 12) (d := 10) (Mc := mX12_cut) (kc := 0) (nc := 0) [] okX12_cut (q_sh102 w) (by decide) rfl lmX12_485 inX12_cut seX12_cut rfl (Nat.le_of_ble_eq_true rfl) (Nat.le_of_ble_eq_true rfl) (Nat.le_refl _) (Nat.le_refl _) dX12_fault_1 (q_L.deep (by decide) (kX12_cut (Q := fun r S' => r = some (.int (q_b r10.1)) ∧ S' = r10.2) w e11 ⟨rfl, rfl⟩)) (q_kI ?_)
  have fx12 : q_Fx S r10.2 := q_Fx.tr (q_Fx.rf S) (fxX12_cut e11)
  refine q_if_ne 17 (by decide) dX12_fault_4 (fun c => ?_) (fun c => ?_)
  · have c := q_b_n.mp c; rw [q_if1 c] at h
    refine q_aload_n 0 rfl rfl dX12_fault_17 ?_
    obtain ⟨r13, e14, h⟩ := q_bind h
    refine q_callV (ci := 12) (d := 10) (Mc := mX12_isProgram) (kc := 0) (nc := 0) [] okX12_isProgram (q_sh102 (w.fx fx12)) (by decide) rfl lmX12_488 inX12_isProgram seX12_isProgram rfl (Nat.le_of_ble_eq_true rfl) (Nat.le_of_ble_eq_true rfl) (Nat.le_refl _) (Nat.le_refl _) dX12_fault_18 (q_L.deep (by decide) (kX12_isProgram (Q := fun r S' => r = some (.int (q_b r13.1)) ∧ S' = r13.2) (w.fx fx12) e14 ⟨rfl, rfl⟩)) (q_kI ?_)
    have fx15 : q_Fx S r13.2 := q_Fx.tr (fx12) (fxX12_isProgram e14)
    refine q_if_ne 34 (by decide) dX12_fault_21 (fun c => ?_) (fun c => ?_)
    · have c := q_b_n.mp c; rw [q_if1 c] at h
      refine q_aload_n 0 rfl rfl dX12_fault_34 ?_
      refine q_aload_n 1 rfl rfl dX12_fault_35 ?_
      obtain ⟨r16, e17, h⟩ := q_bind h
      refine q_callV (ci := 12) (d := 10) (Mc := mX12_classNames) (kc := 0) (nc := 0) [.ref q] okX12_classNames (q_sh102 (w.fx fx15)) (by decide) rfl lmX12_491 inX12_classNames seX12_classNames rfl (Nat.le_of_ble_eq_true rfl) (Nat.le_of_ble_eq_true rfl) (Nat.le_refl _) (Nat.le_refl _) dX12_fault_36 (q_L.deep (by decide) (kX12_classNames (Q := fun r S' => r = some (.int (q_b r16.1)) ∧ S' = r16.2) (w.fx fx15) hq e17 ⟨rfl, rfl⟩)) (q_kI ?_)
      have fx18 : q_Fx S r16.2 := q_Fx.tr (fx15) (fxX12_classNames e17)
      refine q_if_eq 66 (by decide) dX12_fault_39 (fun c => ?_) (fun c => ?_)
      · have c := q_b_0.mp c; rw [q_if0 c] at h
        refine q_iconst (v := (3 : Int32)) (by decide) dX12_fault_66 ?_
        obtain rfl := Option.some.inj h
        exact q_iret rfl rfl dX12_fault_67 hQ
      · have c := q_b_n.mp c; rw [q_if1 c] at h
        refine q_aload_n 0 rfl rfl dX12_fault_42 ?_
        refine q_aload_n 1 rfl rfl dX12_fault_43 ?_
        obtain ⟨r19, e20, h⟩ := q_bind h
        refine q_callV (ci := 12) (d := 10) (Mc := mX12_members) (kc := 0) (nc := 0) [.ref q] okX12_members (q_sh102 (w.fx fx18)) (by decide) rfl lmX12_495 inX12_members seX12_members rfl (Nat.le_of_ble_eq_true rfl) (Nat.le_of_ble_eq_true rfl) (Nat.le_refl _) (Nat.le_refl _) dX12_fault_44 (q_L.deep (by decide) (kX12_members (Q := fun r S' => r = some (.int (q_b r19.1)) ∧ S' = r19.2) (w.fx fx18) hq e20 ⟨rfl, rfl⟩)) (q_kI ?_)
        have fx21 : q_Fx S r19.2 := q_Fx.tr (fx18) (fxX12_members e20)
        refine q_if_eq 66 (by decide) dX12_fault_47 (fun c => ?_) (fun c => ?_)
        · have c := q_b_0.mp c; rw [q_if0 c] at h
          refine q_iconst (v := (3 : Int32)) (by decide) dX12_fault_66 ?_
          obtain rfl := Option.some.inj h
          exact q_iret rfl rfl dX12_fault_67 hQ
        · have c := q_b_n.mp c; rw [q_if1 c] at h
          refine q_aload_n 0 rfl rfl dX12_fault_50 ?_
          refine q_aload_n 1 rfl rfl dX12_fault_51 ?_
          obtain ⟨r22, e23, h⟩ := q_bind h
          refine q_callV (ci := 12) (d := 10) (Mc := mX12_lines) (kc := 0) (nc := 0) [.ref q] okX12_lines (q_sh102 (w.fx fx21)) (by decide) rfl lmX12_498 inX12_lines seX12_lines rfl (Nat.le_of_ble_eq_true rfl) (Nat.le_of_ble_eq_true rfl) (Nat.le_refl _) (Nat.le_refl _) dX12_fault_52 (q_L.deep (by decide) (kX12_lines (Q := fun r S' => r = some (.int (q_b r22.1)) ∧ S' = r22.2) (w.fx fx21) hq e23 ⟨rfl, rfl⟩)) (q_kI ?_)
          have fx24 : q_Fx S r22.2 := q_Fx.tr (fx21) (fxX12_lines e23)
          refine q_if_eq 66 (by decide) dX12_fault_55 (fun c => ?_) (fun c => ?_)
          · have c := q_b_0.mp c; rw [q_if0 c] at h
            refine q_iconst (v := (3 : Int32)) (by decide) dX12_fault_66 ?_
            obtain rfl := Option.some.inj h
            exact q_iret rfl rfl dX12_fault_67 hQ
          · have c := q_b_n.mp c; rw [q_if1 c] at h
            refine q_aload_n 0 rfl rfl dX12_fault_58 ?_
            refine q_aload_n 1 rfl rfl dX12_fault_59 ?_
            obtain ⟨r25, e26, h⟩ := q_bind h
            refine q_callV (ci := 12) (d := 10) (Mc := mX12_settled) (kc := 0) (nc := 0) [.ref q] okX12_settled (q_sh102 (w.fx fx24)) (by decide) rfl lmX12_501 inX12_settled seX12_settled rfl (Nat.le_of_ble_eq_true rfl) (Nat.le_of_ble_eq_true rfl) (Nat.le_refl _) (Nat.le_refl _) dX12_fault_60 (q_L.deep (by decide) (kX12_settled (Q := fun r S' => r = some (.int (q_b r25.1)) ∧ S' = r25.2) (w.fx fx24) hq e26 ⟨rfl, rfl⟩)) (q_kI ?_)
            have fx27 : q_Fx S r25.2 := q_Fx.tr (fx24) (fxX12_settled e26)
            refine q_if_ne 68 (by decide) dX12_fault_63 (fun c => ?_) (fun c => ?_)
            · have c := q_b_n.mp c; rw [q_if1 c] at h
              refine q_iconst (v := (0 : Int32)) (by decide) dX12_fault_68 ?_
              refine q_istore_n [(2, .int (0 : Int32)), (0, .ref 102), (1, .ref q)] rfl (by decide) rfl dX12_fault_69 ?_
              refine q_sub [1, 2, 0] rfl ?_
              exact kX12_fault_70 (w.fx fx27) hq h hQ
            · have c := q_b_0.mp c; rw [q_if0 c] at h
              refine q_iconst (v := (3 : Int32)) (by decide) dX12_fault_66 ?_
              obtain rfl := Option.some.inj h
              exact q_iret rfl rfl dX12_fault_67 hQ
    · have c := q_b_0.mp c; rw [q_if0 c] at h
      refine q_aload_n 0 rfl rfl dX12_fault_24 ?_
      refine q_aload_n 0 rfl rfl dX12_fault_25 ?_
      refine q_getI (q_sh102 (w.fx fx15)) (by decide) (by decide) rfl lfX12_158 dX12_fault_26 ?_
      refine q_putI (q_sh102 (w.fx fx15)) (by decide) (by decide) rfl rfl ⟨rfl, rfl⟩ lfX12_33 dX12_fault_29 ?_
      obtain ⟨S28, e29, h⟩ := q_bindS h
      refine q_st e29 ?_
      have fx30 : q_Fx S S28 := e29 ▸ q_Fx.sI (fx15)
      refine q_iconst (v := (2 : Int32)) (by decide) dX12_fault_32 ?_
      obtain rfl := Option.some.inj h
      exact q_iret rfl rfl dX12_fault_33 hQ
  · have c := q_b_0.mp c; rw [q_if0 c] at h
    refine q_aload_n 0 rfl rfl dX12_fault_7 ?_
    refine q_aload_n 0 rfl rfl dX12_fault_8 ?_
    refine q_getI (q_sh102 (w.fx fx12)) (by decide) (by decide) rfl lfX12_118 dX12_fault_9 ?_
    refine q_putI (q_sh102 (w.fx fx12)) (by decide) (by decide) rfl rfl ⟨rfl, rfl⟩ lfX12_33 dX12_fault_12 ?_
    obtain ⟨S31, e32, h⟩ := q_bindS h
    refine q_st e32 ?_
    have fx33 : q_Fx S S31 := e32 ▸ q_Fx.sI (fx12)
    refine q_iconst (v := (1 : Int32)) (by decide) dX12_fault_15 ?_
    obtain rfl := Option.some.inj h
    exact q_iret rfl rfl dX12_fault_16 hQ
set_option maxRecDepth 20000 in
theorem kX12_load {S : QS} {g : QG} {Q : Option Value → QS → Prop} {q : Nat} {qs : Nat}  {r : Int32 × QS} (w : q_Wire S) (hq : q_qok q) (hqs : q_qok qs) (aM : q_aM S q qs) (h : fX12_load S q qs = some r) (hQ : Q (some (.int r.1)) r.2) : q_M g mX12_load 12 0 0 [.ref 102] S Q := by
  unfold fX12_load at h
  show q_L g mX12_load 12 0 0 Q 0 0 0 [(0, .ref 102)] [] S
  refine q_aload_n 0 rfl rfl dX12_load_0 ?_
  refine q_aload_n 0 rfl rfl dX12_load_1 ?_
  refine q_getR (q_sh102 w) (by decide) (by decide) rfl lfX12_16 dX12_load_2 (r := qs) (aM).2 ?_
  obtain ⟨r1, e2, h⟩ := q_bind h
  refine q_callV (ci := 12) (d := 11) (Mc := mX12_fault) (kc := 0) (nc := 0) [.ref qs] okX12_fault (q_sh102 w) (by decide) rfl lmX12_508 inX12_fault seX12_fault rfl (Nat.le_of_ble_eq_true rfl) (Nat.le_of_ble_eq_true rfl) (Nat.le_refl _) (Nat.le_refl _) dX12_load_5 (q_L.deep (by decide) (kX12_fault (Q := fun r S' => r = some (.int r1.1) ∧ S' = r1.2) w hqs e2 ⟨rfl, rfl⟩)) (q_kI ?_)
  have fx3 : q_Fx S r1.2 := q_Fx.tr (q_Fx.rf S) (fxX12_fault e2)
  refine q_istore_n [(1, .int r1.1), (0, .ref 102)] rfl (by decide) rfl dX12_load_8 ?_
  refine q_aload_n 1 rfl rfl dX12_load_9 ?_
  refine q_iconst (v := (0 : Int32)) (by decide) dX12_load_10 ?_
  refine q_putI (q_sh102 (w.fx fx3)) (by decide) (by decide) rfl rfl ⟨rfl, rfl⟩ lfX12_115 dX12_load_11 ?_
  obtain ⟨S4, e5, h⟩ := q_bindS h
  refine q_st e5 ?_
  have fx6 : q_Fx S S4 := e5 ▸ q_Fx.sI (fx3)
  refine q_iload_n 0 rfl rfl dX12_load_14 ?_
  refine q_if_le 20 (by decide) dX12_load_15 (fun c => ?_) (fun c => ?_)
  · rw [if_pos c] at h
    refine q_aload_n 1 rfl rfl dX12_load_20 ?_
    refine q_getR (q_sh102 (w.fx fx6)) (by decide) (by decide) rfl lfX12_10 dX12_load_21 (r := q) (aM.fx fx6).1 ?_
    refine q_astore_n [(2, .ref q), (1, .int r1.1), (0, .ref 102)] rfl (by decide) rfl dX12_load_24 ?_
    refine q_aload_n 2 rfl rfl dX12_load_25 ?_
    refine q_aload_n 2 rfl rfl dX12_load_26 ?_
    refine q_getR (q_sh102 (w.fx fx6)) (by decide) (by decide) rfl lfX12_16 dX12_load_27 (r := qs) (aM.fx fx6).2 ?_
    refine q_putR (q_sh102 (w.fx fx6)) (by decide) (by decide) rfl rfl lfX12_10 dX12_load_30 ?_
    obtain ⟨S7, e8, h⟩ := q_bindS h
    refine q_st e8 ?_
    have w10 : q_Wire S7 := e8 ▸ q_Wire.sR (w.fx fx6) (by decide)
    refine q_aload_n 2 rfl rfl dX12_load_33 ?_
    refine q_aload_n 0 rfl rfl dX12_load_34 ?_
    refine q_putR (q_sh102 w10) (by decide) (by decide) rfl rfl lfX12_16 dX12_load_35 ?_
    obtain ⟨S11, e12, h⟩ := q_bindS h
    refine q_st e12 ?_
    have w14 : q_Wire S11 := e12 ▸ q_Wire.sR w10 (by decide)
    refine q_aload_n 2 rfl rfl dX12_load_38 ?_
    refine q_iconst (v := (1 : Int32)) (by decide) dX12_load_39 ?_
    refine q_putI (q_sh102 w14) (by decide) (by decide) rfl rfl ⟨rfl, rfl⟩ lfX12_511 dX12_load_40 ?_
    obtain ⟨S15, e16, h⟩ := q_bindS h
    refine q_st e16 ?_
    have fx17 : q_Fx S11 S15 := e16 ▸ q_Fx.sI (q_Fx.rf S11)
    refine q_iconst (v := (0 : Int32)) (by decide) dX12_load_43 ?_
    obtain rfl := Option.some.inj h
    exact q_iret rfl rfl dX12_load_44 hQ
  · rw [if_neg c] at h
    refine q_iload_n 0 rfl rfl dX12_load_18 ?_
    obtain rfl := Option.some.inj h
    exact q_iret rfl rfl dX12_load_19 hQ
set_option maxRecDepth 20000 in
theorem kX12_faultAt {S : QS} {g : QG} {Q : Option Value → QS → Prop}   {r : Int32} (w : q_Wire S) (h : fX12_faultAt S = some r) (hQ : Q (some (.int r)) S) : q_M g mX12_faultAt 0 0 0 [.ref 102] S Q := by
  unfold fX12_faultAt at h
  show q_L g mX12_faultAt 0 0 0 Q 0 0 0 [(0, .ref 102)] [] S
  refine q_aload_n 0 rfl rfl dX12_faultAt_0 ?_
  refine q_getI (q_sh102 w) (by decide) (by decide) rfl lfX12_33 dX12_faultAt_1 ?_
  obtain rfl := Option.some.inj h
  exact q_iret rfl rfl dX12_faultAt_4 hQ
set_option maxRecDepth 20000 in
theorem kX12_size {S : QS} {g : QG} {Q : Option Value → QS → Prop} {qs : Nat} {q : Nat} {x1 : Int32} {r : Int32} (w : q_Wire S) (hq : q_qok q) (aM : q_aM S q qs) (h : fX12_size S q x1 = some r) (hQ : Q (some (.int r)) S) : q_M g mX12_size 0 0 0 [.ref 102, .int x1] S Q := by
  unfold fX12_size at h
  show q_L g mX12_size 0 0 0 Q 0 0 0 [(0, .ref 102), (1, .int x1)] [] S
  refine q_aload_n 0 rfl rfl dX12_size_0 ?_
  refine q_getI (q_sh102 w) (by decide) (by decide) rfl lfX12_511 dX12_size_1 ?_
  refine q_if_ne 9 (by decide) dX12_size_4 (fun c => ?_) (fun c => ?_)
  · rw [if_neg c] at h
    refine q_iload_n 1 rfl rfl dX12_size_9 ?_
    refine q_if_ne 23 (by decide) dX12_size_10 (fun c => ?_) (fun c => ?_)
    · rw [if_neg c] at h
      refine q_iload_n 1 rfl rfl dX12_size_23 ?_
      refine q_iconst (v := (1 : Int32)) (by decide) dX12_size_24 ?_
      refine q_icmp_ne 38 (by decide) dX12_size_25 (fun c => ?_) (fun c => ?_)
      · rw [if_neg c] at h
        refine q_iload_n 1 rfl rfl dX12_size_38 ?_
        refine q_iconst (v := (2 : Int32)) (by decide) dX12_size_39 ?_
        refine q_icmp_ne 53 (by decide) dX12_size_40 (fun c => ?_) (fun c => ?_)
        · rw [if_neg c] at h
          refine q_iload_n 1 rfl rfl dX12_size_53 ?_
          refine q_iconst (v := (3 : Int32)) (by decide) dX12_size_54 ?_
          refine q_icmp_ne 68 (by decide) dX12_size_55 (fun c => ?_) (fun c => ?_)
          · rw [if_neg c] at h
            refine q_iload_n 1 rfl rfl dX12_size_68 ?_
            refine q_iconst (v := (4 : Int32)) (by decide) dX12_size_69 ?_
            refine q_icmp_ne 83 (by decide) dX12_size_70 (fun c => ?_) (fun c => ?_)
            · rw [if_neg c] at h
              refine q_iload_n 1 rfl rfl dX12_size_83 ?_
              refine q_iconst (v := (5 : Int32)) (by decide) dX12_size_84 ?_
              refine q_icmp_ne 98 (by decide) dX12_size_85 (fun c => ?_) (fun c => ?_)
              · rw [if_neg c] at h
                refine q_iconst (v := (-1 : Int32)) (by decide) dX12_size_98 ?_
                obtain rfl := Option.some.inj h
                exact q_iret rfl rfl dX12_size_99 hQ
              · rw [if_pos c] at h
                refine q_aload_n 0 rfl rfl dX12_size_88 ?_
                refine q_getR (q_sh102 w) (by decide) (by decide) rfl lfX12_10 dX12_size_89 (r := q) (aM).1 ?_
                refine q_getI (q_shQ0 w hq) (by decide) (by decide) rfl lfX12_324 dX12_size_92 ?_
                refine q_goto 99 (by decide) dX12_size_95 ?_
                obtain rfl := Option.some.inj h
                exact q_iret rfl rfl dX12_size_99 hQ
            · rw [if_pos c] at h
              refine q_aload_n 0 rfl rfl dX12_size_73 ?_
              refine q_getR (q_sh102 w) (by decide) (by decide) rfl lfX12_10 dX12_size_74 (r := q) (aM).1 ?_
              refine q_getI (q_shQ0 w hq) (by decide) (by decide) rfl lfX12_231 dX12_size_77 ?_
              refine q_goto 99 (by decide) dX12_size_80 ?_
              obtain rfl := Option.some.inj h
              exact q_iret rfl rfl dX12_size_99 hQ
          · rw [if_pos c] at h
            refine q_aload_n 0 rfl rfl dX12_size_58 ?_
            refine q_getR (q_sh102 w) (by decide) (by decide) rfl lfX12_10 dX12_size_59 (r := q) (aM).1 ?_
            refine q_getI (q_shQ0 w hq) (by decide) (by decide) rfl lfX12_257 dX12_size_62 ?_
            refine q_goto 99 (by decide) dX12_size_65 ?_
            obtain rfl := Option.some.inj h
            exact q_iret rfl rfl dX12_size_99 hQ
        · rw [if_pos c] at h
          refine q_aload_n 0 rfl rfl dX12_size_43 ?_
          refine q_getR (q_sh102 w) (by decide) (by decide) rfl lfX12_10 dX12_size_44 (r := q) (aM).1 ?_
          refine q_getI (q_shQ0 w hq) (by decide) (by decide) rfl lfX12_267 dX12_size_47 ?_
          refine q_goto 99 (by decide) dX12_size_50 ?_
          obtain rfl := Option.some.inj h
          exact q_iret rfl rfl dX12_size_99 hQ
      · rw [if_pos c] at h
        refine q_aload_n 0 rfl rfl dX12_size_28 ?_
        refine q_getR (q_sh102 w) (by decide) (by decide) rfl lfX12_10 dX12_size_29 (r := q) (aM).1 ?_
        refine q_getI (q_shQ0 w hq) (by decide) (by decide) rfl lfX12_321 dX12_size_32 ?_
        refine q_goto 99 (by decide) dX12_size_35 ?_
        obtain rfl := Option.some.inj h
        exact q_iret rfl rfl dX12_size_99 hQ
    · rw [if_pos c] at h
      refine q_aload_n 0 rfl rfl dX12_size_13 ?_
      refine q_getR (q_sh102 w) (by decide) (by decide) rfl lfX12_10 dX12_size_14 (r := q) (aM).1 ?_
      refine q_getI (q_shQ0 w hq) (by decide) (by decide) rfl lfX12_318 dX12_size_17 ?_
      refine q_goto 99 (by decide) dX12_size_20 ?_
      obtain rfl := Option.some.inj h
      exact q_iret rfl rfl dX12_size_99 hQ
  · rw [if_pos c] at h
    refine q_iconst (v := (-1 : Int32)) (by decide) dX12_size_7 ?_
    obtain rfl := Option.some.inj h
    exact q_iret rfl rfl dX12_size_8 hQ
set_option maxRecDepth 20000 in
theorem kX12_height {S : QS} {g : QG} {Q : Option Value → QS → Prop} {qs : Nat} {q : Nat} {x1 : Int32} {r : Int32} (w : q_Wire S) (hq : q_qok q) (aM : q_aM S q qs) (h : fX12_height S q x1 = some r) (hQ : Q (some (.int r)) S) : q_M g mX12_height 0 0 0 [.ref 102, .int x1] S Q := by
  unfold fX12_height at h
  show q_L g mX12_height 0 0 0 Q 0 0 0 [(0, .ref 102), (1, .int x1)] [] S
  refine q_aload_n 0 rfl rfl dX12_height_0 ?_
  refine q_getI (q_sh102 w) (by decide) (by decide) rfl lfX12_511 dX12_height_1 ?_
  refine q_if_eq 34 (by decide) dX12_height_4 (fun c => ?_) (fun c => ?_)
  · rw [if_pos c] at h
    refine q_iconst (v := (-1 : Int32)) (by decide) dX12_height_34 ?_
    obtain rfl := Option.some.inj h
    exact q_iret rfl rfl dX12_height_35 hQ
  · rw [if_neg c] at h
    refine q_iload_n 1 rfl rfl dX12_height_7 ?_
    refine q_if_lt 34 (by decide) dX12_height_8 (fun c => ?_) (fun c => ?_)
    · rw [if_pos c] at h
      refine q_iconst (v := (-1 : Int32)) (by decide) dX12_height_34 ?_
      obtain rfl := Option.some.inj h
      exact q_iret rfl rfl dX12_height_35 hQ
    · rw [if_neg c] at h
      refine q_iload_n 1 rfl rfl dX12_height_11 ?_
      refine q_aload_n 0 rfl rfl dX12_height_12 ?_
      refine q_getR (q_sh102 w) (by decide) (by decide) rfl lfX12_10 dX12_height_13 (r := q) (aM).1 ?_
      refine q_getI (q_shQ0 w hq) (by decide) (by decide) rfl lfX12_318 dX12_height_16 ?_
      refine q_icmp_ge 34 (by decide) dX12_height_19 (fun c => ?_) (fun c => ?_)
      · rw [if_pos c] at h
        refine q_iconst (v := (-1 : Int32)) (by decide) dX12_height_34 ?_
        obtain rfl := Option.some.inj h
        exact q_iret rfl rfl dX12_height_35 hQ
      · rw [if_neg c] at h
        refine q_aload_n 0 rfl rfl dX12_height_22 ?_
        refine q_getR (q_sh102 w) (by decide) (by decide) rfl lfX12_10 dX12_height_23 (r := q) (aM).1 ?_
        refine q_getR (q_shQ0 w hq) (by decide) (by decide) rfl lfX12_424 dX12_height_26 (r := (q + 19)) (q_wrQ0_25 w hq) ?_
        refine q_iload_n 1 rfl rfl dX12_height_29 ?_
        obtain ⟨hg1, h⟩ := q_guard h
        refine q_iald (q_shQ19 w hq) (q_inb_in hg1) dX12_height_30 ?_
        refine q_goto 35 (by decide) dX12_height_31 ?_
        obtain rfl := Option.some.inj h
        exact q_iret rfl rfl dX12_height_35 hQ
set_option maxRecDepth 20000 in
theorem kX12_input {S : QS} {g : QG} {Q : Option Value → QS → Prop}  {x1 : Int32} {r : Bool × QS} (w : q_Wire S) (h : fX12_input S x1 = some r) (hQ : Q (some (.int (q_b r.1))) r.2) : q_M g mX12_input 0 0 0 [.ref 102, .int x1] S Q := by
  unfold fX12_input at h
  show q_L g mX12_input 0 0 0 Q 0 0 0 [(0, .ref 102), (1, .int x1)] [] S
  refine q_aload_n 0 rfl rfl dX12_input_0 ?_
  refine q_getI (q_sh102 w) (by decide) (by decide) rfl lfX12_515 dX12_input_1 ?_
  refine q_sipush (v := (256 : Int32)) (by decide) dX12_input_4 ?_
  refine q_icmp_ne 12 (by decide) dX12_input_7 (fun c => ?_) (fun c => ?_)
  · rw [if_neg c] at h
    refine q_aload_n 0 rfl rfl dX12_input_12 ?_
    refine q_getR (q_sh102 w) (by decide) (by decide) rfl lfX12_92 dX12_input_13 (r := 181) (q_wr102_33 w) ?_
    refine q_aload_n 0 rfl rfl dX12_input_16 ?_
    refine q_getI (q_sh102 w) (by decide) (by decide) rfl lfX12_515 dX12_input_17 ?_
    refine q_iload_n 1 rfl rfl dX12_input_20 ?_
    obtain ⟨hg1, h⟩ := q_guard h
    refine q_iast (q_sh181 w) (q_inb_in hg1) dX12_input_21 ?_
    obtain ⟨S2, e3, h⟩ := q_bindS h
    refine q_st e3 ?_
    have fx4 : q_Fx S S2 := e3 ▸ q_Fx.sI (q_Fx.rf S)
    refine q_aload_n 0 rfl rfl dX12_input_22 ?_
    refine q_dup rfl dX12_input_23 ?_
    refine q_getI (q_sh102 (w.fx fx4)) (by decide) (by decide) rfl lfX12_515 dX12_input_24 ?_
    refine q_iconst (v := (1 : Int32)) (by decide) dX12_input_27 ?_
    refine q_iadd dX12_input_28 ?_
    refine q_putI (q_sh102 (w.fx fx4)) (by decide) (by decide) rfl rfl ⟨rfl, rfl⟩ lfX12_515 dX12_input_29 ?_
    obtain ⟨S5, e6, h⟩ := q_bindS h
    refine q_st e6 ?_
    have fx7 : q_Fx S S5 := e6 ▸ q_Fx.sI (fx4)
    refine q_iconst (v := (1 : Int32)) (by decide) dX12_input_32 ?_
    obtain rfl := Option.some.inj h
    exact q_iret rfl (by decide) dX12_input_33 hQ
  · rw [if_pos c] at h
    refine q_iconst (v := (0 : Int32)) (by decide) dX12_input_10 ?_
    obtain rfl := Option.some.inj h
    exact q_iret rfl (by decide) dX12_input_11 hQ
set_option maxRecDepth 20000 in
theorem sX12_enter_2 {g : QG} {Q : Option Value → QS → Prop} {qs : Nat} {q : Nat} {y1 : Int32} {x : Int32 × QS} {z : (QS) ⊕ (Int32 × QS)} (w : q_Wire x.2) (hq : q_qok q) (aM : q_aM x.2 q qs) (h : tX12_enter_2 q y1 x = some z) (hQ : (Sum.elim (fun r0 : QS => Q none r0) (fun y : Int32 × QS => q_L g mX12_enter 0 0 0 Q 0 0 2 [(0, .ref 102), (1, .int y1), (2, .int y.1)] [] y.2) z)) : q_L g mX12_enter 0 0 0 Q 0 0 2 [(0, .ref 102), (1, .int y1), (2, .int x.1)] [] x.2 := by
  unfold tX12_enter_2 at h
  refine q_iload_n 2 rfl rfl dX12_enter_2 ?_
  refine q_bipush (v := (12 : Int32)) (by decide) dX12_enter_3 ?_
  refine q_icmp_ge 31 (by decide) dX12_enter_5 (fun c => ?_) (fun c => ?_)
  · rw [if_pos c] at h
    refine q_aload_n 0 rfl rfl dX12_enter_31 ?_
    refine q_getR (q_sh102 w) (by decide) (by decide) rfl lfX12_71 dX12_enter_32 (r := 174) (q_wr102_26 w) ?_
    refine q_aload_n 0 rfl rfl dX12_enter_35 ?_
    refine q_getI (q_sh102 w) (by decide) (by decide) rfl lfX12_533 dX12_enter_36 ?_
    refine q_iconst (v := (0 : Int32)) (by decide) dX12_enter_39 ?_
    obtain ⟨hg1, h⟩ := q_guard h
    refine q_iast (q_sh174 w) (q_inb_in hg1) dX12_enter_40 ?_
    obtain ⟨S2, e3, h⟩ := q_bindS h
    refine q_st e3 ?_
    have fx4 : q_Fx x.2 S2 := e3 ▸ q_Fx.sI (q_Fx.rf x.2)
    refine q_aload_n 0 rfl rfl dX12_enter_41 ?_
    refine q_getR (q_sh102 (w.fx fx4)) (by decide) (by decide) rfl lfX12_74 dX12_enter_42 (r := 175) (q_wr102_27 (w.fx fx4)) ?_
    refine q_aload_n 0 rfl rfl dX12_enter_45 ?_
    refine q_getI (q_sh102 (w.fx fx4)) (by decide) (by decide) rfl lfX12_533 dX12_enter_46 ?_
    refine q_aload_n 0 rfl rfl dX12_enter_49 ?_
    refine q_getR (q_sh102 (w.fx fx4)) (by decide) (by decide) rfl lfX12_10 dX12_enter_50 (r := q) (aM.fx fx4).1 ?_
    refine q_getR (q_shQ0 (w.fx fx4) hq) (by decide) (by decide) rfl lfX12_331 dX12_enter_53 (r := (q + 12)) (q_wrQ0_18 (w.fx fx4) hq) ?_
    refine q_iload_n 1 rfl rfl dX12_enter_56 ?_
    obtain ⟨hg5, h⟩ := q_guard h
    refine q_iald (q_shQ12 (w.fx fx4) hq) (q_inb_in hg5) dX12_enter_57 ?_
    obtain ⟨hg6, h⟩ := q_guard h
    refine q_iast (q_sh175 (w.fx fx4)) (q_inb_in hg6) dX12_enter_58 ?_
    obtain ⟨S7, e8, h⟩ := q_bindS h
    refine q_st e8 ?_
    have fx9 : q_Fx x.2 S7 := e8 ▸ q_Fx.sI (fx4)
    refine q_aload_n 0 rfl rfl dX12_enter_59 ?_
    refine q_dup rfl dX12_enter_60 ?_
    refine q_getI (q_sh102 (w.fx fx9)) (by decide) (by decide) rfl lfX12_533 dX12_enter_61 ?_
    refine q_iconst (v := (1 : Int32)) (by decide) dX12_enter_64 ?_
    refine q_iadd dX12_enter_65 ?_
    refine q_putI (q_sh102 (w.fx fx9)) (by decide) (by decide) rfl rfl ⟨rfl, rfl⟩ lfX12_533 dX12_enter_66 ?_
    obtain ⟨S10, e11, h⟩ := q_bindS h
    refine q_st e11 ?_
    have fx12 : q_Fx x.2 S10 := e11 ▸ q_Fx.sI (fx9)
    cases h
    exact q_vret rfl dX12_enter_69 hQ
  · rw [if_neg c] at h
    refine q_aload_n 0 rfl rfl dX12_enter_8 ?_
    refine q_getR (q_sh102 w) (by decide) (by decide) rfl lfX12_64 dX12_enter_9 (r := 172) (q_wr102_24 w) ?_
    refine q_aload_n 0 rfl rfl dX12_enter_12 ?_
    refine q_getI (q_sh102 w) (by decide) (by decide) rfl lfX12_533 dX12_enter_13 ?_
    refine q_bipush (v := (12 : Int32)) (by decide) dX12_enter_16 ?_
    refine q_imul dX12_enter_18 ?_
    refine q_iload_n 2 rfl rfl dX12_enter_19 ?_
    refine q_iadd dX12_enter_20 ?_
    refine q_ldc2 lkX12_551 dX12_enter_21 ?_
    obtain ⟨hg13, h⟩ := q_guard h
    refine q_last (q_sh172 w) (q_inb_in hg13) dX12_enter_24 ?_
    obtain ⟨S14, e15, h⟩ := q_bindS h
    refine q_st e15 ?_
    have fx16 : q_Fx x.2 S14 := e15 ▸ q_Fx.sJ (q_Fx.rf x.2)
    refine q_iinc (v := (x.1 + (1 : Int32))) 2 [(2, .int (x.1 + (1 : Int32))), (0, .ref 102), (1, .int y1)] (by decide) rfl (congrArg (fun t => x.1 + t) (by decide)) rfl dX12_enter_25 ?_
    refine q_goto 2 (by decide) dX12_enter_28 ?_
    refine q_sub [1, 2, 0] rfl ?_
    cases h
    exact hQ
theorem lX12_enter_2 {g : QG} {Q : Option Value → QS → Prop} {qs : Nat} {q : Nat} {y1 : Int32} {r : QS} (hq : q_qok q) (hQ : Q none r) : ∀ (c : Nat) (x : Int32 × QS), q_Wire x.2 → q_aM x.2 q qs → q_it (tX12_enter_2 q y1) c x = some r → q_L g mX12_enter 0 0 0 Q 0 0 2 [(0, .ref 102), (1, .int y1), (2, .int x.1)] [] x.2 := by
  intro c
  induction c with
  | zero => intro x w aM h; cases h
  | succ c ih =>
    intro x w aM h
    simp only [q_it] at h
    cases hz : tX12_enter_2 q y1 x with
    | none => rw [hz] at h; cases h
    | some z =>
      rw [hz] at h
      refine sX12_enter_2 w hq aM hz ?_
      rcases z with z | y
      · cases h; exact hQ
      · have fz := fxtX12_enter_2 hz; exact ih y (w.fx fz) (aM.fx fz) h
theorem kX12_enter_2 {S : QS} {g : QG} {Q : Option Value → QS → Prop} {qs : Nat} {q : Nat} {y1 : Int32} {y2 : Int32} {r : QS} (w : q_Wire S) (hq : q_qok q) (aM : q_aM S q qs) (h : fX12_enter_2 S q y1 y2 = some r) (hQ : Q none r) : q_L g mX12_enter 0 0 0 Q 0 0 2 [(0, .ref 102), (1, .int y1), (2, .int y2)] [] S := by
  obtain ⟨c, hc⟩ := q_run_it h
  exact lX12_enter_2 hq hQ c (y2, S) w aM hc
set_option maxRecDepth 20000 in
theorem kX12_enter {S : QS} {g : QG} {Q : Option Value → QS → Prop} {qs : Nat} {q : Nat} {x1 : Int32} {r : QS} (w : q_Wire S) (hq : q_qok q) (aM : q_aM S q qs) (h : fX12_enter S q x1 = some r) (hQ : Q none r) : q_M g mX12_enter 0 0 0 [.ref 102, .int x1] S Q := by
  unfold fX12_enter at h
  show q_L g mX12_enter 0 0 0 Q 0 0 0 [(0, .ref 102), (1, .int x1)] [] S
  refine q_iconst (v := (0 : Int32)) (by decide) dX12_enter_0 ?_
  refine q_istore_n [(2, .int (0 : Int32)), (0, .ref 102), (1, .int x1)] rfl (by decide) rfl dX12_enter_1 ?_
  refine q_sub [1, 2, 0] rfl ?_
  exact kX12_enter_2 w hq (aM) h hQ
set_option maxRecDepth 20000 in
theorem kX12_local {S : QS} {g : QG} {Q : Option Value → QS → Prop}  {x1 : Int32} {r : Int64} (w : q_Wire S) (h : fX12_local S x1 = some r) (hQ : Q (some (.long r)) S) : q_M g mX12_local 0 0 0 [.ref 102, .int x1] S Q := by
  unfold fX12_local at h
  show q_L g mX12_local 0 0 0 Q 0 0 0 [(0, .ref 102), (1, .int x1)] [] S
  refine q_aload_n 0 rfl rfl dX12_local_0 ?_
  refine q_getR (q_sh102 w) (by decide) (by decide) rfl lfX12_64 dX12_local_1 (r := 172) (q_wr102_24 w) ?_
  refine q_aload_n 0 rfl rfl dX12_local_4 ?_
  refine q_getI (q_sh102 w) (by decide) (by decide) rfl lfX12_533 dX12_local_5 ?_
  refine q_iconst (v := (1 : Int32)) (by decide) dX12_local_8 ?_
  refine q_isub dX12_local_9 ?_
  refine q_bipush (v := (12 : Int32)) (by decide) dX12_local_10 ?_
  refine q_imul dX12_local_12 ?_
  refine q_iload_n 1 rfl rfl dX12_local_13 ?_
  refine q_iadd dX12_local_14 ?_
  obtain ⟨hg1, h⟩ := q_guard h
  refine q_lald (q_sh172 w) (q_inb_in hg1) dX12_local_15 ?_
  obtain rfl := Option.some.inj h
  exact q_lret rfl dX12_local_16 hQ
set_option maxRecDepth 20000 in
theorem kX12_isInt {S : QS} {g : QG} {Q : Option Value → QS → Prop}  {x0 : Int64} {r : Bool} (w : q_Wire S) (h : fX12_isInt S x0 = some r) (hQ : Q (some (.int (q_b r))) S) : q_M g mX12_isInt 0 0 0 [.long x0] S Q := by
  unfold fX12_isInt at h
  show q_L g mX12_isInt 0 0 0 Q 0 0 0 [(0, .long x0)] [] S
  refine q_lload_n 0 rfl rfl dX12_isInt_0 ?_
  refine q_ldc2 lkX12_553 dX12_isInt_1 ?_
  refine q_lcmp dX12_isInt_4 ?_
  refine q_if_ge 20 (by decide) dX12_isInt_5 (fun c => ?_) (fun c => ?_)
  · rw [if_pos c] at h
    refine q_iconst (v := (0 : Int32)) (by decide) dX12_isInt_20 ?_
    obtain rfl := Option.some.inj h
    exact q_iret rfl (by decide) dX12_isInt_21 hQ
  · rw [if_neg c] at h
    refine q_lload_n 0 rfl rfl dX12_isInt_8 ?_
    refine q_ldc2 lkX12_551 dX12_isInt_9 ?_
    refine q_lcmp dX12_isInt_12 ?_
    refine q_if_eq 20 (by decide) dX12_isInt_13 (fun c => ?_) (fun c => ?_)
    · rw [if_pos c] at h
      refine q_iconst (v := (0 : Int32)) (by decide) dX12_isInt_20 ?_
      obtain rfl := Option.some.inj h
      exact q_iret rfl (by decide) dX12_isInt_21 hQ
    · rw [if_neg c] at h
      refine q_iconst (v := (1 : Int32)) (by decide) dX12_isInt_16 ?_
      refine q_goto 21 (by decide) dX12_isInt_17 ?_
      obtain rfl := Option.some.inj h
      exact q_iret rfl (by decide) dX12_isInt_21 hQ
set_option maxRecDepth 20000 in
theorem kX12_objectOf {S : QS} {g : QG} {Q : Option Value → QS → Prop}  {x0 : Int64} {r : Int32} (w : q_Wire S) (h : fX12_objectOf S x0 = some r) (hQ : Q (some (.int r)) S) : q_M g mX12_objectOf 0 0 0 [.long x0] S Q := by
  unfold fX12_objectOf at h
  show q_L g mX12_objectOf 0 0 0 Q 0 0 0 [(0, .long x0)] [] S
  refine q_lload_n 0 rfl rfl dX12_objectOf_0 ?_
  refine q_ldc2 lkX12_553 dX12_objectOf_1 ?_
  refine q_lsub dX12_objectOf_4 ?_
  refine q_lconst (v := (1 : Int64)) (by decide) dX12_objectOf_5 ?_
  refine q_lsub dX12_objectOf_6 ?_
  refine q_l2i dX12_objectOf_7 ?_
  obtain rfl := Option.some.inj h
  exact q_iret rfl rfl dX12_objectOf_8 hQ
set_option maxRecDepth 20000 in
theorem kX12_isOf {S : QS} {g : QG} {Q : Option Value → QS → Prop} {qs : Nat} {q : Nat} {x1 : Int64} {x3 : Int32} {r : Bool} (w : q_Wire S) (hq : q_qok q) (aM : q_aM S q qs) (h : fX12_isOf S q x1 x3 = some r) (hQ : Q (some (.int (q_b r))) S) : q_M g mX12_isOf 2 0 0 [.ref 102, .long x1, .int x3] S Q := by
  unfold fX12_isOf at h
  show q_L g mX12_isOf 2 0 0 Q 0 0 0 [(0, .ref 102), (1, .long x1), (3, .int x3)] [] S
  refine q_iload_n 2 rfl rfl dX12_isOf_0 ?_
  refine q_iconst (v := (2 : Int32)) (by decide) dX12_isOf_1 ?_
  refine q_icmp_ne 7 (by decide) dX12_isOf_2 (fun c => ?_) (fun c => ?_)
  · rw [if_neg c] at h
    refine q_iload_n 2 rfl rfl dX12_isOf_7 ?_
    refine q_if_ne 16 (by decide) dX12_isOf_8 (fun c => ?_) (fun c => ?_)
    · rw [if_neg c] at h
      refine q_lload_n 1 rfl rfl dX12_isOf_16 ?_
      obtain ⟨r1, e2, h⟩ := q_bind h
      refine q_callS (d := 1) (Mc := mX12_isInt) (kc := 0) (nc := 0) [.long x1] okX12_isInt lmX12_562 inX12_isInt rfl (Nat.le_of_ble_eq_true rfl) (Nat.le_of_ble_eq_true rfl) (Nat.le_refl _) (Nat.le_refl _) dX12_isOf_17 (q_L.deep (by decide) (kX12_isInt (Q := fun r S' => r = some (.int (q_b r1)) ∧ S' = S) w e2 ⟨rfl, rfl⟩)) (q_kI ?_)
      refine q_if_ne 31 (by decide) dX12_isOf_20 (fun c => ?_) (fun c => ?_)
      · have c := q_b_n.mp c; rw [q_if1 c] at h
        refine q_iconst (v := (0 : Int32)) (by decide) dX12_isOf_31 ?_
        obtain rfl := Option.some.inj h
        exact q_iret rfl (by decide) dX12_isOf_32 hQ
      · have c := q_b_0.mp c; rw [q_if0 c] at h
        refine q_lload_n 1 rfl rfl dX12_isOf_23 ?_
        refine q_ldc2 lkX12_551 dX12_isOf_24 ?_
        refine q_lcmp dX12_isOf_27 ?_
        refine q_if_ne 33 (by decide) dX12_isOf_28 (fun c => ?_) (fun c => ?_)
        · rw [if_neg c] at h
          refine q_lload_n 1 rfl rfl dX12_isOf_33 ?_
          refine q_ldc2 lkX12_553 dX12_isOf_34 ?_
          refine q_lcmp dX12_isOf_37 ?_
          refine q_if_eq 66 (by decide) dX12_isOf_38 (fun c => ?_) (fun c => ?_)
          · rw [if_pos c] at h
            refine q_iconst (v := (1 : Int32)) (by decide) dX12_isOf_66 ?_
            refine q_goto 71 (by decide) dX12_isOf_67 ?_
            obtain rfl := Option.some.inj h
            exact q_iret rfl (by decide) dX12_isOf_71 hQ
          · rw [if_neg c] at h
            refine q_iload_n 2 rfl rfl dX12_isOf_41 ?_
            refine q_iconst (v := (1 : Int32)) (by decide) dX12_isOf_42 ?_
            refine q_icmp_eq 70 (by decide) dX12_isOf_43 (fun c => ?_) (fun c => ?_)
            · rw [if_pos c] at h
              refine q_iconst (v := (0 : Int32)) (by decide) dX12_isOf_70 ?_
              obtain rfl := Option.some.inj h
              exact q_iret rfl (by decide) dX12_isOf_71 hQ
            · rw [if_neg c] at h
              refine q_aload_n 0 rfl rfl dX12_isOf_46 ?_
              refine q_getR (q_sh102 w) (by decide) (by decide) rfl lfX12_10 dX12_isOf_47 (r := q) (aM).1 ?_
              refine q_aload_n 0 rfl rfl dX12_isOf_50 ?_
              refine q_getR (q_sh102 w) (by decide) (by decide) rfl lfX12_77 dX12_isOf_51 (r := 176) (q_wr102_28 w) ?_
              refine q_lload_n 1 rfl rfl dX12_isOf_54 ?_
              obtain ⟨r3, e4, h⟩ := q_bind h
              refine q_callS (d := 1) (Mc := mX12_objectOf) (kc := 0) (nc := 0) [.long x1] okX12_objectOf lmX12_566 inX12_objectOf rfl (Nat.le_of_ble_eq_true rfl) (Nat.le_of_ble_eq_true rfl) (Nat.le_refl _) (Nat.le_refl _) dX12_isOf_55 (q_L.deep (by decide) (kX12_objectOf (Q := fun r S' => r = some (.int r3) ∧ S' = S) w e4 ⟨rfl, rfl⟩)) (q_kI ?_)
              obtain ⟨hg5, h⟩ := q_guard h
              refine q_iald (q_sh176 w) (q_inb_in hg5) dX12_isOf_58 ?_
              refine q_iload_n 2 rfl rfl dX12_isOf_59 ?_
              obtain ⟨r6, e7, h⟩ := q_bind h
              refine q_callS (d := 1) (Mc := mX12_isBelow) (kc := 0) (nc := 0) [.ref q, .int (S.2.1 176 r3.toNatClampNeg), .int x3] okX12_isBelow lmX12_436 inX12_isBelow rfl (Nat.le_of_ble_eq_true rfl) (Nat.le_of_ble_eq_true rfl) (Nat.le_refl _) (Nat.le_refl _) dX12_isOf_60 (q_L.deep (by decide) (kX12_isBelow (Q := fun r S' => r = some (.int (q_b r6)) ∧ S' = S) w hq e7 ⟨rfl, rfl⟩)) (q_kI ?_)
              refine q_if_eq 70 (by decide) dX12_isOf_63 (fun c => ?_) (fun c => ?_)
              · have c := q_b_0.mp c; rw [q_if0 c] at h
                refine q_iconst (v := (0 : Int32)) (by decide) dX12_isOf_70 ?_
                obtain rfl := Option.some.inj h
                exact q_iret rfl (by decide) dX12_isOf_71 hQ
              · have c := q_b_n.mp c; rw [q_if1 c] at h
                refine q_iconst (v := (1 : Int32)) (by decide) dX12_isOf_66 ?_
                refine q_goto 71 (by decide) dX12_isOf_67 ?_
                obtain rfl := Option.some.inj h
                exact q_iret rfl (by decide) dX12_isOf_71 hQ
        · rw [if_pos c] at h
          refine q_iconst (v := (0 : Int32)) (by decide) dX12_isOf_31 ?_
          obtain rfl := Option.some.inj h
          exact q_iret rfl (by decide) dX12_isOf_32 hQ
    · rw [if_pos c] at h
      refine q_lload_n 1 rfl rfl dX12_isOf_11 ?_
      obtain ⟨r8, e9, h⟩ := q_bind h
      refine q_callS (d := 1) (Mc := mX12_isInt) (kc := 0) (nc := 0) [.long x1] okX12_isInt lmX12_562 inX12_isInt rfl (Nat.le_of_ble_eq_true rfl) (Nat.le_of_ble_eq_true rfl) (Nat.le_refl _) (Nat.le_refl _) dX12_isOf_12 (q_L.deep (by decide) (kX12_isInt (Q := fun r S' => r = some (.int (q_b r8)) ∧ S' = S) w e9 ⟨rfl, rfl⟩)) (q_kI ?_)
      obtain rfl := Option.some.inj h
      exact q_iret rfl (q_b_nar _) dX12_isOf_15 hQ
  · rw [if_pos c] at h
    refine q_iconst (v := (1 : Int32)) (by decide) dX12_isOf_5 ?_
    obtain rfl := Option.some.inj h
    exact q_iret rfl (by decide) dX12_isOf_6 hQ
set_option maxRecDepth 20000 in
theorem sX12_holds_38 {S : QS} {g : QG} {Q : Option Value → QS → Prop} {qs : Nat} {q : Nat} {y1 : Int32} {x : Int32} {z : (Bool) ⊕ (Int32)} (w : q_Wire S) (hq : q_qok q) (aM : q_aM S q qs) (h : tX12_holds_38 S q y1 x = some z) (hQ : (Sum.elim (fun r0 : Bool => Q (some (.int (q_b r0))) S) (fun y : Int32 => q_L g mX12_holds 3 0 0 Q 0 0 38 [(0, .ref 102), (1, .int y1), (2, .ref q), (3, .int y)] [] S) z)) : q_L g mX12_holds 3 0 0 Q 0 0 38 [(0, .ref 102), (1, .int y1), (2, .ref q), (3, .int x)] [] S := by
  unfold tX12_holds_38 at h
  refine q_iload_n 3 rfl rfl dX12_holds_38 ?_
  refine q_bipush (v := (12 : Int32)) (by decide) dX12_holds_39 ?_
  refine q_aload_n 2 rfl rfl dX12_holds_41 ?_
  refine q_getR (q_shQ0 w hq) (by decide) (by decide) rfl lfX12_424 dX12_holds_42 (r := (q + 19)) (q_wrQ0_25 w hq) ?_
  refine q_iload_n 1 rfl rfl dX12_holds_45 ?_
  obtain ⟨hg1, h⟩ := q_guard h
  refine q_iald (q_shQ19 w hq) (q_inb_in hg1) dX12_holds_46 ?_
  refine q_iadd dX12_holds_47 ?_
  refine q_icmp_ge 114 (by decide) dX12_holds_48 (fun c => ?_) (fun c => ?_)
  · rw [if_pos c] at h
    refine q_aload_n 2 rfl rfl dX12_holds_114 ?_
    refine q_getR (q_shQ0 w hq) (by decide) (by decide) rfl lfX12_353 dX12_holds_115 (r := (q + 15)) (q_wrQ0_21 w hq) ?_
    refine q_iload_n 1 rfl rfl dX12_holds_118 ?_
    obtain ⟨hg2, h⟩ := q_guard h
    refine q_iald (q_shQ15 w hq) (q_inb_in hg2) dX12_holds_119 ?_
    refine q_iconst (v := (2 : Int32)) (by decide) dX12_holds_120 ?_
    refine q_icmp_ne 141 (by decide) dX12_holds_121 (fun c => ?_) (fun c => ?_)
    · rw [if_neg c] at h
      refine q_iconst (v := (1 : Int32)) (by decide) dX12_holds_141 ?_
      refine q_goto 146 (by decide) dX12_holds_142 ?_
      cases h
      exact q_iret rfl (by decide) dX12_holds_146 hQ
    · rw [if_pos c] at h
      refine q_aload_n 0 rfl rfl dX12_holds_124 ?_
      refine q_aload_n 2 rfl rfl dX12_holds_125 ?_
      refine q_getR (q_shQ0 w hq) (by decide) (by decide) rfl lfX12_376 dX12_holds_126 (r := (q + 16)) (q_wrQ0_22 w hq) ?_
      refine q_iload_n 1 rfl rfl dX12_holds_129 ?_
      obtain ⟨hg3, h⟩ := q_guard h
      refine q_iald (q_shQ16 w hq) (q_inb_in hg3) dX12_holds_130 ?_
      obtain ⟨r4, e5, h⟩ := q_bind h
      refine q_callV (ci := 12) (d := 2) (Mc := mX12_local) (kc := 0) (nc := 0) [.int (S.2.1 (q + 16) y1.toNatClampNeg)] okX12_local (q_sh102 w) (by decide) rfl lmX12_555 inX12_local seX12_local rfl (Nat.le_of_ble_eq_true rfl) (Nat.le_of_ble_eq_true rfl) (Nat.le_refl _) (Nat.le_refl _) dX12_holds_131 (q_L.deep (by decide) (kX12_local (Q := fun r S' => r = some (.long r4) ∧ S' = S) w e5 ⟨rfl, rfl⟩)) (q_kJ ?_)
      refine q_ldc2 lkX12_551 dX12_holds_134 ?_
      refine q_lcmp dX12_holds_137 ?_
      refine q_if_eq 145 (by decide) dX12_holds_138 (fun c => ?_) (fun c => ?_)
      · rw [if_pos c] at h
        refine q_iconst (v := (0 : Int32)) (by decide) dX12_holds_145 ?_
        cases h
        exact q_iret rfl (by decide) dX12_holds_146 hQ
      · rw [if_neg c] at h
        refine q_iconst (v := (1 : Int32)) (by decide) dX12_holds_141 ?_
        refine q_goto 146 (by decide) dX12_holds_142 ?_
        cases h
        exact q_iret rfl (by decide) dX12_holds_146 hQ
  · rw [if_neg c] at h
    refine q_iload_n 3 rfl rfl dX12_holds_51 ?_
    refine q_bipush (v := (12 : Int32)) (by decide) dX12_holds_52 ?_
    obtain ⟨v9, hv, h⟩ := q_bind h
    have K1 : q_L g mX12_holds 3 0 0 Q 0 0 84 [(0, .ref 102), (1, .int y1), (2, .ref q), (3, .int x)] [.long v9] S := by
      refine q_lstore [(4, .long v9), (0, .ref 102), (1, .int y1), (2, .ref q), (3, .int x)] (by decide) rfl dX12_holds_84 ?_
      refine q_aload_n 1 rfl rfl dX12_holds_86 ?_
      refine q_lload 0 rfl dX12_holds_87 ?_
      refine q_aload_n 3 rfl rfl dX12_holds_89 ?_
      refine q_getR (q_shQ0 w hq) (by decide) (by decide) rfl lfX12_442 dX12_holds_90 (r := (q + 26)) (q_wrQ0_32 w hq) ?_
      refine q_iload_n 2 rfl rfl dX12_holds_93 ?_
      refine q_bipush (v := (20 : Int32)) (by decide) dX12_holds_94 ?_
      refine q_imul dX12_holds_96 ?_
      refine q_iload_n 4 rfl rfl dX12_holds_97 ?_
      refine q_iadd dX12_holds_98 ?_
      obtain ⟨hg10, h⟩ := q_guard h
      refine q_iald (q_shQ26 w hq) (q_inb_in hg10) dX12_holds_99 ?_
      obtain ⟨r11, e12, h⟩ := q_bind h
      refine q_callV (ci := 12) (d := 2) (Mc := mX12_isOf) (kc := 0) (nc := 0) [.long v9, .int (S.2.1 (q + 26) ((y1 * (20 : Int32)) + x).toNatClampNeg)] okX12_isOf (q_sh102 w) (by decide) rfl lmX12_558 inX12_isOf seX12_isOf rfl (Nat.le_of_ble_eq_true rfl) (Nat.le_of_ble_eq_true rfl) (Nat.le_refl _) (Nat.le_refl _) dX12_holds_100 (q_L.deep (by decide) (kX12_isOf (Q := fun r S' => r = some (.int (q_b r11)) ∧ S' = S) w hq (aM) e12 ⟨rfl, rfl⟩)) (q_kI ?_)
      refine q_if_ne 108 (by decide) dX12_holds_103 (fun c => ?_) (fun c => ?_)
      · have c := q_b_n.mp c; rw [q_if1 c] at h
        refine q_iinc (v := (x + (1 : Int32))) 4 [(3, .int (x + (1 : Int32))), (4, .long v9), (0, .ref 102), (1, .int y1), (2, .ref q)] (by decide) rfl (congrArg (fun t => x + t) (by decide)) rfl dX12_holds_108 ?_
        refine q_goto 38 (by decide) dX12_holds_111 ?_
        refine q_sub [2, 3, 4, 0] rfl ?_
        cases h
        exact hQ
      · have c := q_b_0.mp c; rw [q_if0 c] at h
        refine q_iconst (v := (0 : Int32)) (by decide) dX12_holds_106 ?_
        cases h
        exact q_iret rfl (by decide) dX12_holds_107 hQ
    replace h := hv
    refine q_icmp_ge 65 (by decide) dX12_holds_54 (fun c => ?_) (fun c => ?_)
    · rw [if_pos c] at h
      refine q_aload_n 0 rfl rfl dX12_holds_65 ?_
      refine q_getR (q_sh102 w) (by decide) (by decide) rfl lfX12_68 dX12_holds_66 (r := 173) (q_wr102_25 w) ?_
      refine q_aload_n 0 rfl rfl dX12_holds_69 ?_
      refine q_getI (q_sh102 w) (by decide) (by decide) rfl lfX12_533 dX12_holds_70 ?_
      refine q_iconst (v := (1 : Int32)) (by decide) dX12_holds_73 ?_
      refine q_isub dX12_holds_74 ?_
      refine q_bipush (v := (8 : Int32)) (by decide) dX12_holds_75 ?_
      refine q_imul dX12_holds_77 ?_
      refine q_iload_n 3 rfl rfl dX12_holds_78 ?_
      refine q_iadd dX12_holds_79 ?_
      refine q_bipush (v := (12 : Int32)) (by decide) dX12_holds_80 ?_
      refine q_isub dX12_holds_82 ?_
      obtain ⟨hg6, h⟩ := q_guard h
      refine q_lald (q_sh173 w) (q_inb_in hg6) dX12_holds_83 ?_
      obtain rfl := Option.some.inj h
      refine q_sub [0, 1, 2, 3] rfl ?_
      exact K1
    · rw [if_neg c] at h
      refine q_aload_n 0 rfl rfl dX12_holds_57 ?_
      refine q_iload_n 3 rfl rfl dX12_holds_58 ?_
      obtain ⟨r7, e8, h⟩ := q_bind h
      refine q_callV (ci := 12) (d := 2) (Mc := mX12_local) (kc := 0) (nc := 0) [.int x] okX12_local (q_sh102 w) (by decide) rfl lmX12_555 inX12_local seX12_local rfl (Nat.le_of_ble_eq_true rfl) (Nat.le_of_ble_eq_true rfl) (Nat.le_refl _) (Nat.le_refl _) dX12_holds_59 (q_L.deep (by decide) (kX12_local (Q := fun r S' => r = some (.long r7) ∧ S' = S) w e8 ⟨rfl, rfl⟩)) (q_kJ ?_)
      refine q_goto 84 (by decide) dX12_holds_62 ?_
      obtain rfl := Option.some.inj h
      refine q_sub [0, 1, 2, 3] rfl ?_
      exact K1
theorem lX12_holds_38 {S : QS} {g : QG} {Q : Option Value → QS → Prop} {qs : Nat} {q : Nat} {y1 : Int32} {r : Bool} (w : q_Wire S) (hq : q_qok q) (aM : q_aM S q qs) (hQ : Q (some (.int (q_b r))) S) : ∀ (c : Nat) (x : Int32), q_it (tX12_holds_38 S q y1) c x = some r → q_L g mX12_holds 3 0 0 Q 0 0 38 [(0, .ref 102), (1, .int y1), (2, .ref q), (3, .int x)] [] S := by
  intro c
  induction c with
  | zero => intro x  h; cases h
  | succ c ih =>
    intro x  h
    simp only [q_it] at h
    cases hz : tX12_holds_38 S q y1 x with
    | none => rw [hz] at h; cases h
    | some z =>
      rw [hz] at h
      refine sX12_holds_38 w hq aM hz ?_
      rcases z with z | y
      · cases h; exact hQ
      · exact ih y  h
theorem kX12_holds_38 {S : QS} {g : QG} {Q : Option Value → QS → Prop} {qs : Nat} {q : Nat} {y1 : Int32} {y3 : Int32} {r : Bool} (w : q_Wire S) (hq : q_qok q) (aM : q_aM S q qs) (h : fX12_holds_38 S q y1 y3 = some r) (hQ : Q (some (.int (q_b r))) S) : q_L g mX12_holds 3 0 0 Q 0 0 38 [(0, .ref 102), (1, .int y1), (2, .ref q), (3, .int y3)] [] S := by
  obtain ⟨c, hc⟩ := q_run_it h
  exact lX12_holds_38 w hq aM hQ c y3  hc
set_option maxRecDepth 20000 in
theorem kX12_holds {S : QS} {g : QG} {Q : Option Value → QS → Prop} {qs : Nat} {q : Nat} {x1 : Int32} {r : Bool} (w : q_Wire S) (hq : q_qok q) (aM : q_aM S q qs) (h : fX12_holds S q x1 = some r) (hQ : Q (some (.int (q_b r))) S) : q_M g mX12_holds 3 0 0 [.ref 102, .int x1] S Q := by
  unfold fX12_holds at h
  show q_L g mX12_holds 3 0 0 Q 0 0 0 [(0, .ref 102), (1, .int x1)] [] S
  refine q_aload_n 0 rfl rfl dX12_holds_0 ?_
  refine q_getR (q_sh102 w) (by decide) (by decide) rfl lfX12_10 dX12_holds_1 (r := q) (aM).1 ?_
  refine q_astore_n [(2, .ref q), (0, .ref 102), (1, .int x1)] rfl (by decide) rfl dX12_holds_4 ?_
  refine q_aload_n 0 rfl rfl dX12_holds_5 ?_
  refine q_getR (q_shQ0 w hq) (by decide) (by decide) rfl lfX12_439 dX12_holds_6 (r := (q + 27)) (q_wrQ0_33 w hq) ?_
  refine q_iload_n 2 rfl rfl dX12_holds_9 ?_
  obtain ⟨hg13, h⟩ := q_guard h
  refine q_zald (q_shQ27 w hq) (q_inb_in hg13) dX12_holds_10 ?_
  refine q_if_eq 34 (by decide) dX12_holds_11 (fun c => ?_) (fun c => ?_)
  · rw [if_pos c] at h
    refine q_iconst (v := (0 : Int32)) (by decide) dX12_holds_34 ?_
    obtain rfl := Option.some.inj h
    exact q_iret rfl (by decide) dX12_holds_35 hQ
  · rw [if_neg c] at h
    refine q_aload_n 0 rfl rfl dX12_holds_14 ?_
    refine q_getR (q_shQ0 w hq) (by decide) (by decide) rfl lfX12_424 dX12_holds_15 (r := (q + 19)) (q_wrQ0_25 w hq) ?_
    refine q_iload_n 2 rfl rfl dX12_holds_18 ?_
    obtain ⟨hg14, h⟩ := q_guard h
    refine q_iald (q_shQ19 w hq) (q_inb_in hg14) dX12_holds_19 ?_
    refine q_aload_n 1 rfl rfl dX12_holds_20 ?_
    refine q_getR (q_sh102 w) (by decide) (by decide) rfl lfX12_71 dX12_holds_21 (r := 174) (q_wr102_26 w) ?_
    refine q_aload_n 1 rfl rfl dX12_holds_24 ?_
    refine q_getI (q_sh102 w) (by decide) (by decide) rfl lfX12_533 dX12_holds_25 ?_
    refine q_iconst (v := (1 : Int32)) (by decide) dX12_holds_28 ?_
    refine q_isub dX12_holds_29 ?_
    obtain ⟨hg15, h⟩ := q_guard h
    refine q_iald (q_sh174 w) (q_inb_in hg15) dX12_holds_30 ?_
    refine q_icmp_eq 36 (by decide) dX12_holds_31 (fun c => ?_) (fun c => ?_)
    · rw [if_pos c] at h
      refine q_iconst (v := (0 : Int32)) (by decide) dX12_holds_36 ?_
      refine q_istore_n [(3, .int (0 : Int32)), (2, .ref q), (0, .ref 102), (1, .int x1)] rfl (by decide) rfl dX12_holds_37 ?_
      refine q_sub [2, 3, 1, 0] rfl ?_
      exact kX12_holds_38 w hq (aM) h hQ
    · rw [if_neg c] at h
      refine q_iconst (v := (0 : Int32)) (by decide) dX12_holds_34 ?_
      obtain rfl := Option.some.inj h
      exact q_iret rfl (by decide) dX12_holds_35 hQ
set_option maxRecDepth 20000 in
theorem kX12_push {S : QS} {g : QG} {Q : Option Value → QS → Prop}  {x1 : Int64} {r : QS} (w : q_Wire S) (h : fX12_push S x1 = some r) (hQ : Q none r) : q_M g mX12_push 0 0 0 [.ref 102, .long x1] S Q := by
  unfold fX12_push at h
  show q_L g mX12_push 0 0 0 Q 0 0 0 [(0, .ref 102), (1, .long x1)] [] S
  refine q_aload_n 0 rfl rfl dX12_push_0 ?_
  refine q_getR (q_sh102 w) (by decide) (by decide) rfl lfX12_68 dX12_push_1 (r := 173) (q_wr102_25 w) ?_
  refine q_aload_n 0 rfl rfl dX12_push_4 ?_
  refine q_getI (q_sh102 w) (by decide) (by decide) rfl lfX12_533 dX12_push_5 ?_
  refine q_iconst (v := (1 : Int32)) (by decide) dX12_push_8 ?_
  refine q_isub dX12_push_9 ?_
  refine q_bipush (v := (8 : Int32)) (by decide) dX12_push_10 ?_
  refine q_imul dX12_push_12 ?_
  refine q_aload_n 0 rfl rfl dX12_push_13 ?_
  refine q_getR (q_sh102 w) (by decide) (by decide) rfl lfX12_71 dX12_push_14 (r := 174) (q_wr102_26 w) ?_
  refine q_aload_n 0 rfl rfl dX12_push_17 ?_
  refine q_getI (q_sh102 w) (by decide) (by decide) rfl lfX12_533 dX12_push_18 ?_
  refine q_iconst (v := (1 : Int32)) (by decide) dX12_push_21 ?_
  refine q_isub dX12_push_22 ?_
  obtain ⟨hg1, h⟩ := q_guard h
  refine q_iald (q_sh174 w) (q_inb_in hg1) dX12_push_23 ?_
  refine q_iadd dX12_push_24 ?_
  refine q_lload_n 1 rfl rfl dX12_push_25 ?_
  obtain ⟨hg2, h⟩ := q_guard h
  refine q_last (q_sh173 w) (q_inb_in hg2) dX12_push_26 ?_
  obtain ⟨S3, e4, h⟩ := q_bindS h
  refine q_st e4 ?_
  have fx5 : q_Fx S S3 := e4 ▸ q_Fx.sJ (q_Fx.rf S)
  refine q_aload_n 0 rfl rfl dX12_push_27 ?_
  refine q_getR (q_sh102 (w.fx fx5)) (by decide) (by decide) rfl lfX12_71 dX12_push_28 (r := 174) (q_wr102_26 (w.fx fx5)) ?_
  refine q_aload_n 0 rfl rfl dX12_push_31 ?_
  refine q_getI (q_sh102 (w.fx fx5)) (by decide) (by decide) rfl lfX12_533 dX12_push_32 ?_
  refine q_iconst (v := (1 : Int32)) (by decide) dX12_push_35 ?_
  refine q_isub dX12_push_36 ?_
  refine q_dup2 rfl rfl dX12_push_37 ?_
  obtain ⟨hg6, h⟩ := q_guard h
  refine q_iald (q_sh174 (w.fx fx5)) (q_inb_in hg6) dX12_push_38 ?_
  refine q_iconst (v := (1 : Int32)) (by decide) dX12_push_39 ?_
  refine q_iadd dX12_push_40 ?_
  obtain ⟨hg7, h⟩ := q_guard h
  refine q_iast (q_sh174 (w.fx fx5)) (q_inb_in hg7) dX12_push_41 ?_
  obtain ⟨S8, e9, h⟩ := q_bindS h
  refine q_st e9 ?_
  have fx10 : q_Fx S S8 := e9 ▸ q_Fx.sI (fx5)
  obtain rfl := Option.some.inj h
  exact q_vret rfl dX12_push_42 hQ
set_option maxRecDepth 20000 in
theorem kX12_pop {S : QS} {g : QG} {Q : Option Value → QS → Prop}   {r : Int64 × QS} (w : q_Wire S) (h : fX12_pop S = some r) (hQ : Q (some (.long r.1)) r.2) : q_M g mX12_pop 0 0 0 [.ref 102] S Q := by
  unfold fX12_pop at h
  show q_L g mX12_pop 0 0 0 Q 0 0 0 [(0, .ref 102)] [] S
  refine q_aload_n 0 rfl rfl dX12_pop_0 ?_
  refine q_getR (q_sh102 w) (by decide) (by decide) rfl lfX12_71 dX12_pop_1 (r := 174) (q_wr102_26 w) ?_
  refine q_aload_n 0 rfl rfl dX12_pop_4 ?_
  refine q_getI (q_sh102 w) (by decide) (by decide) rfl lfX12_533 dX12_pop_5 ?_
  refine q_iconst (v := (1 : Int32)) (by decide) dX12_pop_8 ?_
  refine q_isub dX12_pop_9 ?_
  refine q_dup2 rfl rfl dX12_pop_10 ?_
  obtain ⟨hg1, h⟩ := q_guard h
  refine q_iald (q_sh174 w) (q_inb_in hg1) dX12_pop_11 ?_
  refine q_iconst (v := (1 : Int32)) (by decide) dX12_pop_12 ?_
  refine q_isub dX12_pop_13 ?_
  obtain ⟨hg2, h⟩ := q_guard h
  refine q_iast (q_sh174 w) (q_inb_in hg2) dX12_pop_14 ?_
  obtain ⟨S3, e4, h⟩ := q_bindS h
  refine q_st e4 ?_
  have fx5 : q_Fx S S3 := e4 ▸ q_Fx.sI (q_Fx.rf S)
  refine q_aload_n 0 rfl rfl dX12_pop_15 ?_
  refine q_getR (q_sh102 (w.fx fx5)) (by decide) (by decide) rfl lfX12_68 dX12_pop_16 (r := 173) (q_wr102_25 (w.fx fx5)) ?_
  refine q_aload_n 0 rfl rfl dX12_pop_19 ?_
  refine q_getI (q_sh102 (w.fx fx5)) (by decide) (by decide) rfl lfX12_533 dX12_pop_20 ?_
  refine q_iconst (v := (1 : Int32)) (by decide) dX12_pop_23 ?_
  refine q_isub dX12_pop_24 ?_
  refine q_bipush (v := (8 : Int32)) (by decide) dX12_pop_25 ?_
  refine q_imul dX12_pop_27 ?_
  refine q_aload_n 0 rfl rfl dX12_pop_28 ?_
  refine q_getR (q_sh102 (w.fx fx5)) (by decide) (by decide) rfl lfX12_71 dX12_pop_29 (r := 174) (q_wr102_26 (w.fx fx5)) ?_
  refine q_aload_n 0 rfl rfl dX12_pop_32 ?_
  refine q_getI (q_sh102 (w.fx fx5)) (by decide) (by decide) rfl lfX12_533 dX12_pop_33 ?_
  refine q_iconst (v := (1 : Int32)) (by decide) dX12_pop_36 ?_
  refine q_isub dX12_pop_37 ?_
  obtain ⟨hg6, h⟩ := q_guard h
  refine q_iald (q_sh174 (w.fx fx5)) (q_inb_in hg6) dX12_pop_38 ?_
  refine q_iadd dX12_pop_39 ?_
  obtain ⟨hg7, h⟩ := q_guard h
  refine q_lald (q_sh173 (w.fx fx5)) (q_inb_in hg7) dX12_pop_40 ?_
  obtain rfl := Option.some.inj h
  exact q_lret rfl dX12_pop_41 hQ
set_option maxRecDepth 20000 in
theorem kX12_ended {S : QS} {g : QG} {Q : Option Value → QS → Prop}  {x1 : Int32} {x2 : Int32} {r : QS} (w : q_Wire S) (h : fX12_ended S x1 x2 = some r) (hQ : Q none r) : q_M g mX12_ended 0 0 0 [.ref 102, .int x1, .int x2] S Q := by
  unfold fX12_ended at h
  show q_L g mX12_ended 0 0 0 Q 0 0 0 [(0, .ref 102), (1, .int x1), (2, .int x2)] [] S
  refine q_aload_n 0 rfl rfl dX12_ended_0 ?_
  refine q_iload_n 1 rfl rfl dX12_ended_1 ?_
  refine q_putI (q_sh102 w) (by decide) (by decide) rfl rfl ⟨rfl, rfl⟩ lfX12_536 dX12_ended_2 ?_
  obtain ⟨S1, e2, h⟩ := q_bindS h
  refine q_st e2 ?_
  have fx3 : q_Fx S S1 := e2 ▸ q_Fx.sI (q_Fx.rf S)
  refine q_aload_n 0 rfl rfl dX12_ended_5 ?_
  refine q_iload_n 2 rfl rfl dX12_ended_6 ?_
  refine q_putI (q_sh102 (w.fx fx3)) (by decide) (by decide) rfl rfl ⟨rfl, rfl⟩ lfX12_98 dX12_ended_7 ?_
  obtain ⟨S4, e5, h⟩ := q_bindS h
  refine q_st e5 ?_
  have fx6 : q_Fx S S4 := e5 ▸ q_Fx.sI (fx3)
  obtain rfl := Option.some.inj h
  exact q_vret rfl dX12_ended_10 hQ
set_option maxRecDepth 20000 in
theorem kX12_object {S : QS} {g : QG} {Q : Option Value → QS → Prop}  {x1 : Int32} {x2 : Int32} {x3 : Int32} {x4 : Int32} {r : Int64 × QS} (w : q_Wire S) (h : fX12_object S x1 x2 x3 x4 = some r) (hQ : Q (some (.long r.1)) r.2) : q_M g mX12_object 1 0 0 [.ref 102, .int x1, .int x2, .int x3, .int x4] S Q := by
  unfold fX12_object at h
  show q_L g mX12_object 1 0 0 Q 0 0 0 [(0, .ref 102), (1, .int x1), (2, .int x2), (3, .int x3), (4, .int x4)] [] S
  refine q_aload_n 0 rfl rfl dX12_object_0 ?_
  refine q_getI (q_sh102 w) (by decide) (by decide) rfl lfX12_518 dX12_object_1 ?_
  refine q_sipush (v := (2000 : Int32)) (by decide) dX12_object_4 ?_
  refine q_icmp_eq 22 (by decide) dX12_object_7 (fun c => ?_) (fun c => ?_)
  · rw [if_pos c] at h
    refine q_aload_n 0 rfl rfl dX12_object_22 ?_
    refine q_iconst (v := (3 : Int32)) (by decide) dX12_object_23 ?_
    refine q_iload 4 rfl dX12_object_24 ?_
    obtain ⟨r1, e2, h⟩ := q_bind h
    refine q_callV (ci := 12) (d := 0) (Mc := mX12_ended) (kc := 0) (nc := 0) [.int (3 : Int32), .int x4] okX12_ended (q_sh102 w) (by decide) rfl lmX12_570 inX12_ended seX12_ended rfl (Nat.le_of_ble_eq_true rfl) (Nat.le_of_ble_eq_true rfl) (Nat.le_refl _) (Nat.le_refl _) dX12_object_26 (q_L.deep (by decide) (kX12_ended (Q := fun r S' => r = none ∧ S' = r1) w e2 ⟨rfl, rfl⟩)) (q_kV ?_)
    have fx3 : q_Fx S r1 := q_Fx.tr (q_Fx.rf S) (fxX12_ended e2)
    refine q_lconst (v := (0 : Int64)) (by decide) dX12_object_29 ?_
    obtain rfl := Option.some.inj h
    exact q_lret rfl dX12_object_30 hQ
  · rw [if_neg c] at h
    refine q_aload_n 0 rfl rfl dX12_object_10 ?_
    refine q_getI (q_sh102 w) (by decide) (by decide) rfl lfX12_521 dX12_object_11 ?_
    refine q_iload_n 3 rfl rfl dX12_object_14 ?_
    refine q_iadd dX12_object_15 ?_
    refine q_sipush (v := (12000 : Int32)) (by decide) dX12_object_16 ?_
    refine q_icmp_le 31 (by decide) dX12_object_19 (fun c => ?_) (fun c => ?_)
    · rw [if_pos c] at h
      refine q_aload_n 0 rfl rfl dX12_object_31 ?_
      refine q_getR (q_sh102 w) (by decide) (by decide) rfl lfX12_77 dX12_object_32 (r := 176) (q_wr102_28 w) ?_
      refine q_aload_n 0 rfl rfl dX12_object_35 ?_
      refine q_getI (q_sh102 w) (by decide) (by decide) rfl lfX12_518 dX12_object_36 ?_
      refine q_iload_n 1 rfl rfl dX12_object_39 ?_
      obtain ⟨hg4, h⟩ := q_guard h
      refine q_iast (q_sh176 w) (q_inb_in hg4) dX12_object_40 ?_
      obtain ⟨S5, e6, h⟩ := q_bindS h
      refine q_st e6 ?_
      have fx7 : q_Fx S S5 := e6 ▸ q_Fx.sI (q_Fx.rf S)
      refine q_aload_n 0 rfl rfl dX12_object_41 ?_
      refine q_getR (q_sh102 (w.fx fx7)) (by decide) (by decide) rfl lfX12_80 dX12_object_42 (r := 177) (q_wr102_29 (w.fx fx7)) ?_
      refine q_aload_n 0 rfl rfl dX12_object_45 ?_
      refine q_getI (q_sh102 (w.fx fx7)) (by decide) (by decide) rfl lfX12_518 dX12_object_46 ?_
      refine q_iload_n 2 rfl rfl dX12_object_49 ?_
      obtain ⟨hg8, h⟩ := q_guard h
      refine q_iast (q_sh177 (w.fx fx7)) (q_inb_in hg8) dX12_object_50 ?_
      obtain ⟨S9, e10, h⟩ := q_bindS h
      refine q_st e10 ?_
      have fx11 : q_Fx S S9 := e10 ▸ q_Fx.sI (fx7)
      refine q_aload_n 0 rfl rfl dX12_object_51 ?_
      refine q_getR (q_sh102 (w.fx fx11)) (by decide) (by decide) rfl lfX12_83 dX12_object_52 (r := 178) (q_wr102_30 (w.fx fx11)) ?_
      refine q_aload_n 0 rfl rfl dX12_object_55 ?_
      refine q_getI (q_sh102 (w.fx fx11)) (by decide) (by decide) rfl lfX12_518 dX12_object_56 ?_
      refine q_aload_n 0 rfl rfl dX12_object_59 ?_
      refine q_getI (q_sh102 (w.fx fx11)) (by decide) (by decide) rfl lfX12_521 dX12_object_60 ?_
      obtain ⟨hg12, h⟩ := q_guard h
      refine q_iast (q_sh178 (w.fx fx11)) (q_inb_in hg12) dX12_object_63 ?_
      obtain ⟨S13, e14, h⟩ := q_bindS h
      refine q_st e14 ?_
      have fx15 : q_Fx S S13 := e14 ▸ q_Fx.sI (fx11)
      refine q_aload_n 0 rfl rfl dX12_object_64 ?_
      refine q_getR (q_sh102 (w.fx fx15)) (by decide) (by decide) rfl lfX12_86 dX12_object_65 (r := 179) (q_wr102_31 (w.fx fx15)) ?_
      refine q_aload_n 0 rfl rfl dX12_object_68 ?_
      refine q_getI (q_sh102 (w.fx fx15)) (by decide) (by decide) rfl lfX12_518 dX12_object_69 ?_
      refine q_iload_n 3 rfl rfl dX12_object_72 ?_
      obtain ⟨hg16, h⟩ := q_guard h
      refine q_iast (q_sh179 (w.fx fx15)) (q_inb_in hg16) dX12_object_73 ?_
      obtain ⟨S17, e18, h⟩ := q_bindS h
      refine q_st e18 ?_
      have fx19 : q_Fx S S17 := e18 ▸ q_Fx.sI (fx15)
      refine q_aload_n 0 rfl rfl dX12_object_74 ?_
      refine q_dup rfl dX12_object_75 ?_
      refine q_getI (q_sh102 (w.fx fx19)) (by decide) (by decide) rfl lfX12_521 dX12_object_76 ?_
      refine q_iload_n 3 rfl rfl dX12_object_79 ?_
      refine q_iadd dX12_object_80 ?_
      refine q_putI (q_sh102 (w.fx fx19)) (by decide) (by decide) rfl rfl ⟨rfl, rfl⟩ lfX12_521 dX12_object_81 ?_
      obtain ⟨S20, e21, h⟩ := q_bindS h
      refine q_st e21 ?_
      have fx22 : q_Fx S S20 := e21 ▸ q_Fx.sI (fx19)
      refine q_aload_n 0 rfl rfl dX12_object_84 ?_
      refine q_dup rfl dX12_object_85 ?_
      refine q_getI (q_sh102 (w.fx fx22)) (by decide) (by decide) rfl lfX12_518 dX12_object_86 ?_
      refine q_iconst (v := (1 : Int32)) (by decide) dX12_object_89 ?_
      refine q_iadd dX12_object_90 ?_
      refine q_putI (q_sh102 (w.fx fx22)) (by decide) (by decide) rfl rfl ⟨rfl, rfl⟩ lfX12_518 dX12_object_91 ?_
      obtain ⟨S23, e24, h⟩ := q_bindS h
      refine q_st e24 ?_
      have fx25 : q_Fx S S23 := e24 ▸ q_Fx.sI (fx22)
      refine q_ldc2 lkX12_553 dX12_object_94 ?_
      refine q_aload_n 0 rfl rfl dX12_object_97 ?_
      refine q_getI (q_sh102 (w.fx fx25)) (by decide) (by decide) rfl lfX12_518 dX12_object_98 ?_
      refine q_i2l dX12_object_101 ?_
      refine q_ladd dX12_object_102 ?_
      obtain rfl := Option.some.inj h
      exact q_lret rfl dX12_object_103 hQ
    · rw [if_neg c] at h
      refine q_aload_n 0 rfl rfl dX12_object_22 ?_
      refine q_iconst (v := (3 : Int32)) (by decide) dX12_object_23 ?_
      refine q_iload 4 rfl dX12_object_24 ?_
      obtain ⟨r26, e27, h⟩ := q_bind h
      refine q_callV (ci := 12) (d := 0) (Mc := mX12_ended) (kc := 0) (nc := 0) [.int (3 : Int32), .int x4] okX12_ended (q_sh102 w) (by decide) rfl lmX12_570 inX12_ended seX12_ended rfl (Nat.le_of_ble_eq_true rfl) (Nat.le_of_ble_eq_true rfl) (Nat.le_refl _) (Nat.le_refl _) dX12_object_26 (q_L.deep (by decide) (kX12_ended (Q := fun r S' => r = none ∧ S' = r26) w e27 ⟨rfl, rfl⟩)) (q_kV ?_)
      have fx28 : q_Fx S r26 := q_Fx.tr (q_Fx.rf S) (fxX12_ended e27)
      refine q_lconst (v := (0 : Int64)) (by decide) dX12_object_29 ?_
      obtain rfl := Option.some.inj h
      exact q_lret rfl dX12_object_30 hQ
set_option maxRecDepth 20000 in
theorem sX12_toss_34 {g : QG} {Q : Option Value → QS → Prop} {qs : Nat} {q : Nat} {y1 : Int64} {y3 : Int32} {y4 : Int32} {y5 : Int32} {x : Int32 × QS} {z : ((QS) ⊕ (QS)) ⊕ (Int32 × QS)} (w : q_Wire x.2) (hq : q_qok q) (aM : q_aM x.2 q qs) (h : tX12_toss_34 q y1 y3 y4 y5 x = some z) (hQ : (Sum.elim (fun r1 : (QS) ⊕ (QS) => (Sum.elim (fun r0 : QS => Q none r0) (fun y : QS => q_L g mX12_toss 2 0 0 Q 0 0 11 [(0, .ref 102), (1, .long y1), (3, .int y3), (4, .int y4)] [] y) r1)) (fun y' : Int32 × QS => q_L g mX12_toss 2 0 0 Q 0 0 34 [(0, .ref 102), (1, .long y1), (3, .int y3), (4, .int y4), (5, .int y5), (6, .int y'.1)] [] y'.2) z)) : q_L g mX12_toss 2 0 0 Q 0 0 34 [(0, .ref 102), (1, .long y1), (3, .int y3), (4, .int y4), (5, .int y5), (6, .int x.1)] [] x.2 := by
  unfold tX12_toss_34 at h
  refine q_iload 5 rfl dX12_toss_34 ?_
  refine q_aload_n 0 rfl rfl dX12_toss_36 ?_
  refine q_getR (q_sh102 w) (by decide) (by decide) rfl lfX12_10 dX12_toss_37 (r := q) (aM).1 ?_
  refine q_getI (q_shQ0 w hq) (by decide) (by decide) rfl lfX12_324 dX12_toss_40 ?_
  refine q_icmp_ge 133 (by decide) dX12_toss_43 (fun c => ?_) (fun c => ?_)
  · rw [if_pos c] at h
    refine q_aload_n 0 rfl rfl dX12_toss_133 ?_
    refine q_dup rfl dX12_toss_134 ?_
    refine q_getI (q_sh102 w) (by decide) (by decide) rfl lfX12_533 dX12_toss_135 ?_
    refine q_iconst (v := (1 : Int32)) (by decide) dX12_toss_138 ?_
    refine q_isub dX12_toss_139 ?_
    refine q_putI (q_sh102 w) (by decide) (by decide) rfl rfl ⟨rfl, rfl⟩ lfX12_533 dX12_toss_140 ?_
    obtain ⟨S1, e2, h⟩ := q_bindS h
    refine q_st e2 ?_
    have fx3 : q_Fx x.2 S1 := e2 ▸ q_Fx.sI (q_Fx.rf x.2)
    refine q_goto 11 (by decide) dX12_toss_143 ?_
    refine q_sub [0, 1, 2, 3] rfl ?_
    cases h
    exact hQ
  · rw [if_neg c] at h
    refine q_aload_n 0 rfl rfl dX12_toss_46 ?_
    refine q_getR (q_sh102 w) (by decide) (by decide) rfl lfX12_10 dX12_toss_47 (r := q) (aM).1 ?_
    refine q_iload 5 rfl dX12_toss_50 ?_
    refine q_iload 4 rfl dX12_toss_52 ?_
    obtain ⟨r4, e5, h⟩ := q_bind h
    refine q_callS (d := 1) (Mc := mX12_covers) (kc := 0) (nc := 0) [.ref q, .int x.1, .int y5] okX12_covers lmX12_421 inX12_covers rfl (Nat.le_of_ble_eq_true rfl) (Nat.le_of_ble_eq_true rfl) (Nat.le_refl _) (Nat.le_refl _) dX12_toss_54 (q_L.deep (by decide) (kX12_covers (Q := fun r S' => r = some (.int (q_b r4)) ∧ S' = x.2) w hq e5 ⟨rfl, rfl⟩)) (q_kI ?_)
    refine q_if_eq 127 (by decide) dX12_toss_57 (fun c => ?_) (fun c => ?_)
    · have c := q_b_0.mp c; rw [q_if0 c] at h
      refine q_iinc (v := (x.1 + (1 : Int32))) 5 [(6, .int (x.1 + (1 : Int32))), (0, .ref 102), (1, .long y1), (3, .int y3), (4, .int y4), (5, .int y5)] (by decide) rfl (congrArg (fun t => x.1 + t) (by decide)) rfl dX12_toss_127 ?_
      refine q_goto 34 (by decide) dX12_toss_130 ?_
      refine q_sub [1, 2, 3, 4, 5, 0] rfl ?_
      cases h
      exact hQ
    · have c := q_b_n.mp c; rw [q_if1 c] at h
      refine q_aload_n 0 rfl rfl dX12_toss_60 ?_
      refine q_getR (q_sh102 w) (by decide) (by decide) rfl lfX12_10 dX12_toss_61 (r := q) (aM).1 ?_
      refine q_iload 3 rfl dX12_toss_64 ?_
      refine q_bipush (v := (8 : Int32)) (by decide) dX12_toss_66 ?_
      refine q_aload_n 0 rfl rfl dX12_toss_68 ?_
      refine q_getR (q_sh102 w) (by decide) (by decide) rfl lfX12_10 dX12_toss_69 (r := q) (aM).1 ?_
      refine q_getR (q_shQ0 w hq) (by decide) (by decide) rfl lfX12_371 dX12_toss_72 (r := (q + 25)) (q_wrQ0_31 w hq) ?_
      refine q_iload 5 rfl dX12_toss_75 ?_
      obtain ⟨hg6, h⟩ := q_guard h
      refine q_iald (q_shQ25 w hq) (q_inb_in hg6) dX12_toss_77 ?_
      refine q_iadd dX12_toss_78 ?_
      obtain ⟨r7, e8, h⟩ := q_bind h
      refine q_callS (d := 1) (Mc := mX12_isBelow) (kc := 0) (nc := 0) [.ref q, .int y4, .int ((8 : Int32) + (x.2.2.1 (q + 25) x.1.toNatClampNeg))] okX12_isBelow lmX12_436 inX12_isBelow rfl (Nat.le_of_ble_eq_true rfl) (Nat.le_of_ble_eq_true rfl) (Nat.le_refl _) (Nat.le_refl _) dX12_toss_79 (q_L.deep (by decide) (kX12_isBelow (Q := fun r S' => r = some (.int (q_b r7)) ∧ S' = x.2) w hq e8 ⟨rfl, rfl⟩)) (q_kI ?_)
      refine q_if_ne 88 (by decide) dX12_toss_82 (fun c => ?_) (fun c => ?_)
      · have c := q_b_n.mp c; rw [q_if1 c] at h
        refine q_aload_n 0 rfl rfl dX12_toss_88 ?_
        refine q_getR (q_sh102 w) (by decide) (by decide) rfl lfX12_71 dX12_toss_89 (r := 174) (q_wr102_26 w) ?_
        refine q_aload_n 0 rfl rfl dX12_toss_92 ?_
        refine q_getI (q_sh102 w) (by decide) (by decide) rfl lfX12_533 dX12_toss_93 ?_
        refine q_iconst (v := (1 : Int32)) (by decide) dX12_toss_96 ?_
        refine q_isub dX12_toss_97 ?_
        refine q_iconst (v := (0 : Int32)) (by decide) dX12_toss_98 ?_
        obtain ⟨hg9, h⟩ := q_guard h
        refine q_iast (q_sh174 w) (q_inb_in hg9) dX12_toss_99 ?_
        obtain ⟨S10, e11, h⟩ := q_bindS h
        refine q_st e11 ?_
        have fx12 : q_Fx x.2 S10 := e11 ▸ q_Fx.sI (q_Fx.rf x.2)
        refine q_aload_n 0 rfl rfl dX12_toss_100 ?_
        refine q_lload_n 1 rfl rfl dX12_toss_101 ?_
        obtain ⟨r13, e14, h⟩ := q_bind h
        refine q_callV (ci := 12) (d := 1) (Mc := mX12_push) (kc := 0) (nc := 0) [.long y1] okX12_push (q_sh102 (w.fx fx12)) (by decide) rfl lmX12_582 inX12_push seX12_push rfl (Nat.le_of_ble_eq_true rfl) (Nat.le_of_ble_eq_true rfl) (Nat.le_refl _) (Nat.le_refl _) dX12_toss_102 (q_L.deep (by decide) (kX12_push (Q := fun r S' => r = none ∧ S' = r13) (w.fx fx12) e14 ⟨rfl, rfl⟩)) (q_kV ?_)
        have fx15 : q_Fx x.2 r13 := q_Fx.tr (fx12) (fxX12_push e14)
        refine q_aload_n 0 rfl rfl dX12_toss_105 ?_
        refine q_getR (q_sh102 (w.fx fx15)) (by decide) (by decide) rfl lfX12_74 dX12_toss_106 (r := 175) (q_wr102_27 (w.fx fx15)) ?_
        refine q_aload_n 0 rfl rfl dX12_toss_109 ?_
        refine q_getI (q_sh102 (w.fx fx15)) (by decide) (by decide) rfl lfX12_533 dX12_toss_110 ?_
        refine q_iconst (v := (1 : Int32)) (by decide) dX12_toss_113 ?_
        refine q_isub dX12_toss_114 ?_
        refine q_aload_n 0 rfl rfl dX12_toss_115 ?_
        refine q_getR (q_sh102 (w.fx fx15)) (by decide) (by decide) rfl lfX12_10 dX12_toss_116 (r := q) (aM.fx fx15).1 ?_
        refine q_getR (q_shQ0 (w.fx fx15) hq) (by decide) (by decide) rfl lfX12_368 dX12_toss_119 (r := (q + 24)) (q_wrQ0_30 (w.fx fx15) hq) ?_
        refine q_iload 5 rfl dX12_toss_122 ?_
        obtain ⟨hg16, h⟩ := q_guard h
        refine q_iald (q_shQ24 (w.fx fx15) hq) (q_inb_in hg16) dX12_toss_124 ?_
        obtain ⟨hg17, h⟩ := q_guard h
        refine q_iast (q_sh175 (w.fx fx15)) (q_inb_in hg17) dX12_toss_125 ?_
        obtain ⟨S18, e19, h⟩ := q_bindS h
        refine q_st e19 ?_
        have fx20 : q_Fx x.2 S18 := e19 ▸ q_Fx.sI (fx15)
        cases h
        exact q_vret rfl dX12_toss_126 hQ
      · have c := q_b_0.mp c; rw [q_if0 c] at h
        refine q_goto 127 (by decide) dX12_toss_85 ?_
        refine q_iinc (v := (x.1 + (1 : Int32))) 5 [(6, .int (x.1 + (1 : Int32))), (0, .ref 102), (1, .long y1), (3, .int y3), (4, .int y4), (5, .int y5)] (by decide) rfl (congrArg (fun t => x.1 + t) (by decide)) rfl dX12_toss_127 ?_
        refine q_goto 34 (by decide) dX12_toss_130 ?_
        refine q_sub [1, 2, 3, 4, 5, 0] rfl ?_
        cases h
        exact hQ
theorem lX12_toss_34 {g : QG} {Q : Option Value → QS → Prop} {qs : Nat} {q : Nat} {y1 : Int64} {y3 : Int32} {y4 : Int32} {y5 : Int32} {r : (QS) ⊕ (QS)} (hq : q_qok q) (hQ : (Sum.elim (fun r0 : QS => Q none r0) (fun y : QS => q_L g mX12_toss 2 0 0 Q 0 0 11 [(0, .ref 102), (1, .long y1), (3, .int y3), (4, .int y4)] [] y) r)) : ∀ (c : Nat) (x : Int32 × QS), q_Wire x.2 → q_aM x.2 q qs → q_it (tX12_toss_34 q y1 y3 y4 y5) c x = some r → q_L g mX12_toss 2 0 0 Q 0 0 34 [(0, .ref 102), (1, .long y1), (3, .int y3), (4, .int y4), (5, .int y5), (6, .int x.1)] [] x.2 := by
  intro c
  induction c with
  | zero => intro x w aM h; cases h
  | succ c ih =>
    intro x w aM h
    simp only [q_it] at h
    cases hz : tX12_toss_34 q y1 y3 y4 y5 x with
    | none => rw [hz] at h; cases h
    | some z =>
      rw [hz] at h
      refine sX12_toss_34 w hq aM hz ?_
      rcases z with z | y
      · cases h; exact hQ
      · have fz := fxtX12_toss_34 hz; exact ih y (w.fx fz) (aM.fx fz) h
theorem usX12_toss_34 {S : QS} {g : QG} {Q : Option Value → QS → Prop} {qs : Nat} {q : Nat} {y1 : Int64} {y3 : Int32} {y4 : Int32} {y5 : Int32} {y6 : Int32} {r : (QS) ⊕ (QS)} (w : q_Wire S) (hq : q_qok q) (aM : q_aM S q qs) (h : uX12_toss_34 S q y1 y3 y4 y5 y6 = some r) (hQ : (Sum.elim (fun r0 : QS => Q none r0) (fun y : QS => q_L g mX12_toss 2 0 0 Q 0 0 11 [(0, .ref 102), (1, .long y1), (3, .int y3), (4, .int y4)] [] y) r)) : q_L g mX12_toss 2 0 0 Q 0 0 34 [(0, .ref 102), (1, .long y1), (3, .int y3), (4, .int y4), (5, .int y5), (6, .int y6)] [] S := by
  obtain ⟨c, hc⟩ := q_run_it h
  exact lX12_toss_34 hq hQ c (y6, S) w aM hc
set_option maxRecDepth 20000 in
theorem sX12_toss_11 {g : QG} {Q : Option Value → QS → Prop} {qs : Nat} {q : Nat} {y1 : Int64} {y3 : Int32} {y4 : Int32} {x : QS} {z : (QS) ⊕ (QS)} (w : q_Wire x) (hq : q_qok q) (aM : q_aM x q qs) (h : tX12_toss_11 q y1 y3 y4 x = some z) (hQ : (Sum.elim (fun r0 : QS => Q none r0) (fun y : QS => q_L g mX12_toss 2 0 0 Q 0 0 11 [(0, .ref 102), (1, .long y1), (3, .int y3), (4, .int y4)] [] y) z)) : q_L g mX12_toss 2 0 0 Q 0 0 11 [(0, .ref 102), (1, .long y1), (3, .int y3), (4, .int y4)] [] x := by
  unfold tX12_toss_11 at h
  refine q_aload_n 0 rfl rfl dX12_toss_11 ?_
  refine q_getI (q_sh102 w) (by decide) (by decide) rfl lfX12_533 dX12_toss_12 ?_
  refine q_if_le 146 (by decide) dX12_toss_15 (fun c => ?_) (fun c => ?_)
  · rw [if_pos c] at h
    refine q_aload_n 0 rfl rfl dX12_toss_146 ?_
    refine q_aload_n 0 rfl rfl dX12_toss_147 ?_
    refine q_getR (q_sh102 w) (by decide) (by decide) rfl lfX12_80 dX12_toss_148 (r := 177) (q_wr102_29 w) ?_
    refine q_lload_n 1 rfl rfl dX12_toss_151 ?_
    obtain ⟨r21, e22, h⟩ := q_bind h
    refine q_callS (d := 1) (Mc := mX12_objectOf) (kc := 0) (nc := 0) [.long y1] okX12_objectOf lmX12_566 inX12_objectOf rfl (Nat.le_of_ble_eq_true rfl) (Nat.le_of_ble_eq_true rfl) (Nat.le_refl _) (Nat.le_refl _) dX12_toss_152 (q_L.deep (by decide) (kX12_objectOf (Q := fun r S' => r = some (.int r21) ∧ S' = x) w e22 ⟨rfl, rfl⟩)) (q_kI ?_)
    obtain ⟨hg23, h⟩ := q_guard h
    refine q_iald (q_sh177 w) (q_inb_in hg23) dX12_toss_155 ?_
    refine q_putI (q_sh102 w) (by decide) (by decide) rfl rfl ⟨rfl, rfl⟩ lfX12_101 dX12_toss_156 ?_
    obtain ⟨S24, e25, h⟩ := q_bindS h
    refine q_st e25 ?_
    have fx26 : q_Fx x S24 := e25 ▸ q_Fx.sI (q_Fx.rf x)
    refine q_aload_n 0 rfl rfl dX12_toss_159 ?_
    refine q_iconst (v := (1 : Int32)) (by decide) dX12_toss_160 ?_
    refine q_iload_n 2 rfl rfl dX12_toss_161 ?_
    obtain ⟨r27, e28, h⟩ := q_bind h
    refine q_callV (ci := 12) (d := 1) (Mc := mX12_ended) (kc := 0) (nc := 0) [.int (1 : Int32), .int y3] okX12_ended (q_sh102 (w.fx fx26)) (by decide) rfl lmX12_570 inX12_ended seX12_ended rfl (Nat.le_of_ble_eq_true rfl) (Nat.le_of_ble_eq_true rfl) (Nat.le_refl _) (Nat.le_refl _) dX12_toss_162 (q_L.deep (by decide) (kX12_ended (Q := fun r S' => r = none ∧ S' = r27) (w.fx fx26) e28 ⟨rfl, rfl⟩)) (q_kV ?_)
    have fx29 : q_Fx x r27 := q_Fx.tr (fx26) (fxX12_ended e28)
    cases h
    exact q_vret rfl dX12_toss_165 hQ
  · rw [if_neg c] at h
    refine q_aload_n 0 rfl rfl dX12_toss_18 ?_
    refine q_getR (q_sh102 w) (by decide) (by decide) rfl lfX12_74 dX12_toss_19 (r := 175) (q_wr102_27 w) ?_
    refine q_aload_n 0 rfl rfl dX12_toss_22 ?_
    refine q_getI (q_sh102 w) (by decide) (by decide) rfl lfX12_533 dX12_toss_23 ?_
    refine q_iconst (v := (1 : Int32)) (by decide) dX12_toss_26 ?_
    refine q_isub dX12_toss_27 ?_
    obtain ⟨hg30, h⟩ := q_guard h
    refine q_iald (q_sh175 w) (q_inb_in hg30) dX12_toss_28 ?_
    refine q_istore [(5, .int (x.2.1 175 ((x.2.1 102 35) - (1 : Int32)).toNatClampNeg)), (0, .ref 102), (1, .long y1), (3, .int y3), (4, .int y4)] (by decide) rfl dX12_toss_29 ?_
    refine q_iconst (v := (0 : Int32)) (by decide) dX12_toss_31 ?_
    refine q_istore [(6, .int (0 : Int32)), (5, .int (x.2.1 175 ((x.2.1 102 35) - (1 : Int32)).toNatClampNeg)), (0, .ref 102), (1, .long y1), (3, .int y3), (4, .int y4)] (by decide) rfl dX12_toss_32 ?_
    refine q_sub [2, 3, 4, 5, 1, 0] rfl ?_
    exact usX12_toss_34 w hq (aM) h hQ
theorem lX12_toss_11 {g : QG} {Q : Option Value → QS → Prop} {qs : Nat} {q : Nat} {y1 : Int64} {y3 : Int32} {y4 : Int32} {r : QS} (hq : q_qok q) (hQ : Q none r) : ∀ (c : Nat) (x : QS), q_Wire x → q_aM x q qs → q_it (tX12_toss_11 q y1 y3 y4) c x = some r → q_L g mX12_toss 2 0 0 Q 0 0 11 [(0, .ref 102), (1, .long y1), (3, .int y3), (4, .int y4)] [] x := by
  intro c
  induction c with
  | zero => intro x w aM h; cases h
  | succ c ih =>
    intro x w aM h
    simp only [q_it] at h
    cases hz : tX12_toss_11 q y1 y3 y4 x with
    | none => rw [hz] at h; cases h
    | some z =>
      rw [hz] at h
      refine sX12_toss_11 w hq aM hz ?_
      rcases z with z | y
      · cases h; exact hQ
      · have fz := fxtX12_toss_11 hz; exact ih y (w.fx fz) (aM.fx fz) h
theorem kX12_toss_11 {S : QS} {g : QG} {Q : Option Value → QS → Prop} {qs : Nat} {q : Nat} {y1 : Int64} {y3 : Int32} {y4 : Int32} {r : QS} (w : q_Wire S) (hq : q_qok q) (aM : q_aM S q qs) (h : fX12_toss_11 S q y1 y3 y4 = some r) (hQ : Q none r) : q_L g mX12_toss 2 0 0 Q 0 0 11 [(0, .ref 102), (1, .long y1), (3, .int y3), (4, .int y4)] [] S := by
  obtain ⟨c, hc⟩ := q_run_it h
  exact lX12_toss_11 hq hQ c S w aM hc
set_option maxRecDepth 20000 in
theorem kX12_toss {S : QS} {g : QG} {Q : Option Value → QS → Prop} {qs : Nat} {q : Nat} {x1 : Int64} {x3 : Int32} {r : QS} (w : q_Wire S) (hq : q_qok q) (aM : q_aM S q qs) (h : fX12_toss S q x1 x3 = some r) (hQ : Q none r) : q_M g mX12_toss 2 0 0 [.ref 102, .long x1, .int x3] S Q := by
  unfold fX12_toss at h
  show q_L g mX12_toss 2 0 0 Q 0 0 0 [(0, .ref 102), (1, .long x1), (3, .int x3)] [] S
  refine q_aload_n 0 rfl rfl dX12_toss_0 ?_
  refine q_getR (q_sh102 w) (by decide) (by decide) rfl lfX12_77 dX12_toss_1 (r := 176) (q_wr102_28 w) ?_
  refine q_lload_n 1 rfl rfl dX12_toss_4 ?_
  obtain ⟨r31, e32, h⟩ := q_bind h
  refine q_callS (d := 1) (Mc := mX12_objectOf) (kc := 0) (nc := 0) [.long x1] okX12_objectOf lmX12_566 inX12_objectOf rfl (Nat.le_of_ble_eq_true rfl) (Nat.le_of_ble_eq_true rfl) (Nat.le_refl _) (Nat.le_refl _) dX12_toss_5 (q_L.deep (by decide) (kX12_objectOf (Q := fun r S' => r = some (.int r31) ∧ S' = S) w e32 ⟨rfl, rfl⟩)) (q_kI ?_)
  obtain ⟨hg33, h⟩ := q_guard h
  refine q_iald (q_sh176 w) (q_inb_in hg33) dX12_toss_8 ?_
  refine q_istore [(4, .int (S.2.1 176 r31.toNatClampNeg)), (0, .ref 102), (1, .long x1), (3, .int x3)] (by decide) rfl dX12_toss_9 ?_
  refine q_sub [1, 2, 3, 0] rfl ?_
  exact kX12_toss_11 w hq (aM) h hQ
set_option maxRecDepth 20000 in
theorem kX12_raise {S : QS} {g : QG} {Q : Option Value → QS → Prop} {qs : Nat} {q : Nat} {x1 : Int32} {x2 : Int32} {r : QS} (w : q_Wire S) (hq : q_qok q) (aM : q_aM S q qs) (h : fX12_raise S q x1 x2 = some r) (hQ : Q none r) : q_M g mX12_raise 3 0 0 [.ref 102, .int x1, .int x2] S Q := by
  unfold fX12_raise at h
  show q_L g mX12_raise 3 0 0 Q 0 0 0 [(0, .ref 102), (1, .int x1), (2, .int x2)] [] S
  refine q_aload_n 0 rfl rfl dX12_raise_0 ?_
  refine q_bipush (v := (10 : Int32)) (by decide) dX12_raise_1 ?_
  refine q_iload_n 1 rfl rfl dX12_raise_3 ?_
  refine q_iadd dX12_raise_4 ?_
  refine q_bipush (v := (48 : Int32)) (by decide) dX12_raise_5 ?_
  refine q_iload_n 1 rfl rfl dX12_raise_7 ?_
  refine q_iadd dX12_raise_8 ?_
  refine q_iconst (v := (0 : Int32)) (by decide) dX12_raise_9 ?_
  refine q_iload_n 2 rfl rfl dX12_raise_10 ?_
  obtain ⟨r1, e2, h⟩ := q_bind h
  refine q_callV (ci := 12) (d := 2) (Mc := mX12_object) (kc := 0) (nc := 0) [.int ((10 : Int32) + x1), .int ((48 : Int32) + x1), .int (0 : Int32), .int x2] okX12_object (q_sh102 w) (by decide) rfl lmX12_574 inX12_object seX12_object rfl (Nat.le_of_ble_eq_true rfl) (Nat.le_of_ble_eq_true rfl) (Nat.le_refl _) (Nat.le_refl _) dX12_raise_11 (q_L.deep (by decide) (kX12_object (Q := fun r S' => r = some (.long r1.1) ∧ S' = r1.2) w e2 ⟨rfl, rfl⟩)) (q_kJ ?_)
  have fx3 : q_Fx S r1.2 := q_Fx.tr (q_Fx.rf S) (fxX12_object e2)
  refine q_lstore_n [(3, .long r1.1), (0, .ref 102), (1, .int x1), (2, .int x2)] rfl (by decide) rfl dX12_raise_14 ?_
  refine q_lload_n 0 rfl rfl dX12_raise_15 ?_
  refine q_lconst (v := (0 : Int64)) (by decide) dX12_raise_16 ?_
  refine q_lcmp dX12_raise_17 ?_
  refine q_if_eq 27 (by decide) dX12_raise_18 (fun c => ?_) (fun c => ?_)
  · rw [if_pos c] at h
    obtain rfl := Option.some.inj h
    exact q_vret rfl dX12_raise_27 hQ
  · rw [if_neg c] at h
    refine q_aload_n 1 rfl rfl dX12_raise_21 ?_
    refine q_lload_n 0 rfl rfl dX12_raise_22 ?_
    refine q_iload_n 3 rfl rfl dX12_raise_23 ?_
    obtain ⟨r4, e5, h⟩ := q_bind h
    refine q_callV (ci := 12) (d := 2) (Mc := mX12_toss) (kc := 0) (nc := 0) [.long r1.1, .int x2] okX12_toss (q_sh102 (w.fx fx3)) (by decide) rfl lmX12_578 inX12_toss seX12_toss rfl (Nat.le_of_ble_eq_true rfl) (Nat.le_of_ble_eq_true rfl) (Nat.le_refl _) (Nat.le_refl _) dX12_raise_24 (q_L.deep (by decide) (kX12_toss (Q := fun r S' => r = none ∧ S' = r4) (w.fx fx3) hq (aM.fx fx3) e5 ⟨rfl, rfl⟩)) (q_kV ?_)
    have fx6 : q_Fx S r4 := q_Fx.tr (fx3) (fxX12_toss e5)
    obtain rfl := Option.some.inj h
    exact q_vret rfl dX12_raise_27 hQ
set_option maxRecDepth 20000 in
theorem kX12_next {S : QS} {g : QG} {Q : Option Value → QS → Prop}   {r : QS} (w : q_Wire S) (h : fX12_next S = some r) (hQ : Q none r) : q_M g mX12_next 0 0 0 [.ref 102] S Q := by
  unfold fX12_next at h
  show q_L g mX12_next 0 0 0 Q 0 0 0 [(0, .ref 102)] [] S
  refine q_aload_n 0 rfl rfl dX12_next_0 ?_
  refine q_getR (q_sh102 w) (by decide) (by decide) rfl lfX12_74 dX12_next_1 (r := 175) (q_wr102_27 w) ?_
  refine q_aload_n 0 rfl rfl dX12_next_4 ?_
  refine q_getI (q_sh102 w) (by decide) (by decide) rfl lfX12_533 dX12_next_5 ?_
  refine q_iconst (v := (1 : Int32)) (by decide) dX12_next_8 ?_
  refine q_isub dX12_next_9 ?_
  refine q_dup2 rfl rfl dX12_next_10 ?_
  obtain ⟨hg1, h⟩ := q_guard h
  refine q_iald (q_sh175 w) (q_inb_in hg1) dX12_next_11 ?_
  refine q_iconst (v := (1 : Int32)) (by decide) dX12_next_12 ?_
  refine q_iadd dX12_next_13 ?_
  obtain ⟨hg2, h⟩ := q_guard h
  refine q_iast (q_sh175 w) (q_inb_in hg2) dX12_next_14 ?_
  obtain ⟨S3, e4, h⟩ := q_bindS h
  refine q_st e4 ?_
  have fx5 : q_Fx S S3 := e4 ▸ q_Fx.sI (q_Fx.rf S)
  obtain rfl := Option.some.inj h
  exact q_vret rfl dX12_next_15 hQ
