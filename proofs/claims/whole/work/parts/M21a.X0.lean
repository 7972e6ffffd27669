set_option maxRecDepth 20000 in
theorem kX0_addClass {S : QS} {g : QG} {Q : Option Value → QS → Prop} {p : Nat} {x1 : Int32} {x2 : Int32} {r : QS} (w : q_Wire S) (hp : q_pok p) (h : fX0_addClass S p x1 x2 = some r) (hQ : Q none r) : q_M g mX0_addClass 0 0 0 [.ref (p + 1), .int x1, .int x2] S Q := by
  unfold fX0_addClass at h
  show q_L g mX0_addClass 0 0 0 Q 0 0 0 [(0, .ref (p + 1)), (1, .int x1), (2, .int x2)] [] S
  refine q_aload_n 0 rfl rfl dX0_addClass_0 ?_
  refine q_getI (q_shP1 w hp) (by decide) (by decide) rfl lfX0_40 dX0_addClass_1 ?_
  refine q_bipush (v := (32 : Int32)) (by decide) dX0_addClass_4 ?_
  refine q_icmp_ge 87 (by decide) dX0_addClass_6 (fun c => ?_) (fun c => ?_)
  · rw [if_pos c] at h
    obtain rfl := Option.some.inj h
    exact q_vret rfl dX0_addClass_87 hQ
  · rw [if_neg c] at h
    refine q_aload_n 0 rfl rfl dX0_addClass_9 ?_
    refine q_getR (q_shP1 w hp) (by decide) (by decide) rfl lfX0_9 dX0_addClass_10 (r := (p + 2)) (q_wrP1_1 w hp) ?_
    refine q_aload_n 0 rfl rfl dX0_addClass_13 ?_
    refine q_getI (q_shP1 w hp) (by decide) (by decide) rfl lfX0_40 dX0_addClass_14 ?_
    refine q_iload_n 1 rfl rfl dX0_addClass_17 ?_
    obtain ⟨hg1, h⟩ := q_guard h
    refine q_iast (q_shP2 w hp) (q_inb_in hg1) dX0_addClass_18 ?_
    obtain ⟨S2, e3, h⟩ := q_bindS h
    refine q_st e3 ?_
    have fx4 : q_Fx S S2 := e3 ▸ q_Fx.sI (q_Fx.rf S)
    refine q_aload_n 0 rfl rfl dX0_addClass_19 ?_
    refine q_getR (q_shP1 (w.fx fx4) hp) (by decide) (by decide) rfl lfX0_15 dX0_addClass_20 (r := (p + 3)) (q_wrP1_2 (w.fx fx4) hp) ?_
    refine q_aload_n 0 rfl rfl dX0_addClass_23 ?_
    refine q_getI (q_shP1 (w.fx fx4) hp) (by decide) (by decide) rfl lfX0_40 dX0_addClass_24 ?_
    refine q_iload_n 2 rfl rfl dX0_addClass_27 ?_
    obtain ⟨hg5, h⟩ := q_guard h
    refine q_iast (q_shP3 (w.fx fx4) hp) (q_inb_in hg5) dX0_addClass_28 ?_
    obtain ⟨S6, e7, h⟩ := q_bindS h
    refine q_st e7 ?_
    have fx8 : q_Fx S S6 := e7 ▸ q_Fx.sI (fx4)
    refine q_aload_n 0 rfl rfl dX0_addClass_29 ?_
    refine q_getR (q_shP1 (w.fx fx8) hp) (by decide) (by decide) rfl lfX0_18 dX0_addClass_30 (r := (p + 4)) (q_wrP1_3 (w.fx fx8) hp) ?_
    refine q_aload_n 0 rfl rfl dX0_addClass_33 ?_
    refine q_getI (q_shP1 (w.fx fx8) hp) (by decide) (by decide) rfl lfX0_40 dX0_addClass_34 ?_
    refine q_iconst (v := (1 : Int32)) (by decide) dX0_addClass_37 ?_
    refine q_aload_n 0 rfl rfl dX0_addClass_38 ?_
    refine q_getI (q_shP1 (w.fx fx8) hp) (by decide) (by decide) rfl lfX0_40 dX0_addClass_39 ?_
    refine q_ishl dX0_addClass_42 ?_
    refine q_iload_n 2 rfl rfl dX0_addClass_43 ?_
    obtain ⟨v10, hv, h⟩ := q_bind h
    have K1 : q_L g mX0_addClass 0 0 0 Q 0 0 65 [(0, .ref (p + 1))] [.int v10, .int ((1 : Int32) <<< ((S6.2.1 (p + 1) 0) &&& 31)), .int (S6.2.1 (p + 1) 0), .ref (p + 4)] S6 := by
      refine q_ior dX0_addClass_65 ?_
      obtain ⟨hg11, h⟩ := q_guard h
      refine q_iast (q_shP4 (w.fx fx8) hp) (q_inb_in hg11) dX0_addClass_66 ?_
      obtain ⟨S12, e13, h⟩ := q_bindS h
      refine q_st e13 ?_
      have fx14 : q_Fx S S12 := e13 ▸ q_Fx.sI (fx8)
      refine q_aload_n 0 rfl rfl dX0_addClass_67 ?_
      refine q_getR (q_shP1 (w.fx fx14) hp) (by decide) (by decide) rfl lfX0_21 dX0_addClass_68 (r := (p + 5)) (q_wrP1_4 (w.fx fx14) hp) ?_
      refine q_aload_n 0 rfl rfl dX0_addClass_71 ?_
      refine q_getI (q_shP1 (w.fx fx14) hp) (by decide) (by decide) rfl lfX0_40 dX0_addClass_72 ?_
      refine q_iconst (v := (0 : Int32)) (by decide) dX0_addClass_75 ?_
      obtain ⟨hg15, h⟩ := q_guard h
      refine q_iast (q_shP5 (w.fx fx14) hp) (q_inb_in hg15) dX0_addClass_76 ?_
      obtain ⟨S16, e17, h⟩ := q_bindS h
      refine q_st e17 ?_
      have fx18 : q_Fx S S16 := e17 ▸ q_Fx.sI (fx14)
      refine q_aload_n 0 rfl rfl dX0_addClass_77 ?_
      refine q_dup rfl dX0_addClass_78 ?_
      refine q_getI (q_shP1 (w.fx fx18) hp) (by decide) (by decide) rfl lfX0_40 dX0_addClass_79 ?_
      refine q_iconst (v := (1 : Int32)) (by decide) dX0_addClass_82 ?_
      refine q_iadd dX0_addClass_83 ?_
      refine q_putI (q_shP1 (w.fx fx18) hp) (by decide) (by decide) rfl rfl ⟨rfl, rfl⟩ lfX0_40 dX0_addClass_84 ?_
      obtain ⟨S19, e20, h⟩ := q_bindS h
      refine q_st e20 ?_
      have fx21 : q_Fx S S19 := e20 ▸ q_Fx.sI (fx18)
      obtain rfl := Option.some.inj h
      exact q_vret rfl dX0_addClass_87 hQ
    replace h := hv
    refine q_if_lt 64 (by decide) dX0_addClass_44 (fun c => ?_) (fun c => ?_)
    · rw [if_pos c] at h
      refine q_iconst (v := (0 : Int32)) (by decide) dX0_addClass_64 ?_
      obtain rfl := Option.some.inj h
      refine q_sub [0] rfl ?_
      exact K1
    · rw [if_neg c] at h
      refine q_iload_n 2 rfl rfl dX0_addClass_47 ?_
      refine q_aload_n 0 rfl rfl dX0_addClass_48 ?_
      refine q_getI (q_shP1 (w.fx fx8) hp) (by decide) (by decide) rfl lfX0_40 dX0_addClass_49 ?_
      refine q_icmp_ge 64 (by decide) dX0_addClass_52 (fun c => ?_) (fun c => ?_)
      · rw [if_pos c] at h
        refine q_iconst (v := (0 : Int32)) (by decide) dX0_addClass_64 ?_
        obtain rfl := Option.some.inj h
        refine q_sub [0] rfl ?_
        exact K1
      · rw [if_neg c] at h
        refine q_aload_n 0 rfl rfl dX0_addClass_55 ?_
        refine q_getR (q_shP1 (w.fx fx8) hp) (by decide) (by decide) rfl lfX0_18 dX0_addClass_56 (r := (p + 4)) (q_wrP1_3 (w.fx fx8) hp) ?_
        refine q_iload_n 2 rfl rfl dX0_addClass_59 ?_
        obtain ⟨hg9, h⟩ := q_guard h
        refine q_iald (q_shP4 (w.fx fx8) hp) (q_inb_in hg9) dX0_addClass_60 ?_
        refine q_goto 65 (by decide) dX0_addClass_61 ?_
        obtain rfl := Option.some.inj h
        refine q_sub [0] rfl ?_
        exact K1
set_option maxRecDepth 20000 in
theorem sX0_begin_24 {g : QG} {Q : Option Value → QS → Prop} {p : Nat}  {x : Int32 × QS} {z : (QS) ⊕ (Int32 × QS)} (w : q_Wire x.2) (hp : q_pok p) (h : tX0_begin_24 p x = some z) (hQ : (Sum.elim (fun r0 : QS => Q none r0) (fun y : Int32 × QS => q_L g mX0_begin 1 0 0 Q 0 0 24 [(0, .ref (p + 1)), (1, .int y.1)] [] y.2) z)) : q_L g mX0_begin 1 0 0 Q 0 0 24 [(0, .ref (p + 1)), (1, .int x.1)] [] x.2 := by
  unfold tX0_begin_24 at h
  refine q_iload_n 1 rfl rfl dX0_begin_24 ?_
  refine q_bipush (v := (8 : Int32)) (by decide) dX0_begin_25 ?_
  refine q_icmp_ge 42 (by decide) dX0_begin_27 (fun c => ?_) (fun c => ?_)
  · rw [if_pos c] at h
    cases h
    exact q_vret rfl dX0_begin_42 hQ
  · rw [if_neg c] at h
    refine q_aload_n 0 rfl rfl dX0_begin_30 ?_
    refine q_iconst (v := (-1 : Int32)) (by decide) dX0_begin_31 ?_
    refine q_iconst (v := (1 : Int32)) (by decide) dX0_begin_32 ?_
    obtain ⟨r1, e2, h⟩ := q_bind h
    refine q_callV (ci := 0) (d := 0) (Mc := mX0_addClass) (kc := 0) (nc := 0) [.int (-1 : Int32), .int (1 : Int32)] okX0_addClass (q_shP1 w hp) (by decide) rfl lmX0_43 inX0_addClass seX0_addClass rfl (Nat.le_of_ble_eq_true rfl) (Nat.le_of_ble_eq_true rfl) (Nat.le_refl _) (Nat.le_refl _) dX0_begin_33 (q_L.deep (by decide) (kX0_addClass (Q := fun r S' => r = none ∧ S' = r1) w hp e2 ⟨rfl, rfl⟩)) (q_kV ?_)
    have fx3 : q_Fx x.2 r1 := q_Fx.tr (q_Fx.rf x.2) (fxX0_addClass e2)
    refine q_iinc (v := (x.1 + (1 : Int32))) 1 [(1, .int (x.1 + (1 : Int32))), (0, .ref (p + 1))] (by decide) rfl (congrArg (fun t => x.1 + t) (by decide)) rfl dX0_begin_36 ?_
    refine q_goto 24 (by decide) dX0_begin_39 ?_
    refine q_sub [1, 0] rfl ?_
    cases h
    exact hQ
theorem lX0_begin_24 {g : QG} {Q : Option Value → QS → Prop} {p : Nat}  {r : QS} (hp : q_pok p) (hQ : Q none r) : ∀ (c : Nat) (x : Int32 × QS), q_Wire x.2 → q_it (tX0_begin_24 p) c x = some r → q_L g mX0_begin 1 0 0 Q 0 0 24 [(0, .ref (p + 1)), (1, .int x.1)] [] x.2 := by
  intro c
  induction c with
  | zero => intro x w h; cases h
  | succ c ih =>
    intro x w h
    simp only [q_it] at h
    cases hz : tX0_begin_24 p x with
    | none => rw [hz] at h; cases h
    | some z =>
      rw [hz] at h
      refine sX0_begin_24 w hp hz ?_
      rcases z with z | y
      · cases h; exact hQ
      · have fz := fxtX0_begin_24 hz; exact ih y (w.fx fz) h
theorem kX0_begin_24 {S : QS} {g : QG} {Q : Option Value → QS → Prop} {p : Nat} {y1 : Int32} {r : QS} (w : q_Wire S) (hp : q_pok p) (h : fX0_begin_24 S p y1 = some r) (hQ : Q none r) : q_L g mX0_begin 1 0 0 Q 0 0 24 [(0, .ref (p + 1)), (1, .int y1)] [] S := by
  obtain ⟨c, hc⟩ := q_run_it h
  exact lX0_begin_24 hp hQ c (y1, S) w hc
set_option maxRecDepth 20000 in
theorem kX0_begin {S : QS} {g : QG} {Q : Option Value → QS → Prop} {p : Nat}  {r : QS} (w : q_Wire S) (hp : q_pok p) (h : fX0_begin S p = some r) (hQ : Q none r) : q_M g mX0_begin 1 0 0 [.ref (p + 1)] S Q := by
  unfold fX0_begin at h
  show q_L g mX0_begin 1 0 0 Q 0 0 0 [(0, .ref (p + 1))] [] S
  refine q_aload_n 0 rfl rfl dX0_begin_0 ?_
  refine q_iconst (v := (0 : Int32)) (by decide) dX0_begin_1 ?_
  refine q_putI (q_shP1 w hp) (by decide) (by decide) rfl rfl ⟨rfl, rfl⟩ lfX0_36 dX0_begin_2 ?_
  obtain ⟨S4, e5, h⟩ := q_bindS h
  refine q_st e5 ?_
  have fx6 : q_Fx S S4 := e5 ▸ q_Fx.sI (q_Fx.rf S)
  refine q_aload_n 0 rfl rfl dX0_begin_5 ?_
  refine q_iconst (v := (0 : Int32)) (by decide) dX0_begin_6 ?_
  refine q_putI (q_shP1 (w.fx fx6) hp) (by decide) (by decide) rfl rfl ⟨rfl, rfl⟩ lfX0_40 dX0_begin_7 ?_
  obtain ⟨S7, e8, h⟩ := q_bindS h
  refine q_st e8 ?_
  have fx9 : q_Fx S S7 := e8 ▸ q_Fx.sI (fx6)
  refine q_aload_n 0 rfl rfl dX0_begin_10 ?_
  refine q_iconst (v := (-1 : Int32)) (by decide) dX0_begin_11 ?_
  refine q_iconst (v := (-1 : Int32)) (by decide) dX0_begin_12 ?_
  obtain ⟨r10, e11, h⟩ := q_bind h
  refine q_callV (ci := 0) (d := 0) (Mc := mX0_addClass) (kc := 0) (nc := 0) [.int (-1 : Int32), .int (-1 : Int32)] okX0_addClass (q_shP1 (w.fx fx9) hp) (by decide) rfl lmX0_43 inX0_addClass seX0_addClass rfl (Nat.le_of_ble_eq_true rfl) (Nat.le_of_ble_eq_true rfl) (Nat.le_refl _) (Nat.le_refl _) dX0_begin_13 (q_L.deep (by decide) (kX0_addClass (Q := fun r S' => r = none ∧ S' = r10) (w.fx fx9) hp e11 ⟨rfl, rfl⟩)) (q_kV ?_)
  have fx12 : q_Fx S r10 := q_Fx.tr (fx9) (fxX0_addClass e11)
  refine q_aload_n 0 rfl rfl dX0_begin_16 ?_
  refine q_iconst (v := (-1 : Int32)) (by decide) dX0_begin_17 ?_
  refine q_iconst (v := (0 : Int32)) (by decide) dX0_begin_18 ?_
  obtain ⟨r13, e14, h⟩ := q_bind h
  refine q_callV (ci := 0) (d := 0) (Mc := mX0_addClass) (kc := 0) (nc := 0) [.int (-1 : Int32), .int (0 : Int32)] okX0_addClass (q_shP1 (w.fx fx12) hp) (by decide) rfl lmX0_43 inX0_addClass seX0_addClass rfl (Nat.le_of_ble_eq_true rfl) (Nat.le_of_ble_eq_true rfl) (Nat.le_refl _) (Nat.le_refl _) dX0_begin_19 (q_L.deep (by decide) (kX0_addClass (Q := fun r S' => r = none ∧ S' = r13) (w.fx fx12) hp e14 ⟨rfl, rfl⟩)) (q_kV ?_)
  have fx15 : q_Fx S r13 := q_Fx.tr (fx12) (fxX0_addClass e14)
  refine q_iconst (v := (2 : Int32)) (by decide) dX0_begin_22 ?_
  refine q_istore_n [(1, .int (2 : Int32)), (0, .ref (p + 1))] rfl (by decide) rfl dX0_begin_23 ?_
  refine q_sub [1, 0] rfl ?_
  exact kX0_begin_24 (w.fx fx15) hp h hQ
set_option maxRecDepth 20000 in
theorem kX0_isClass {S : QS} {g : QG} {Q : Option Value → QS → Prop} {p : Nat} {x1 : Int32} {r : Bool} (w : q_Wire S) (hp : q_pok p) (h : fX0_isClass S p x1 = some r) (hQ : Q (some (.int (q_b r))) S) : q_M g mX0_isClass 0 0 0 [.ref (p + 1), .int x1] S Q := by
  unfold fX0_isClass at h
  show q_L g mX0_isClass 0 0 0 Q 0 0 0 [(0, .ref (p + 1)), (1, .int x1)] [] S
  refine q_iload_n 1 rfl rfl dX0_isClass_0 ?_
  refine q_if_lt 16 (by decide) dX0_isClass_1 (fun c => ?_) (fun c => ?_)
  · rw [if_pos c] at h
    refine q_iconst (v := (0 : Int32)) (by decide) dX0_isClass_16 ?_
    obtain rfl := Option.some.inj h
    exact q_iret rfl (by decide) dX0_isClass_17 hQ
  · rw [if_neg c] at h
    refine q_iload_n 1 rfl rfl dX0_isClass_4 ?_
    refine q_aload_n 0 rfl rfl dX0_isClass_5 ?_
    refine q_getI (q_shP1 w hp) (by decide) (by decide) rfl lfX0_40 dX0_isClass_6 ?_
    refine q_icmp_ge 16 (by decide) dX0_isClass_9 (fun c => ?_) (fun c => ?_)
    · rw [if_pos c] at h
      refine q_iconst (v := (0 : Int32)) (by decide) dX0_isClass_16 ?_
      obtain rfl := Option.some.inj h
      exact q_iret rfl (by decide) dX0_isClass_17 hQ
    · rw [if_neg c] at h
      refine q_iconst (v := (1 : Int32)) (by decide) dX0_isClass_12 ?_
      refine q_goto 17 (by decide) dX0_isClass_13 ?_
      obtain rfl := Option.some.inj h
      exact q_iret rfl (by decide) dX0_isClass_17 hQ
set_option maxRecDepth 20000 in
theorem kX0_addField {S : QS} {g : QG} {Q : Option Value → QS → Prop} {p : Nat} {x1 : Int32} {x2 : Int32} {x3 : Int32} {r : QS} (w : q_Wire S) (hp : q_pok p) (h : fX0_addField S p x1 x2 x3 = some r) (hQ : Q none r) : q_M g mX0_addField 1 0 0 [.ref (p + 1), .int x1, .int x2, .int x3] S Q := by
  unfold fX0_addField at h
  show q_L g mX0_addField 1 0 0 Q 0 0 0 [(0, .ref (p + 1)), (1, .int x1), (2, .int x2), (3, .int x3)] [] S
  refine q_aload_n 0 rfl rfl dX0_addField_0 ?_
  refine q_getI (q_shP1 w hp) (by decide) (by decide) rfl lfX0_36 dX0_addField_1 ?_
  refine q_bipush (v := (48 : Int32)) (by decide) dX0_addField_4 ?_
  refine q_icmp_ge 82 (by decide) dX0_addField_6 (fun c => ?_) (fun c => ?_)
  · rw [if_pos c] at h
    obtain rfl := Option.some.inj h
    exact q_vret rfl dX0_addField_82 hQ
  · rw [if_neg c] at h
    refine q_aload_n 0 rfl rfl dX0_addField_9 ?_
    refine q_iload_n 1 rfl rfl dX0_addField_10 ?_
    obtain ⟨r1, e2, h⟩ := q_bind h
    refine q_callV (ci := 0) (d := 0) (Mc := mX0_isClass) (kc := 0) (nc := 0) [.int x1] okX0_isClass (q_shP1 w hp) (by decide) rfl lmX0_47 inX0_isClass seX0_isClass rfl (Nat.le_of_ble_eq_true rfl) (Nat.le_of_ble_eq_true rfl) (Nat.le_refl _) (Nat.le_refl _) dX0_addField_11 (q_L.deep (by decide) (kX0_isClass (Q := fun r S' => r = some (.int (q_b r1)) ∧ S' = S) w hp e2 ⟨rfl, rfl⟩)) (q_kI ?_)
    refine q_if_eq 82 (by decide) dX0_addField_14 (fun c => ?_) (fun c => ?_)
    · have c := q_b_0.mp c; rw [q_if0 c] at h
      obtain rfl := Option.some.inj h
      exact q_vret rfl dX0_addField_82 hQ
    · have c := q_b_n.mp c; rw [q_if1 c] at h
      refine q_aload_n 0 rfl rfl dX0_addField_17 ?_
      refine q_getR (q_shP1 w hp) (by decide) (by decide) rfl lfX0_24 dX0_addField_18 (r := (p + 6)) (q_wrP1_6 w hp) ?_
      refine q_aload_n 0 rfl rfl dX0_addField_21 ?_
      refine q_getI (q_shP1 w hp) (by decide) (by decide) rfl lfX0_36 dX0_addField_22 ?_
      refine q_iload_n 2 rfl rfl dX0_addField_25 ?_
      obtain ⟨hg3, h⟩ := q_guard h
      refine q_iast (q_shP6 w hp) (q_inb_in hg3) dX0_addField_26 ?_
      obtain ⟨S4, e5, h⟩ := q_bindS h
      refine q_st e5 ?_
      have fx6 : q_Fx S S4 := e5 ▸ q_Fx.sI (q_Fx.rf S)
      refine q_aload_n 0 rfl rfl dX0_addField_27 ?_
      refine q_getR (q_shP1 (w.fx fx6) hp) (by decide) (by decide) rfl lfX0_27 dX0_addField_28 (r := (p + 7)) (q_wrP1_7 (w.fx fx6) hp) ?_
      refine q_aload_n 0 rfl rfl dX0_addField_31 ?_
      refine q_getI (q_shP1 (w.fx fx6) hp) (by decide) (by decide) rfl lfX0_36 dX0_addField_32 ?_
      refine q_iload_n 1 rfl rfl dX0_addField_35 ?_
      obtain ⟨hg7, h⟩ := q_guard h
      refine q_iast (q_shP7 (w.fx fx6) hp) (q_inb_in hg7) dX0_addField_36 ?_
      obtain ⟨S8, e9, h⟩ := q_bindS h
      refine q_st e9 ?_
      have fx10 : q_Fx S S8 := e9 ▸ q_Fx.sI (fx6)
      refine q_aload_n 0 rfl rfl dX0_addField_37 ?_
      refine q_getR (q_shP1 (w.fx fx10) hp) (by decide) (by decide) rfl lfX0_30 dX0_addField_38 (r := (p + 8)) (q_wrP1_8 (w.fx fx10) hp) ?_
      refine q_aload_n 0 rfl rfl dX0_addField_41 ?_
      refine q_getI (q_shP1 (w.fx fx10) hp) (by decide) (by decide) rfl lfX0_36 dX0_addField_42 ?_
      refine q_iload_n 3 rfl rfl dX0_addField_45 ?_
      obtain ⟨hg11, h⟩ := q_guard h
      refine q_iast (q_shP8 (w.fx fx10) hp) (q_inb_in hg11) dX0_addField_46 ?_
      obtain ⟨S12, e13, h⟩ := q_bindS h
      refine q_st e13 ?_
      have fx14 : q_Fx S S12 := e13 ▸ q_Fx.sI (fx10)
      refine q_aload_n 0 rfl rfl dX0_addField_47 ?_
      refine q_getR (q_shP1 (w.fx fx14) hp) (by decide) (by decide) rfl lfX0_33 dX0_addField_48 (r := (p + 9)) (q_wrP1_9 (w.fx fx14) hp) ?_
      refine q_aload_n 0 rfl rfl dX0_addField_51 ?_
      refine q_getI (q_shP1 (w.fx fx14) hp) (by decide) (by decide) rfl lfX0_36 dX0_addField_52 ?_
      refine q_aload_n 0 rfl rfl dX0_addField_55 ?_
      refine q_getR (q_shP1 (w.fx fx14) hp) (by decide) (by decide) rfl lfX0_21 dX0_addField_56 (r := (p + 5)) (q_wrP1_4 (w.fx fx14) hp) ?_
      refine q_iload_n 1 rfl rfl dX0_addField_59 ?_
      obtain ⟨hg15, h⟩ := q_guard h
      refine q_iald (q_shP5 (w.fx fx14) hp) (q_inb_in hg15) dX0_addField_60 ?_
      obtain ⟨hg16, h⟩ := q_guard h
      refine q_iast (q_shP9 (w.fx fx14) hp) (q_inb_in hg16) dX0_addField_61 ?_
      obtain ⟨S17, e18, h⟩ := q_bindS h
      refine q_st e18 ?_
      have fx19 : q_Fx S S17 := e18 ▸ q_Fx.sI (fx14)
      refine q_aload_n 0 rfl rfl dX0_addField_62 ?_
      refine q_getR (q_shP1 (w.fx fx19) hp) (by decide) (by decide) rfl lfX0_21 dX0_addField_63 (r := (p + 5)) (q_wrP1_4 (w.fx fx19) hp) ?_
      refine q_iload_n 1 rfl rfl dX0_addField_66 ?_
      refine q_dup2 rfl rfl dX0_addField_67 ?_
      obtain ⟨hg20, h⟩ := q_guard h
      refine q_iald (q_shP5 (w.fx fx19) hp) (q_inb_in hg20) dX0_addField_68 ?_
      refine q_iconst (v := (1 : Int32)) (by decide) dX0_addField_69 ?_
      refine q_iadd dX0_addField_70 ?_
      obtain ⟨hg21, h⟩ := q_guard h
      refine q_iast (q_shP5 (w.fx fx19) hp) (q_inb_in hg21) dX0_addField_71 ?_
      obtain ⟨S22, e23, h⟩ := q_bindS h
      refine q_st e23 ?_
      have fx24 : q_Fx S S22 := e23 ▸ q_Fx.sI (fx19)
      refine q_aload_n 0 rfl rfl dX0_addField_72 ?_
      refine q_dup rfl dX0_addField_73 ?_
      refine q_getI (q_shP1 (w.fx fx24) hp) (by decide) (by decide) rfl lfX0_36 dX0_addField_74 ?_
      refine q_iconst (v := (1 : Int32)) (by decide) dX0_addField_77 ?_
      refine q_iadd dX0_addField_78 ?_
      refine q_putI (q_shP1 (w.fx fx24) hp) (by decide) (by decide) rfl rfl ⟨rfl, rfl⟩ lfX0_36 dX0_addField_79 ?_
      obtain ⟨S25, e26, h⟩ := q_bindS h
      refine q_st e26 ?_
      have fx27 : q_Fx S S25 := e26 ▸ q_Fx.sI (fx24)
      obtain rfl := Option.some.inj h
      exact q_vret rfl dX0_addField_82 hQ
set_option maxRecDepth 20000 in
theorem kX0_isArray {S : QS} {g : QG} {Q : Option Value → QS → Prop}  {x0 : Int32} {r : Bool} (w : q_Wire S) (h : fX0_isArray S x0 = some r) (hQ : Q (some (.int (q_b r))) S) : q_M g mX0_isArray 0 0 0 [.int x0] S Q := by
  unfold fX0_isArray at h
  show q_L g mX0_isArray 0 0 0 Q 0 0 0 [(0, .int x0)] [] S
  refine q_iload_n 0 rfl rfl dX0_isArray_0 ?_
  refine q_bipush (v := (32 : Int32)) (by decide) dX0_isArray_1 ?_
  refine q_icmp_lt 16 (by decide) dX0_isArray_3 (fun c => ?_) (fun c => ?_)
  · rw [if_pos c] at h
    refine q_iconst (v := (0 : Int32)) (by decide) dX0_isArray_16 ?_
    obtain rfl := Option.some.inj h
    exact q_iret rfl (by decide) dX0_isArray_17 hQ
  · rw [if_neg c] at h
    refine q_iload_n 0 rfl rfl dX0_isArray_6 ?_
    refine q_bipush (v := (64 : Int32)) (by decide) dX0_isArray_7 ?_
    refine q_icmp_gt 16 (by decide) dX0_isArray_9 (fun c => ?_) (fun c => ?_)
    · rw [if_pos c] at h
      refine q_iconst (v := (0 : Int32)) (by decide) dX0_isArray_16 ?_
      obtain rfl := Option.some.inj h
      exact q_iret rfl (by decide) dX0_isArray_17 hQ
    · rw [if_neg c] at h
      refine q_iconst (v := (1 : Int32)) (by decide) dX0_isArray_12 ?_
      refine q_goto 17 (by decide) dX0_isArray_13 ?_
      obtain rfl := Option.some.inj h
      exact q_iret rfl (by decide) dX0_isArray_17 hQ
set_option maxRecDepth 20000 in
theorem kX0_isAbove {S : QS} {g : QG} {Q : Option Value → QS → Prop} {p : Nat} {x1 : Int32} {x2 : Int32} {r : Bool} (w : q_Wire S) (hp : q_pok p) (h : fX0_isAbove S p x1 x2 = some r) (hQ : Q (some (.int (q_b r))) S) : q_M g mX0_isAbove 0 0 0 [.ref (p + 1), .int x1, .int x2] S Q := by
  unfold fX0_isAbove at h
  show q_L g mX0_isAbove 0 0 0 Q 0 0 0 [(0, .ref (p + 1)), (1, .int x1), (2, .int x2)] [] S
  refine q_iload_n 1 rfl rfl dX0_isAbove_0 ?_
  refine q_if_lt 41 (by decide) dX0_isAbove_1 (fun c => ?_) (fun c => ?_)
  · rw [if_pos c] at h
    refine q_iconst (v := (0 : Int32)) (by decide) dX0_isAbove_41 ?_
    obtain rfl := Option.some.inj h
    exact q_iret rfl (by decide) dX0_isAbove_42 hQ
  · rw [if_neg c] at h
    refine q_iload_n 1 rfl rfl dX0_isAbove_4 ?_
    refine q_aload_n 0 rfl rfl dX0_isAbove_5 ?_
    refine q_getI (q_shP1 w hp) (by decide) (by decide) rfl lfX0_40 dX0_isAbove_6 ?_
    refine q_icmp_ge 41 (by decide) dX0_isAbove_9 (fun c => ?_) (fun c => ?_)
    · rw [if_pos c] at h
      refine q_iconst (v := (0 : Int32)) (by decide) dX0_isAbove_41 ?_
      obtain rfl := Option.some.inj h
      exact q_iret rfl (by decide) dX0_isAbove_42 hQ
    · rw [if_neg c] at h
      refine q_iload_n 2 rfl rfl dX0_isAbove_12 ?_
      refine q_if_lt 41 (by decide) dX0_isAbove_13 (fun c => ?_) (fun c => ?_)
      · rw [if_pos c] at h
        refine q_iconst (v := (0 : Int32)) (by decide) dX0_isAbove_41 ?_
        obtain rfl := Option.some.inj h
        exact q_iret rfl (by decide) dX0_isAbove_42 hQ
      · rw [if_neg c] at h
        refine q_iload_n 2 rfl rfl dX0_isAbove_16 ?_
        refine q_aload_n 0 rfl rfl dX0_isAbove_17 ?_
        refine q_getI (q_shP1 w hp) (by decide) (by decide) rfl lfX0_40 dX0_isAbove_18 ?_
        refine q_icmp_ge 41 (by decide) dX0_isAbove_21 (fun c => ?_) (fun c => ?_)
        · rw [if_pos c] at h
          refine q_iconst (v := (0 : Int32)) (by decide) dX0_isAbove_41 ?_
          obtain rfl := Option.some.inj h
          exact q_iret rfl (by decide) dX0_isAbove_42 hQ
        · rw [if_neg c] at h
          refine q_aload_n 0 rfl rfl dX0_isAbove_24 ?_
          refine q_getR (q_shP1 w hp) (by decide) (by decide) rfl lfX0_18 dX0_isAbove_25 (r := (p + 4)) (q_wrP1_3 w hp) ?_
          refine q_iload_n 2 rfl rfl dX0_isAbove_28 ?_
          obtain ⟨hg1, h⟩ := q_guard h
          refine q_iald (q_shP4 w hp) (q_inb_in hg1) dX0_isAbove_29 ?_
          refine q_iload_n 1 rfl rfl dX0_isAbove_30 ?_
          refine q_ishr dX0_isAbove_31 ?_
          refine q_iconst (v := (1 : Int32)) (by decide) dX0_isAbove_32 ?_
          refine q_iand dX0_isAbove_33 ?_
          refine q_if_eq 41 (by decide) dX0_isAbove_34 (fun c => ?_) (fun c => ?_)
          · rw [if_pos c] at h
            refine q_iconst (v := (0 : Int32)) (by decide) dX0_isAbove_41 ?_
            obtain rfl := Option.some.inj h
            exact q_iret rfl (by decide) dX0_isAbove_42 hQ
          · rw [if_neg c] at h
            refine q_iconst (v := (1 : Int32)) (by decide) dX0_isAbove_37 ?_
            refine q_goto 42 (by decide) dX0_isAbove_38 ?_
            obtain rfl := Option.some.inj h
            exact q_iret rfl (by decide) dX0_isAbove_42 hQ
set_option maxRecDepth 20000 in
theorem kX0_isBelow {S : QS} {g : QG} {Q : Option Value → QS → Prop} {p : Nat} {x1 : Int32} {x2 : Int32} {r : Bool} (w : q_Wire S) (hp : q_pok p) (h : fX0_isBelow S p x1 x2 = some r) (hQ : Q (some (.int (q_b r))) S) : q_M g mX0_isBelow 1 0 0 [.ref (p + 1), .int x1, .int x2] S Q := by
  unfold fX0_isBelow at h
  show q_L g mX0_isBelow 1 0 0 Q 0 0 0 [(0, .ref (p + 1)), (1, .int x1), (2, .int x2)] [] S
  refine q_iload_n 1 rfl rfl dX0_isBelow_0 ?_
  refine q_iload_n 2 rfl rfl dX0_isBelow_1 ?_
  refine q_icmp_eq 11 (by decide) dX0_isBelow_2 (fun c => ?_) (fun c => ?_)
  · rw [if_pos c] at h
    refine q_iconst (v := (1 : Int32)) (by decide) dX0_isBelow_11 ?_
    obtain rfl := Option.some.inj h
    exact q_iret rfl (by decide) dX0_isBelow_12 hQ
  · rw [if_neg c] at h
    refine q_iload_n 2 rfl rfl dX0_isBelow_5 ?_
    refine q_bipush (v := (67 : Int32)) (by decide) dX0_isBelow_6 ?_
    refine q_icmp_ne 13 (by decide) dX0_isBelow_8 (fun c => ?_) (fun c => ?_)
    · rw [if_neg c] at h
      refine q_iload_n 2 rfl rfl dX0_isBelow_13 ?_
      refine q_bipush (v := (69 : Int32)) (by decide) dX0_isBelow_14 ?_
      refine q_icmp_ne 38 (by decide) dX0_isBelow_16 (fun c => ?_) (fun c => ?_)
      · rw [if_neg c] at h
        refine q_iload_n 1 rfl rfl dX0_isBelow_38 ?_
        refine q_bipush (v := (65 : Int32)) (by decide) dX0_isBelow_39 ?_
        refine q_icmp_gt 50 (by decide) dX0_isBelow_41 (fun c => ?_) (fun c => ?_)
        · rw [if_pos c] at h
          refine q_iconst (v := (0 : Int32)) (by decide) dX0_isBelow_50 ?_
          obtain rfl := Option.some.inj h
          exact q_iret rfl (by decide) dX0_isBelow_51 hQ
        · rw [if_neg c] at h
          refine q_iload_n 2 rfl rfl dX0_isBelow_44 ?_
          refine q_bipush (v := (65 : Int32)) (by decide) dX0_isBelow_45 ?_
          refine q_icmp_le 52 (by decide) dX0_isBelow_47 (fun c => ?_) (fun c => ?_)
          · rw [if_pos c] at h
            refine q_iload_n 1 rfl rfl dX0_isBelow_52 ?_
            refine q_bipush (v := (65 : Int32)) (by decide) dX0_isBelow_53 ?_
            refine q_icmp_eq 62 (by decide) dX0_isBelow_55 (fun c => ?_) (fun c => ?_)
            · rw [if_pos c] at h
              refine q_iconst (v := (1 : Int32)) (by decide) dX0_isBelow_62 ?_
              obtain rfl := Option.some.inj h
              exact q_iret rfl (by decide) dX0_isBelow_63 hQ
            · rw [if_neg c] at h
              refine q_iload_n 2 rfl rfl dX0_isBelow_58 ?_
              refine q_if_ne 64 (by decide) dX0_isBelow_59 (fun c => ?_) (fun c => ?_)
              · rw [if_neg c] at h
                refine q_aload_n 0 rfl rfl dX0_isBelow_64 ?_
                refine q_iload_n 2 rfl rfl dX0_isBelow_65 ?_
                refine q_iload_n 1 rfl rfl dX0_isBelow_66 ?_
                obtain ⟨r1, e2, h⟩ := q_bind h
                refine q_callV (ci := 0) (d := 0) (Mc := mX0_isAbove) (kc := 0) (nc := 0) [.int x2, .int x1] okX0_isAbove (q_shP1 w hp) (by decide) rfl lmX0_54 inX0_isAbove seX0_isAbove rfl (Nat.le_of_ble_eq_true rfl) (Nat.le_of_ble_eq_true rfl) (Nat.le_refl _) (Nat.le_refl _) dX0_isBelow_67 (q_L.deep (by decide) (kX0_isAbove (Q := fun r S' => r = some (.int (q_b r1)) ∧ S' = S) w hp e2 ⟨rfl, rfl⟩)) (q_kI ?_)
                refine q_if_ne 94 (by decide) dX0_isBelow_70 (fun c => ?_) (fun c => ?_)
                · have c := q_b_n.mp c; rw [q_if1 c] at h
                  refine q_iconst (v := (1 : Int32)) (by decide) dX0_isBelow_94 ?_
                  refine q_goto 99 (by decide) dX0_isBelow_95 ?_
                  obtain rfl := Option.some.inj h
                  exact q_iret rfl (by decide) dX0_isBelow_99 hQ
                · have c := q_b_0.mp c; rw [q_if0 c] at h
                  refine q_iload_n 1 rfl rfl dX0_isBelow_73 ?_
                  refine q_bipush (v := (32 : Int32)) (by decide) dX0_isBelow_74 ?_
                  refine q_icmp_lt 98 (by decide) dX0_isBelow_76 (fun c => ?_) (fun c => ?_)
                  · rw [if_pos c] at h
                    refine q_iconst (v := (0 : Int32)) (by decide) dX0_isBelow_98 ?_
                    obtain rfl := Option.some.inj h
                    exact q_iret rfl (by decide) dX0_isBelow_99 hQ
                  · rw [if_neg c] at h
                    refine q_aload_n 0 rfl rfl dX0_isBelow_79 ?_
                    refine q_iload_n 2 rfl rfl dX0_isBelow_80 ?_
                    refine q_bipush (v := (32 : Int32)) (by decide) dX0_isBelow_81 ?_
                    refine q_isub dX0_isBelow_83 ?_
                    refine q_iload_n 1 rfl rfl dX0_isBelow_84 ?_
                    refine q_bipush (v := (32 : Int32)) (by decide) dX0_isBelow_85 ?_
                    refine q_isub dX0_isBelow_87 ?_
                    obtain ⟨r3, e4, h⟩ := q_bind h
                    refine q_callV (ci := 0) (d := 0) (Mc := mX0_isAbove) (kc := 0) (nc := 0) [.int (x2 - (32 : Int32)), .int (x1 - (32 : Int32))] okX0_isAbove (q_shP1 w hp) (by decide) rfl lmX0_54 inX0_isAbove seX0_isAbove rfl (Nat.le_of_ble_eq_true rfl) (Nat.le_of_ble_eq_true rfl) (Nat.le_refl _) (Nat.le_refl _) dX0_isBelow_88 (q_L.deep (by decide) (kX0_isAbove (Q := fun r S' => r = some (.int (q_b r3)) ∧ S' = S) w hp e4 ⟨rfl, rfl⟩)) (q_kI ?_)
                    refine q_if_eq 98 (by decide) dX0_isBelow_91 (fun c => ?_) (fun c => ?_)
                    · have c := q_b_0.mp c; rw [q_if0 c] at h
                      refine q_iconst (v := (0 : Int32)) (by decide) dX0_isBelow_98 ?_
                      obtain rfl := Option.some.inj h
                      exact q_iret rfl (by decide) dX0_isBelow_99 hQ
                    · have c := q_b_n.mp c; rw [q_if1 c] at h
                      refine q_iconst (v := (1 : Int32)) (by decide) dX0_isBelow_94 ?_
                      refine q_goto 99 (by decide) dX0_isBelow_95 ?_
                      obtain rfl := Option.some.inj h
                      exact q_iret rfl (by decide) dX0_isBelow_99 hQ
              · rw [if_pos c] at h
                refine q_iconst (v := (1 : Int32)) (by decide) dX0_isBelow_62 ?_
                obtain rfl := Option.some.inj h
                exact q_iret rfl (by decide) dX0_isBelow_63 hQ
          · rw [if_neg c] at h
            refine q_iconst (v := (0 : Int32)) (by decide) dX0_isBelow_50 ?_
            obtain rfl := Option.some.inj h
            exact q_iret rfl (by decide) dX0_isBelow_51 hQ
      · rw [if_pos c] at h
        refine q_iload_n 1 rfl rfl dX0_isBelow_19 ?_
        refine q_bipush (v := (65 : Int32)) (by decide) dX0_isBelow_20 ?_
        refine q_icmp_eq 32 (by decide) dX0_isBelow_22 (fun c => ?_) (fun c => ?_)
        · rw [if_pos c] at h
          refine q_iconst (v := (1 : Int32)) (by decide) dX0_isBelow_32 ?_
          refine q_goto 37 (by decide) dX0_isBelow_33 ?_
          obtain rfl := Option.some.inj h
          exact q_iret rfl (by decide) dX0_isBelow_37 hQ
        · rw [if_neg c] at h
          refine q_iload_n 1 rfl rfl dX0_isBelow_25 ?_
          obtain ⟨r5, e6, h⟩ := q_bind h
          refine q_callS (d := 0) (Mc := mX0_isArray) (kc := 0) (nc := 0) [.int x1] okX0_isArray lmX0_51 inX0_isArray rfl (Nat.le_of_ble_eq_true rfl) (Nat.le_of_ble_eq_true rfl) (Nat.le_refl _) (Nat.le_refl _) dX0_isBelow_26 (q_L.deep (by decide) (kX0_isArray (Q := fun r S' => r = some (.int (q_b r5)) ∧ S' = S) w e6 ⟨rfl, rfl⟩)) (q_kI ?_)
          refine q_if_eq 36 (by decide) dX0_isBelow_29 (fun c => ?_) (fun c => ?_)
          · have c := q_b_0.mp c; rw [q_if0 c] at h
            refine q_iconst (v := (0 : Int32)) (by decide) dX0_isBelow_36 ?_
            obtain rfl := Option.some.inj h
            exact q_iret rfl (by decide) dX0_isBelow_37 hQ
          · have c := q_b_n.mp c; rw [q_if1 c] at h
            refine q_iconst (v := (1 : Int32)) (by decide) dX0_isBelow_32 ?_
            refine q_goto 37 (by decide) dX0_isBelow_33 ?_
            obtain rfl := Option.some.inj h
            exact q_iret rfl (by decide) dX0_isBelow_37 hQ
    · rw [if_pos c] at h
      refine q_iconst (v := (1 : Int32)) (by decide) dX0_isBelow_11 ?_
      obtain rfl := Option.some.inj h
      exact q_iret rfl (by decide) dX0_isBelow_12 hQ
set_option maxRecDepth 20000 in
theorem kX0_nearestAbove {S : QS} {g : QG} {Q : Option Value → QS → Prop} {p : Nat} {x1 : Int32} {x2 : Int32} {r : Int32} (w : q_Wire S) (hp : q_pok p) (h : fX0_nearestAbove S p x1 x2 = some r) (hQ : Q (some (.int r)) S) : q_M g mX0_nearestAbove 1 0 0 [.ref (p + 1), .int x1, .int x2] S Q := by
  unfold fX0_nearestAbove at h
  show q_L g mX0_nearestAbove 1 0 0 Q 0 0 0 [(0, .ref (p + 1)), (1, .int x1), (2, .int x2)] [] S
  refine q_bipush (v := (31 : Int32)) (by decide) dX0_nearestAbove_0 ?_
  refine q_aload_n 0 rfl rfl dX0_nearestAbove_2 ?_
  refine q_getR (q_shP1 w hp) (by decide) (by decide) rfl lfX0_18 dX0_nearestAbove_3 (r := (p + 4)) (q_wrP1_3 w hp) ?_
  refine q_iload_n 1 rfl rfl dX0_nearestAbove_6 ?_
  obtain ⟨hg1, h⟩ := q_guard h
  refine q_iald (q_shP4 w hp) (q_inb_in hg1) dX0_nearestAbove_7 ?_
  refine q_aload_n 0 rfl rfl dX0_nearestAbove_8 ?_
  refine q_getR (q_shP1 w hp) (by decide) (by decide) rfl lfX0_18 dX0_nearestAbove_9 (r := (p + 4)) (q_wrP1_3 w hp) ?_
  refine q_iload_n 2 rfl rfl dX0_nearestAbove_12 ?_
  obtain ⟨hg2, h⟩ := q_guard h
  refine q_iald (q_shP4 w hp) (q_inb_in hg2) dX0_nearestAbove_13 ?_
  refine q_iand dX0_nearestAbove_14 ?_
  obtain ⟨r3, e4, h⟩ := q_bind h
  refine q_callS (d := 0) (Mc := mJ6_numberOfLeadingZeros_0f7a4) (kc := 0) (nc := 0) [.int ((S.2.1 (p + 4) x1.toNatClampNeg) &&& (S.2.1 (p + 4) x2.toNatClampNeg))] okJ6_numberOfLeadingZeros_0f7a4 lmX0_65 inJ6_numberOfLeadingZeros_0f7a4 rfl (Nat.le_of_ble_eq_true rfl) (Nat.le_of_ble_eq_true rfl) (Nat.le_refl _) (Nat.le_refl _) dX0_nearestAbove_15 (q_L.deep (by decide) (kJ6_numberOfLeadingZeros_0f7a4 (Q := fun r S' => r = some (.int r3) ∧ S' = S) w e4 ⟨rfl, rfl⟩)) (q_kI ?_)
  refine q_isub dX0_nearestAbove_18 ?_
  obtain rfl := Option.some.inj h
  exact q_iret rfl rfl dX0_nearestAbove_19 hQ
set_option maxRecDepth 20000 in
theorem kX0_join_60 {S : QS} {g : QG} {Q : Option Value → QS → Prop} {p : Nat} {y1 : Int32} {y2 : Int32} {r : Int32} (w : q_Wire S) (hp : q_pok p) (h : fX0_join_60 S p y1 y2 = some r) (hQ : Q (some (.int r)) S) : q_L g mX0_join 2 0 0 Q 0 0 60 [(0, .ref (p + 1)), (1, .int y1), (2, .int y2)] [] S := by
  unfold fX0_join_60 at h
  refine q_aload_n 0 rfl rfl dX0_join_60 ?_
  refine q_iload_n 1 rfl rfl dX0_join_61 ?_
  refine q_bipush (v := (32 : Int32)) (by decide) dX0_join_62 ?_
  refine q_isub dX0_join_64 ?_
  obtain ⟨r1, e2, h⟩ := q_bind h
  refine q_callV (ci := 0) (d := 1) (Mc := mX0_isClass) (kc := 0) (nc := 0) [.int (y1 - (32 : Int32))] okX0_isClass (q_shP1 w hp) (by decide) rfl lmX0_47 inX0_isClass seX0_isClass rfl (Nat.le_of_ble_eq_true rfl) (Nat.le_of_ble_eq_true rfl) (Nat.le_refl _) (Nat.le_refl _) dX0_join_65 (q_L.deep (by decide) (kX0_isClass (Q := fun r S' => r = some (.int (q_b r1)) ∧ S' = S) w hp e2 ⟨rfl, rfl⟩)) (q_kI ?_)
  obtain ⟨v5, hv, h⟩ := q_bind h
  have K1 : q_L g mX0_join 2 0 0 Q 0 0 87 [(0, .ref (p + 1)), (1, .int y1), (2, .int y2)] [.int (q_b v5)] S := by
    refine q_istore_n [(3, .int (q_b v5)), (0, .ref (p + 1)), (1, .int y1), (2, .int y2)] rfl (by decide) rfl dX0_join_87 ?_
    refine q_iload_n 0 rfl rfl dX0_join_88 ?_
    refine q_if_eq 110 (by decide) dX0_join_89 (fun c => ?_) (fun c => ?_)
    · have c := q_b_0.mp c; rw [q_if0 c] at h
      refine q_iconst (v := (0 : Int32)) (by decide) dX0_join_110 ?_
      obtain rfl := Option.some.inj h
      exact q_iret rfl rfl dX0_join_111 hQ
    · have c := q_b_n.mp c; rw [q_if1 c] at h
      refine q_bipush (v := (32 : Int32)) (by decide) dX0_join_92 ?_
      refine q_aload_n 1 rfl rfl dX0_join_94 ?_
      refine q_iload_n 2 rfl rfl dX0_join_95 ?_
      refine q_bipush (v := (32 : Int32)) (by decide) dX0_join_96 ?_
      refine q_isub dX0_join_98 ?_
      refine q_iload_n 3 rfl rfl dX0_join_99 ?_
      refine q_bipush (v := (32 : Int32)) (by decide) dX0_join_100 ?_
      refine q_isub dX0_join_102 ?_
      obtain ⟨r6, e7, h⟩ := q_bind h
      refine q_callV (ci := 0) (d := 1) (Mc := mX0_nearestAbove) (kc := 0) (nc := 0) [.int (y1 - (32 : Int32)), .int (y2 - (32 : Int32))] okX0_nearestAbove (q_shP1 w hp) (by decide) rfl lmX0_61 inX0_nearestAbove seX0_nearestAbove rfl (Nat.le_of_ble_eq_true rfl) (Nat.le_of_ble_eq_true rfl) (Nat.le_refl _) (Nat.le_refl _) dX0_join_103 (q_L.deep (by decide) (kX0_nearestAbove (Q := fun r S' => r = some (.int r6) ∧ S' = S) w hp e7 ⟨rfl, rfl⟩)) (q_kI ?_)
      refine q_iadd dX0_join_106 ?_
      refine q_goto 111 (by decide) dX0_join_107 ?_
      obtain rfl := Option.some.inj h
      exact q_iret rfl rfl dX0_join_111 hQ
  replace h := hv
  refine q_if_eq 86 (by decide) dX0_join_68 (fun c => ?_) (fun c => ?_)
  · have c := q_b_0.mp c; rw [q_if0 c] at h
    refine q_iconst (v := (0 : Int32)) (by decide) dX0_join_86 ?_
    obtain rfl := Option.some.inj h
    refine q_sub [0, 1, 2] rfl ?_
    exact K1
  · have c := q_b_n.mp c; rw [q_if1 c] at h
    refine q_aload_n 0 rfl rfl dX0_join_71 ?_
    refine q_iload_n 2 rfl rfl dX0_join_72 ?_
    refine q_bipush (v := (32 : Int32)) (by decide) dX0_join_73 ?_
    refine q_isub dX0_join_75 ?_
    obtain ⟨r3, e4, h⟩ := q_bind h
    refine q_callV (ci := 0) (d := 1) (Mc := mX0_isClass) (kc := 0) (nc := 0) [.int (y2 - (32 : Int32))] okX0_isClass (q_shP1 w hp) (by decide) rfl lmX0_47 inX0_isClass seX0_isClass rfl (Nat.le_of_ble_eq_true rfl) (Nat.le_of_ble_eq_true rfl) (Nat.le_refl _) (Nat.le_refl _) dX0_join_76 (q_L.deep (by decide) (kX0_isClass (Q := fun r S' => r = some (.int (q_b r3)) ∧ S' = S) w hp e4 ⟨rfl, rfl⟩)) (q_kI ?_)
    refine q_if_eq 86 (by decide) dX0_join_79 (fun c => ?_) (fun c => ?_)
    · have c := q_b_0.mp c; rw [q_if0 c] at h
      refine q_iconst (v := (0 : Int32)) (by decide) dX0_join_86 ?_
      obtain rfl := Option.some.inj h
      refine q_sub [0, 1, 2] rfl ?_
      exact K1
    · have c := q_b_n.mp c; rw [q_if1 c] at h
      refine q_iconst (v := (1 : Int32)) (by decide) dX0_join_82 ?_
      refine q_goto 87 (by decide) dX0_join_83 ?_
      obtain rfl := Option.some.inj h
      refine q_sub [0, 1, 2] rfl ?_
      exact K1
set_option maxRecDepth 20000 in
theorem kX0_join {S : QS} {g : QG} {Q : Option Value → QS → Prop} {p : Nat} {x1 : Int32} {x2 : Int32} {r : Int32} (w : q_Wire S) (hp : q_pok p) (h : fX0_join S p x1 x2 = some r) (hQ : Q (some (.int r)) S) : q_M g mX0_join 2 0 0 [.ref (p + 1), .int x1, .int x2] S Q := by
  unfold fX0_join at h
  show q_L g mX0_join 2 0 0 Q 0 0 0 [(0, .ref (p + 1)), (1, .int x1), (2, .int x2)] [] S
  refine q_aload_n 0 rfl rfl dX0_join_0 ?_
  refine q_iload_n 1 rfl rfl dX0_join_1 ?_
  refine q_iload_n 2 rfl rfl dX0_join_2 ?_
  obtain ⟨r8, e9, h⟩ := q_bind h
  refine q_callV (ci := 0) (d := 1) (Mc := mX0_isBelow) (kc := 0) (nc := 0) [.int x1, .int x2] okX0_isBelow (q_shP1 w hp) (by decide) rfl lmX0_58 inX0_isBelow seX0_isBelow rfl (Nat.le_of_ble_eq_true rfl) (Nat.le_of_ble_eq_true rfl) (Nat.le_refl _) (Nat.le_refl _) dX0_join_3 (q_L.deep (by decide) (kX0_isBelow (Q := fun r S' => r = some (.int (q_b r8)) ∧ S' = S) w hp e9 ⟨rfl, rfl⟩)) (q_kI ?_)
  refine q_if_eq 11 (by decide) dX0_join_6 (fun c => ?_) (fun c => ?_)
  · have c := q_b_0.mp c; rw [q_if0 c] at h
    refine q_aload_n 0 rfl rfl dX0_join_11 ?_
    refine q_iload_n 2 rfl rfl dX0_join_12 ?_
    refine q_iload_n 1 rfl rfl dX0_join_13 ?_
    obtain ⟨r10, e11, h⟩ := q_bind h
    refine q_callV (ci := 0) (d := 1) (Mc := mX0_isBelow) (kc := 0) (nc := 0) [.int x2, .int x1] okX0_isBelow (q_shP1 w hp) (by decide) rfl lmX0_58 inX0_isBelow seX0_isBelow rfl (Nat.le_of_ble_eq_true rfl) (Nat.le_of_ble_eq_true rfl) (Nat.le_refl _) (Nat.le_refl _) dX0_join_14 (q_L.deep (by decide) (kX0_isBelow (Q := fun r S' => r = some (.int (q_b r10)) ∧ S' = S) w hp e11 ⟨rfl, rfl⟩)) (q_kI ?_)
    refine q_if_eq 22 (by decide) dX0_join_17 (fun c => ?_) (fun c => ?_)
    · have c := q_b_0.mp c; rw [q_if0 c] at h
      refine q_iload_n 1 rfl rfl dX0_join_22 ?_
      refine q_bipush (v := (65 : Int32)) (by decide) dX0_join_23 ?_
      refine q_icmp_gt 34 (by decide) dX0_join_25 (fun c => ?_) (fun c => ?_)
      · rw [if_pos c] at h
        refine q_bipush (v := (67 : Int32)) (by decide) dX0_join_34 ?_
        obtain rfl := Option.some.inj h
        exact q_iret rfl rfl dX0_join_36 hQ
      · rw [if_neg c] at h
        refine q_iload_n 2 rfl rfl dX0_join_28 ?_
        refine q_bipush (v := (65 : Int32)) (by decide) dX0_join_29 ?_
        refine q_icmp_le 37 (by decide) dX0_join_31 (fun c => ?_) (fun c => ?_)
        · rw [if_pos c] at h
          refine q_aload_n 0 rfl rfl dX0_join_37 ?_
          refine q_iload_n 1 rfl rfl dX0_join_38 ?_
          obtain ⟨r12, e13, h⟩ := q_bind h
          refine q_callV (ci := 0) (d := 1) (Mc := mX0_isClass) (kc := 0) (nc := 0) [.int x1] okX0_isClass (q_shP1 w hp) (by decide) rfl lmX0_47 inX0_isClass seX0_isClass rfl (Nat.le_of_ble_eq_true rfl) (Nat.le_of_ble_eq_true rfl) (Nat.le_refl _) (Nat.le_refl _) dX0_join_39 (q_L.deep (by decide) (kX0_isClass (Q := fun r S' => r = some (.int (q_b r12)) ∧ S' = S) w hp e13 ⟨rfl, rfl⟩)) (q_kI ?_)
          refine q_if_eq 60 (by decide) dX0_join_42 (fun c => ?_) (fun c => ?_)
          · have c := q_b_0.mp c; rw [q_if0 c] at h
            refine q_sub [0, 1, 2] rfl ?_
            exact kX0_join_60 w hp h hQ
          · have c := q_b_n.mp c; rw [q_if1 c] at h
            refine q_aload_n 0 rfl rfl dX0_join_45 ?_
            refine q_iload_n 2 rfl rfl dX0_join_46 ?_
            obtain ⟨r14, e15, h⟩ := q_bind h
            refine q_callV (ci := 0) (d := 1) (Mc := mX0_isClass) (kc := 0) (nc := 0) [.int x2] okX0_isClass (q_shP1 w hp) (by decide) rfl lmX0_47 inX0_isClass seX0_isClass rfl (Nat.le_of_ble_eq_true rfl) (Nat.le_of_ble_eq_true rfl) (Nat.le_refl _) (Nat.le_refl _) dX0_join_47 (q_L.deep (by decide) (kX0_isClass (Q := fun r S' => r = some (.int (q_b r14)) ∧ S' = S) w hp e15 ⟨rfl, rfl⟩)) (q_kI ?_)
            refine q_if_eq 60 (by decide) dX0_join_50 (fun c => ?_) (fun c => ?_)
            · have c := q_b_0.mp c; rw [q_if0 c] at h
              refine q_sub [0, 1, 2] rfl ?_
              exact kX0_join_60 w hp h hQ
            · have c := q_b_n.mp c; rw [q_if1 c] at h
              refine q_aload_n 0 rfl rfl dX0_join_53 ?_
              refine q_iload_n 1 rfl rfl dX0_join_54 ?_
              refine q_iload_n 2 rfl rfl dX0_join_55 ?_
              obtain ⟨r16, e17, h⟩ := q_bind h
              refine q_callV (ci := 0) (d := 1) (Mc := mX0_nearestAbove) (kc := 0) (nc := 0) [.int x1, .int x2] okX0_nearestAbove (q_shP1 w hp) (by decide) rfl lmX0_61 inX0_nearestAbove seX0_nearestAbove rfl (Nat.le_of_ble_eq_true rfl) (Nat.le_of_ble_eq_true rfl) (Nat.le_refl _) (Nat.le_refl _) dX0_join_56 (q_L.deep (by decide) (kX0_nearestAbove (Q := fun r S' => r = some (.int r16) ∧ S' = S) w hp e17 ⟨rfl, rfl⟩)) (q_kI ?_)
              obtain rfl := Option.some.inj h
              exact q_iret rfl rfl dX0_join_59 hQ
        · rw [if_neg c] at h
          refine q_bipush (v := (67 : Int32)) (by decide) dX0_join_34 ?_
          obtain rfl := Option.some.inj h
          exact q_iret rfl rfl dX0_join_36 hQ
    · have c := q_b_n.mp c; rw [q_if1 c] at h
      refine q_iload_n 1 rfl rfl dX0_join_20 ?_
      obtain rfl := Option.some.inj h
      exact q_iret rfl rfl dX0_join_21 hQ
  · have c := q_b_n.mp c; rw [q_if1 c] at h
    refine q_iload_n 2 rfl rfl dX0_join_9 ?_
    obtain rfl := Option.some.inj h
    exact q_iret rfl rfl dX0_join_10 hQ
set_option maxRecDepth 20000 in
theorem kX0_elementOf {S : QS} {g : QG} {Q : Option Value → QS → Prop} {p : Nat} {x1 : Int32} {r : Int32} (w : q_Wire S) (hp : q_pok p) (h : fX0_elementOf S p x1 = some r) (hQ : Q (some (.int r)) S) : q_M g mX0_elementOf 1 0 0 [.ref (p + 1), .int x1] S Q := by
  unfold fX0_elementOf at h
  show q_L g mX0_elementOf 1 0 0 Q 0 0 0 [(0, .ref (p + 1)), (1, .int x1)] [] S
  refine q_iload_n 1 rfl rfl dX0_elementOf_0 ?_
  refine q_bipush (v := (64 : Int32)) (by decide) dX0_elementOf_1 ?_
  refine q_icmp_ne 9 (by decide) dX0_elementOf_3 (fun c => ?_) (fun c => ?_)
  · rw [if_neg c] at h
    refine q_iload_n 1 rfl rfl dX0_elementOf_9 ?_
    refine q_bipush (v := (65 : Int32)) (by decide) dX0_elementOf_10 ?_
    refine q_icmp_ne 18 (by decide) dX0_elementOf_12 (fun c => ?_) (fun c => ?_)
    · rw [if_neg c] at h
      refine q_iload_n 1 rfl rfl dX0_elementOf_18 ?_
      obtain ⟨r1, e2, h⟩ := q_bind h
      refine q_callS (d := 0) (Mc := mX0_isArray) (kc := 0) (nc := 0) [.int x1] okX0_isArray lmX0_51 inX0_isArray rfl (Nat.le_of_ble_eq_true rfl) (Nat.le_of_ble_eq_true rfl) (Nat.le_refl _) (Nat.le_refl _) dX0_elementOf_19 (q_L.deep (by decide) (kX0_isArray (Q := fun r S' => r = some (.int (q_b r1)) ∧ S' = S) w e2 ⟨rfl, rfl⟩)) (q_kI ?_)
      refine q_if_eq 32 (by decide) dX0_elementOf_22 (fun c => ?_) (fun c => ?_)
      · have c := q_b_0.mp c; rw [q_if0 c] at h
        refine q_bipush (v := (67 : Int32)) (by decide) dX0_elementOf_32 ?_
        obtain rfl := Option.some.inj h
        exact q_iret rfl rfl dX0_elementOf_34 hQ
      · have c := q_b_n.mp c; rw [q_if1 c] at h
        refine q_iload_n 1 rfl rfl dX0_elementOf_25 ?_
        refine q_bipush (v := (32 : Int32)) (by decide) dX0_elementOf_26 ?_
        refine q_isub dX0_elementOf_28 ?_
        refine q_goto 34 (by decide) dX0_elementOf_29 ?_
        obtain rfl := Option.some.inj h
        exact q_iret rfl rfl dX0_elementOf_34 hQ
    · rw [if_pos c] at h
      refine q_bipush (v := (68 : Int32)) (by decide) dX0_elementOf_15 ?_
      obtain rfl := Option.some.inj h
      exact q_iret rfl rfl dX0_elementOf_17 hQ
  · rw [if_pos c] at h
    refine q_bipush (v := (66 : Int32)) (by decide) dX0_elementOf_6 ?_
    obtain rfl := Option.some.inj h
    exact q_iret rfl rfl dX0_elementOf_8 hQ
set_option maxRecDepth 20000 in
theorem kX0_isElement {S : QS} {g : QG} {Q : Option Value → QS → Prop} {p : Nat} {x1 : Int32} {x2 : Int32} {r : Bool} (w : q_Wire S) (hp : q_pok p) (h : fX0_isElement S p x1 x2 = some r) (hQ : Q (some (.int (q_b r))) S) : q_M g mX0_isElement 2 0 0 [.ref (p + 1), .int x1, .int x2] S Q := by
  unfold fX0_isElement at h
  show q_L g mX0_isElement 2 0 0 Q 0 0 0 [(0, .ref (p + 1)), (1, .int x1), (2, .int x2)] [] S
  refine q_iload_n 2 rfl rfl dX0_isElement_0 ?_
  refine q_bipush (v := (65 : Int32)) (by decide) dX0_isElement_1 ?_
  refine q_icmp_ne 20 (by decide) dX0_isElement_3 (fun c => ?_) (fun c => ?_)
  · rw [if_neg c] at h
    refine q_aload_n 0 rfl rfl dX0_isElement_20 ?_
    refine q_iload_n 1 rfl rfl dX0_isElement_21 ?_
    refine q_aload_n 0 rfl rfl dX0_isElement_22 ?_
    refine q_iload_n 2 rfl rfl dX0_isElement_23 ?_
    obtain ⟨r1, e2, h⟩ := q_bind h
    refine q_callV (ci := 0) (d := 1) (Mc := mX0_elementOf) (kc := 0) (nc := 0) [.int x2] okX0_elementOf (q_shP1 w hp) (by decide) rfl lmX0_71 inX0_elementOf seX0_elementOf rfl (Nat.le_of_ble_eq_true rfl) (Nat.le_of_ble_eq_true rfl) (Nat.le_refl _) (Nat.le_refl _) dX0_isElement_24 (q_L.deep (by decide) (kX0_elementOf (Q := fun r S' => r = some (.int r1) ∧ S' = S) w hp e2 ⟨rfl, rfl⟩)) (q_kI ?_)
    obtain ⟨r3, e4, h⟩ := q_bind h
    refine q_callV (ci := 0) (d := 1) (Mc := mX0_isBelow) (kc := 0) (nc := 0) [.int x1, .int r1] okX0_isBelow (q_shP1 w hp) (by decide) rfl lmX0_58 inX0_isBelow seX0_isBelow rfl (Nat.le_of_ble_eq_true rfl) (Nat.le_of_ble_eq_true rfl) (Nat.le_refl _) (Nat.le_refl _) dX0_isElement_27 (q_L.deep (by decide) (kX0_isBelow (Q := fun r S' => r = some (.int (q_b r3)) ∧ S' = S) w hp e4 ⟨rfl, rfl⟩)) (q_kI ?_)
    obtain rfl := Option.some.inj h
    exact q_iret rfl (q_b_nar _) dX0_isElement_30 hQ
  · rw [if_pos c] at h
    refine q_iload_n 1 rfl rfl dX0_isElement_6 ?_
    refine q_bipush (v := (67 : Int32)) (by decide) dX0_isElement_7 ?_
    refine q_icmp_eq 16 (by decide) dX0_isElement_9 (fun c => ?_) (fun c => ?_)
    · rw [if_pos c] at h
      refine q_iconst (v := (0 : Int32)) (by decide) dX0_isElement_16 ?_
      refine q_goto 30 (by decide) dX0_isElement_17 ?_
      obtain rfl := Option.some.inj h
      exact q_iret rfl (by decide) dX0_isElement_30 hQ
    · rw [if_neg c] at h
      refine q_iconst (v := (1 : Int32)) (by decide) dX0_isElement_12 ?_
      refine q_goto 30 (by decide) dX0_isElement_13 ?_
      obtain rfl := Option.some.inj h
      exact q_iret rfl (by decide) dX0_isElement_30 hQ
