set_option maxRecDepth 20000 in
theorem sX12_fieldOf_3 {S : QS} {g : QG} {Q : Option Value → QS → Prop} {q : Nat} {y2 : Int32} {y3 : Int32} {y4 : Int32} {x : Int32} {z : (Int32) ⊕ (Int32)} (w : q_Wire S) (hq : q_qok q) (h : tX12_fieldOf_3 S q y2 y3 y4 x = some z) (hQ : (Sum.elim (fun r0 : Int32 => Q (some (.int r0)) S) (fun y : Int32 => q_L g mX12_fieldOf 1 0 0 Q 0 0 3 [(0, .ref 102), (1, .ref q), (2, .int y2), (3, .int y3), (4, .int y4), (5, .int y)] [] S) z)) : q_L g mX12_fieldOf 1 0 0 Q 0 0 3 [(0, .ref 102), (1, .ref q), (2, .int y2), (3, .int y3), (4, .int y4), (5, .int x)] [] S := by
  unfold tX12_fieldOf_3 at h
  refine q_iload 5 rfl dX12_fieldOf_3 ?_
  refine q_aload_n 1 rfl rfl dX12_fieldOf_5 ?_
  refine q_getI (q_shQ0 w hq) (by decide) (by decide) rfl lfX12_257 dX12_fieldOf_6 ?_
  refine q_icmp_ge 70 (by decide) dX12_fieldOf_9 (fun c => ?_) (fun c => ?_)
  · rw [if_pos c] at h
    refine q_iconst (v := (-1 : Int32)) (by decide) dX12_fieldOf_70 ?_
    cases h
    exact q_iret rfl rfl dX12_fieldOf_71 hQ
  · rw [if_neg c] at h
    refine q_aload_n 1 rfl rfl dX12_fieldOf_12 ?_
    refine q_iload_n 2 rfl rfl dX12_fieldOf_13 ?_
    refine q_aload_n 1 rfl rfl dX12_fieldOf_14 ?_
    refine q_getR (q_shQ0 w hq) (by decide) (by decide) rfl lfX12_260 dX12_fieldOf_15 (r := (q + 3)) (q_wrQ0_9 w hq) ?_
    refine q_iload 5 rfl dX12_fieldOf_18 ?_
    obtain ⟨hg1, h⟩ := q_guard h
    refine q_iald (q_shQ3 w hq) (q_inb_in hg1) dX12_fieldOf_20 ?_
    obtain ⟨r2, e3, h⟩ := q_bind h
    refine q_callS (d := 0) (Mc := mX12_isAtOrBelow) (kc := 0) (nc := 0) [.ref q, .int y2, .int (S.2.1 (q + 3) x.toNatClampNeg)] okX12_isAtOrBelow lmX12_263 inX12_isAtOrBelow rfl (Nat.le_of_ble_eq_true rfl) (Nat.le_of_ble_eq_true rfl) (Nat.le_refl _) (Nat.le_refl _) dX12_fieldOf_21 (q_L.deep (by decide) (kX12_isAtOrBelow (Q := fun r S' => r = some (.int (q_b r2)) ∧ S' = S) w hq e3 ⟨rfl, rfl⟩)) (q_kI ?_)
    refine q_if_eq 64 (by decide) dX12_fieldOf_24 (fun c => ?_) (fun c => ?_)
    · have c := q_b_0.mp c; rw [q_if0 c] at h
      refine q_iinc (v := (x + (1 : Int32))) 5 [(5, .int (x + (1 : Int32))), (0, .ref 102), (1, .ref q), (2, .int y2), (3, .int y3), (4, .int y4)] (by decide) rfl (congrArg (fun t => x + t) (by decide)) rfl dX12_fieldOf_64 ?_
      refine q_goto 3 (by decide) dX12_fieldOf_67 ?_
      refine q_sub [1, 2, 3, 4, 5, 0] rfl ?_
      cases h
      exact hQ
    · have c := q_b_n.mp c; rw [q_if1 c] at h
      refine q_aload_n 0 rfl rfl dX12_fieldOf_27 ?_
      refine q_iload_n 3 rfl rfl dX12_fieldOf_28 ?_
      refine q_iload 4 rfl dX12_fieldOf_29 ?_
      refine q_aload_n 0 rfl rfl dX12_fieldOf_31 ?_
      refine q_getR (q_sh102 w) (by decide) (by decide) rfl lfX12_26 dX12_fieldOf_32 (r := 161) (q_wr102_8 w) ?_
      refine q_aload_n 0 rfl rfl dX12_fieldOf_35 ?_
      refine q_getR (q_sh102 w) (by decide) (by decide) rfl lfX12_40 dX12_fieldOf_36 (r := 164) (q_wr102_14 w) ?_
      refine q_iload 5 rfl dX12_fieldOf_39 ?_
      obtain ⟨hg4, h⟩ := q_guard h
      refine q_iald (q_sh164 w) (q_inb_in hg4) dX12_fieldOf_41 ?_
      obtain ⟨hg5, h⟩ := q_guard h
      refine q_iald (q_sh161 w) (q_inb_in hg5) dX12_fieldOf_42 ?_
      refine q_aload_n 0 rfl rfl dX12_fieldOf_43 ?_
      refine q_getR (q_sh102 w) (by decide) (by decide) rfl lfX12_30 dX12_fieldOf_44 (r := 162) (q_wr102_9 w) ?_
      refine q_aload_n 0 rfl rfl dX12_fieldOf_47 ?_
      refine q_getR (q_sh102 w) (by decide) (by decide) rfl lfX12_40 dX12_fieldOf_48 (r := 164) (q_wr102_14 w) ?_
      refine q_iload 5 rfl dX12_fieldOf_51 ?_
      obtain ⟨hg6, h⟩ := q_guard h
      refine q_iald (q_sh164 w) (q_inb_in hg6) dX12_fieldOf_53 ?_
      obtain ⟨hg7, h⟩ := q_guard h
      refine q_iald (q_sh162 w) (q_inb_in hg7) dX12_fieldOf_54 ?_
      obtain ⟨r8, e9, h⟩ := q_bind h
      refine q_callV (ci := 12) (d := 0) (Mc := mX12_isSame) (kc := 0) (nc := 0) [.int y3, .int y4, .int (S.2.1 161 (S.2.1 164 x.toNatClampNeg).toNatClampNeg), .int (S.2.1 162 (S.2.1 164 x.toNatClampNeg).toNatClampNeg)] okX12_isSame (q_sh102 w) (by decide) rfl lmX12_131 inX12_isSame seX12_isSame rfl (Nat.le_of_ble_eq_true rfl) (Nat.le_of_ble_eq_true rfl) (Nat.le_refl _) (Nat.le_refl _) dX12_fieldOf_55 (q_L.deep (by decide) (kX12_isSame (Q := fun r S' => r = some (.int (q_b r8)) ∧ S' = S) w e9 ⟨rfl, rfl⟩)) (q_kI ?_)
      refine q_if_eq 64 (by decide) dX12_fieldOf_58 (fun c => ?_) (fun c => ?_)
      · have c := q_b_0.mp c; rw [q_if0 c] at h
        refine q_iinc (v := (x + (1 : Int32))) 5 [(5, .int (x + (1 : Int32))), (0, .ref 102), (1, .ref q), (2, .int y2), (3, .int y3), (4, .int y4)] (by decide) rfl (congrArg (fun t => x + t) (by decide)) rfl dX12_fieldOf_64 ?_
        refine q_goto 3 (by decide) dX12_fieldOf_67 ?_
        refine q_sub [1, 2, 3, 4, 5, 0] rfl ?_
        cases h
        exact hQ
      · have c := q_b_n.mp c; rw [q_if1 c] at h
        refine q_iload 5 rfl dX12_fieldOf_61 ?_
        cases h
        exact q_iret rfl rfl dX12_fieldOf_63 hQ
theorem lX12_fieldOf_3 {S : QS} {g : QG} {Q : Option Value → QS → Prop} {q : Nat} {y2 : Int32} {y3 : Int32} {y4 : Int32} {r : Int32} (w : q_Wire S) (hq : q_qok q) (hQ : Q (some (.int r)) S) : ∀ (c : Nat) (x : Int32), q_it (tX12_fieldOf_3 S q y2 y3 y4) c x = some r → q_L g mX12_fieldOf 1 0 0 Q 0 0 3 [(0, .ref 102), (1, .ref q), (2, .int y2), (3, .int y3), (4, .int y4), (5, .int x)] [] S := by
  intro c
  induction c with
  | zero => intro x  h; cases h
  | succ c ih =>
    intro x  h
    simp only [q_it] at h
    cases hz : tX12_fieldOf_3 S q y2 y3 y4 x with
    | none => rw [hz] at h; cases h
    | some z =>
      rw [hz] at h
      refine sX12_fieldOf_3 w hq hz ?_
      rcases z with z | y
      · cases h; exact hQ
      · exact ih y  h
theorem kX12_fieldOf_3 {S : QS} {g : QG} {Q : Option Value → QS → Prop} {q : Nat} {y2 : Int32} {y3 : Int32} {y4 : Int32} {y5 : Int32} {r : Int32} (w : q_Wire S) (hq : q_qok q) (h : fX12_fieldOf_3 S q y2 y3 y4 y5 = some r) (hQ : Q (some (.int r)) S) : q_L g mX12_fieldOf 1 0 0 Q 0 0 3 [(0, .ref 102), (1, .ref q), (2, .int y2), (3, .int y3), (4, .int y4), (5, .int y5)] [] S := by
  obtain ⟨c, hc⟩ := q_run_it h
  exact lX12_fieldOf_3 w hq hQ c y5  hc
set_option maxRecDepth 20000 in
theorem kX12_fieldOf {S : QS} {g : QG} {Q : Option Value → QS → Prop} {q : Nat} {x2 : Int32} {x3 : Int32} {x4 : Int32} {r : Int32} (w : q_Wire S) (hq : q_qok q) (h : fX12_fieldOf S q x2 x3 x4 = some r) (hQ : Q (some (.int r)) S) : q_M g mX12_fieldOf 1 0 0 [.ref 102, .ref q, .int x2, .int x3, .int x4] S Q := by
  unfold fX12_fieldOf at h
  show q_L g mX12_fieldOf 1 0 0 Q 0 0 0 [(0, .ref 102), (1, .ref q), (2, .int x2), (3, .int x3), (4, .int x4)] [] S
  refine q_iconst (v := (0 : Int32)) (by decide) dX12_fieldOf_0 ?_
  refine q_istore [(5, .int (0 : Int32)), (0, .ref 102), (1, .ref q), (2, .int x2), (3, .int x3), (4, .int x4)] (by decide) rfl dX12_fieldOf_1 ?_
  refine q_sub [1, 2, 3, 4, 5, 0] rfl ?_
  exact kX12_fieldOf_3 w hq h hQ
set_option maxRecDepth 20000 in
theorem sX12_bodyOf_11 {S : QS} {g : QG} {Q : Option Value → QS → Prop} {q : Nat} {y3 : Int32} {y4 : Int32} {x : Int32 × Int32} {z : ((Int32) ⊕ (Int32)) ⊕ (Int32 × Int32)} (w : q_Wire S) (hq : q_qok q) (h : tX12_bodyOf_11 S q y3 y4 x = some z) (hQ : (Sum.elim (fun r1 : (Int32) ⊕ (Int32) => (Sum.elim (fun r0 : Int32 => Q (some (.int r0)) S) (fun y : Int32 => q_L g mX12_bodyOf 1 0 0 Q 0 0 3 [(0, .ref 102), (1, .ref q), (3, .int y3), (4, .int y4), (5, .int y)] [] S) r1)) (fun y' : Int32 × Int32 => q_L g mX12_bodyOf 1 0 0 Q 0 0 11 [(0, .ref 102), (1, .ref q), (3, .int y3), (4, .int y4), (5, .int y'.1), (6, .int y'.2)] [] S) z)) : q_L g mX12_bodyOf 1 0 0 Q 0 0 11 [(0, .ref 102), (1, .ref q), (3, .int y3), (4, .int y4), (5, .int x.1), (6, .int x.2)] [] S := by
  unfold tX12_bodyOf_11 at h
  refine q_iload 5 rfl dX12_bodyOf_11 ?_
  refine q_aload_n 1 rfl rfl dX12_bodyOf_13 ?_
  refine q_getI (q_shQ0 w hq) (by decide) (by decide) rfl lfX12_267 dX12_bodyOf_14 ?_
  refine q_icmp_ge 75 (by decide) dX12_bodyOf_17 (fun c => ?_) (fun c => ?_)
  · rw [if_pos c] at h
    refine q_aload_n 1 rfl rfl dX12_bodyOf_75 ?_
    refine q_getR (q_shQ0 w hq) (by decide) (by decide) rfl lfX12_244 dX12_bodyOf_76 (r := (q + 1)) (q_wrQ0_7 w hq) ?_
    refine q_iload 4 rfl dX12_bodyOf_79 ?_
    obtain ⟨hg1, h⟩ := q_guard h
    refine q_iald (q_shQ1 w hq) (q_inb_in hg1) dX12_bodyOf_81 ?_
    refine q_istore [(5, .int (S.2.1 (q + 1) x.1.toNatClampNeg)), (0, .ref 102), (1, .ref q), (3, .int y3), (4, .int y4), (6, .int x.2)] (by decide) rfl dX12_bodyOf_82 ?_
    refine q_goto 3 (by decide) dX12_bodyOf_84 ?_
    refine q_sub [1, 2, 3, 4, 0] rfl ?_
    cases h
    exact hQ
  · rw [if_neg c] at h
    refine q_aload_n 1 rfl rfl dX12_bodyOf_20 ?_
    refine q_getR (q_shQ0 w hq) (by decide) (by decide) rfl lfX12_270 dX12_bodyOf_21 (r := (q + 6)) (q_wrQ0_12 w hq) ?_
    refine q_iload 5 rfl dX12_bodyOf_24 ?_
    obtain ⟨hg2, h⟩ := q_guard h
    refine q_iald (q_shQ6 w hq) (q_inb_in hg2) dX12_bodyOf_26 ?_
    refine q_iload 4 rfl dX12_bodyOf_27 ?_
    refine q_icmp_ne 69 (by decide) dX12_bodyOf_29 (fun c => ?_) (fun c => ?_)
    · rw [if_neg c] at h
      refine q_iinc (v := (x.2 + (1 : Int32))) 5 [(6, .int (x.2 + (1 : Int32))), (0, .ref 102), (1, .ref q), (3, .int y3), (4, .int y4), (5, .int x.1)] (by decide) rfl (congrArg (fun t => x.2 + t) (by decide)) rfl dX12_bodyOf_69 ?_
      refine q_goto 11 (by decide) dX12_bodyOf_72 ?_
      refine q_sub [1, 2, 3, 4, 5, 0] rfl ?_
      cases h
      exact hQ
    · rw [if_pos c] at h
      refine q_aload_n 0 rfl rfl dX12_bodyOf_32 ?_
      refine q_iload_n 2 rfl rfl dX12_bodyOf_33 ?_
      refine q_iload 3 rfl dX12_bodyOf_34 ?_
      refine q_aload_n 0 rfl rfl dX12_bodyOf_36 ?_
      refine q_getR (q_sh102 w) (by decide) (by decide) rfl lfX12_26 dX12_bodyOf_37 (r := 161) (q_wr102_8 w) ?_
      refine q_aload_n 0 rfl rfl dX12_bodyOf_40 ?_
      refine q_getR (q_sh102 w) (by decide) (by decide) rfl lfX12_43 dX12_bodyOf_41 (r := 165) (q_wr102_15 w) ?_
      refine q_iload 5 rfl dX12_bodyOf_44 ?_
      obtain ⟨hg3, h⟩ := q_guard h
      refine q_iald (q_sh165 w) (q_inb_in hg3) dX12_bodyOf_46 ?_
      obtain ⟨hg4, h⟩ := q_guard h
      refine q_iald (q_sh161 w) (q_inb_in hg4) dX12_bodyOf_47 ?_
      refine q_aload_n 0 rfl rfl dX12_bodyOf_48 ?_
      refine q_getR (q_sh102 w) (by decide) (by decide) rfl lfX12_30 dX12_bodyOf_49 (r := 162) (q_wr102_9 w) ?_
      refine q_aload_n 0 rfl rfl dX12_bodyOf_52 ?_
      refine q_getR (q_sh102 w) (by decide) (by decide) rfl lfX12_43 dX12_bodyOf_53 (r := 165) (q_wr102_15 w) ?_
      refine q_iload 5 rfl dX12_bodyOf_56 ?_
      obtain ⟨hg5, h⟩ := q_guard h
      refine q_iald (q_sh165 w) (q_inb_in hg5) dX12_bodyOf_58 ?_
      obtain ⟨hg6, h⟩ := q_guard h
      refine q_iald (q_sh162 w) (q_inb_in hg6) dX12_bodyOf_59 ?_
      obtain ⟨r7, e8, h⟩ := q_bind h
      refine q_callV (ci := 12) (d := 0) (Mc := mX12_isSame) (kc := 0) (nc := 0) [.int y3, .int y4, .int (S.2.1 161 (S.2.1 165 x.2.toNatClampNeg).toNatClampNeg), .int (S.2.1 162 (S.2.1 165 x.2.toNatClampNeg).toNatClampNeg)] okX12_isSame (q_sh102 w) (by decide) rfl lmX12_131 inX12_isSame seX12_isSame rfl (Nat.le_of_ble_eq_true rfl) (Nat.le_of_ble_eq_true rfl) (Nat.le_refl _) (Nat.le_refl _) dX12_bodyOf_60 (q_L.deep (by decide) (kX12_isSame (Q := fun r S' => r = some (.int (q_b r7)) ∧ S' = S) w e8 ⟨rfl, rfl⟩)) (q_kI ?_)
      refine q_if_eq 69 (by decide) dX12_bodyOf_63 (fun c => ?_) (fun c => ?_)
      · have c := q_b_0.mp c; rw [q_if0 c] at h
        refine q_iinc (v := (x.2 + (1 : Int32))) 5 [(6, .int (x.2 + (1 : Int32))), (0, .ref 102), (1, .ref q), (3, .int y3), (4, .int y4), (5, .int x.1)] (by decide) rfl (congrArg (fun t => x.2 + t) (by decide)) rfl dX12_bodyOf_69 ?_
        refine q_goto 11 (by decide) dX12_bodyOf_72 ?_
        refine q_sub [1, 2, 3, 4, 5, 0] rfl ?_
        cases h
        exact hQ
      · have c := q_b_n.mp c; rw [q_if1 c] at h
        refine q_iload 5 rfl dX12_bodyOf_66 ?_
        cases h
        exact q_iret rfl rfl dX12_bodyOf_68 hQ
theorem lX12_bodyOf_11 {S : QS} {g : QG} {Q : Option Value → QS → Prop} {q : Nat} {y3 : Int32} {y4 : Int32} {r : (Int32) ⊕ (Int32)} (w : q_Wire S) (hq : q_qok q) (hQ : (Sum.elim (fun r0 : Int32 => Q (some (.int r0)) S) (fun y : Int32 => q_L g mX12_bodyOf 1 0 0 Q 0 0 3 [(0, .ref 102), (1, .ref q), (3, .int y3), (4, .int y4), (5, .int y)] [] S) r)) : ∀ (c : Nat) (x : Int32 × Int32), q_it (tX12_bodyOf_11 S q y3 y4) c x = some r → q_L g mX12_bodyOf 1 0 0 Q 0 0 11 [(0, .ref 102), (1, .ref q), (3, .int y3), (4, .int y4), (5, .int x.1), (6, .int x.2)] [] S := by
  intro c
  induction c with
  | zero => intro x  h; cases h
  | succ c ih =>
    intro x  h
    simp only [q_it] at h
    cases hz : tX12_bodyOf_11 S q y3 y4 x with
    | none => rw [hz] at h; cases h
    | some z =>
      rw [hz] at h
      refine sX12_bodyOf_11 w hq hz ?_
      rcases z with z | y
      · cases h; exact hQ
      · exact ih y  h
theorem usX12_bodyOf_11 {S : QS} {g : QG} {Q : Option Value → QS → Prop} {q : Nat} {y3 : Int32} {y4 : Int32} {y5 : Int32} {y6 : Int32} {r : (Int32) ⊕ (Int32)} (w : q_Wire S) (hq : q_qok q) (h : uX12_bodyOf_11 S q y3 y4 y5 y6 = some r) (hQ : (Sum.elim (fun r0 : Int32 => Q (some (.int r0)) S) (fun y : Int32 => q_L g mX12_bodyOf 1 0 0 Q 0 0 3 [(0, .ref 102), (1, .ref q), (3, .int y3), (4, .int y4), (5, .int y)] [] S) r)) : q_L g mX12_bodyOf 1 0 0 Q 0 0 11 [(0, .ref 102), (1, .ref q), (3, .int y3), (4, .int y4), (5, .int y5), (6, .int y6)] [] S := by
  obtain ⟨c, hc⟩ := q_run_it h
  exact lX12_bodyOf_11 w hq hQ c (y5, y6)  hc
set_option maxRecDepth 20000 in
theorem sX12_bodyOf_3 {S : QS} {g : QG} {Q : Option Value → QS → Prop} {q : Nat} {y3 : Int32} {y4 : Int32} {x : Int32} {z : (Int32) ⊕ (Int32)} (w : q_Wire S) (hq : q_qok q) (h : tX12_bodyOf_3 S q y3 y4 x = some z) (hQ : (Sum.elim (fun r0 : Int32 => Q (some (.int r0)) S) (fun y : Int32 => q_L g mX12_bodyOf 1 0 0 Q 0 0 3 [(0, .ref 102), (1, .ref q), (3, .int y3), (4, .int y4), (5, .int y)] [] S) z)) : q_L g mX12_bodyOf 1 0 0 Q 0 0 3 [(0, .ref 102), (1, .ref q), (3, .int y3), (4, .int y4), (5, .int x)] [] S := by
  unfold tX12_bodyOf_3 at h
  refine q_iload 4 rfl dX12_bodyOf_3 ?_
  refine q_if_lt 87 (by decide) dX12_bodyOf_5 (fun c => ?_) (fun c => ?_)
  · rw [if_pos c] at h
    refine q_iconst (v := (-1 : Int32)) (by decide) dX12_bodyOf_87 ?_
    cases h
    exact q_iret rfl rfl dX12_bodyOf_88 hQ
  · rw [if_neg c] at h
    refine q_iconst (v := (0 : Int32)) (by decide) dX12_bodyOf_8 ?_
    refine q_istore [(6, .int (0 : Int32)), (0, .ref 102), (1, .ref q), (3, .int y3), (4, .int y4), (5, .int x)] (by decide) rfl dX12_bodyOf_9 ?_
    refine q_sub [1, 2, 3, 4, 5, 0] rfl ?_
    exact usX12_bodyOf_11 w hq h hQ
theorem lX12_bodyOf_3 {S : QS} {g : QG} {Q : Option Value → QS → Prop} {q : Nat} {y3 : Int32} {y4 : Int32} {r : Int32} (w : q_Wire S) (hq : q_qok q) (hQ : Q (some (.int r)) S) : ∀ (c : Nat) (x : Int32), q_it (tX12_bodyOf_3 S q y3 y4) c x = some r → q_L g mX12_bodyOf 1 0 0 Q 0 0 3 [(0, .ref 102), (1, .ref q), (3, .int y3), (4, .int y4), (5, .int x)] [] S := by
  intro c
  induction c with
  | zero => intro x  h; cases h
  | succ c ih =>
    intro x  h
    simp only [q_it] at h
    cases hz : tX12_bodyOf_3 S q y3 y4 x with
    | none => rw [hz] at h; cases h
    | some z =>
      rw [hz] at h
      refine sX12_bodyOf_3 w hq hz ?_
      rcases z with z | y
      · cases h; exact hQ
      · exact ih y  h
theorem kX12_bodyOf_3 {S : QS} {g : QG} {Q : Option Value → QS → Prop} {q : Nat} {y3 : Int32} {y4 : Int32} {y5 : Int32} {r : Int32} (w : q_Wire S) (hq : q_qok q) (h : fX12_bodyOf_3 S q y3 y4 y5 = some r) (hQ : Q (some (.int r)) S) : q_L g mX12_bodyOf 1 0 0 Q 0 0 3 [(0, .ref 102), (1, .ref q), (3, .int y3), (4, .int y4), (5, .int y5)] [] S := by
  obtain ⟨c, hc⟩ := q_run_it h
  exact lX12_bodyOf_3 w hq hQ c y5  hc
set_option maxRecDepth 20000 in
theorem kX12_bodyOf {S : QS} {g : QG} {Q : Option Value → QS → Prop} {q : Nat} {x2 : Int32} {x3 : Int32} {x4 : Int32} {r : Int32} (w : q_Wire S) (hq : q_qok q) (h : fX12_bodyOf S q x2 x3 x4 = some r) (hQ : Q (some (.int r)) S) : q_M g mX12_bodyOf 1 0 0 [.ref 102, .ref q, .int x2, .int x3, .int x4] S Q := by
  unfold fX12_bodyOf at h
  show q_L g mX12_bodyOf 1 0 0 Q 0 0 0 [(0, .ref 102), (1, .ref q), (2, .int x2), (3, .int x3), (4, .int x4)] [] S
  refine q_iload_n 2 rfl rfl dX12_bodyOf_0 ?_
  refine q_istore [(5, .int x2), (0, .ref 102), (1, .ref q), (2, .int x2), (3, .int x3), (4, .int x4)] (by decide) rfl dX12_bodyOf_1 ?_
  refine q_sub [1, 2, 4, 5, 0] rfl ?_
  exact kX12_bodyOf_3 w hq h hQ
set_option maxRecDepth 20000 in
theorem kX12_field {S : QS} {g : QG} {Q : Option Value → QS → Prop} {q : Nat} {x2 : Int32} {x3 : Int32} {r : Bool × QS} (w : q_Wire S) (hq : q_qok q) (h : fX12_field S q x2 x3 = some r) (hQ : Q (some (.int (q_b r.1))) r.2) : q_M g mX12_field 7 0 0 [.ref 102, .ref q, .int x2, .int x3] S Q := by
  unfold fX12_field at h
  show q_L g mX12_field 7 0 0 Q 0 0 0 [(0, .ref 102), (1, .ref q), (2, .int x2), (3, .int x3)] [] S
  refine q_aload_n 1 rfl rfl dX12_field_0 ?_
  refine q_getI (q_shQ0 w hq) (by decide) (by decide) rfl lfX12_257 dX12_field_1 ?_
  refine q_bipush (v := (48 : Int32)) (by decide) dX12_field_4 ?_
  refine q_icmp_eq 34 (by decide) dX12_field_6 (fun c => ?_) (fun c => ?_)
  · rw [if_pos c] at h
    refine q_aload_n 0 rfl rfl dX12_field_34 ?_
    refine q_iload_n 3 rfl rfl dX12_field_35 ?_
    refine q_iconst (v := (1 : Int32)) (by decide) dX12_field_36 ?_
    refine q_iadd dX12_field_37 ?_
    obtain ⟨r1, e2, h⟩ := q_bind h
    refine q_callV (ci := 12) (d := 6) (Mc := mX12_wrong) (kc := 0) (nc := 0) [.int (x3 + (1 : Int32))] okX12_wrong (q_sh102 w) (by decide) rfl lmX12_254 inX12_wrong seX12_wrong rfl (Nat.le_of_ble_eq_true rfl) (Nat.le_of_ble_eq_true rfl) (Nat.le_refl _) (Nat.le_refl _) dX12_field_38 (q_L.deep (by decide) (kX12_wrong (Q := fun r S' => r = some (.int (q_b r1.1)) ∧ S' = r1.2) w e2 ⟨rfl, rfl⟩)) (q_kI ?_)
    have fx3 : q_Fx S r1.2 := q_Fx.tr (q_Fx.rf S) (fxX12_wrong e2)
    obtain rfl := Option.some.inj h
    exact q_iret rfl (q_b_nar _) dX12_field_41 hQ
  · rw [if_neg c] at h
    refine q_aload_n 0 rfl rfl dX12_field_9 ?_
    refine q_aload_n 1 rfl rfl dX12_field_10 ?_
    refine q_iload_n 2 rfl rfl dX12_field_11 ?_
    refine q_aload_n 0 rfl rfl dX12_field_12 ?_
    refine q_getR (q_sh102 w) (by decide) (by decide) rfl lfX12_26 dX12_field_13 (r := 161) (q_wr102_8 w) ?_
    refine q_iload_n 3 rfl rfl dX12_field_16 ?_
    refine q_iconst (v := (1 : Int32)) (by decide) dX12_field_17 ?_
    refine q_iadd dX12_field_18 ?_
    obtain ⟨hg4, h⟩ := q_guard h
    refine q_iald (q_sh161 w) (q_inb_in hg4) dX12_field_19 ?_
    refine q_aload_n 0 rfl rfl dX12_field_20 ?_
    refine q_getR (q_sh102 w) (by decide) (by decide) rfl lfX12_30 dX12_field_21 (r := 162) (q_wr102_9 w) ?_
    refine q_iload_n 3 rfl rfl dX12_field_24 ?_
    refine q_iconst (v := (1 : Int32)) (by decide) dX12_field_25 ?_
    refine q_iadd dX12_field_26 ?_
    obtain ⟨hg5, h⟩ := q_guard h
    refine q_iald (q_sh162 w) (q_inb_in hg5) dX12_field_27 ?_
    obtain ⟨r6, e7, h⟩ := q_bind h
    refine q_callV (ci := 12) (d := 6) (Mc := mX12_fieldOf) (kc := 0) (nc := 0) [.ref q, .int x2, .int (S.2.1 161 (x3 + (1 : Int32)).toNatClampNeg), .int (S.2.1 162 (x3 + (1 : Int32)).toNatClampNeg)] okX12_fieldOf (q_sh102 w) (by decide) rfl lmX12_281 inX12_fieldOf seX12_fieldOf rfl (Nat.le_of_ble_eq_true rfl) (Nat.le_of_ble_eq_true rfl) (Nat.le_refl _) (Nat.le_refl _) dX12_field_28 (q_L.deep (by decide) (kX12_fieldOf (Q := fun r S' => r = some (.int r6) ∧ S' = S) w hq e7 ⟨rfl, rfl⟩)) (q_kI ?_)
    refine q_if_lt 42 (by decide) dX12_field_31 (fun c => ?_) (fun c => ?_)
    · rw [if_pos c] at h
      refine q_aload_n 0 rfl rfl dX12_field_42 ?_
      refine q_aload_n 1 rfl rfl dX12_field_43 ?_
      refine q_iload_n 3 rfl rfl dX12_field_44 ?_
      refine q_iconst (v := (2 : Int32)) (by decide) dX12_field_45 ?_
      refine q_iadd dX12_field_46 ?_
      obtain ⟨r8, e9, h⟩ := q_bind h
      refine q_callV (ci := 12) (d := 6) (Mc := mX12_typeOf) (kc := 0) (nc := 0) [.ref q, .int (x3 + (2 : Int32))] okX12_typeOf (q_sh102 w) (by decide) rfl lmX12_285 inX12_typeOf seX12_typeOf rfl (Nat.le_of_ble_eq_true rfl) (Nat.le_of_ble_eq_true rfl) (Nat.le_refl _) (Nat.le_refl _) dX12_field_47 (q_L.deep (by decide) (kX12_typeOf (Q := fun r S' => r = some (.int r8) ∧ S' = S) w hq e9 ⟨rfl, rfl⟩)) (q_kI ?_)
      refine q_istore [(4, .int r8), (0, .ref 102), (1, .ref q), (2, .int x2), (3, .int x3)] (by decide) rfl dX12_field_50 ?_
      refine q_iload 0 rfl dX12_field_52 ?_
      refine q_if_ge 65 (by decide) dX12_field_54 (fun c => ?_) (fun c => ?_)
      · rw [if_pos c] at h
        refine q_aload_n 1 rfl rfl dX12_field_65 ?_
        refine q_getR (q_sh102 w) (by decide) (by decide) rfl lfX12_40 dX12_field_66 (r := 164) (q_wr102_14 w) ?_
        refine q_aload_n 2 rfl rfl dX12_field_69 ?_
        refine q_getI (q_shQ0 w hq) (by decide) (by decide) rfl lfX12_257 dX12_field_70 ?_
        refine q_iload_n 4 rfl rfl dX12_field_73 ?_
        refine q_iconst (v := (1 : Int32)) (by decide) dX12_field_74 ?_
        refine q_iadd dX12_field_75 ?_
        obtain ⟨hg10, h⟩ := q_guard h
        refine q_iast (q_sh164 w) (q_inb_in hg10) dX12_field_76 ?_
        obtain ⟨S11, e12, h⟩ := q_bindS h
        refine q_st e12 ?_
        have fx13 : q_Fx S S11 := e12 ▸ q_Fx.sI (q_Fx.rf S)
        refine q_aload_n 2 rfl rfl dX12_field_77 ?_
        refine q_getR (q_shQ0 (w.fx fx13) hq) (by decide) (by decide) rfl lfX12_260 dX12_field_78 (r := (q + 3)) (q_wrQ0_9 (w.fx fx13) hq) ?_
        refine q_aload_n 2 rfl rfl dX12_field_81 ?_
        refine q_getI (q_shQ0 (w.fx fx13) hq) (by decide) (by decide) rfl lfX12_257 dX12_field_82 ?_
        refine q_iload_n 3 rfl rfl dX12_field_85 ?_
        obtain ⟨hg14, h⟩ := q_guard h
        refine q_iast (q_shQ3 (w.fx fx13) hq) (q_inb_in hg14) dX12_field_86 ?_
        obtain ⟨S15, e16, h⟩ := q_bindS h
        refine q_st e16 ?_
        have fx17 : q_Fx S S15 := e16 ▸ q_Fx.sI (fx13)
        refine q_aload_n 2 rfl rfl dX12_field_87 ?_
        refine q_getR (q_shQ0 (w.fx fx17) hq) (by decide) (by decide) rfl lfX12_288 dX12_field_88 (r := (q + 4)) (q_wrQ0_10 (w.fx fx17) hq) ?_
        refine q_aload_n 2 rfl rfl dX12_field_91 ?_
        refine q_getI (q_shQ0 (w.fx fx17) hq) (by decide) (by decide) rfl lfX12_257 dX12_field_92 ?_
        refine q_iload 0 rfl dX12_field_95 ?_
        obtain ⟨hg18, h⟩ := q_guard h
        refine q_iast (q_shQ4 (w.fx fx17) hq) (q_inb_in hg18) dX12_field_97 ?_
        obtain ⟨S19, e20, h⟩ := q_bindS h
        refine q_st e20 ?_
        have fx21 : q_Fx S S19 := e20 ▸ q_Fx.sI (fx17)
        refine q_aload_n 2 rfl rfl dX12_field_98 ?_
        refine q_dup rfl dX12_field_99 ?_
        refine q_getI (q_shQ0 (w.fx fx21) hq) (by decide) (by decide) rfl lfX12_257 dX12_field_100 ?_
        refine q_iconst (v := (1 : Int32)) (by decide) dX12_field_103 ?_
        refine q_iadd dX12_field_104 ?_
        refine q_putI (q_shQ0 (w.fx fx21) hq) (by decide) (by decide) rfl rfl ⟨rfl, rfl⟩ lfX12_257 dX12_field_105 ?_
        obtain ⟨S22, e23, h⟩ := q_bindS h
        refine q_st e23 ?_
        have fx24 : q_Fx S S22 := e23 ▸ q_Fx.sI (fx21)
        refine q_iconst (v := (1 : Int32)) (by decide) dX12_field_108 ?_
        obtain rfl := Option.some.inj h
        exact q_iret rfl (by decide) dX12_field_109 hQ
      · rw [if_neg c] at h
        refine q_aload_n 1 rfl rfl dX12_field_57 ?_
        refine q_iload_n 4 rfl rfl dX12_field_58 ?_
        refine q_iconst (v := (2 : Int32)) (by decide) dX12_field_59 ?_
        refine q_iadd dX12_field_60 ?_
        obtain ⟨r25, e26, h⟩ := q_bind h
        refine q_callV (ci := 12) (d := 6) (Mc := mX12_wrong) (kc := 0) (nc := 0) [.int (x3 + (2 : Int32))] okX12_wrong (q_sh102 w) (by decide) rfl lmX12_254 inX12_wrong seX12_wrong rfl (Nat.le_of_ble_eq_true rfl) (Nat.le_of_ble_eq_true rfl) (Nat.le_refl _) (Nat.le_refl _) dX12_field_61 (q_L.deep (by decide) (kX12_wrong (Q := fun r S' => r = some (.int (q_b r25.1)) ∧ S' = r25.2) w e26 ⟨rfl, rfl⟩)) (q_kI ?_)
        have fx27 : q_Fx S r25.2 := q_Fx.tr (q_Fx.rf S) (fxX12_wrong e26)
        obtain rfl := Option.some.inj h
        exact q_iret rfl (q_b_nar _) dX12_field_64 hQ
    · rw [if_neg c] at h
      refine q_aload_n 0 rfl rfl dX12_field_34 ?_
      refine q_iload_n 3 rfl rfl dX12_field_35 ?_
      refine q_iconst (v := (1 : Int32)) (by decide) dX12_field_36 ?_
      refine q_iadd dX12_field_37 ?_
      obtain ⟨r28, e29, h⟩ := q_bind h
      refine q_callV (ci := 12) (d := 6) (Mc := mX12_wrong) (kc := 0) (nc := 0) [.int (x3 + (1 : Int32))] okX12_wrong (q_sh102 w) (by decide) rfl lmX12_254 inX12_wrong seX12_wrong rfl (Nat.le_of_ble_eq_true rfl) (Nat.le_of_ble_eq_true rfl) (Nat.le_refl _) (Nat.le_refl _) dX12_field_38 (q_L.deep (by decide) (kX12_wrong (Q := fun r S' => r = some (.int (q_b r28.1)) ∧ S' = r28.2) w e29 ⟨rfl, rfl⟩)) (q_kI ?_)
      have fx30 : q_Fx S r28.2 := q_Fx.tr (q_Fx.rf S) (fxX12_wrong e29)
      obtain rfl := Option.some.inj h
      exact q_iret rfl (q_b_nar _) dX12_field_41 hQ
set_option maxRecDepth 20000 in
theorem kX12_isSameRow_47 {S : QS} {g : QG} {Q : Option Value → QS → Prop}  {y1 : Int32} {y2 : Int32} {y3 : Int32} {r : Bool} (w : q_Wire S) (h : fX12_isSameRow_47 S y1 y2 y3 = some r) (hQ : Q (some (.int (q_b r))) S) : q_L g mX12_isSameRow 5 0 0 Q 0 0 47 [(0, .ref 102), (1, .int y1), (2, .int y2), (3, .int y3)] [] S := by
  unfold fX12_isSameRow_47 at h
  refine q_aload_n 0 rfl rfl dX12_isSameRow_47 ?_
  refine q_iload_n 1 rfl rfl dX12_isSameRow_48 ?_
  refine q_iload_n 3 rfl rfl dX12_isSameRow_49 ?_
  refine q_iadd dX12_isSameRow_50 ?_
  refine q_ldcS (j := 37) (r := 1000074) rfl rfl dX12_isSameRow_51 ?_
  obtain ⟨r1, e2, h⟩ := q_bind h
  refine q_callV (ci := 12) (d := 4) (Mc := mX12_is) (kc := 0) (nc := 0) [.int (y1 + y3), .ref 1000074] okX12_is (q_sh102 w) (by decide) rfl lmX12_163 inX12_is seX12_is rfl (Nat.le_of_ble_eq_true rfl) (Nat.le_of_ble_eq_true rfl) (Nat.le_refl _) (Nat.le_refl _) dX12_isSameRow_53 (q_L.deep (by decide) (kX12_is (Q := fun r S' => r = some (.int (q_b r1)) ∧ S' = S) w e2 ⟨rfl, rfl⟩)) (q_kI ?_)
  refine q_if_eq 92 (by decide) dX12_isSameRow_56 (fun c => ?_) (fun c => ?_)
  · have c := q_b_0.mp c; rw [q_if0 c] at h
    refine q_iconst (v := (0 : Int32)) (by decide) dX12_isSameRow_92 ?_
    obtain rfl := Option.some.inj h
    exact q_iret rfl (by decide) dX12_isSameRow_93 hQ
  · have c := q_b_n.mp c; rw [q_if1 c] at h
    refine q_aload_n 0 rfl rfl dX12_isSameRow_59 ?_
    refine q_iload_n 2 rfl rfl dX12_isSameRow_60 ?_
    refine q_iload_n 3 rfl rfl dX12_isSameRow_61 ?_
    refine q_iadd dX12_isSameRow_62 ?_
    refine q_ldcS (j := 37) (r := 1000074) rfl rfl dX12_isSameRow_63 ?_
    obtain ⟨r3, e4, h⟩ := q_bind h
    refine q_callV (ci := 12) (d := 4) (Mc := mX12_is) (kc := 0) (nc := 0) [.int (y2 + y3), .ref 1000074] okX12_is (q_sh102 w) (by decide) rfl lmX12_163 inX12_is seX12_is rfl (Nat.le_of_ble_eq_true rfl) (Nat.le_of_ble_eq_true rfl) (Nat.le_refl _) (Nat.le_refl _) dX12_isSameRow_65 (q_L.deep (by decide) (kX12_is (Q := fun r S' => r = some (.int (q_b r3)) ∧ S' = S) w e4 ⟨rfl, rfl⟩)) (q_kI ?_)
    refine q_if_eq 92 (by decide) dX12_isSameRow_68 (fun c => ?_) (fun c => ?_)
    · have c := q_b_0.mp c; rw [q_if0 c] at h
      refine q_iconst (v := (0 : Int32)) (by decide) dX12_isSameRow_92 ?_
      obtain rfl := Option.some.inj h
      exact q_iret rfl (by decide) dX12_isSameRow_93 hQ
    · have c := q_b_n.mp c; rw [q_if1 c] at h
      refine q_aload_n 0 rfl rfl dX12_isSameRow_71 ?_
      refine q_iload_n 1 rfl rfl dX12_isSameRow_72 ?_
      refine q_iload_n 3 rfl rfl dX12_isSameRow_73 ?_
      refine q_iadd dX12_isSameRow_74 ?_
      refine q_iconst (v := (1 : Int32)) (by decide) dX12_isSameRow_75 ?_
      refine q_iadd dX12_isSameRow_76 ?_
      refine q_iload_n 2 rfl rfl dX12_isSameRow_77 ?_
      refine q_iload_n 3 rfl rfl dX12_isSameRow_78 ?_
      refine q_iadd dX12_isSameRow_79 ?_
      refine q_iconst (v := (1 : Int32)) (by decide) dX12_isSameRow_80 ?_
      refine q_iadd dX12_isSameRow_81 ?_
      obtain ⟨r5, e6, h⟩ := q_bind h
      refine q_callV (ci := 12) (d := 4) (Mc := mX12_isSameToken) (kc := 0) (nc := 0) [.int ((y1 + y3) + (1 : Int32)), .int ((y2 + y3) + (1 : Int32))] okX12_isSameToken (q_sh102 w) (by decide) rfl lmX12_291 inX12_isSameToken seX12_isSameToken rfl (Nat.le_of_ble_eq_true rfl) (Nat.le_of_ble_eq_true rfl) (Nat.le_refl _) (Nat.le_refl _) dX12_isSameRow_82 (q_L.deep (by decide) (kX12_isSameToken (Q := fun r S' => r = some (.int (q_b r5)) ∧ S' = S) w e6 ⟨rfl, rfl⟩)) (q_kI ?_)
      refine q_if_eq 92 (by decide) dX12_isSameRow_85 (fun c => ?_) (fun c => ?_)
      · have c := q_b_0.mp c; rw [q_if0 c] at h
        refine q_iconst (v := (0 : Int32)) (by decide) dX12_isSameRow_92 ?_
        obtain rfl := Option.some.inj h
        exact q_iret rfl (by decide) dX12_isSameRow_93 hQ
      · have c := q_b_n.mp c; rw [q_if1 c] at h
        refine q_iconst (v := (1 : Int32)) (by decide) dX12_isSameRow_88 ?_
        refine q_goto 93 (by decide) dX12_isSameRow_89 ?_
        obtain rfl := Option.some.inj h
        exact q_iret rfl (by decide) dX12_isSameRow_93 hQ
set_option maxRecDepth 20000 in
theorem sX12_isSameRow_2 {S : QS} {g : QG} {Q : Option Value → QS → Prop}  {y1 : Int32} {y2 : Int32} {x : Int32} {z : (Bool) ⊕ (Int32)} (w : q_Wire S) (h : tX12_isSameRow_2 S y1 y2 x = some z) (hQ : (Sum.elim (fun r0 : Bool => Q (some (.int (q_b r0))) S) (fun y : Int32 => q_L g mX12_isSameRow 5 0 0 Q 0 0 2 [(0, .ref 102), (1, .int y1), (2, .int y2), (3, .int y)] [] S) z)) : q_L g mX12_isSameRow 5 0 0 Q 0 0 2 [(0, .ref 102), (1, .int y1), (2, .int y2), (3, .int x)] [] S := by
  unfold tX12_isSameRow_2 at h
  refine q_aload_n 0 rfl rfl dX12_isSameRow_2 ?_
  refine q_iload_n 1 rfl rfl dX12_isSameRow_3 ?_
  refine q_iload_n 3 rfl rfl dX12_isSameRow_4 ?_
  refine q_iadd dX12_isSameRow_5 ?_
  refine q_ldcS (j := 37) (r := 1000074) rfl rfl dX12_isSameRow_6 ?_
  obtain ⟨r7, e8, h⟩ := q_bind h
  refine q_callV (ci := 12) (d := 4) (Mc := mX12_is) (kc := 0) (nc := 0) [.int (y1 + x), .ref 1000074] okX12_is (q_sh102 w) (by decide) rfl lmX12_163 inX12_is seX12_is rfl (Nat.le_of_ble_eq_true rfl) (Nat.le_of_ble_eq_true rfl) (Nat.le_refl _) (Nat.le_refl _) dX12_isSameRow_8 (q_L.deep (by decide) (kX12_is (Q := fun r S' => r = some (.int (q_b r7)) ∧ S' = S) w e8 ⟨rfl, rfl⟩)) (q_kI ?_)
  refine q_if_ne 47 (by decide) dX12_isSameRow_11 (fun c => ?_) (fun c => ?_)
  · have c := q_b_n.mp c; rw [q_if1 c] at h
    refine q_sub [0, 1, 2, 3] rfl ?_
    obtain ⟨r9, e10, h⟩ := q_bind h
    cases h
    exact kX12_isSameRow_47 w e10 hQ
  · have c := q_b_0.mp c; rw [q_if0 c] at h
    refine q_aload_n 0 rfl rfl dX12_isSameRow_14 ?_
    refine q_iload_n 2 rfl rfl dX12_isSameRow_15 ?_
    refine q_iload_n 3 rfl rfl dX12_isSameRow_16 ?_
    refine q_iadd dX12_isSameRow_17 ?_
    refine q_ldcS (j := 37) (r := 1000074) rfl rfl dX12_isSameRow_18 ?_
    obtain ⟨r11, e12, h⟩ := q_bind h
    refine q_callV (ci := 12) (d := 4) (Mc := mX12_is) (kc := 0) (nc := 0) [.int (y2 + x), .ref 1000074] okX12_is (q_sh102 w) (by decide) rfl lmX12_163 inX12_is seX12_is rfl (Nat.le_of_ble_eq_true rfl) (Nat.le_of_ble_eq_true rfl) (Nat.le_refl _) (Nat.le_refl _) dX12_isSameRow_20 (q_L.deep (by decide) (kX12_is (Q := fun r S' => r = some (.int (q_b r11)) ∧ S' = S) w e12 ⟨rfl, rfl⟩)) (q_kI ?_)
    refine q_if_ne 47 (by decide) dX12_isSameRow_23 (fun c => ?_) (fun c => ?_)
    · have c := q_b_n.mp c; rw [q_if1 c] at h
      refine q_sub [0, 1, 2, 3] rfl ?_
      obtain ⟨r13, e14, h⟩ := q_bind h
      cases h
      exact kX12_isSameRow_47 w e14 hQ
    · have c := q_b_0.mp c; rw [q_if0 c] at h
      refine q_aload_n 0 rfl rfl dX12_isSameRow_26 ?_
      refine q_iload_n 1 rfl rfl dX12_isSameRow_27 ?_
      refine q_iload_n 3 rfl rfl dX12_isSameRow_28 ?_
      refine q_iadd dX12_isSameRow_29 ?_
      refine q_iload_n 2 rfl rfl dX12_isSameRow_30 ?_
      refine q_iload_n 3 rfl rfl dX12_isSameRow_31 ?_
      refine q_iadd dX12_isSameRow_32 ?_
      obtain ⟨r15, e16, h⟩ := q_bind h
      refine q_callV (ci := 12) (d := 4) (Mc := mX12_isSameToken) (kc := 0) (nc := 0) [.int (y1 + x), .int (y2 + x)] okX12_isSameToken (q_sh102 w) (by decide) rfl lmX12_291 inX12_isSameToken seX12_isSameToken rfl (Nat.le_of_ble_eq_true rfl) (Nat.le_of_ble_eq_true rfl) (Nat.le_refl _) (Nat.le_refl _) dX12_isSameRow_33 (q_L.deep (by decide) (kX12_isSameToken (Q := fun r S' => r = some (.int (q_b r15)) ∧ S' = S) w e16 ⟨rfl, rfl⟩)) (q_kI ?_)
      refine q_if_ne 41 (by decide) dX12_isSameRow_36 (fun c => ?_) (fun c => ?_)
      · have c := q_b_n.mp c; rw [q_if1 c] at h
        refine q_iinc (v := (x + (1 : Int32))) 3 [(3, .int (x + (1 : Int32))), (0, .ref 102), (1, .int y1), (2, .int y2)] (by decide) rfl (congrArg (fun t => x + t) (by decide)) rfl dX12_isSameRow_41 ?_
        refine q_goto 2 (by decide) dX12_isSameRow_44 ?_
        refine q_sub [1, 2, 3, 0] rfl ?_
        cases h
        exact hQ
      · have c := q_b_0.mp c; rw [q_if0 c] at h
        refine q_iconst (v := (0 : Int32)) (by decide) dX12_isSameRow_39 ?_
        cases h
        exact q_iret rfl (by decide) dX12_isSameRow_40 hQ
theorem lX12_isSameRow_2 {S : QS} {g : QG} {Q : Option Value → QS → Prop}  {y1 : Int32} {y2 : Int32} {r : Bool} (w : q_Wire S) (hQ : Q (some (.int (q_b r))) S) : ∀ (c : Nat) (x : Int32), q_it (tX12_isSameRow_2 S y1 y2) c x = some r → q_L g mX12_isSameRow 5 0 0 Q 0 0 2 [(0, .ref 102), (1, .int y1), (2, .int y2), (3, .int x)] [] S := by
  intro c
  induction c with
  | zero => intro x  h; cases h
  | succ c ih =>
    intro x  h
    simp only [q_it] at h
    cases hz : tX12_isSameRow_2 S y1 y2 x with
    | none => rw [hz] at h; cases h
    | some z =>
      rw [hz] at h
      refine sX12_isSameRow_2 w hz ?_
      rcases z with z | y
      · cases h; exact hQ
      · exact ih y  h
theorem kX12_isSameRow_2 {S : QS} {g : QG} {Q : Option Value → QS → Prop}  {y1 : Int32} {y2 : Int32} {y3 : Int32} {r : Bool} (w : q_Wire S) (h : fX12_isSameRow_2 S y1 y2 y3 = some r) (hQ : Q (some (.int (q_b r))) S) : q_L g mX12_isSameRow 5 0 0 Q 0 0 2 [(0, .ref 102), (1, .int y1), (2, .int y2), (3, .int y3)] [] S := by
  obtain ⟨c, hc⟩ := q_run_it h
  exact lX12_isSameRow_2 w hQ c y3  hc
set_option maxRecDepth 20000 in
theorem kX12_isSameRow {S : QS} {g : QG} {Q : Option Value → QS → Prop}  {x1 : Int32} {x2 : Int32} {r : Bool} (w : q_Wire S) (h : fX12_isSameRow S x1 x2 = some r) (hQ : Q (some (.int (q_b r))) S) : q_M g mX12_isSameRow 5 0 0 [.ref 102, .int x1, .int x2] S Q := by
  unfold fX12_isSameRow at h
  show q_L g mX12_isSameRow 5 0 0 Q 0 0 0 [(0, .ref 102), (1, .int x1), (2, .int x2)] [] S
  refine q_iconst (v := (0 : Int32)) (by decide) dX12_isSameRow_0 ?_
  refine q_istore_n [(3, .int (0 : Int32)), (0, .ref 102), (1, .int x1), (2, .int x2)] rfl (by decide) rfl dX12_isSameRow_1 ?_
  refine q_sub [1, 2, 3, 0] rfl ?_
  exact kX12_isSameRow_2 w h hQ
set_option maxRecDepth 20000 in
theorem kX12_body_282 {S : QS} {g : QG} {Q : Option Value → QS → Prop} {q : Nat} {y2 : Int32} {y3 : Int32} {y4 : Int32} {y7 : Int32} {y8 : Int32} {y9 : Int32} {r : Bool × QS} (w : q_Wire S) (hq : q_qok q) (h : fX12_body_282 S q y2 y3 y4 y7 y8 y9 = some r) (hQ : Q (some (.int (q_b r.1))) r.2) : q_L g mX12_body 7 0 0 Q 0 0 282 [(0, .ref 102), (1, .ref q), (2, .int y2), (3, .int y3), (4, .int y4), (7, .int y7), (8, .int y8), (9, .int y9)] [] S := by
  unfold fX12_body_282 at h
  refine q_aload_n 0 rfl rfl dX12_body_282 ?_
  refine q_getR (q_sh102 w) (by decide) (by decide) rfl lfX12_46 dX12_body_283 (r := 166) (q_wr102_16 w) ?_
  refine q_iload 5 rfl dX12_body_286 ?_
  refine q_iload 7 rfl dX12_body_288 ?_
  obtain ⟨hg1, h⟩ := q_guard h
  refine q_iast (q_sh166 w) (q_inb_in hg1) dX12_body_290 ?_
  obtain ⟨S2, e3, h⟩ := q_bindS h
  refine q_st e3 ?_
  have fx4 : q_Fx S S2 := e3 ▸ q_Fx.sI (q_Fx.rf S)
  refine q_aload_n 0 rfl rfl dX12_body_291 ?_
  refine q_iload 7 rfl dX12_body_292 ?_
  refine q_iconst (v := (1 : Int32)) (by decide) dX12_body_294 ?_
  refine q_iadd dX12_body_295 ?_
  obtain ⟨r5, e6, h⟩ := q_bind h
  refine q_callV (ci := 12) (d := 6) (Mc := mX12_number) (kc := 0) (nc := 0) [.int (y9 + (1 : Int32))] okX12_number (q_sh102 (w.fx fx4)) (by decide) rfl lmX12_146 inX12_number seX12_number rfl (Nat.le_of_ble_eq_true rfl) (Nat.le_of_ble_eq_true rfl) (Nat.le_refl _) (Nat.le_refl _) dX12_body_296 (q_L.deep (by decide) (kX12_number (Q := fun r S' => r = some (.long r5) ∧ S' = S2) (w.fx fx4) e6 ⟨rfl, rfl⟩)) (q_kJ ?_)
  refine q_lstore [(10, .long r5), (0, .ref 102), (1, .ref q), (2, .int y2), (3, .int y3), (4, .int y4), (7, .int y7), (8, .int y8), (9, .int y9)] (by decide) rfl dX12_body_299 ?_
  refine q_lload 0 rfl dX12_body_301 ?_
  refine q_iload 7 rfl dX12_body_303 ?_
  refine q_i2l dX12_body_305 ?_
  refine q_lcmp dX12_body_306 ?_
  refine q_if_lt 319 (by decide) dX12_body_307 (fun c => ?_) (fun c => ?_)
  · rw [if_pos c] at h
    refine q_aload_n 1 rfl rfl dX12_body_319 ?_
    refine q_iload 8 rfl dX12_body_320 ?_
    refine q_iconst (v := (1 : Int32)) (by decide) dX12_body_322 ?_
    refine q_iadd dX12_body_323 ?_
    obtain ⟨r7, e8, h⟩ := q_bind h
    refine q_callV (ci := 12) (d := 6) (Mc := mX12_wrong) (kc := 0) (nc := 0) [.int (y9 + (1 : Int32))] okX12_wrong (q_sh102 (w.fx fx4)) (by decide) rfl lmX12_254 inX12_wrong seX12_wrong rfl (Nat.le_of_ble_eq_true rfl) (Nat.le_of_ble_eq_true rfl) (Nat.le_refl _) (Nat.le_refl _) dX12_body_324 (q_L.deep (by decide) (kX12_wrong (Q := fun r S' => r = some (.int (q_b r7.1)) ∧ S' = r7.2) (w.fx fx4) e8 ⟨rfl, rfl⟩)) (q_kI ?_)
    have fx9 : q_Fx S r7.2 := q_Fx.tr (fx4) (fxX12_wrong e8)
    obtain rfl := Option.some.inj h
    exact q_iret rfl (q_b_nar _) dX12_body_327 hQ
  · rw [if_neg c] at h
    refine q_lload 0 rfl dX12_body_310 ?_
    refine q_ldc2 lkX12_311 dX12_body_312 ?_
    refine q_lcmp dX12_body_315 ?_
    refine q_if_le 328 (by decide) dX12_body_316 (fun c => ?_) (fun c => ?_)
    · rw [if_pos c] at h
      refine q_aload_n 1 rfl rfl dX12_body_328 ?_
      refine q_getR (q_sh102 (w.fx fx4)) (by decide) (by decide) rfl lfX12_43 dX12_body_329 (r := 165) (q_wr102_15 (w.fx fx4)) ?_
      refine q_iload 6 rfl dX12_body_332 ?_
      refine q_iload_n 4 rfl rfl dX12_body_334 ?_
      refine q_iconst (v := (1 : Int32)) (by decide) dX12_body_335 ?_
      refine q_iadd dX12_body_336 ?_
      obtain ⟨hg10, h⟩ := q_guard h
      refine q_iast (q_sh165 (w.fx fx4)) (q_inb_in hg10) dX12_body_337 ?_
      obtain ⟨S11, e12, h⟩ := q_bindS h
      refine q_st e12 ?_
      have fx13 : q_Fx S S11 := e12 ▸ q_Fx.sI (fx4)
      refine q_aload_n 2 rfl rfl dX12_body_338 ?_
      refine q_getR (q_shQ0 (w.fx fx13) hq) (by decide) (by decide) rfl lfX12_270 dX12_body_339 (r := (q + 6)) (q_wrQ0_12 (w.fx fx13) hq) ?_
      refine q_iload 6 rfl dX12_body_342 ?_
      refine q_iload_n 3 rfl rfl dX12_body_344 ?_
      obtain ⟨hg14, h⟩ := q_guard h
      refine q_iast (q_shQ6 (w.fx fx13) hq) (q_inb_in hg14) dX12_body_345 ?_
      obtain ⟨S15, e16, h⟩ := q_bindS h
      refine q_st e16 ?_
      have fx17 : q_Fx S S15 := e16 ▸ q_Fx.sI (fx13)
      refine q_aload_n 2 rfl rfl dX12_body_346 ?_
      refine q_getR (q_shQ0 (w.fx fx17) hq) (by decide) (by decide) rfl lfX12_298 dX12_body_347 (r := (q + 7)) (q_wrQ0_13 (w.fx fx17) hq) ?_
      refine q_iload 6 rfl dX12_body_350 ?_
      refine q_iload 5 rfl dX12_body_352 ?_
      obtain ⟨hg18, h⟩ := q_guard h
      refine q_zast (q_shQ7 (w.fx fx17) hq) (q_inb_in hg18) dX12_body_354 ?_
      obtain ⟨S19, e20, h⟩ := q_bindS h
      refine q_st e20 ?_
      have fx21 : q_Fx S S19 := e20 ▸ q_Fx.sI (fx17)
      refine q_aload_n 2 rfl rfl dX12_body_355 ?_
      refine q_getR (q_shQ0 (w.fx fx21) hq) (by decide) (by decide) rfl lfX12_313 dX12_body_356 (r := (q + 8)) (q_wrQ0_14 (w.fx fx21) hq) ?_
      refine q_iload 6 rfl dX12_body_359 ?_
      refine q_iload 7 rfl dX12_body_361 ?_
      obtain ⟨hg22, h⟩ := q_guard h
      refine q_iast (q_shQ8 (w.fx fx21) hq) (q_inb_in hg22) dX12_body_363 ?_
      obtain ⟨S23, e24, h⟩ := q_bindS h
      refine q_st e24 ?_
      have fx25 : q_Fx S S23 := e24 ▸ q_Fx.sI (fx21)
      refine q_aload_n 2 rfl rfl dX12_body_364 ?_
      refine q_getR (q_shQ0 (w.fx fx25) hq) (by decide) (by decide) rfl lfX12_316 dX12_body_365 (r := (q + 11)) (q_wrQ0_17 (w.fx fx25) hq) ?_
      refine q_iload 6 rfl dX12_body_368 ?_
      refine q_lload 0 rfl dX12_body_370 ?_
      refine q_l2i dX12_body_372 ?_
      obtain ⟨hg26, h⟩ := q_guard h
      refine q_iast (q_shQ11 (w.fx fx25) hq) (q_inb_in hg26) dX12_body_373 ?_
      obtain ⟨S27, e28, h⟩ := q_bindS h
      refine q_st e28 ?_
      have fx29 : q_Fx S S27 := e28 ▸ q_Fx.sI (fx25)
      refine q_aload_n 2 rfl rfl dX12_body_374 ?_
      refine q_dup rfl dX12_body_375 ?_
      refine q_getI (q_shQ0 (w.fx fx29) hq) (by decide) (by decide) rfl lfX12_267 dX12_body_376 ?_
      refine q_iconst (v := (1 : Int32)) (by decide) dX12_body_379 ?_
      refine q_iadd dX12_body_380 ?_
      refine q_putI (q_shQ0 (w.fx fx29) hq) (by decide) (by decide) rfl rfl ⟨rfl, rfl⟩ lfX12_267 dX12_body_381 ?_
      obtain ⟨S30, e31, h⟩ := q_bindS h
      refine q_st e31 ?_
      have fx32 : q_Fx S S30 := e31 ▸ q_Fx.sI (fx29)
      refine q_iconst (v := (1 : Int32)) (by decide) dX12_body_384 ?_
      obtain rfl := Option.some.inj h
      exact q_iret rfl (by decide) dX12_body_385 hQ
    · rw [if_neg c] at h
      refine q_aload_n 1 rfl rfl dX12_body_319 ?_
      refine q_iload 8 rfl dX12_body_320 ?_
      refine q_iconst (v := (1 : Int32)) (by decide) dX12_body_322 ?_
      refine q_iadd dX12_body_323 ?_
      obtain ⟨r33, e34, h⟩ := q_bind h
      refine q_callV (ci := 12) (d := 6) (Mc := mX12_wrong) (kc := 0) (nc := 0) [.int (y9 + (1 : Int32))] okX12_wrong (q_sh102 (w.fx fx4)) (by decide) rfl lmX12_254 inX12_wrong seX12_wrong rfl (Nat.le_of_ble_eq_true rfl) (Nat.le_of_ble_eq_true rfl) (Nat.le_refl _) (Nat.le_refl _) dX12_body_324 (q_L.deep (by decide) (kX12_wrong (Q := fun r S' => r = some (.int (q_b r33.1)) ∧ S' = r33.2) (w.fx fx4) e34 ⟨rfl, rfl⟩)) (q_kI ?_)
      have fx35 : q_Fx S r33.2 := q_Fx.tr (fx4) (fxX12_wrong e34)
      obtain rfl := Option.some.inj h
      exact q_iret rfl (q_b_nar _) dX12_body_327 hQ
set_option maxRecDepth 20000 in
theorem sX12_body_159 {g : QG} {Q : Option Value → QS → Prop} {q : Nat} {y2 : Int32} {y3 : Int32} {y4 : Int32} {y7 : Int32} {x : Int32 × Int32 × QS} {z : (Bool × QS) ⊕ (Int32 × Int32 × QS)} (w : q_Wire x.2.2) (hq : q_qok q) (h : tX12_body_159 q y2 y3 y4 y7 x = some z) (hQ : (Sum.elim (fun r0 : Bool × QS => Q (some (.int (q_b r0.1))) r0.2) (fun y : Int32 × Int32 × QS => q_L g mX12_body 7 0 0 Q 0 0 159 [(0, .ref 102), (1, .ref q), (2, .int y2), (3, .int y3), (4, .int y4), (7, .int y7), (8, .int y.1), (9, .int y.2.1)] [] y.2.2) z)) : q_L g mX12_body 7 0 0 Q 0 0 159 [(0, .ref 102), (1, .ref q), (2, .int y2), (3, .int y3), (4, .int y4), (7, .int y7), (8, .int x.1), (9, .int x.2.1)] [] x.2.2 := by
  unfold tX12_body_159 at h
  refine q_aload_n 0 rfl rfl dX12_body_159 ?_
  refine q_iload 7 rfl dX12_body_160 ?_
  refine q_ldcS (j := 37) (r := 1000074) rfl rfl dX12_body_162 ?_
  obtain ⟨r36, e37, h⟩ := q_bind h
  refine q_callV (ci := 12) (d := 6) (Mc := mX12_is) (kc := 0) (nc := 0) [.int x.2.1, .ref 1000074] okX12_is (q_sh102 w) (by decide) rfl lmX12_163 inX12_is seX12_is rfl (Nat.le_of_ble_eq_true rfl) (Nat.le_of_ble_eq_true rfl) (Nat.le_refl _) (Nat.le_refl _) dX12_body_164 (q_L.deep (by decide) (kX12_is (Q := fun r S' => r = some (.int (q_b r36)) ∧ S' = x.2.2) w e37 ⟨rfl, rfl⟩)) (q_kI ?_)
  refine q_if_ne 222 (by decide) dX12_body_167 (fun c => ?_) (fun c => ?_)
  · have c := q_b_n.mp c; rw [q_if1 c] at h
    refine q_iinc (v := (x.2.1 + (1 : Int32))) 7 [(9, .int (x.2.1 + (1 : Int32))), (0, .ref 102), (1, .ref q), (2, .int y2), (3, .int y3), (4, .int y4), (7, .int y7), (8, .int x.1)] (by decide) rfl (congrArg (fun t => x.2.1 + t) (by decide)) rfl dX12_body_222 ?_
    refine q_aload_n 2 rfl rfl dX12_body_225 ?_
    refine q_getR (q_shQ0 w hq) (by decide) (by decide) rfl lfX12_308 dX12_body_226 (r := (q + 10)) (q_wrQ0_16 w hq) ?_
    refine q_iload 6 rfl dX12_body_229 ?_
    refine q_aload_n 1 rfl rfl dX12_body_231 ?_
    refine q_iload 0 rfl dX12_body_232 ?_
    refine q_ldcS (j := 38) (r := 1000076) rfl rfl dX12_body_234 ?_
    obtain ⟨r38, e39, h⟩ := q_bind h
    refine q_callV (ci := 12) (d := 6) (Mc := mX12_is) (kc := 0) (nc := 0) [.int (x.2.1 + (1 : Int32)), .ref 1000076] okX12_is (q_sh102 w) (by decide) rfl lmX12_163 inX12_is seX12_is rfl (Nat.le_of_ble_eq_true rfl) (Nat.le_of_ble_eq_true rfl) (Nat.le_refl _) (Nat.le_refl _) dX12_body_236 (q_L.deep (by decide) (kX12_is (Q := fun r S' => r = some (.int (q_b r38)) ∧ S' = x.2.2) w e39 ⟨rfl, rfl⟩)) (q_kI ?_)
    obtain ⟨v42, hv, h⟩ := q_bind h
    have K1 : q_L g mX12_body 7 0 0 Q 0 0 253 [(0, .ref 102), (1, .ref q), (2, .int y2), (3, .int y3), (4, .int y4), (7, .int y7), (8, .int x.1), (9, .int (x.2.1 + (1 : Int32)))] [.int v42, .int y7, .ref (q + 10)] x.2.2 := by
      obtain ⟨hg43, h⟩ := q_guard h
      refine q_iast (q_shQ10 w hq) (q_inb_in hg43) dX12_body_253 ?_
      obtain ⟨S44, e45, h⟩ := q_bindS h
      refine q_st e45 ?_
      have fx46 : q_Fx x.2.2 S44 := e45 ▸ q_Fx.sI (q_Fx.rf x.2.2)
      refine q_aload_n 0 rfl rfl dX12_body_254 ?_
      refine q_iload 7 rfl dX12_body_255 ?_
      refine q_ldcS (j := 38) (r := 1000076) rfl rfl dX12_body_257 ?_
      obtain ⟨r47, e48, h⟩ := q_bind h
      refine q_callV (ci := 12) (d := 6) (Mc := mX12_is) (kc := 0) (nc := 0) [.int (x.2.1 + (1 : Int32)), .ref 1000076] okX12_is (q_sh102 (w.fx fx46)) (by decide) rfl lmX12_163 inX12_is seX12_is rfl (Nat.le_of_ble_eq_true rfl) (Nat.le_of_ble_eq_true rfl) (Nat.le_refl _) (Nat.le_refl _) dX12_body_259 (q_L.deep (by decide) (kX12_is (Q := fun r S' => r = some (.int (q_b r47)) ∧ S' = S44) (w.fx fx46) e48 ⟨rfl, rfl⟩)) (q_kI ?_)
      refine q_if_ne 282 (by decide) dX12_body_262 (fun c => ?_) (fun c => ?_)
      · have c := q_b_n.mp c; rw [q_if1 c] at h
        refine q_sub [0, 1, 2, 3, 4, 5, 6, 7] rfl ?_
        obtain ⟨r49, e50, h⟩ := q_bind h
        cases h
        exact kX12_body_282 (w.fx fx46) hq e50 hQ
      · have c := q_b_0.mp c; rw [q_if0 c] at h
        refine q_aload_n 1 rfl rfl dX12_body_265 ?_
        refine q_getR (q_shQ0 (w.fx fx46) hq) (by decide) (by decide) rfl lfX12_308 dX12_body_266 (r := (q + 10)) (q_wrQ0_16 (w.fx fx46) hq) ?_
        refine q_iload 5 rfl dX12_body_269 ?_
        obtain ⟨hg51, h⟩ := q_guard h
        refine q_iald (q_shQ10 (w.fx fx46) hq) (q_inb_in hg51) dX12_body_271 ?_
        refine q_if_ge 282 (by decide) dX12_body_272 (fun c => ?_) (fun c => ?_)
        · rw [if_pos c] at h
          refine q_sub [0, 1, 2, 3, 4, 5, 6, 7] rfl ?_
          obtain ⟨r52, e53, h⟩ := q_bind h
          cases h
          exact kX12_body_282 (w.fx fx46) hq e53 hQ
        · rw [if_neg c] at h
          refine q_aload_n 0 rfl rfl dX12_body_275 ?_
          refine q_iload 7 rfl dX12_body_276 ?_
          obtain ⟨r54, e55, h⟩ := q_bind h
          refine q_callV (ci := 12) (d := 6) (Mc := mX12_wrong) (kc := 0) (nc := 0) [.int (x.2.1 + (1 : Int32))] okX12_wrong (q_sh102 (w.fx fx46)) (by decide) rfl lmX12_254 inX12_wrong seX12_wrong rfl (Nat.le_of_ble_eq_true rfl) (Nat.le_of_ble_eq_true rfl) (Nat.le_refl _) (Nat.le_refl _) dX12_body_278 (q_L.deep (by decide) (kX12_wrong (Q := fun r S' => r = some (.int (q_b r54.1)) ∧ S' = r54.2) (w.fx fx46) e55 ⟨rfl, rfl⟩)) (q_kI ?_)
          have fx56 : q_Fx x.2.2 r54.2 := q_Fx.tr (fx46) (fxX12_wrong e55)
          cases h
          exact q_iret rfl (q_b_nar _) dX12_body_281 hQ
    replace h := hv
    refine q_if_eq 246 (by decide) dX12_body_239 (fun c => ?_) (fun c => ?_)
    · have c := q_b_0.mp c; rw [q_if0 c] at h
      refine q_aload_n 1 rfl rfl dX12_body_246 ?_
      refine q_aload_n 2 rfl rfl dX12_body_247 ?_
      refine q_iload 0 rfl dX12_body_248 ?_
      obtain ⟨r40, e41, h⟩ := q_bind h
      refine q_callV (ci := 12) (d := 6) (Mc := mX12_typeOf) (kc := 0) (nc := 0) [.ref q, .int (x.2.1 + (1 : Int32))] okX12_typeOf (q_sh102 w) (by decide) rfl lmX12_285 inX12_typeOf seX12_typeOf rfl (Nat.le_of_ble_eq_true rfl) (Nat.le_of_ble_eq_true rfl) (Nat.le_refl _) (Nat.le_refl _) dX12_body_250 (q_L.deep (by decide) (kX12_typeOf (Q := fun r S' => r = some (.int r40) ∧ S' = x.2.2) w hq e41 ⟨rfl, rfl⟩)) (q_kI ?_)
      obtain rfl := Option.some.inj h
      refine q_sub [1, 2, 3, 4, 5, 6, 7, 0] rfl ?_
      exact K1
    · have c := q_b_n.mp c; rw [q_if1 c] at h
      refine q_iconst (v := (-1 : Int32)) (by decide) dX12_body_242 ?_
      refine q_goto 253 (by decide) dX12_body_243 ?_
      obtain rfl := Option.some.inj h
      refine q_sub [1, 2, 3, 4, 5, 6, 7, 0] rfl ?_
      exact K1
  · have c := q_b_0.mp c; rw [q_if0 c] at h
    refine q_aload_n 0 rfl rfl dX12_body_170 ?_
    refine q_aload_n 1 rfl rfl dX12_body_171 ?_
    refine q_iload 7 rfl dX12_body_172 ?_
    obtain ⟨r57, e58, h⟩ := q_bind h
    refine q_callV (ci := 12) (d := 6) (Mc := mX12_typeOf) (kc := 0) (nc := 0) [.ref q, .int x.2.1] okX12_typeOf (q_sh102 w) (by decide) rfl lmX12_285 inX12_typeOf seX12_typeOf rfl (Nat.le_of_ble_eq_true rfl) (Nat.le_of_ble_eq_true rfl) (Nat.le_refl _) (Nat.le_refl _) dX12_body_174 (q_L.deep (by decide) (kX12_typeOf (Q := fun r S' => r = some (.int r57) ∧ S' = x.2.2) w hq e58 ⟨rfl, rfl⟩)) (q_kI ?_)
    refine q_istore [(10, .int r57), (0, .ref 102), (1, .ref q), (2, .int y2), (3, .int y3), (4, .int y4), (7, .int y7), (8, .int x.1), (9, .int x.2.1)] (by decide) rfl dX12_body_177 ?_
    refine q_iload 0 rfl dX12_body_179 ?_
    refine q_if_ge 191 (by decide) dX12_body_181 (fun c => ?_) (fun c => ?_)
    · rw [if_pos c] at h
      refine q_iload 7 rfl dX12_body_191 ?_
      refine q_bipush (v := (12 : Int32)) (by decide) dX12_body_193 ?_
      refine q_icmp_ge 213 (by decide) dX12_body_195 (fun c => ?_) (fun c => ?_)
      · rw [if_pos c] at h
        refine q_iinc (v := (x.1 + (1 : Int32))) 7 [(8, .int (x.1 + (1 : Int32))), (10, .int r57), (0, .ref 102), (1, .ref q), (2, .int y2), (3, .int y3), (4, .int y4), (7, .int y7), (9, .int x.2.1)] (by decide) rfl (congrArg (fun t => x.1 + t) (by decide)) rfl dX12_body_213 ?_
        refine q_iinc (v := (x.2.1 + (1 : Int32))) 8 [(9, .int (x.2.1 + (1 : Int32))), (8, .int (x.1 + (1 : Int32))), (10, .int r57), (0, .ref 102), (1, .ref q), (2, .int y2), (3, .int y3), (4, .int y4), (7, .int y7)] (by decide) rfl (congrArg (fun t => x.2.1 + t) (by decide)) rfl dX12_body_216 ?_
        refine q_goto 159 (by decide) dX12_body_219 ?_
        refine q_sub [3, 4, 5, 6, 7, 8, 1, 0] rfl ?_
        cases h
        exact hQ
      · rw [if_neg c] at h
        refine q_aload_n 2 rfl rfl dX12_body_198 ?_
        refine q_getR (q_shQ0 w hq) (by decide) (by decide) rfl lfX12_305 dX12_body_199 (r := (q + 9)) (q_wrQ0_15 w hq) ?_
        refine q_iload 6 rfl dX12_body_202 ?_
        refine q_bipush (v := (12 : Int32)) (by decide) dX12_body_204 ?_
        refine q_imul dX12_body_206 ?_
        refine q_iload 7 rfl dX12_body_207 ?_
        refine q_iadd dX12_body_209 ?_
        refine q_iload 0 rfl dX12_body_210 ?_
        obtain ⟨hg59, h⟩ := q_guard h
        refine q_iast (q_shQ9 w hq) (q_inb_in hg59) dX12_body_212 ?_
        obtain ⟨S60, e61, h⟩ := q_bindS h
        refine q_st e61 ?_
        have fx62 : q_Fx x.2.2 S60 := e61 ▸ q_Fx.sI (q_Fx.rf x.2.2)
        refine q_iinc (v := (x.1 + (1 : Int32))) 7 [(8, .int (x.1 + (1 : Int32))), (10, .int r57), (0, .ref 102), (1, .ref q), (2, .int y2), (3, .int y3), (4, .int y4), (7, .int y7), (9, .int x.2.1)] (by decide) rfl (congrArg (fun t => x.1 + t) (by decide)) rfl dX12_body_213 ?_
        refine q_iinc (v := (x.2.1 + (1 : Int32))) 8 [(9, .int (x.2.1 + (1 : Int32))), (8, .int (x.1 + (1 : Int32))), (10, .int r57), (0, .ref 102), (1, .ref q), (2, .int y2), (3, .int y3), (4, .int y4), (7, .int y7)] (by decide) rfl (congrArg (fun t => x.2.1 + t) (by decide)) rfl dX12_body_216 ?_
        refine q_goto 159 (by decide) dX12_body_219 ?_
        refine q_sub [3, 4, 5, 6, 7, 8, 1, 0] rfl ?_
        cases h
        exact hQ
    · rw [if_neg c] at h
      refine q_aload_n 1 rfl rfl dX12_body_184 ?_
      refine q_iload 8 rfl dX12_body_185 ?_
      obtain ⟨r63, e64, h⟩ := q_bind h
      refine q_callV (ci := 12) (d := 6) (Mc := mX12_wrong) (kc := 0) (nc := 0) [.int x.2.1] okX12_wrong (q_sh102 w) (by decide) rfl lmX12_254 inX12_wrong seX12_wrong rfl (Nat.le_of_ble_eq_true rfl) (Nat.le_of_ble_eq_true rfl) (Nat.le_refl _) (Nat.le_refl _) dX12_body_187 (q_L.deep (by decide) (kX12_wrong (Q := fun r S' => r = some (.int (q_b r63.1)) ∧ S' = r63.2) w e64 ⟨rfl, rfl⟩)) (q_kI ?_)
      have fx65 : q_Fx x.2.2 r63.2 := q_Fx.tr (q_Fx.rf x.2.2) (fxX12_wrong e64)
      cases h
      exact q_iret rfl (q_b_nar _) dX12_body_190 hQ
theorem lX12_body_159 {g : QG} {Q : Option Value → QS → Prop} {q : Nat} {y2 : Int32} {y3 : Int32} {y4 : Int32} {y7 : Int32} {r : Bool × QS} (hq : q_qok q) (hQ : Q (some (.int (q_b r.1))) r.2) : ∀ (c : Nat) (x : Int32 × Int32 × QS), q_Wire x.2.2 → q_it (tX12_body_159 q y2 y3 y4 y7) c x = some r → q_L g mX12_body 7 0 0 Q 0 0 159 [(0, .ref 102), (1, .ref q), (2, .int y2), (3, .int y3), (4, .int y4), (7, .int y7), (8, .int x.1), (9, .int x.2.1)] [] x.2.2 := by
  intro c
  induction c with
  | zero => intro x w h; cases h
  | succ c ih =>
    intro x w h
    simp only [q_it] at h
    cases hz : tX12_body_159 q y2 y3 y4 y7 x with
    | none => rw [hz] at h; cases h
    | some z =>
      rw [hz] at h
      refine sX12_body_159 w hq hz ?_
      rcases z with z | y
      · cases h; exact hQ
      · have fz := fxtX12_body_159 hz; exact ih y (w.fx fz) h
theorem kX12_body_159 {S : QS} {g : QG} {Q : Option Value → QS → Prop} {q : Nat} {y2 : Int32} {y3 : Int32} {y4 : Int32} {y7 : Int32} {y8 : Int32} {y9 : Int32} {r : Bool × QS} (w : q_Wire S) (hq : q_qok q) (h : fX12_body_159 S q y2 y3 y4 y7 y8 y9 = some r) (hQ : Q (some (.int (q_b r.1))) r.2) : q_L g mX12_body 7 0 0 Q 0 0 159 [(0, .ref 102), (1, .ref q), (2, .int y2), (3, .int y3), (4, .int y4), (7, .int y7), (8, .int y8), (9, .int y9)] [] S := by
  obtain ⟨c, hc⟩ := q_run_it h
  exact lX12_body_159 hq hQ c (y8, y9, S) w hc
set_option maxRecDepth 20000 in
theorem kX12_body_100 {S : QS} {g : QG} {Q : Option Value → QS → Prop} {q : Nat} {y2 : Int32} {y3 : Int32} {y4 : Int32} {r : Bool × QS} (w : q_Wire S) (hq : q_qok q) (h : fX12_body_100 S q y2 y3 y4 = some r) (hQ : Q (some (.int (q_b r.1))) r.2) : q_L g mX12_body 7 0 0 Q 0 0 100 [(0, .ref 102), (1, .ref q), (2, .int y2), (3, .int y3), (4, .int y4)] [] S := by
  unfold fX12_body_100 at h
  refine q_aload_n 1 rfl rfl dX12_body_100 ?_
  refine q_getI (q_shQ0 w hq) (by decide) (by decide) rfl lfX12_267 dX12_body_101 ?_
  refine q_bipush (v := (48 : Int32)) (by decide) dX12_body_104 ?_
  refine q_icmp_ne 117 (by decide) dX12_body_106 (fun c => ?_) (fun c => ?_)
  · rw [if_neg c] at h
    refine q_aload_n 1 rfl rfl dX12_body_117 ?_
    refine q_getI (q_shQ0 w hq) (by decide) (by decide) rfl lfX12_267 dX12_body_118 ?_
    refine q_istore [(7, .int (S.2.1 q 2)), (0, .ref 102), (1, .ref q), (2, .int y2), (3, .int y3), (4, .int y4)] (by decide) rfl dX12_body_121 ?_
    refine q_iload 5 rfl dX12_body_123 ?_
    obtain ⟨v66, hv, h⟩ := q_bind h
    have K2 : q_L g mX12_body 7 0 0 Q 0 0 133 [(0, .ref 102), (1, .ref q), (2, .int y2), (3, .int y3), (4, .int y4), (7, .int (S.2.1 q 2))] [.int (q_b v66)] S := by
      refine q_istore [(8, .int (q_b v66)), (0, .ref 102), (1, .ref q), (2, .int y2), (3, .int y3), (4, .int y4), (7, .int (S.2.1 q 2))] (by decide) rfl dX12_body_133 ?_
      refine q_iload 5 rfl dX12_body_135 ?_
      obtain ⟨v71, hv, h⟩ := q_bind h
      have fx72 : q_Fx S v71 := by
        replace h := hv
        by_cases c : y4 = 0
        · rw [if_pos c] at h
          obtain rfl := Option.some.inj h
          exact q_Fx.rf _
        · rw [if_neg c] at h
          obtain ⟨hg67, h⟩ := q_guard h
          obtain ⟨S68, e69, h⟩ := q_bindS h
          have fx70 : q_Fx S S68 := e69 ▸ q_Fx.sI (q_Fx.rf S)
          obtain rfl := Option.some.inj h
          exact fx70
      have K3 : q_L g mX12_body 7 0 0 Q 0 0 154 [(0, .ref 102), (1, .ref q), (2, .int y2), (3, .int y3), (4, .int y4), (7, .int (S.2.1 q 2)), (8, .int (q_b v66))] [] v71 := by
        refine q_iload_n 3 rfl rfl dX12_body_154 ?_
        refine q_iconst (v := (3 : Int32)) (by decide) dX12_body_155 ?_
        refine q_iadd dX12_body_156 ?_
        refine q_istore [(9, .int (y3 + (3 : Int32))), (0, .ref 102), (1, .ref q), (2, .int y2), (3, .int y3), (4, .int y4), (7, .int (S.2.1 q 2)), (8, .int (q_b v66))] (by decide) rfl dX12_body_157 ?_
        refine q_sub [1, 2, 3, 4, 5, 6, 7, 0] rfl ?_
        exact kX12_body_159 (w.fx fx72) hq h hQ
      replace h := hv
      refine q_if_eq 154 (by decide) dX12_body_137 (fun c => ?_) (fun c => ?_)
      · rw [if_pos c] at h
        obtain rfl := Option.some.inj h
        refine q_sub [1, 2, 3, 4, 5, 6, 0] rfl ?_
        exact K3
      · rw [if_neg c] at h
        refine q_aload_n 2 rfl rfl dX12_body_140 ?_
        refine q_getR (q_shQ0 w hq) (by decide) (by decide) rfl lfX12_305 dX12_body_141 (r := (q + 9)) (q_wrQ0_15 w hq) ?_
        refine q_iload 6 rfl dX12_body_144 ?_
        refine q_bipush (v := (12 : Int32)) (by decide) dX12_body_146 ?_
        refine q_imul dX12_body_148 ?_
        refine q_bipush (v := (8 : Int32)) (by decide) dX12_body_149 ?_
        refine q_iload_n 3 rfl rfl dX12_body_151 ?_
        refine q_iadd dX12_body_152 ?_
        obtain ⟨hg67, h⟩ := q_guard h
        refine q_iast (q_shQ9 w hq) (q_inb_in hg67) dX12_body_153 ?_
        obtain ⟨S68, e69, h⟩ := q_bindS h
        refine q_st e69 ?_
        have fx70 : q_Fx S S68 := e69 ▸ q_Fx.sI (q_Fx.rf S)
        obtain rfl := Option.some.inj h
        refine q_sub [1, 2, 3, 4, 5, 6, 0] rfl ?_
        exact K3
    replace h := hv
    refine q_if_eq 132 (by decide) dX12_body_125 (fun c => ?_) (fun c => ?_)
    · rw [if_pos c] at h
      refine q_iconst (v := (0 : Int32)) (by decide) dX12_body_132 ?_
      obtain rfl := Option.some.inj h
      refine q_sub [1, 2, 3, 4, 5, 0] rfl ?_
      exact K2
    · rw [if_neg c] at h
      refine q_iconst (v := (1 : Int32)) (by decide) dX12_body_128 ?_
      refine q_goto 133 (by decide) dX12_body_129 ?_
      obtain rfl := Option.some.inj h
      refine q_sub [1, 2, 3, 4, 5, 0] rfl ?_
      exact K2
  · rw [if_pos c] at h
    refine q_aload_n 0 rfl rfl dX12_body_109 ?_
    refine q_iload_n 3 rfl rfl dX12_body_110 ?_
    refine q_iconst (v := (1 : Int32)) (by decide) dX12_body_111 ?_
    refine q_iadd dX12_body_112 ?_
    obtain ⟨r73, e74, h⟩ := q_bind h
    refine q_callV (ci := 12) (d := 6) (Mc := mX12_wrong) (kc := 0) (nc := 0) [.int (y3 + (1 : Int32))] okX12_wrong (q_sh102 w) (by decide) rfl lmX12_254 inX12_wrong seX12_wrong rfl (Nat.le_of_ble_eq_true rfl) (Nat.le_of_ble_eq_true rfl) (Nat.le_refl _) (Nat.le_refl _) dX12_body_113 (q_L.deep (by decide) (kX12_wrong (Q := fun r S' => r = some (.int (q_b r73.1)) ∧ S' = r73.2) w e74 ⟨rfl, rfl⟩)) (q_kI ?_)
    have fx75 : q_Fx S r73.2 := q_Fx.tr (q_Fx.rf S) (fxX12_wrong e74)
    obtain rfl := Option.some.inj h
    exact q_iret rfl (q_b_nar _) dX12_body_116 hQ
set_option maxRecDepth 20000 in
theorem kX12_body {S : QS} {g : QG} {Q : Option Value → QS → Prop} {q : Nat} {x2 : Int32} {x3 : Int32} {r : Bool × QS} (w : q_Wire S) (hq : q_qok q) (h : fX12_body S q x2 x3 = some r) (hQ : Q (some (.int (q_b r.1))) r.2) : q_M g mX12_body 7 0 0 [.ref 102, .ref q, .int x2, .int x3] S Q := by
  unfold fX12_body at h
  show q_L g mX12_body 7 0 0 Q 0 0 0 [(0, .ref 102), (1, .ref q), (2, .int x2), (3, .int x3)] [] S
  refine q_aload_n 0 rfl rfl dX12_body_0 ?_
  refine q_iload_n 3 rfl rfl dX12_body_1 ?_
  refine q_ldcS (j := 35) (r := 1000070) rfl rfl dX12_body_2 ?_
  obtain ⟨r76, e77, h⟩ := q_bind h
  refine q_callV (ci := 12) (d := 6) (Mc := mX12_is) (kc := 0) (nc := 0) [.int x3, .ref 1000070] okX12_is (q_sh102 w) (by decide) rfl lmX12_163 inX12_is seX12_is rfl (Nat.le_of_ble_eq_true rfl) (Nat.le_of_ble_eq_true rfl) (Nat.le_refl _) (Nat.le_refl _) dX12_body_4 (q_L.deep (by decide) (kX12_is (Q := fun r S' => r = some (.int (q_b r76)) ∧ S' = S) w e77 ⟨rfl, rfl⟩)) (q_kI ?_)
  refine q_istore [(4, .int (q_b r76)), (0, .ref 102), (1, .ref q), (2, .int x2), (3, .int x3)] (by decide) rfl dX12_body_7 ?_
  refine q_aload_n 1 rfl rfl dX12_body_9 ?_
  refine q_aload_n 2 rfl rfl dX12_body_10 ?_
  refine q_iload_n 3 rfl rfl dX12_body_11 ?_
  refine q_aload_n 1 rfl rfl dX12_body_12 ?_
  refine q_getR (q_sh102 w) (by decide) (by decide) rfl lfX12_26 dX12_body_13 (r := 161) (q_wr102_8 w) ?_
  refine q_iload_n 4 rfl rfl dX12_body_16 ?_
  refine q_iconst (v := (1 : Int32)) (by decide) dX12_body_17 ?_
  refine q_iadd dX12_body_18 ?_
  obtain ⟨hg78, h⟩ := q_guard h
  refine q_iald (q_sh161 w) (q_inb_in hg78) dX12_body_19 ?_
  refine q_aload_n 1 rfl rfl dX12_body_20 ?_
  refine q_getR (q_sh102 w) (by decide) (by decide) rfl lfX12_30 dX12_body_21 (r := 162) (q_wr102_9 w) ?_
  refine q_iload_n 4 rfl rfl dX12_body_24 ?_
  refine q_iconst (v := (1 : Int32)) (by decide) dX12_body_25 ?_
  refine q_iadd dX12_body_26 ?_
  obtain ⟨hg79, h⟩ := q_guard h
  refine q_iald (q_sh162 w) (q_inb_in hg79) dX12_body_27 ?_
  obtain ⟨r80, e81, h⟩ := q_bind h
  refine q_callV (ci := 12) (d := 6) (Mc := mX12_bodyOf) (kc := 0) (nc := 0) [.ref q, .int x2, .int (S.2.1 161 (x3 + (1 : Int32)).toNatClampNeg), .int (S.2.1 162 (x3 + (1 : Int32)).toNatClampNeg)] okX12_bodyOf (q_sh102 w) (by decide) rfl lmX12_295 inX12_bodyOf seX12_bodyOf rfl (Nat.le_of_ble_eq_true rfl) (Nat.le_of_ble_eq_true rfl) (Nat.le_refl _) (Nat.le_refl _) dX12_body_28 (q_L.deep (by decide) (kX12_bodyOf (Q := fun r S' => r = some (.int r80) ∧ S' = S) w hq e81 ⟨rfl, rfl⟩)) (q_kI ?_)
  refine q_istore [(5, .int r80), (4, .int (q_b r76)), (0, .ref 102), (1, .ref q), (2, .int x2), (3, .int x3)] (by decide) rfl dX12_body_31 ?_
  refine q_iload 0 rfl dX12_body_33 ?_
  obtain ⟨v87, hv, h⟩ := q_bind h
  have K4 : q_L g mX12_body 7 0 0 Q 0 0 88 [(0, .ref 102), (1, .ref q), (2, .int x2), (3, .int x3), (4, .int (q_b r76)), (5, .int r80)] [.int (q_b v87)] S := by
    refine q_istore [(6, .int (q_b v87)), (0, .ref 102), (1, .ref q), (2, .int x2), (3, .int x3), (4, .int (q_b r76)), (5, .int r80)] (by decide) rfl dX12_body_88 ?_
    refine q_iload 6 rfl dX12_body_90 ?_
    refine q_if_lt 100 (by decide) dX12_body_92 (fun c => ?_) (fun c => ?_)
    · rw [if_pos c] at h
      refine q_sub [1, 2, 3, 4, 5] rfl ?_
      exact kX12_body_100 w hq h hQ
    · rw [if_neg c] at h
      refine q_iload 0 rfl dX12_body_95 ?_
      refine q_if_eq 109 (by decide) dX12_body_97 (fun c => ?_) (fun c => ?_)
      · have c := q_b_0.mp c; rw [q_if0 c] at h
        refine q_aload_n 1 rfl rfl dX12_body_109 ?_
        refine q_iload_n 4 rfl rfl dX12_body_110 ?_
        refine q_iconst (v := (1 : Int32)) (by decide) dX12_body_111 ?_
        refine q_iadd dX12_body_112 ?_
        obtain ⟨r88, e89, h⟩ := q_bind h
        refine q_callV (ci := 12) (d := 6) (Mc := mX12_wrong) (kc := 0) (nc := 0) [.int (x3 + (1 : Int32))] okX12_wrong (q_sh102 w) (by decide) rfl lmX12_254 inX12_wrong seX12_wrong rfl (Nat.le_of_ble_eq_true rfl) (Nat.le_of_ble_eq_true rfl) (Nat.le_refl _) (Nat.le_refl _) dX12_body_113 (q_L.deep (by decide) (kX12_wrong (Q := fun r S' => r = some (.int (q_b r88.1)) ∧ S' = r88.2) w e89 ⟨rfl, rfl⟩)) (q_kI ?_)
        have fx90 : q_Fx S r88.2 := q_Fx.tr (q_Fx.rf S) (fxX12_wrong e89)
        obtain rfl := Option.some.inj h
        exact q_iret rfl (q_b_nar _) dX12_body_116 hQ
      · have c := q_b_n.mp c; rw [q_if1 c] at h
        refine q_sub [1, 2, 3, 4, 5] rfl ?_
        exact kX12_body_100 w hq h hQ
  replace h := hv
  refine q_if_lt 87 (by decide) dX12_body_35 (fun c => ?_) (fun c => ?_)
  · rw [if_pos c] at h
    refine q_iconst (v := (0 : Int32)) (by decide) dX12_body_87 ?_
    obtain rfl := Option.some.inj h
    refine q_sub [2, 3, 4, 5, 1, 0] rfl ?_
    exact K4
  · rw [if_neg c] at h
    refine q_aload_n 3 rfl rfl dX12_body_38 ?_
    refine q_getR (q_shQ0 w hq) (by decide) (by decide) rfl lfX12_270 dX12_body_39 (r := (q + 6)) (q_wrQ0_12 w hq) ?_
    refine q_iload 0 rfl dX12_body_42 ?_
    obtain ⟨hg82, h⟩ := q_guard h
    refine q_iald (q_shQ6 w hq) (q_inb_in hg82) dX12_body_44 ?_
    refine q_iload_n 4 rfl rfl dX12_body_45 ?_
    refine q_icmp_eq 87 (by decide) dX12_body_46 (fun c => ?_) (fun c => ?_)
    · rw [if_pos c] at h
      refine q_iconst (v := (0 : Int32)) (by decide) dX12_body_87 ?_
      obtain rfl := Option.some.inj h
      refine q_sub [2, 3, 4, 5, 1, 0] rfl ?_
      exact K4
    · rw [if_neg c] at h
      refine q_iload 1 rfl dX12_body_49 ?_
      refine q_if_eq 87 (by decide) dX12_body_51 (fun c => ?_) (fun c => ?_)
      · have c := q_b_0.mp c; rw [q_if0 c] at h
        refine q_iconst (v := (0 : Int32)) (by decide) dX12_body_87 ?_
        obtain rfl := Option.some.inj h
        refine q_sub [2, 3, 4, 5, 1, 0] rfl ?_
        exact K4
      · have c := q_b_n.mp c; rw [q_if1 c] at h
        refine q_aload_n 3 rfl rfl dX12_body_54 ?_
        refine q_getR (q_shQ0 w hq) (by decide) (by decide) rfl lfX12_298 dX12_body_55 (r := (q + 7)) (q_wrQ0_13 w hq) ?_
        refine q_iload 0 rfl dX12_body_58 ?_
        obtain ⟨hg83, h⟩ := q_guard h
        refine q_zald (q_shQ7 w hq) (q_inb_in hg83) dX12_body_60 ?_
        refine q_if_eq 87 (by decide) dX12_body_61 (fun c => ?_) (fun c => ?_)
        · rw [if_pos c] at h
          refine q_iconst (v := (0 : Int32)) (by decide) dX12_body_87 ?_
          obtain rfl := Option.some.inj h
          refine q_sub [2, 3, 4, 5, 1, 0] rfl ?_
          exact K4
        · rw [if_neg c] at h
          refine q_aload_n 2 rfl rfl dX12_body_64 ?_
          refine q_iload_n 5 rfl rfl dX12_body_65 ?_
          refine q_iconst (v := (2 : Int32)) (by decide) dX12_body_66 ?_
          refine q_iadd dX12_body_67 ?_
          refine q_aload_n 2 rfl rfl dX12_body_68 ?_
          refine q_getR (q_sh102 w) (by decide) (by decide) rfl lfX12_43 dX12_body_69 (r := 165) (q_wr102_15 w) ?_
          refine q_iload 0 rfl dX12_body_72 ?_
          obtain ⟨hg84, h⟩ := q_guard h
          refine q_iald (q_sh165 w) (q_inb_in hg84) dX12_body_74 ?_
          refine q_iconst (v := (1 : Int32)) (by decide) dX12_body_75 ?_
          refine q_iadd dX12_body_76 ?_
          obtain ⟨r85, e86, h⟩ := q_bind h
          refine q_callV (ci := 12) (d := 6) (Mc := mX12_isSameRow) (kc := 0) (nc := 0) [.int (x3 + (2 : Int32)), .int ((S.2.1 165 r80.toNatClampNeg) + (1 : Int32))] okX12_isSameRow (q_sh102 w) (by decide) rfl lmX12_302 inX12_isSameRow seX12_isSameRow rfl (Nat.le_of_ble_eq_true rfl) (Nat.le_of_ble_eq_true rfl) (Nat.le_refl _) (Nat.le_refl _) dX12_body_77 (q_L.deep (by decide) (kX12_isSameRow (Q := fun r S' => r = some (.int (q_b r85)) ∧ S' = S) w e86 ⟨rfl, rfl⟩)) (q_kI ?_)
          refine q_if_eq 87 (by decide) dX12_body_80 (fun c => ?_) (fun c => ?_)
          · have c := q_b_0.mp c; rw [q_if0 c] at h
            refine q_iconst (v := (0 : Int32)) (by decide) dX12_body_87 ?_
            obtain rfl := Option.some.inj h
            refine q_sub [2, 3, 4, 5, 1, 0] rfl ?_
            exact K4
          · have c := q_b_n.mp c; rw [q_if1 c] at h
            refine q_iconst (v := (1 : Int32)) (by decide) dX12_body_83 ?_
            refine q_goto 88 (by decide) dX12_body_84 ?_
            obtain rfl := Option.some.inj h
            refine q_sub [2, 3, 4, 5, 1, 0] rfl ?_
            exact K4
set_option maxRecDepth 20000 in
theorem sX12_members_33 {g : QG} {Q : Option Value → QS → Prop} {q : Nat}  {x : Int32 × Int32 × QS} {z : ((Bool × QS) ⊕ (Int32 × QS)) ⊕ (Int32 × Int32 × QS)} (w : q_Wire x.2.2) (hq : q_qok q) (h : tX12_members_33 q x = some z) (hQ : (Sum.elim (fun r1 : (Bool × QS) ⊕ (Int32 × QS) => (Sum.elim (fun r0 : Bool × QS => Q (some (.int (q_b r0.1))) r0.2) (fun y : Int32 × QS => q_L g mX12_members 8 0 0 Q 0 0 15 [(0, .ref 102), (1, .ref q), (3, .int y.1)] [] y.2) r1)) (fun y' : Int32 × Int32 × QS => q_L g mX12_members 8 0 0 Q 0 0 33 [(0, .ref 102), (1, .ref q), (2, .int y'.1), (3, .int y'.2.1)] [] y'.2.2) z)) : q_L g mX12_members 8 0 0 Q 0 0 33 [(0, .ref 102), (1, .ref q), (2, .int x.1), (3, .int x.2.1)] [] x.2.2 := by
  unfold tX12_members_33 at h
  refine q_aload_n 0 rfl rfl dX12_members_33 ?_
  refine q_iload_n 2 rfl rfl dX12_members_34 ?_
  refine q_ldcS (j := 32) (r := 1000064) rfl rfl dX12_members_35 ?_
  obtain ⟨r1, e2, h⟩ := q_bind h
  refine q_callV (ci := 12) (d := 7) (Mc := mX12_is) (kc := 0) (nc := 0) [.int x.1, .ref 1000064] okX12_is (q_sh102 w) (by decide) rfl lmX12_163 inX12_is seX12_is rfl (Nat.le_of_ble_eq_true rfl) (Nat.le_of_ble_eq_true rfl) (Nat.le_refl _) (Nat.le_refl _) dX12_members_37 (q_L.deep (by decide) (kX12_is (Q := fun r S' => r = some (.int (q_b r1)) ∧ S' = x.2.2) w e2 ⟨rfl, rfl⟩)) (q_kI ?_)
  refine q_if_ne 87 (by decide) dX12_members_40 (fun c => ?_) (fun c => ?_)
  · have c := q_b_n.mp c; rw [q_if1 c] at h
    refine q_iinc (v := (x.2.1 + (1 : Int32))) 3 [(3, .int (x.2.1 + (1 : Int32))), (0, .ref 102), (1, .ref q), (2, .int x.1)] (by decide) rfl (congrArg (fun t => x.2.1 + t) (by decide)) rfl dX12_members_87 ?_
    refine q_goto 15 (by decide) dX12_members_90 ?_
    refine q_sub [1, 2, 0] rfl ?_
    cases h
    exact hQ
  · have c := q_b_0.mp c; rw [q_if0 c] at h
    refine q_aload_n 0 rfl rfl dX12_members_43 ?_
    refine q_iload_n 2 rfl rfl dX12_members_44 ?_
    refine q_ldcS (j := 33) (r := 1000066) rfl rfl dX12_members_45 ?_
    obtain ⟨r3, e4, h⟩ := q_bind h
    refine q_callV (ci := 12) (d := 7) (Mc := mX12_is) (kc := 0) (nc := 0) [.int x.1, .ref 1000066] okX12_is (q_sh102 w) (by decide) rfl lmX12_163 inX12_is seX12_is rfl (Nat.le_of_ble_eq_true rfl) (Nat.le_of_ble_eq_true rfl) (Nat.le_refl _) (Nat.le_refl _) dX12_members_47 (q_L.deep (by decide) (kX12_is (Q := fun r S' => r = some (.int (q_b r3)) ∧ S' = x.2.2) w e4 ⟨rfl, rfl⟩)) (q_kI ?_)
    refine q_if_eq 66 (by decide) dX12_members_50 (fun c => ?_) (fun c => ?_)
    · have c := q_b_0.mp c; rw [q_if0 c] at h
      refine q_aload_n 0 rfl rfl dX12_members_66 ?_
      refine q_aload_n 1 rfl rfl dX12_members_67 ?_
      refine q_iload_n 3 rfl rfl dX12_members_68 ?_
      refine q_iload_n 2 rfl rfl dX12_members_69 ?_
      obtain ⟨r5, e6, h⟩ := q_bind h
      refine q_callV (ci := 12) (d := 7) (Mc := mX12_body) (kc := 0) (nc := 0) [.ref q, .int x.2.1, .int x.1] okX12_body (q_sh102 w) (by decide) rfl lmX12_275 inX12_body seX12_body rfl (Nat.le_of_ble_eq_true rfl) (Nat.le_of_ble_eq_true rfl) (Nat.le_refl _) (Nat.le_refl _) dX12_members_70 (q_L.deep (by decide) (kX12_body (Q := fun r S' => r = some (.int (q_b r5.1)) ∧ S' = r5.2) w hq e6 ⟨rfl, rfl⟩)) (q_kI ?_)
      have fx7 : q_Fx x.2.2 r5.2 := q_Fx.tr (q_Fx.rf x.2.2) (fxX12_body e6)
      refine q_if_ne 78 (by decide) dX12_members_73 (fun c => ?_) (fun c => ?_)
      · have c := q_b_n.mp c; rw [q_if1 c] at h
        refine q_aload_n 0 rfl rfl dX12_members_78 ?_
        refine q_iload_n 2 rfl rfl dX12_members_79 ?_
        obtain ⟨r8, e9, h⟩ := q_bind h
        refine q_callV (ci := 12) (d := 7) (Mc := mX12_behindMember) (kc := 0) (nc := 0) [.int x.1] okX12_behindMember (q_sh102 (w.fx fx7)) (by decide) rfl lmX12_278 inX12_behindMember seX12_behindMember rfl (Nat.le_of_ble_eq_true rfl) (Nat.le_of_ble_eq_true rfl) (Nat.le_refl _) (Nat.le_refl _) dX12_members_80 (q_L.deep (by decide) (kX12_behindMember (Q := fun r S' => r = some (.int r8) ∧ S' = r5.2) (w.fx fx7) e9 ⟨rfl, rfl⟩)) (q_kI ?_)
        refine q_istore_n [(2, .int r8), (0, .ref 102), (1, .ref q), (3, .int x.2.1)] rfl (by decide) rfl dX12_members_83 ?_
        refine q_goto 33 (by decide) dX12_members_84 ?_
        refine q_sub [1, 2, 0, 3] rfl ?_
        cases h
        exact hQ
      · have c := q_b_0.mp c; rw [q_if0 c] at h
        refine q_iconst (v := (0 : Int32)) (by decide) dX12_members_76 ?_
        cases h
        exact q_iret rfl (by decide) dX12_members_77 hQ
    · have c := q_b_n.mp c; rw [q_if1 c] at h
      refine q_aload_n 0 rfl rfl dX12_members_53 ?_
      refine q_aload_n 1 rfl rfl dX12_members_54 ?_
      refine q_iload_n 3 rfl rfl dX12_members_55 ?_
      refine q_iload_n 2 rfl rfl dX12_members_56 ?_
      obtain ⟨r10, e11, h⟩ := q_bind h
      refine q_callV (ci := 12) (d := 7) (Mc := mX12_field) (kc := 0) (nc := 0) [.ref q, .int x.2.1, .int x.1] okX12_field (q_sh102 w) (by decide) rfl lmX12_273 inX12_field seX12_field rfl (Nat.le_of_ble_eq_true rfl) (Nat.le_of_ble_eq_true rfl) (Nat.le_refl _) (Nat.le_refl _) dX12_members_57 (q_L.deep (by decide) (kX12_field (Q := fun r S' => r = some (.int (q_b r10.1)) ∧ S' = r10.2) w hq e11 ⟨rfl, rfl⟩)) (q_kI ?_)
      have fx12 : q_Fx x.2.2 r10.2 := q_Fx.tr (q_Fx.rf x.2.2) (fxX12_field e11)
      refine q_if_ne 78 (by decide) dX12_members_60 (fun c => ?_) (fun c => ?_)
      · have c := q_b_n.mp c; rw [q_if1 c] at h
        refine q_aload_n 0 rfl rfl dX12_members_78 ?_
        refine q_iload_n 2 rfl rfl dX12_members_79 ?_
        obtain ⟨r13, e14, h⟩ := q_bind h
        refine q_callV (ci := 12) (d := 7) (Mc := mX12_behindMember) (kc := 0) (nc := 0) [.int x.1] okX12_behindMember (q_sh102 (w.fx fx12)) (by decide) rfl lmX12_278 inX12_behindMember seX12_behindMember rfl (Nat.le_of_ble_eq_true rfl) (Nat.le_of_ble_eq_true rfl) (Nat.le_refl _) (Nat.le_refl _) dX12_members_80 (q_L.deep (by decide) (kX12_behindMember (Q := fun r S' => r = some (.int r13) ∧ S' = r10.2) (w.fx fx12) e14 ⟨rfl, rfl⟩)) (q_kI ?_)
        refine q_istore_n [(2, .int r13), (0, .ref 102), (1, .ref q), (3, .int x.2.1)] rfl (by decide) rfl dX12_members_83 ?_
        refine q_goto 33 (by decide) dX12_members_84 ?_
        refine q_sub [1, 2, 0, 3] rfl ?_
        cases h
        exact hQ
      · have c := q_b_0.mp c; rw [q_if0 c] at h
        refine q_goto 76 (by decide) dX12_members_63 ?_
        refine q_iconst (v := (0 : Int32)) (by decide) dX12_members_76 ?_
        cases h
        exact q_iret rfl (by decide) dX12_members_77 hQ
theorem lX12_members_33 {g : QG} {Q : Option Value → QS → Prop} {q : Nat}  {r : (Bool × QS) ⊕ (Int32 × QS)} (hq : q_qok q) (hQ : (Sum.elim (fun r0 : Bool × QS => Q (some (.int (q_b r0.1))) r0.2) (fun y : Int32 × QS => q_L g mX12_members 8 0 0 Q 0 0 15 [(0, .ref 102), (1, .ref q), (3, .int y.1)] [] y.2) r)) : ∀ (c : Nat) (x : Int32 × Int32 × QS), q_Wire x.2.2 → q_it (tX12_members_33 q) c x = some r → q_L g mX12_members 8 0 0 Q 0 0 33 [(0, .ref 102), (1, .ref q), (2, .int x.1), (3, .int x.2.1)] [] x.2.2 := by
  intro c
  induction c with
  | zero => intro x w h; cases h
  | succ c ih =>
    intro x w h
    simp only [q_it] at h
    cases hz : tX12_members_33 q x with
    | none => rw [hz] at h; cases h
    | some z =>
      rw [hz] at h
      refine sX12_members_33 w hq hz ?_
      rcases z with z | y
      · cases h; exact hQ
      · have fz := fxtX12_members_33 hz; exact ih y (w.fx fz) h
theorem usX12_members_33 {S : QS} {g : QG} {Q : Option Value → QS → Prop} {q : Nat} {y2 : Int32} {y3 : Int32} {r : (Bool × QS) ⊕ (Int32 × QS)} (w : q_Wire S) (hq : q_qok q) (h : uX12_members_33 S q y2 y3 = some r) (hQ : (Sum.elim (fun r0 : Bool × QS => Q (some (.int (q_b r0.1))) r0.2) (fun y : Int32 × QS => q_L g mX12_members 8 0 0 Q 0 0 15 [(0, .ref 102), (1, .ref q), (3, .int y.1)] [] y.2) r)) : q_L g mX12_members 8 0 0 Q 0 0 33 [(0, .ref 102), (1, .ref q), (2, .int y2), (3, .int y3)] [] S := by
  obtain ⟨c, hc⟩ := q_run_it h
  exact lX12_members_33 hq hQ c (y2, y3, S) w hc
set_option maxRecDepth 20000 in
theorem sX12_members_15 {g : QG} {Q : Option Value → QS → Prop} {q : Nat}  {x : Int32 × QS} {z : (Bool × QS) ⊕ (Int32 × QS)} (w : q_Wire x.2) (hq : q_qok q) (h : tX12_members_15 q x = some z) (hQ : (Sum.elim (fun r0 : Bool × QS => Q (some (.int (q_b r0.1))) r0.2) (fun y : Int32 × QS => q_L g mX12_members 8 0 0 Q 0 0 15 [(0, .ref 102), (1, .ref q), (3, .int y.1)] [] y.2) z)) : q_L g mX12_members 8 0 0 Q 0 0 15 [(0, .ref 102), (1, .ref q), (3, .int x.1)] [] x.2 := by
  unfold tX12_members_15 at h
  refine q_iload_n 2 rfl rfl dX12_members_15 ?_
  refine q_aload_n 0 rfl rfl dX12_members_16 ?_
  refine q_aload_n 1 rfl rfl dX12_members_17 ?_
  obtain ⟨r15, e16, h⟩ := q_bind h
  refine q_callV (ci := 12) (d := 7) (Mc := mX12_classCount) (kc := 0) (nc := 0) [.ref q] okX12_classCount (q_sh102 w) (by decide) rfl lmX12_236 inX12_classCount seX12_classCount rfl (Nat.le_of_ble_eq_true rfl) (Nat.le_of_ble_eq_true rfl) (Nat.le_refl _) (Nat.le_refl _) dX12_members_18 (q_L.deep (by decide) (kX12_classCount (Q := fun r S' => r = some (.int r15) ∧ S' = x.2) w hq e16 ⟨rfl, rfl⟩)) (q_kI ?_)
  refine q_icmp_ge 93 (by decide) dX12_members_21 (fun c => ?_) (fun c => ?_)
  · rw [if_pos c] at h
    refine q_iconst (v := (1 : Int32)) (by decide) dX12_members_93 ?_
    cases h
    exact q_iret rfl (by decide) dX12_members_94 hQ
  · rw [if_neg c] at h
    refine q_aload_n 0 rfl rfl dX12_members_24 ?_
    refine q_getR (q_sh102 w) (by decide) (by decide) rfl lfX12_37 dX12_members_25 (r := 163) (q_wr102_13 w) ?_
    refine q_iload_n 2 rfl rfl dX12_members_28 ?_
    obtain ⟨hg17, h⟩ := q_guard h
    refine q_iald (q_sh163 w) (q_inb_in hg17) dX12_members_29 ?_
    refine q_iconst (v := (4 : Int32)) (by decide) dX12_members_30 ?_
    refine q_iadd dX12_members_31 ?_
    refine q_istore_n [(2, .int ((x.2.2.1 163 x.1.toNatClampNeg) + (4 : Int32))), (0, .ref 102), (1, .ref q), (3, .int x.1)] rfl (by decide) rfl dX12_members_32 ?_
    refine q_sub [1, 2, 0, 3] rfl ?_
    exact usX12_members_33 w hq h hQ
theorem lX12_members_15 {g : QG} {Q : Option Value → QS → Prop} {q : Nat}  {r : Bool × QS} (hq : q_qok q) (hQ : Q (some (.int (q_b r.1))) r.2) : ∀ (c : Nat) (x : Int32 × QS), q_Wire x.2 → q_it (tX12_members_15 q) c x = some r → q_L g mX12_members 8 0 0 Q 0 0 15 [(0, .ref 102), (1, .ref q), (3, .int x.1)] [] x.2 := by
  intro c
  induction c with
  | zero => intro x w h; cases h
  | succ c ih =>
    intro x w h
    simp only [q_it] at h
    cases hz : tX12_members_15 q x with
    | none => rw [hz] at h; cases h
    | some z =>
      rw [hz] at h
      refine sX12_members_15 w hq hz ?_
      rcases z with z | y
      · cases h; exact hQ
      · have fz := fxtX12_members_15 hz; exact ih y (w.fx fz) h
theorem kX12_members_15 {S : QS} {g : QG} {Q : Option Value → QS → Prop} {q : Nat} {y3 : Int32} {r : Bool × QS} (w : q_Wire S) (hq : q_qok q) (h : fX12_members_15 S q y3 = some r) (hQ : Q (some (.int (q_b r.1))) r.2) : q_L g mX12_members 8 0 0 Q 0 0 15 [(0, .ref 102), (1, .ref q), (3, .int y3)] [] S := by
  obtain ⟨c, hc⟩ := q_run_it h
  exact lX12_members_15 hq hQ c (y3, S) w hc
set_option maxRecDepth 20000 in
theorem kX12_members {S : QS} {g : QG} {Q : Option Value → QS → Prop} {q : Nat}  {r : Bool × QS} (w : q_Wire S) (hq : q_qok q) (h : fX12_members S q = some r) (hQ : Q (some (.int (q_b r.1))) r.2) : q_M g mX12_members 8 0 0 [.ref 102, .ref q] S Q := by
  unfold fX12_members at h
  show q_L g mX12_members 8 0 0 Q 0 0 0 [(0, .ref 102), (1, .ref q)] [] S
  refine q_aload_n 1 rfl rfl dX12_members_0 ?_
  refine q_iconst (v := (0 : Int32)) (by decide) dX12_members_1 ?_
  refine q_putI (q_shQ0 w hq) (by decide) (by decide) rfl rfl ⟨rfl, rfl⟩ lfX12_257 dX12_members_2 ?_
  obtain ⟨S18, e19, h⟩ := q_bindS h
  refine q_st e19 ?_
  have fx20 : q_Fx S S18 := e19 ▸ q_Fx.sI (q_Fx.rf S)
  refine q_aload_n 1 rfl rfl dX12_members_5 ?_
  refine q_iconst (v := (0 : Int32)) (by decide) dX12_members_6 ?_
  refine q_putI (q_shQ0 (w.fx fx20) hq) (by decide) (by decide) rfl rfl ⟨rfl, rfl⟩ lfX12_267 dX12_members_7 ?_
  obtain ⟨S21, e22, h⟩ := q_bindS h
  refine q_st e22 ?_
  have fx23 : q_Fx S S21 := e22 ▸ q_Fx.sI (fx20)
  refine q_iconst (v := (0 : Int32)) (by decide) dX12_members_10 ?_
  refine q_istore_n [(2, .int (0 : Int32)), (0, .ref 102), (1, .ref q)] rfl (by decide) rfl dX12_members_11 ?_
  refine q_bipush (v := (8 : Int32)) (by decide) dX12_members_12 ?_
  refine q_istore_n [(3, .int (8 : Int32)), (2, .int (0 : Int32)), (0, .ref 102), (1, .ref q)] rfl (by decide) rfl dX12_members_14 ?_
  refine q_sub [2, 3, 0] rfl ?_
  exact kX12_members_15 (w.fx fx23) hq h hQ
set_option maxRecDepth 20000 in
theorem kX12_lineLength {S : QS} {g : QG} {Q : Option Value → QS → Prop}  {x1 : Int32} {r : Int32} (w : q_Wire S) (h : fX12_lineLength S x1 = some r) (hQ : Q (some (.int r)) S) : q_M g mX12_lineLength 6 0 0 [.ref 102, .int x1] S Q := by
  unfold fX12_lineLength at h
  show q_L g mX12_lineLength 6 0 0 Q 0 0 0 [(0, .ref 102), (1, .int x1)] [] S
  refine q_aload_n 0 rfl rfl dX12_lineLength_0 ?_
  refine q_iload_n 1 rfl rfl dX12_lineLength_1 ?_
  obtain ⟨r1, e2, h⟩ := q_bind h
  refine q_callV (ci := 12) (d := 5) (Mc := mX12_isLabel) (kc := 0) (nc := 0) [.int x1] okX12_isLabel (q_sh102 w) (by decide) rfl lmX12_216 inX12_isLabel seX12_isLabel rfl (Nat.le_of_ble_eq_true rfl) (Nat.le_of_ble_eq_true rfl) (Nat.le_refl _) (Nat.le_refl _) dX12_lineLength_2 (q_L.deep (by decide) (kX12_isLabel (Q := fun r S' => r = some (.int (q_b r1)) ∧ S' = S) w e2 ⟨rfl, rfl⟩)) (q_kI ?_)
  refine q_if_eq 10 (by decide) dX12_lineLength_5 (fun c => ?_) (fun c => ?_)
  · have c := q_b_0.mp c; rw [q_if0 c] at h
    refine q_aload_n 0 rfl rfl dX12_lineLength_10 ?_
    refine q_iload_n 1 rfl rfl dX12_lineLength_11 ?_
    refine q_ldcS (j := 40) (r := 1000080) rfl rfl dX12_lineLength_12 ?_
    obtain ⟨r3, e4, h⟩ := q_bind h
    refine q_callV (ci := 12) (d := 5) (Mc := mX12_is) (kc := 0) (nc := 0) [.int x1, .ref 1000080] okX12_is (q_sh102 w) (by decide) rfl lmX12_163 inX12_is seX12_is rfl (Nat.le_of_ble_eq_true rfl) (Nat.le_of_ble_eq_true rfl) (Nat.le_refl _) (Nat.le_refl _) dX12_lineLength_14 (q_L.deep (by decide) (kX12_is (Q := fun r S' => r = some (.int (q_b r3)) ∧ S' = S) w e4 ⟨rfl, rfl⟩)) (q_kI ?_)
    refine q_if_eq 22 (by decide) dX12_lineLength_17 (fun c => ?_) (fun c => ?_)
    · have c := q_b_0.mp c; rw [q_if0 c] at h
      refine q_ldcS (j := 42) (r := 1000084) rfl rfl dX12_lineLength_22 ?_
      refine q_aload_n 0 rfl rfl dX12_lineLength_24 ?_
      refine q_iload_n 1 rfl rfl dX12_lineLength_25 ?_
      obtain ⟨r5, e6, h⟩ := q_bind h
      refine q_callV (ci := 12) (d := 5) (Mc := mX12_opOf) (kc := 0) (nc := 0) [.int x1] okX12_opOf (q_sh102 w) (by decide) rfl lmX12_221 inX12_opOf seX12_opOf rfl (Nat.le_of_ble_eq_true rfl) (Nat.le_of_ble_eq_true rfl) (Nat.le_refl _) (Nat.le_refl _) dX12_lineLength_26 (q_L.deep (by decide) (kX12_opOf (Q := fun r S' => r = some (.int r5) ∧ S' = S) w e6 ⟨rfl, rfl⟩)) (q_kI ?_)
      obtain ⟨r7, e8, h⟩ := q_bind h
      obtain ⟨js, own, ix, tx, bs, hj, hr, _⟩ := q_isS_of (fJ0_charAt_str e8)
      refine q_callT (d := 5) (Mc := mJ0_charAt_5068e) (kc := 0) (nc := 0) [.int r5] okJ0_charAt_5068e hj hr rfl lmX12_127 inJ0_charAt_5068e seJ0_charAt_5068e rfl (Nat.le_of_ble_eq_true rfl) (Nat.le_of_ble_eq_true rfl) (Nat.le_refl _) (Nat.le_refl _) dX12_lineLength_29 (q_L.deep (by decide) (kJ0_charAt_5068e (Q := fun r S' => r = some (.int r7) ∧ S' = S)  e8 ⟨rfl, rfl⟩)) (q_kI ?_)
      refine q_istore_n [(2, .int r7), (0, .ref 102), (1, .int x1)] rfl (by decide) rfl dX12_lineLength_32 ?_
      refine q_iload_n 0 rfl rfl dX12_lineLength_33 ?_
      refine q_bipush (v := (45 : Int32)) (by decide) dX12_lineLength_34 ?_
      refine q_icmp_ne 43 (by decide) dX12_lineLength_36 (fun c => ?_) (fun c => ?_)
      · rw [if_neg c] at h
        refine q_iload_n 0 rfl rfl dX12_lineLength_43 ?_
        refine q_bipush (v := (73 : Int32)) (by decide) dX12_lineLength_44 ?_
        refine q_icmp_ne 53 (by decide) dX12_lineLength_46 (fun c => ?_) (fun c => ?_)
        · rw [if_neg c] at h
          refine q_iconst (v := (2 : Int32)) (by decide) dX12_lineLength_53 ?_
          obtain rfl := Option.some.inj h
          exact q_iret rfl rfl dX12_lineLength_54 hQ
        · rw [if_pos c] at h
          refine q_iconst (v := (3 : Int32)) (by decide) dX12_lineLength_49 ?_
          refine q_goto 54 (by decide) dX12_lineLength_50 ?_
          obtain rfl := Option.some.inj h
          exact q_iret rfl rfl dX12_lineLength_54 hQ
      · rw [if_pos c] at h
        refine q_iconst (v := (1 : Int32)) (by decide) dX12_lineLength_39 ?_
        refine q_goto 54 (by decide) dX12_lineLength_40 ?_
        obtain rfl := Option.some.inj h
        exact q_iret rfl rfl dX12_lineLength_54 hQ
    · have c := q_b_n.mp c; rw [q_if1 c] at h
      refine q_iconst (v := (5 : Int32)) (by decide) dX12_lineLength_20 ?_
      obtain rfl := Option.some.inj h
      exact q_iret rfl rfl dX12_lineLength_21 hQ
  · have c := q_b_n.mp c; rw [q_if1 c] at h
    refine q_iconst (v := (2 : Int32)) (by decide) dX12_lineLength_8 ?_
    obtain rfl := Option.some.inj h
    exact q_iret rfl rfl dX12_lineLength_9 hQ
set_option maxRecDepth 20000 in
theorem sX12_label_2 {S : QS} {g : QG} {Q : Option Value → QS → Prop}  {y1 : Int32} {x : Int32} {z : (Int32) ⊕ (Int32)} (w : q_Wire S) (h : tX12_label_2 S y1 x = some z) (hQ : (Sum.elim (fun r0 : Int32 => Q (some (.int r0)) S) (fun y : Int32 => q_L g mX12_label 2 0 0 Q 0 0 2 [(0, .ref 102), (1, .int y1), (2, .int y)] [] S) z)) : q_L g mX12_label 2 0 0 Q 0 0 2 [(0, .ref 102), (1, .int y1), (2, .int x)] [] S := by
  unfold tX12_label_2 at h
  refine q_iload_n 2 rfl rfl dX12_label_2 ?_
  refine q_aload_n 0 rfl rfl dX12_label_3 ?_
  refine q_getI (q_sh102 w) (by decide) (by decide) rfl lfX12_334 dX12_label_4 ?_
  refine q_icmp_ge 32 (by decide) dX12_label_7 (fun c => ?_) (fun c => ?_)
  · rw [if_pos c] at h
    refine q_iconst (v := (-1 : Int32)) (by decide) dX12_label_32 ?_
    cases h
    exact q_iret rfl rfl dX12_label_33 hQ
  · rw [if_neg c] at h
    refine q_aload_n 0 rfl rfl dX12_label_10 ?_
    refine q_iload_n 1 rfl rfl dX12_label_11 ?_
    refine q_aload_n 0 rfl rfl dX12_label_12 ?_
    refine q_getR (q_sh102 w) (by decide) (by decide) rfl lfX12_49 dX12_label_13 (r := 167) (q_wr102_17 w) ?_
    refine q_iload_n 2 rfl rfl dX12_label_16 ?_
    obtain ⟨hg1, h⟩ := q_guard h
    refine q_iald (q_sh167 w) (q_inb_in hg1) dX12_label_17 ?_
    obtain ⟨r2, e3, h⟩ := q_bind h
    refine q_callV (ci := 12) (d := 1) (Mc := mX12_isSameToken) (kc := 0) (nc := 0) [.int y1, .int (S.2.1 167 x.toNatClampNeg)] okX12_isSameToken (q_sh102 w) (by decide) rfl lmX12_291 inX12_isSameToken seX12_isSameToken rfl (Nat.le_of_ble_eq_true rfl) (Nat.le_of_ble_eq_true rfl) (Nat.le_refl _) (Nat.le_refl _) dX12_label_18 (q_L.deep (by decide) (kX12_isSameToken (Q := fun r S' => r = some (.int (q_b r2)) ∧ S' = S) w e3 ⟨rfl, rfl⟩)) (q_kI ?_)
    refine q_if_eq 26 (by decide) dX12_label_21 (fun c => ?_) (fun c => ?_)
    · have c := q_b_0.mp c; rw [q_if0 c] at h
      refine q_iinc (v := (x + (1 : Int32))) 2 [(2, .int (x + (1 : Int32))), (0, .ref 102), (1, .int y1)] (by decide) rfl (congrArg (fun t => x + t) (by decide)) rfl dX12_label_26 ?_
      refine q_goto 2 (by decide) dX12_label_29 ?_
      refine q_sub [1, 2, 0] rfl ?_
      cases h
      exact hQ
    · have c := q_b_n.mp c; rw [q_if1 c] at h
      refine q_iload_n 2 rfl rfl dX12_label_24 ?_
      cases h
      exact q_iret rfl rfl dX12_label_25 hQ
theorem lX12_label_2 {S : QS} {g : QG} {Q : Option Value → QS → Prop}  {y1 : Int32} {r : Int32} (w : q_Wire S) (hQ : Q (some (.int r)) S) : ∀ (c : Nat) (x : Int32), q_it (tX12_label_2 S y1) c x = some r → q_L g mX12_label 2 0 0 Q 0 0 2 [(0, .ref 102), (1, .int y1), (2, .int x)] [] S := by
  intro c
  induction c with
  | zero => intro x  h; cases h
  | succ c ih =>
    intro x  h
    simp only [q_it] at h
    cases hz : tX12_label_2 S y1 x with
    | none => rw [hz] at h; cases h
    | some z =>
      rw [hz] at h
      refine sX12_label_2 w hz ?_
      rcases z with z | y
      · cases h; exact hQ
      · exact ih y  h
theorem kX12_label_2 {S : QS} {g : QG} {Q : Option Value → QS → Prop}  {y1 : Int32} {y2 : Int32} {r : Int32} (w : q_Wire S) (h : fX12_label_2 S y1 y2 = some r) (hQ : Q (some (.int r)) S) : q_L g mX12_label 2 0 0 Q 0 0 2 [(0, .ref 102), (1, .int y1), (2, .int y2)] [] S := by
  obtain ⟨c, hc⟩ := q_run_it h
  exact lX12_label_2 w hQ c y2  hc
set_option maxRecDepth 20000 in
theorem kX12_label {S : QS} {g : QG} {Q : Option Value → QS → Prop}  {x1 : Int32} {r : Int32} (w : q_Wire S) (h : fX12_label S x1 = some r) (hQ : Q (some (.int r)) S) : q_M g mX12_label 2 0 0 [.ref 102, .int x1] S Q := by
  unfold fX12_label at h
  show q_L g mX12_label 2 0 0 Q 0 0 0 [(0, .ref 102), (1, .int x1)] [] S
  refine q_iconst (v := (0 : Int32)) (by decide) dX12_label_0 ?_
  refine q_istore_n [(2, .int (0 : Int32)), (0, .ref 102), (1, .int x1)] rfl (by decide) rfl dX12_label_1 ?_
  refine q_sub [1, 2, 0] rfl ?_
  exact kX12_label_2 w h hQ
set_option maxRecDepth 20000 in
theorem kX12_labelAt {S : QS} {g : QG} {Q : Option Value → QS → Prop}  {x1 : Int32} {r : Int32} (w : q_Wire S) (h : fX12_labelAt S x1 = some r) (hQ : Q (some (.int r)) S) : q_M g mX12_labelAt 3 0 0 [.ref 102, .int x1] S Q := by
  unfold fX12_labelAt at h
  show q_L g mX12_labelAt 3 0 0 Q 0 0 0 [(0, .ref 102), (1, .int x1)] [] S
  refine q_aload_n 0 rfl rfl dX12_labelAt_0 ?_
  refine q_iload_n 1 rfl rfl dX12_labelAt_1 ?_
  obtain ⟨r1, e2, h⟩ := q_bind h
  refine q_callV (ci := 12) (d := 2) (Mc := mX12_label) (kc := 0) (nc := 0) [.int x1] okX12_label (q_sh102 w) (by decide) rfl lmX12_343 inX12_label seX12_label rfl (Nat.le_of_ble_eq_true rfl) (Nat.le_of_ble_eq_true rfl) (Nat.le_refl _) (Nat.le_refl _) dX12_labelAt_2 (q_L.deep (by decide) (kX12_label (Q := fun r S' => r = some (.int r1) ∧ S' = S) w e2 ⟨rfl, rfl⟩)) (q_kI ?_)
  refine q_istore_n [(2, .int r1), (0, .ref 102), (1, .int x1)] rfl (by decide) rfl dX12_labelAt_5 ?_
  refine q_iload_n 0 rfl rfl dX12_labelAt_6 ?_
  refine q_if_ge 14 (by decide) dX12_labelAt_7 (fun c => ?_) (fun c => ?_)
  · rw [if_pos c] at h
    refine q_aload_n 1 rfl rfl dX12_labelAt_14 ?_
    refine q_getR (q_sh102 w) (by decide) (by decide) rfl lfX12_52 dX12_labelAt_15 (r := 168) (q_wr102_18 w) ?_
    refine q_iload_n 0 rfl rfl dX12_labelAt_18 ?_
    obtain ⟨hg3, h⟩ := q_guard h
    refine q_iald (q_sh168 w) (q_inb_in hg3) dX12_labelAt_19 ?_
    obtain rfl := Option.some.inj h
    exact q_iret rfl rfl dX12_labelAt_20 hQ
  · rw [if_neg c] at h
    refine q_iconst (v := (-1 : Int32)) (by decide) dX12_labelAt_10 ?_
    refine q_goto 20 (by decide) dX12_labelAt_11 ?_
    obtain rfl := Option.some.inj h
    exact q_iret rfl rfl dX12_labelAt_20 hQ
