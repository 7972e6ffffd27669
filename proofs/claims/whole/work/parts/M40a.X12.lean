set_option maxRecDepth 20000 in
theorem sX12_word_2 {g : QG} {Q : Option Value → QS → Prop}  {y1 : Int32} {x : Int32 × QS} {z : (QS) ⊕ (Int32 × QS)} (w : q_Wire x.2) (h : tX12_word_2 y1 x = some z) (hQ : (Sum.elim (fun r0 : QS => Q none r0) (fun y : Int32 × QS => q_L g mX12_word 0 0 0 Q 0 0 2 [(0, .ref 102), (1, .int y1), (2, .int y.1)] [] y.2) z)) : q_L g mX12_word 0 0 0 Q 0 0 2 [(0, .ref 102), (1, .int y1), (2, .int x.1)] [] x.2 := by
  unfold tX12_word_2 at h
  refine q_iload_n 2 rfl rfl dX12_word_2 ?_
  refine q_if_lt 38 (by decide) dX12_word_3 (fun c => ?_) (fun c => ?_)
  · rw [if_pos c] at h
    cases h
    exact q_vret rfl dX12_word_38 hQ
  · rw [if_neg c] at h
    refine q_aload_n 0 rfl rfl dX12_word_6 ?_
    refine q_getR (q_sh102 w) (by decide) (by decide) rfl lfX12_19 dX12_word_7 (r := 159) (q_wr102_3 w) ?_
    refine q_aload_n 0 rfl rfl dX12_word_10 ?_
    refine q_getI (q_sh102 w) (by decide) (by decide) rfl lfX12_104 dX12_word_11 ?_
    refine q_iload_n 1 rfl rfl dX12_word_14 ?_
    refine q_bipush (v := (8 : Int32)) (by decide) dX12_word_15 ?_
    refine q_iload_n 2 rfl rfl dX12_word_17 ?_
    refine q_imul dX12_word_18 ?_
    refine q_ishr dX12_word_19 ?_
    refine q_i2b dX12_word_20 ?_
    obtain ⟨hg1, h⟩ := q_guard h
    refine q_bast (q_sh159 w) (q_inb_in hg1) dX12_word_21 ?_
    obtain ⟨S2, e3, h⟩ := q_bindS h
    refine q_st e3 ?_
    have fx4 : q_Fx x.2 S2 := e3 ▸ q_Fx.sI (q_Fx.rf x.2)
    refine q_aload_n 0 rfl rfl dX12_word_22 ?_
    refine q_dup rfl dX12_word_23 ?_
    refine q_getI (q_sh102 (w.fx fx4)) (by decide) (by decide) rfl lfX12_104 dX12_word_24 ?_
    refine q_iconst (v := (1 : Int32)) (by decide) dX12_word_27 ?_
    refine q_iadd dX12_word_28 ?_
    refine q_putI (q_sh102 (w.fx fx4)) (by decide) (by decide) rfl rfl ⟨rfl, rfl⟩ lfX12_104 dX12_word_29 ?_
    obtain ⟨S5, e6, h⟩ := q_bindS h
    refine q_st e6 ?_
    have fx7 : q_Fx x.2 S5 := e6 ▸ q_Fx.sI (fx4)
    refine q_iinc (v := (x.1 - (1 : Int32))) 2 [(2, .int (x.1 - (1 : Int32))), (0, .ref 102), (1, .int y1)] (by decide) rfl (q_decI x.1) rfl dX12_word_32 ?_
    refine q_goto 2 (by decide) dX12_word_35 ?_
    refine q_sub [1, 2, 0] rfl ?_
    cases h
    exact hQ
theorem lX12_word_2 {g : QG} {Q : Option Value → QS → Prop}  {y1 : Int32} {r : QS}  (hQ : Q none r) : ∀ (c : Nat) (x : Int32 × QS), q_Wire x.2 → q_it (tX12_word_2 y1) c x = some r → q_L g mX12_word 0 0 0 Q 0 0 2 [(0, .ref 102), (1, .int y1), (2, .int x.1)] [] x.2 := by
  intro c
  induction c with
  | zero => intro x w h; cases h
  | succ c ih =>
    intro x w h
    simp only [q_it] at h
    cases hz : tX12_word_2 y1 x with
    | none => rw [hz] at h; cases h
    | some z =>
      rw [hz] at h
      refine sX12_word_2 w hz ?_
      rcases z with z | y
      · cases h; exact hQ
      · have fz := fxtX12_word_2 hz; exact ih y (w.fx fz) h
theorem kX12_word_2 {S : QS} {g : QG} {Q : Option Value → QS → Prop}  {y1 : Int32} {y2 : Int32} {r : QS} (w : q_Wire S) (h : fX12_word_2 S y1 y2 = some r) (hQ : Q none r) : q_L g mX12_word 0 0 0 Q 0 0 2 [(0, .ref 102), (1, .int y1), (2, .int y2)] [] S := by
  obtain ⟨c, hc⟩ := q_run_it h
  exact lX12_word_2  hQ c (y2, S) w hc
set_option maxRecDepth 20000 in
theorem kX12_word {S : QS} {g : QG} {Q : Option Value → QS → Prop}  {x1 : Int32} {r : QS} (w : q_Wire S) (h : fX12_word S x1 = some r) (hQ : Q none r) : q_M g mX12_word 0 0 0 [.ref 102, .int x1] S Q := by
  unfold fX12_word at h
  show q_L g mX12_word 0 0 0 Q 0 0 0 [(0, .ref 102), (1, .int x1)] [] S
  refine q_iconst (v := (3 : Int32)) (by decide) dX12_word_0 ?_
  refine q_istore_n [(2, .int (3 : Int32)), (0, .ref 102), (1, .int x1)] rfl (by decide) rfl dX12_word_1 ?_
  refine q_sub [1, 2, 0] rfl ?_
  exact kX12_word_2 w h hQ
set_option maxRecDepth 20000 in
theorem kX12_feed {S : QS} {g : QG} {Q : Option Value → QS → Prop}  {x1 : Int32} {x2 : Int32} {x3 : Int32} {x4 : Int32} {x5 : Int32} {r : Int32 × QS} (w : q_Wire S) (h : fX12_feed S x1 x2 x3 x4 x5 = some r) (hQ : Q (some (.int r.1)) r.2) : q_M g mX12_feed 1 0 0 [.ref 102, .int x1, .int x2, .int x3, .int x4, .int x5] S Q := by
  unfold fX12_feed at h
  show q_L g mX12_feed 1 0 0 Q 0 0 0 [(0, .ref 102), (1, .int x1), (2, .int x2), (3, .int x3), (4, .int x4), (5, .int x5)] [] S
  refine q_aload_n 0 rfl rfl dX12_feed_0 ?_
  refine q_getI (q_sh102 w) (by decide) (by decide) rfl lfX12_104 dX12_feed_1 ?_
  refine q_bipush (v := (20 : Int32)) (by decide) dX12_feed_4 ?_
  refine q_iadd dX12_feed_6 ?_
  refine q_sipush (v := (16000 : Int32)) (by decide) dX12_feed_7 ?_
  refine q_icmp_gt 25 (by decide) dX12_feed_10 (fun c => ?_) (fun c => ?_)
  · rw [if_pos c] at h
    refine q_iconst (v := (-1 : Int32)) (by decide) dX12_feed_25 ?_
    obtain rfl := Option.some.inj h
    exact q_iret rfl rfl dX12_feed_26 hQ
  · rw [if_neg c] at h
    refine q_aload_n 0 rfl rfl dX12_feed_13 ?_
    refine q_getI (q_sh102 w) (by decide) (by decide) rfl lfX12_107 dX12_feed_14 ?_
    refine q_bipush (v := (20 : Int32)) (by decide) dX12_feed_17 ?_
    refine q_iadd dX12_feed_19 ?_
    refine q_ldc lkX12_110 dX12_feed_20 ?_
    refine q_icmp_le 27 (by decide) dX12_feed_22 (fun c => ?_) (fun c => ?_)
    · rw [if_pos c] at h
      refine q_aload_n 0 rfl rfl dX12_feed_27 ?_
      refine q_iload_n 1 rfl rfl dX12_feed_28 ?_
      obtain ⟨r1, e2, h⟩ := q_bind h
      refine q_callV (ci := 12) (d := 0) (Mc := mX12_word) (kc := 0) (nc := 0) [.int x1] okX12_word (q_sh102 w) (by decide) rfl lmX12_111 inX12_word seX12_word rfl (Nat.le_of_ble_eq_true rfl) (Nat.le_of_ble_eq_true rfl) (Nat.le_refl _) (Nat.le_refl _) dX12_feed_29 (q_L.deep (by decide) (kX12_word (Q := fun r S' => r = none ∧ S' = r1) w e2 ⟨rfl, rfl⟩)) (q_kV ?_)
      have fx3 : q_Fx S r1 := q_Fx.tr (q_Fx.rf S) (fxX12_word e2)
      refine q_aload_n 0 rfl rfl dX12_feed_32 ?_
      refine q_iload_n 2 rfl rfl dX12_feed_33 ?_
      obtain ⟨r4, e5, h⟩ := q_bind h
      refine q_callV (ci := 12) (d := 0) (Mc := mX12_word) (kc := 0) (nc := 0) [.int x2] okX12_word (q_sh102 (w.fx fx3)) (by decide) rfl lmX12_111 inX12_word seX12_word rfl (Nat.le_of_ble_eq_true rfl) (Nat.le_of_ble_eq_true rfl) (Nat.le_refl _) (Nat.le_refl _) dX12_feed_34 (q_L.deep (by decide) (kX12_word (Q := fun r S' => r = none ∧ S' = r4) (w.fx fx3) e5 ⟨rfl, rfl⟩)) (q_kV ?_)
      have fx6 : q_Fx S r4 := q_Fx.tr (fx3) (fxX12_word e5)
      refine q_aload_n 0 rfl rfl dX12_feed_37 ?_
      refine q_iload_n 3 rfl rfl dX12_feed_38 ?_
      obtain ⟨r7, e8, h⟩ := q_bind h
      refine q_callV (ci := 12) (d := 0) (Mc := mX12_word) (kc := 0) (nc := 0) [.int x3] okX12_word (q_sh102 (w.fx fx6)) (by decide) rfl lmX12_111 inX12_word seX12_word rfl (Nat.le_of_ble_eq_true rfl) (Nat.le_of_ble_eq_true rfl) (Nat.le_refl _) (Nat.le_refl _) dX12_feed_39 (q_L.deep (by decide) (kX12_word (Q := fun r S' => r = none ∧ S' = r7) (w.fx fx6) e8 ⟨rfl, rfl⟩)) (q_kV ?_)
      have fx9 : q_Fx S r7 := q_Fx.tr (fx6) (fxX12_word e8)
      refine q_aload_n 0 rfl rfl dX12_feed_42 ?_
      refine q_iload 4 rfl dX12_feed_43 ?_
      obtain ⟨r10, e11, h⟩ := q_bind h
      refine q_callV (ci := 12) (d := 0) (Mc := mX12_word) (kc := 0) (nc := 0) [.int x4] okX12_word (q_sh102 (w.fx fx9)) (by decide) rfl lmX12_111 inX12_word seX12_word rfl (Nat.le_of_ble_eq_true rfl) (Nat.le_of_ble_eq_true rfl) (Nat.le_refl _) (Nat.le_refl _) dX12_feed_45 (q_L.deep (by decide) (kX12_word (Q := fun r S' => r = none ∧ S' = r10) (w.fx fx9) e11 ⟨rfl, rfl⟩)) (q_kV ?_)
      have fx12 : q_Fx S r10 := q_Fx.tr (fx9) (fxX12_word e11)
      refine q_aload_n 0 rfl rfl dX12_feed_48 ?_
      refine q_iload 5 rfl dX12_feed_49 ?_
      obtain ⟨r13, e14, h⟩ := q_bind h
      refine q_callV (ci := 12) (d := 0) (Mc := mX12_word) (kc := 0) (nc := 0) [.int x5] okX12_word (q_sh102 (w.fx fx12)) (by decide) rfl lmX12_111 inX12_word seX12_word rfl (Nat.le_of_ble_eq_true rfl) (Nat.le_of_ble_eq_true rfl) (Nat.le_refl _) (Nat.le_refl _) dX12_feed_51 (q_L.deep (by decide) (kX12_word (Q := fun r S' => r = none ∧ S' = r13) (w.fx fx12) e14 ⟨rfl, rfl⟩)) (q_kV ?_)
      have fx15 : q_Fx S r13 := q_Fx.tr (fx12) (fxX12_word e14)
      refine q_aload_n 0 rfl rfl dX12_feed_54 ?_
      refine q_dup rfl dX12_feed_55 ?_
      refine q_getI (q_sh102 (w.fx fx15)) (by decide) (by decide) rfl lfX12_107 dX12_feed_56 ?_
      refine q_bipush (v := (20 : Int32)) (by decide) dX12_feed_59 ?_
      refine q_iadd dX12_feed_61 ?_
      refine q_putI (q_sh102 (w.fx fx15)) (by decide) (by decide) rfl rfl ⟨rfl, rfl⟩ lfX12_107 dX12_feed_62 ?_
      obtain ⟨S16, e17, h⟩ := q_bindS h
      refine q_st e17 ?_
      have fx18 : q_Fx S S16 := e17 ▸ q_Fx.sI (fx15)
      refine q_aload_n 0 rfl rfl dX12_feed_65 ?_
      refine q_getI (q_sh102 (w.fx fx18)) (by decide) (by decide) rfl lfX12_104 dX12_feed_66 ?_
      obtain rfl := Option.some.inj h
      exact q_iret rfl rfl dX12_feed_69 hQ
    · rw [if_neg c] at h
      refine q_iconst (v := (-1 : Int32)) (by decide) dX12_feed_25 ?_
      obtain rfl := Option.some.inj h
      exact q_iret rfl rfl dX12_feed_26 hQ
set_option maxRecDepth 20000 in
theorem sX12_end_16 {g : QG} {Q : Option Value → QS → Prop}  {y1 : Int32} {x : Int32 × QS} {z : (Bool × QS) ⊕ (Int32 × QS)} (w : q_Wire x.2) (h : tX12_end_16 y1 x = some z) (hQ : (Sum.elim (fun r0 : Bool × QS => Q (some (.int (q_b r0.1))) r0.2) (fun y : Int32 × QS => q_L g mX12_end 0 0 0 Q 0 0 16 [(0, .ref 102), (1, .int y1), (2, .int y.1)] [] y.2) z)) : q_L g mX12_end 0 0 0 Q 0 0 16 [(0, .ref 102), (1, .int y1), (2, .int x.1)] [] x.2 := by
  unfold tX12_end_16 at h
  refine q_iload_n 2 rfl rfl dX12_end_16 ?_
  refine q_iload_n 1 rfl rfl dX12_end_17 ?_
  refine q_icmp_ge 39 (by decide) dX12_end_18 (fun c => ?_) (fun c => ?_)
  · rw [if_pos c] at h
    refine q_aload_n 0 rfl rfl dX12_end_39 ?_
    refine q_iload_n 1 rfl rfl dX12_end_40 ?_
    refine q_putI (q_sh102 w) (by decide) (by decide) rfl rfl ⟨rfl, rfl⟩ lfX12_115 dX12_end_41 ?_
    obtain ⟨S1, e2, h⟩ := q_bindS h
    refine q_st e2 ?_
    have fx3 : q_Fx x.2 S1 := e2 ▸ q_Fx.sI (q_Fx.rf x.2)
    refine q_aload_n 0 rfl rfl dX12_end_44 ?_
    refine q_iconst (v := (0 : Int32)) (by decide) dX12_end_45 ?_
    refine q_putI (q_sh102 (w.fx fx3)) (by decide) (by decide) rfl rfl ⟨rfl, rfl⟩ lfX12_104 dX12_end_46 ?_
    obtain ⟨S4, e5, h⟩ := q_bindS h
    refine q_st e5 ?_
    have fx6 : q_Fx x.2 S4 := e5 ▸ q_Fx.sI (fx3)
    refine q_iconst (v := (1 : Int32)) (by decide) dX12_end_49 ?_
    cases h
    exact q_iret rfl (by decide) dX12_end_50 hQ
  · rw [if_neg c] at h
    refine q_aload_n 0 rfl rfl dX12_end_21 ?_
    refine q_getR (q_sh102 w) (by decide) (by decide) rfl lfX12_23 dX12_end_22 (r := 160) (q_wr102_6 w) ?_
    refine q_iload_n 2 rfl rfl dX12_end_25 ?_
    refine q_aload_n 0 rfl rfl dX12_end_26 ?_
    refine q_getR (q_sh102 w) (by decide) (by decide) rfl lfX12_19 dX12_end_27 (r := 159) (q_wr102_3 w) ?_
    refine q_iload_n 2 rfl rfl dX12_end_30 ?_
    obtain ⟨hg7, h⟩ := q_guard h
    refine q_bald (q_sh159 w) (q_inb_in hg7) dX12_end_31 ?_
    obtain ⟨hg8, h⟩ := q_guard h
    refine q_bast (q_sh160 w) (q_inb_in hg8) dX12_end_32 ?_
    obtain ⟨S9, e10, h⟩ := q_bindS h
    refine q_st e10 ?_
    have fx11 : q_Fx x.2 S9 := e10 ▸ q_Fx.sI (q_Fx.rf x.2)
    refine q_iinc (v := (x.1 + (1 : Int32))) 2 [(2, .int (x.1 + (1 : Int32))), (0, .ref 102), (1, .int y1)] (by decide) rfl (congrArg (fun t => x.1 + t) (by decide)) rfl dX12_end_33 ?_
    refine q_goto 16 (by decide) dX12_end_36 ?_
    refine q_sub [1, 2, 0] rfl ?_
    cases h
    exact hQ
theorem lX12_end_16 {g : QG} {Q : Option Value → QS → Prop}  {y1 : Int32} {r : Bool × QS}  (hQ : Q (some (.int (q_b r.1))) r.2) : ∀ (c : Nat) (x : Int32 × QS), q_Wire x.2 → q_it (tX12_end_16 y1) c x = some r → q_L g mX12_end 0 0 0 Q 0 0 16 [(0, .ref 102), (1, .int y1), (2, .int x.1)] [] x.2 := by
  intro c
  induction c with
  | zero => intro x w h; cases h
  | succ c ih =>
    intro x w h
    simp only [q_it] at h
    cases hz : tX12_end_16 y1 x with
    | none => rw [hz] at h; cases h
    | some z =>
      rw [hz] at h
      refine sX12_end_16 w hz ?_
      rcases z with z | y
      · cases h; exact hQ
      · have fz := fxtX12_end_16 hz; exact ih y (w.fx fz) h
theorem kX12_end_16 {S : QS} {g : QG} {Q : Option Value → QS → Prop}  {y1 : Int32} {y2 : Int32} {r : Bool × QS} (w : q_Wire S) (h : fX12_end_16 S y1 y2 = some r) (hQ : Q (some (.int (q_b r.1))) r.2) : q_L g mX12_end 0 0 0 Q 0 0 16 [(0, .ref 102), (1, .int y1), (2, .int y2)] [] S := by
  obtain ⟨c, hc⟩ := q_run_it h
  exact lX12_end_16  hQ c (y2, S) w hc
set_option maxRecDepth 20000 in
theorem kX12_end {S : QS} {g : QG} {Q : Option Value → QS → Prop}  {x1 : Int32} {r : Bool × QS} (w : q_Wire S) (h : fX12_end S x1 = some r) (hQ : Q (some (.int (q_b r.1))) r.2) : q_M g mX12_end 0 0 0 [.ref 102, .int x1] S Q := by
  unfold fX12_end at h
  show q_L g mX12_end 0 0 0 Q 0 0 0 [(0, .ref 102), (1, .int x1)] [] S
  refine q_iload_n 1 rfl rfl dX12_end_0 ?_
  refine q_if_lt 12 (by decide) dX12_end_1 (fun c => ?_) (fun c => ?_)
  · rw [if_pos c] at h
    refine q_iconst (v := (0 : Int32)) (by decide) dX12_end_12 ?_
    obtain rfl := Option.some.inj h
    exact q_iret rfl (by decide) dX12_end_13 hQ
  · rw [if_neg c] at h
    refine q_iload_n 1 rfl rfl dX12_end_4 ?_
    refine q_aload_n 0 rfl rfl dX12_end_5 ?_
    refine q_getI (q_sh102 w) (by decide) (by decide) rfl lfX12_104 dX12_end_6 ?_
    refine q_icmp_le 14 (by decide) dX12_end_9 (fun c => ?_) (fun c => ?_)
    · rw [if_pos c] at h
      refine q_iconst (v := (0 : Int32)) (by decide) dX12_end_14 ?_
      refine q_istore_n [(2, .int (0 : Int32)), (0, .ref 102), (1, .int x1)] rfl (by decide) rfl dX12_end_15 ?_
      refine q_sub [1, 2, 0] rfl ?_
      exact kX12_end_16 w h hQ
    · rw [if_neg c] at h
      refine q_iconst (v := (0 : Int32)) (by decide) dX12_end_12 ?_
      obtain rfl := Option.some.inj h
      exact q_iret rfl (by decide) dX12_end_13 hQ
set_option maxRecDepth 20000 in
theorem usX12_cut_64 {S : QS} {g : QG} {Q : Option Value → QS → Prop}  {y1 : Int32} {y2 : Int32} {y3 : Int32} {y4 : Int32} {z : (Bool × QS) ⊕ (Int32 × Int32 × Int32 × QS)} (w : q_Wire S) (h : uX12_cut_64 S y1 y2 y3 y4 = some z) (hQ : (Sum.elim (fun r0 : Bool × QS => Q (some (.int (q_b r0.1))) r0.2) (fun y : Int32 × Int32 × Int32 × QS => q_L g mX12_cut 0 0 0 Q 0 0 11 [(0, .ref 102), (1, .int y.1), (2, .int y.2.1), (3, .int y.2.2.1)] [] y.2.2.2) z)) : q_L g mX12_cut 0 0 0 Q 0 0 64 [(0, .ref 102), (1, .int y1), (2, .int y2), (3, .int y3), (4, .int y4)] [] S := by
  unfold uX12_cut_64 at h
  refine q_iload 4 rfl dX12_cut_64 ?_
  refine q_bipush (v := (10 : Int32)) (by decide) dX12_cut_66 ?_
  obtain ⟨v1, hv, h⟩ := q_bind h
  have K1 : q_L g mX12_cut 0 0 0 Q 0 0 85 [(0, .ref 102), (1, .int y1), (2, .int v1), (3, .int y3), (4, .int y4)] [] S := by
    refine q_iload_n 2 rfl rfl dX12_cut_85 ?_
    obtain ⟨v2, hv, h⟩ := q_bind h
    have K2 : q_L g mX12_cut 0 0 0 Q 0 0 122 [(0, .ref 102), (1, .int y1), (2, .int v1), (3, .int y3), (4, .int y4)] [.int (q_b v2)] S := by
      refine q_istore [(5, .int (q_b v2)), (0, .ref 102), (1, .int y1), (2, .int v1), (3, .int y3), (4, .int y4)] (by decide) rfl dX12_cut_122 ?_
      refine q_iload 0 rfl dX12_cut_124 ?_
      obtain ⟨v3, hv, h⟩ := q_bind h
      have K3 : q_L g mX12_cut 0 0 0 Q 0 0 169 [(0, .ref 102), (1, .int y1), (2, .int v1), (3, .int y3), (5, .int (q_b v2))] [.int (q_b v3)] S := by
        refine q_istore [(6, .int (q_b v3)), (0, .ref 102), (1, .int y1), (2, .int v1), (3, .int y3), (5, .int (q_b v2))] (by decide) rfl dX12_cut_169 ?_
        refine q_iload 5 rfl dX12_cut_171 ?_
        obtain ⟨v4, hv, h⟩ := q_bind h
        have K4 : q_L g mX12_cut 0 0 0 Q 0 0 183 [(0, .ref 102), (1, .int v4), (2, .int v1), (3, .int y3), (5, .int (q_b v2)), (6, .int (q_b v3))] [] S := by
          refine q_iload 4 rfl dX12_cut_183 ?_
          refine q_if_eq 191 (by decide) dX12_cut_185 (fun c => ?_) (fun c => ?_)
          · have c := q_b_0.mp c; rw [q_if0 c] at h
            refine q_iload_n 1 rfl rfl dX12_cut_191 ?_
            obtain ⟨v12, hv, h⟩ := q_bind h
            have fx13 : q_Fx S v12 := by
              replace h := hv
              by_cases c : v4 = 0
              · rw [if_pos c] at h
                obtain ⟨hg5, h⟩ := q_guard h
                obtain ⟨S6, e7, h⟩ := q_bindS h
                have fx8 : q_Fx S S6 := e7 ▸ q_Fx.sI (q_Fx.rf S)
                obtain ⟨S9, e10, h⟩ := q_bindS h
                have fx11 : q_Fx S S9 := e10 ▸ q_Fx.sI (fx8)
                obtain rfl := Option.some.inj h
                exact fx11
              · rw [if_neg c] at h
                obtain rfl := Option.some.inj h
                exact q_Fx.rf _
            have K5 : q_L g mX12_cut 0 0 0 Q 0 0 215 [(0, .ref 102), (2, .int v1), (3, .int y3), (6, .int (q_b v3))] [] v12 := by
              refine q_aload_n 0 rfl rfl dX12_cut_215 ?_
              refine q_getR (q_sh102 (w.fx fx13)) (by decide) (by decide) rfl lfX12_30 dX12_cut_216 (r := 162) (q_wr102_9 (w.fx fx13)) ?_
              refine q_aload_n 0 rfl rfl dX12_cut_219 ?_
              refine q_getI (q_sh102 (w.fx fx13)) (by decide) (by decide) rfl lfX12_118 dX12_cut_220 ?_
              refine q_iconst (v := (1 : Int32)) (by decide) dX12_cut_223 ?_
              refine q_isub dX12_cut_224 ?_
              refine q_iload_n 2 rfl rfl dX12_cut_225 ?_
              refine q_iconst (v := (1 : Int32)) (by decide) dX12_cut_226 ?_
              refine q_iadd dX12_cut_227 ?_
              obtain ⟨hg14, h⟩ := q_guard h
              refine q_iast (q_sh162 (w.fx fx13)) (q_inb_in hg14) dX12_cut_228 ?_
              obtain ⟨S15, e16, h⟩ := q_bindS h
              refine q_st e16 ?_
              have fx17 : q_Fx S S15 := e16 ▸ q_Fx.sI (fx13)
              refine q_iload 3 rfl dX12_cut_229 ?_
              refine q_if_ne 238 (by decide) dX12_cut_231 (fun c => ?_) (fun c => ?_)
              · have c := q_b_n.mp c; rw [q_if1 c] at h
                refine q_iconst (v := (0 : Int32)) (by decide) dX12_cut_238 ?_
                refine q_istore_n [(1, .int (0 : Int32)), (0, .ref 102), (2, .int v1), (3, .int y3), (6, .int (q_b v3))] rfl (by decide) rfl dX12_cut_239 ?_
                refine q_iinc (v := (y3 + (1 : Int32))) 3 [(3, .int (y3 + (1 : Int32))), (1, .int (0 : Int32)), (0, .ref 102), (2, .int v1), (6, .int (q_b v3))] (by decide) rfl (congrArg (fun t => y3 + t) (by decide)) rfl dX12_cut_240 ?_
                refine q_goto 11 (by decide) dX12_cut_243 ?_
                refine q_sub [2, 1, 3, 0] rfl ?_
                cases h
                exact hQ
              · have c := q_b_0.mp c; rw [q_if0 c] at h
                refine q_iconst (v := (1 : Int32)) (by decide) dX12_cut_234 ?_
                refine q_goto 239 (by decide) dX12_cut_235 ?_
                refine q_istore_n [(1, .int (1 : Int32)), (0, .ref 102), (2, .int v1), (3, .int y3), (6, .int (q_b v3))] rfl (by decide) rfl dX12_cut_239 ?_
                refine q_iinc (v := (y3 + (1 : Int32))) 3 [(3, .int (y3 + (1 : Int32))), (1, .int (1 : Int32)), (0, .ref 102), (2, .int v1), (6, .int (q_b v3))] (by decide) rfl (congrArg (fun t => y3 + t) (by decide)) rfl dX12_cut_240 ?_
                refine q_goto 11 (by decide) dX12_cut_243 ?_
                refine q_sub [2, 1, 3, 0] rfl ?_
                cases h
                exact hQ
            replace h := hv
            refine q_if_ne 215 (by decide) dX12_cut_192 (fun c => ?_) (fun c => ?_)
            · rw [if_neg c] at h
              obtain rfl := Option.some.inj h
              refine q_sub [0, 2, 3, 5] rfl ?_
              exact K5
            · rw [if_pos c] at h
              refine q_aload_n 0 rfl rfl dX12_cut_195 ?_
              refine q_getR (q_sh102 w) (by decide) (by decide) rfl lfX12_26 dX12_cut_196 (r := 161) (q_wr102_8 w) ?_
              refine q_aload_n 0 rfl rfl dX12_cut_199 ?_
              refine q_getI (q_sh102 w) (by decide) (by decide) rfl lfX12_118 dX12_cut_200 ?_
              refine q_iload_n 3 rfl rfl dX12_cut_203 ?_
              obtain ⟨hg5, h⟩ := q_guard h
              refine q_iast (q_sh161 w) (q_inb_in hg5) dX12_cut_204 ?_
              obtain ⟨S6, e7, h⟩ := q_bindS h
              refine q_st e7 ?_
              have fx8 : q_Fx S S6 := e7 ▸ q_Fx.sI (q_Fx.rf S)
              refine q_aload_n 0 rfl rfl dX12_cut_205 ?_
              refine q_dup rfl dX12_cut_206 ?_
              refine q_getI (q_sh102 (w.fx fx8)) (by decide) (by decide) rfl lfX12_118 dX12_cut_207 ?_
              refine q_iconst (v := (1 : Int32)) (by decide) dX12_cut_210 ?_
              refine q_iadd dX12_cut_211 ?_
              refine q_putI (q_sh102 (w.fx fx8)) (by decide) (by decide) rfl rfl ⟨rfl, rfl⟩ lfX12_118 dX12_cut_212 ?_
              obtain ⟨S9, e10, h⟩ := q_bindS h
              refine q_st e10 ?_
              have fx11 : q_Fx S S9 := e10 ▸ q_Fx.sI (fx8)
              obtain rfl := Option.some.inj h
              refine q_sub [0, 2, 3, 5] rfl ?_
              exact K5
          · have c := q_b_n.mp c; rw [q_if1 c] at h
            refine q_goto 240 (by decide) dX12_cut_188 ?_
            refine q_iinc (v := (y3 + (1 : Int32))) 3 [(3, .int (y3 + (1 : Int32))), (0, .ref 102), (1, .int v4), (2, .int v1), (5, .int (q_b v2)), (6, .int (q_b v3))] (by decide) rfl (congrArg (fun t => y3 + t) (by decide)) rfl dX12_cut_240 ?_
            refine q_goto 11 (by decide) dX12_cut_243 ?_
            refine q_sub [1, 2, 3, 0] rfl ?_
            cases h
            exact hQ
        replace h := hv
        refine q_if_ne 181 (by decide) dX12_cut_173 (fun c => ?_) (fun c => ?_)
        · have c := q_b_n.mp c; rw [q_if1 c] at h
          refine q_iconst (v := (0 : Int32)) (by decide) dX12_cut_181 ?_
          refine q_istore_n [(1, .int (0 : Int32)), (6, .int (q_b v3)), (0, .ref 102), (2, .int v1), (3, .int y3), (5, .int (q_b v2))] rfl (by decide) rfl dX12_cut_182 ?_
          obtain rfl := Option.some.inj h
          refine q_sub [2, 0, 3, 4, 5, 1] rfl ?_
          exact K4
        · have c := q_b_0.mp c; rw [q_if0 c] at h
          refine q_iload 0 rfl dX12_cut_176 ?_
          refine q_if_eq 183 (by decide) dX12_cut_178 (fun c => ?_) (fun c => ?_)
          · have c := q_b_0.mp c; rw [q_if0 c] at h
            obtain rfl := Option.some.inj h
            refine q_sub [1, 2, 3, 4, 5, 0] rfl ?_
            exact K4
          · have c := q_b_n.mp c; rw [q_if1 c] at h
            refine q_iconst (v := (0 : Int32)) (by decide) dX12_cut_181 ?_
            refine q_istore_n [(1, .int (0 : Int32)), (6, .int (q_b v3)), (0, .ref 102), (2, .int v1), (3, .int y3), (5, .int (q_b v2))] rfl (by decide) rfl dX12_cut_182 ?_
            obtain rfl := Option.some.inj h
            refine q_sub [2, 0, 3, 4, 5, 1] rfl ?_
            exact K4
      replace h := hv
      refine q_if_ne 168 (by decide) dX12_cut_126 (fun c => ?_) (fun c => ?_)
      · have c := q_b_n.mp c; rw [q_if1 c] at h
        refine q_iconst (v := (0 : Int32)) (by decide) dX12_cut_168 ?_
        obtain rfl := Option.some.inj h
        refine q_sub [1, 2, 3, 4, 0] rfl ?_
        exact K3
      · have c := q_b_0.mp c; rw [q_if0 c] at h
        refine q_iload 5 rfl dX12_cut_129 ?_
        refine q_bipush (v := (40 : Int32)) (by decide) dX12_cut_131 ?_
        refine q_icmp_eq 164 (by decide) dX12_cut_133 (fun c => ?_) (fun c => ?_)
        · rw [if_pos c] at h
          refine q_iconst (v := (1 : Int32)) (by decide) dX12_cut_164 ?_
          refine q_goto 169 (by decide) dX12_cut_165 ?_
          obtain rfl := Option.some.inj h
          refine q_sub [1, 2, 3, 4, 0] rfl ?_
          exact K3
        · rw [if_neg c] at h
          refine q_iload 5 rfl dX12_cut_136 ?_
          refine q_bipush (v := (41 : Int32)) (by decide) dX12_cut_138 ?_
          refine q_icmp_eq 164 (by decide) dX12_cut_140 (fun c => ?_) (fun c => ?_)
          · rw [if_pos c] at h
            refine q_iconst (v := (1 : Int32)) (by decide) dX12_cut_164 ?_
            refine q_goto 169 (by decide) dX12_cut_165 ?_
            obtain rfl := Option.some.inj h
            refine q_sub [1, 2, 3, 4, 0] rfl ?_
            exact K3
          · rw [if_neg c] at h
            refine q_iload 5 rfl dX12_cut_143 ?_
            refine q_bipush (v := (123 : Int32)) (by decide) dX12_cut_145 ?_
            refine q_icmp_eq 164 (by decide) dX12_cut_147 (fun c => ?_) (fun c => ?_)
            · rw [if_pos c] at h
              refine q_iconst (v := (1 : Int32)) (by decide) dX12_cut_164 ?_
              refine q_goto 169 (by decide) dX12_cut_165 ?_
              obtain rfl := Option.some.inj h
              refine q_sub [1, 2, 3, 4, 0] rfl ?_
              exact K3
            · rw [if_neg c] at h
              refine q_iload 5 rfl dX12_cut_150 ?_
              refine q_bipush (v := (125 : Int32)) (by decide) dX12_cut_152 ?_
              refine q_icmp_eq 164 (by decide) dX12_cut_154 (fun c => ?_) (fun c => ?_)
              · rw [if_pos c] at h
                refine q_iconst (v := (1 : Int32)) (by decide) dX12_cut_164 ?_
                refine q_goto 169 (by decide) dX12_cut_165 ?_
                obtain rfl := Option.some.inj h
                refine q_sub [1, 2, 3, 4, 0] rfl ?_
                exact K3
              · rw [if_neg c] at h
                refine q_iload 5 rfl dX12_cut_157 ?_
                refine q_bipush (v := (58 : Int32)) (by decide) dX12_cut_159 ?_
                refine q_icmp_ne 168 (by decide) dX12_cut_161 (fun c => ?_) (fun c => ?_)
                · rw [if_neg c] at h
                  refine q_iconst (v := (0 : Int32)) (by decide) dX12_cut_168 ?_
                  obtain rfl := Option.some.inj h
                  refine q_sub [1, 2, 3, 4, 0] rfl ?_
                  exact K3
                · rw [if_pos c] at h
                  refine q_iconst (v := (1 : Int32)) (by decide) dX12_cut_164 ?_
                  refine q_goto 169 (by decide) dX12_cut_165 ?_
                  obtain rfl := Option.some.inj h
                  refine q_sub [1, 2, 3, 4, 0] rfl ?_
                  exact K3
    replace h := hv
    refine q_if_ne 117 (by decide) dX12_cut_86 (fun c => ?_) (fun c => ?_)
    · rw [if_neg c] at h
      refine q_iconst (v := (1 : Int32)) (by decide) dX12_cut_117 ?_
      refine q_goto 122 (by decide) dX12_cut_118 ?_
      obtain rfl := Option.some.inj h
      refine q_sub [0, 1, 2, 3, 4] rfl ?_
      exact K2
    · rw [if_pos c] at h
      refine q_iload 4 rfl dX12_cut_89 ?_
      refine q_bipush (v := (9 : Int32)) (by decide) dX12_cut_91 ?_
      refine q_icmp_eq 117 (by decide) dX12_cut_93 (fun c => ?_) (fun c => ?_)
      · rw [if_pos c] at h
        refine q_iconst (v := (1 : Int32)) (by decide) dX12_cut_117 ?_
        refine q_goto 122 (by decide) dX12_cut_118 ?_
        obtain rfl := Option.some.inj h
        refine q_sub [0, 1, 2, 3, 4] rfl ?_
        exact K2
      · rw [if_neg c] at h
        refine q_iload 4 rfl dX12_cut_96 ?_
        refine q_bipush (v := (10 : Int32)) (by decide) dX12_cut_98 ?_
        refine q_icmp_eq 117 (by decide) dX12_cut_100 (fun c => ?_) (fun c => ?_)
        · rw [if_pos c] at h
          refine q_iconst (v := (1 : Int32)) (by decide) dX12_cut_117 ?_
          refine q_goto 122 (by decide) dX12_cut_118 ?_
          obtain rfl := Option.some.inj h
          refine q_sub [0, 1, 2, 3, 4] rfl ?_
          exact K2
        · rw [if_neg c] at h
          refine q_iload 4 rfl dX12_cut_103 ?_
          refine q_bipush (v := (13 : Int32)) (by decide) dX12_cut_105 ?_
          refine q_icmp_eq 117 (by decide) dX12_cut_107 (fun c => ?_) (fun c => ?_)
          · rw [if_pos c] at h
            refine q_iconst (v := (1 : Int32)) (by decide) dX12_cut_117 ?_
            refine q_goto 122 (by decide) dX12_cut_118 ?_
            obtain rfl := Option.some.inj h
            refine q_sub [0, 1, 2, 3, 4] rfl ?_
            exact K2
          · rw [if_neg c] at h
            refine q_iload 4 rfl dX12_cut_110 ?_
            refine q_bipush (v := (32 : Int32)) (by decide) dX12_cut_112 ?_
            refine q_icmp_ne 121 (by decide) dX12_cut_114 (fun c => ?_) (fun c => ?_)
            · rw [if_neg c] at h
              refine q_iconst (v := (0 : Int32)) (by decide) dX12_cut_121 ?_
              obtain rfl := Option.some.inj h
              refine q_sub [0, 1, 2, 3, 4] rfl ?_
              exact K2
            · rw [if_pos c] at h
              refine q_iconst (v := (1 : Int32)) (by decide) dX12_cut_117 ?_
              refine q_goto 122 (by decide) dX12_cut_118 ?_
              obtain rfl := Option.some.inj h
              refine q_sub [0, 1, 2, 3, 4] rfl ?_
              exact K2
  replace h := hv
  refine q_icmp_ne 76 (by decide) dX12_cut_68 (fun c => ?_) (fun c => ?_)
  · rw [if_neg c] at h
    refine q_iload 4 rfl dX12_cut_76 ?_
    refine q_bipush (v := (59 : Int32)) (by decide) dX12_cut_78 ?_
    refine q_icmp_ne 85 (by decide) dX12_cut_80 (fun c => ?_) (fun c => ?_)
    · rw [if_neg c] at h
      obtain rfl := Option.some.inj h
      refine q_sub [0, 1, 2, 3, 4] rfl ?_
      exact K1
    · rw [if_pos c] at h
      refine q_iconst (v := (1 : Int32)) (by decide) dX12_cut_83 ?_
      refine q_istore_n [(2, .int (1 : Int32)), (0, .ref 102), (1, .int y1), (3, .int y3), (4, .int y4)] rfl (by decide) rfl dX12_cut_84 ?_
      obtain rfl := Option.some.inj h
      refine q_sub [1, 2, 0, 3, 4] rfl ?_
      exact K1
  · rw [if_pos c] at h
    refine q_iconst (v := (0 : Int32)) (by decide) dX12_cut_71 ?_
    refine q_istore_n [(2, .int (0 : Int32)), (0, .ref 102), (1, .int y1), (3, .int y3), (4, .int y4)] rfl (by decide) rfl dX12_cut_72 ?_
    refine q_goto 85 (by decide) dX12_cut_73 ?_
    obtain rfl := Option.some.inj h
    refine q_sub [1, 2, 0, 3, 4] rfl ?_
    exact K1
set_option maxRecDepth 20000 in
theorem sX12_cut_11 {g : QG} {Q : Option Value → QS → Prop}   {x : Int32 × Int32 × Int32 × QS} {z : (Bool × QS) ⊕ (Int32 × Int32 × Int32 × QS)} (w : q_Wire x.2.2.2) (h : tX12_cut_11 x = some z) (hQ : (Sum.elim (fun r0 : Bool × QS => Q (some (.int (q_b r0.1))) r0.2) (fun y : Int32 × Int32 × Int32 × QS => q_L g mX12_cut 0 0 0 Q 0 0 11 [(0, .ref 102), (1, .int y.1), (2, .int y.2.1), (3, .int y.2.2.1)] [] y.2.2.2) z)) : q_L g mX12_cut 0 0 0 Q 0 0 11 [(0, .ref 102), (1, .int x.1), (2, .int x.2.1), (3, .int x.2.2.1)] [] x.2.2.2 := by
  unfold tX12_cut_11 at h
  refine q_iload_n 3 rfl rfl dX12_cut_11 ?_
  refine q_aload_n 0 rfl rfl dX12_cut_12 ?_
  refine q_getI (q_sh102 w) (by decide) (by decide) rfl lfX12_115 dX12_cut_13 ?_
  refine q_icmp_ge 246 (by decide) dX12_cut_16 (fun c => ?_) (fun c => ?_)
  · rw [if_pos c] at h
    refine q_iconst (v := (1 : Int32)) (by decide) dX12_cut_246 ?_
    cases h
    exact q_iret rfl (by decide) dX12_cut_247 hQ
  · rw [if_neg c] at h
    refine q_aload_n 0 rfl rfl dX12_cut_19 ?_
    refine q_getR (q_sh102 w) (by decide) (by decide) rfl lfX12_23 dX12_cut_20 (r := 160) (q_wr102_6 w) ?_
    refine q_iload_n 3 rfl rfl dX12_cut_23 ?_
    obtain ⟨hg18, h⟩ := q_guard h
    refine q_bald (q_sh160 w) (q_inb_in hg18) dX12_cut_24 ?_
    refine q_istore [(4, .int (x.2.2.2.2.1 160 x.2.2.1.toNatClampNeg)), (0, .ref 102), (1, .int x.1), (2, .int x.2.1), (3, .int x.2.2.1)] (by decide) rfl dX12_cut_25 ?_
    refine q_iload 0 rfl dX12_cut_27 ?_
    refine q_bipush (v := (9 : Int32)) (by decide) dX12_cut_29 ?_
    refine q_icmp_eq 64 (by decide) dX12_cut_31 (fun c => ?_) (fun c => ?_)
    · rw [if_pos c] at h
      refine q_sub [1, 2, 3, 4, 0] rfl ?_
      exact usX12_cut_64 w h hQ
    · rw [if_neg c] at h
      refine q_iload 0 rfl dX12_cut_34 ?_
      refine q_bipush (v := (10 : Int32)) (by decide) dX12_cut_36 ?_
      refine q_icmp_eq 64 (by decide) dX12_cut_38 (fun c => ?_) (fun c => ?_)
      · rw [if_pos c] at h
        refine q_sub [1, 2, 3, 4, 0] rfl ?_
        exact usX12_cut_64 w h hQ
      · rw [if_neg c] at h
        refine q_iload 0 rfl dX12_cut_41 ?_
        refine q_bipush (v := (13 : Int32)) (by decide) dX12_cut_43 ?_
        refine q_icmp_eq 64 (by decide) dX12_cut_45 (fun c => ?_) (fun c => ?_)
        · rw [if_pos c] at h
          refine q_sub [1, 2, 3, 4, 0] rfl ?_
          exact usX12_cut_64 w h hQ
        · rw [if_neg c] at h
          refine q_iload 0 rfl dX12_cut_48 ?_
          refine q_bipush (v := (32 : Int32)) (by decide) dX12_cut_50 ?_
          refine q_icmp_lt 62 (by decide) dX12_cut_52 (fun c => ?_) (fun c => ?_)
          · rw [if_pos c] at h
            refine q_iconst (v := (0 : Int32)) (by decide) dX12_cut_62 ?_
            cases h
            exact q_iret rfl (by decide) dX12_cut_63 hQ
          · rw [if_neg c] at h
            refine q_iload 0 rfl dX12_cut_55 ?_
            refine q_bipush (v := (126 : Int32)) (by decide) dX12_cut_57 ?_
            refine q_icmp_le 64 (by decide) dX12_cut_59 (fun c => ?_) (fun c => ?_)
            · rw [if_pos c] at h
              refine q_sub [1, 2, 3, 4, 0] rfl ?_
              exact usX12_cut_64 w h hQ
            · rw [if_neg c] at h
              refine q_iconst (v := (0 : Int32)) (by decide) dX12_cut_62 ?_
              cases h
              exact q_iret rfl (by decide) dX12_cut_63 hQ
theorem lX12_cut_11 {g : QG} {Q : Option Value → QS → Prop}   {r : Bool × QS}  (hQ : Q (some (.int (q_b r.1))) r.2) : ∀ (c : Nat) (x : Int32 × Int32 × Int32 × QS), q_Wire x.2.2.2 → q_it (tX12_cut_11) c x = some r → q_L g mX12_cut 0 0 0 Q 0 0 11 [(0, .ref 102), (1, .int x.1), (2, .int x.2.1), (3, .int x.2.2.1)] [] x.2.2.2 := by
  intro c
  induction c with
  | zero => intro x w h; cases h
  | succ c ih =>
    intro x w h
    simp only [q_it] at h
    cases hz : tX12_cut_11 x with
    | none => rw [hz] at h; cases h
    | some z =>
      rw [hz] at h
      refine sX12_cut_11 w hz ?_
      rcases z with z | y
      · cases h; exact hQ
      · have fz := fxtX12_cut_11 hz; exact ih y (w.fx fz) h
theorem kX12_cut_11 {S : QS} {g : QG} {Q : Option Value → QS → Prop}  {y1 : Int32} {y2 : Int32} {y3 : Int32} {r : Bool × QS} (w : q_Wire S) (h : fX12_cut_11 S y1 y2 y3 = some r) (hQ : Q (some (.int (q_b r.1))) r.2) : q_L g mX12_cut 0 0 0 Q 0 0 11 [(0, .ref 102), (1, .int y1), (2, .int y2), (3, .int y3)] [] S := by
  obtain ⟨c, hc⟩ := q_run_it h
  exact lX12_cut_11  hQ c (y1, y2, y3, S) w hc
set_option maxRecDepth 20000 in
theorem kX12_cut {S : QS} {g : QG} {Q : Option Value → QS → Prop}   {r : Bool × QS} (w : q_Wire S) (h : fX12_cut S = some r) (hQ : Q (some (.int (q_b r.1))) r.2) : q_M g mX12_cut 0 0 0 [.ref 102] S Q := by
  unfold fX12_cut at h
  show q_L g mX12_cut 0 0 0 Q 0 0 0 [(0, .ref 102)] [] S
  refine q_aload_n 0 rfl rfl dX12_cut_0 ?_
  refine q_iconst (v := (0 : Int32)) (by decide) dX12_cut_1 ?_
  refine q_putI (q_sh102 w) (by decide) (by decide) rfl rfl ⟨rfl, rfl⟩ lfX12_118 dX12_cut_2 ?_
  obtain ⟨S19, e20, h⟩ := q_bindS h
  refine q_st e20 ?_
  have fx21 : q_Fx S S19 := e20 ▸ q_Fx.sI (q_Fx.rf S)
  refine q_iconst (v := (0 : Int32)) (by decide) dX12_cut_5 ?_
  refine q_istore_n [(1, .int (0 : Int32)), (0, .ref 102)] rfl (by decide) rfl dX12_cut_6 ?_
  refine q_iconst (v := (0 : Int32)) (by decide) dX12_cut_7 ?_
  refine q_istore_n [(2, .int (0 : Int32)), (1, .int (0 : Int32)), (0, .ref 102)] rfl (by decide) rfl dX12_cut_8 ?_
  refine q_iconst (v := (0 : Int32)) (by decide) dX12_cut_9 ?_
  refine q_istore_n [(3, .int (0 : Int32)), (2, .int (0 : Int32)), (1, .int (0 : Int32)), (0, .ref 102)] rfl (by decide) rfl dX12_cut_10 ?_
  refine q_sub [3, 2, 1, 0] rfl ?_
  exact kX12_cut_11 (w.fx fx21) h hQ
set_option maxRecDepth 20000 in
theorem sX12_is_32 {S : QS} {g : QG} {Q : Option Value → QS → Prop}  {y1 : Int32} {y2 : Nat} {x : Int32} {z : (Bool) ⊕ (Int32)} (w : q_Wire S) (h : tX12_is_32 S y1 y2 x = some z) (hQ : (Sum.elim (fun r0 : Bool => Q (some (.int (q_b r0))) S) (fun y : Int32 => q_L g mX12_is 4 0 0 Q 0 0 32 [(0, .ref 102), (1, .int y1), (2, .ref y2), (3, .int y)] [] S) z)) : q_L g mX12_is 4 0 0 Q 0 0 32 [(0, .ref 102), (1, .int y1), (2, .ref y2), (3, .int x)] [] S := by
  unfold tX12_is_32 at h
  refine q_iload_n 3 rfl rfl dX12_is_32 ?_
  refine q_aload_n 2 rfl rfl dX12_is_33 ?_
  obtain ⟨r1, e2, h⟩ := q_bind h
  obtain ⟨js, own, ix, tx, bs, hj, hr, _⟩ := q_isS_of (fJ0_length_str e2)
  refine q_callT (d := 3) (Mc := mJ0_length_8abf5) (kc := 0) (nc := 0) [] okJ0_length_8abf5 hj hr rfl lmX12_121 inJ0_length_8abf5 seJ0_length_8abf5 rfl (Nat.le_of_ble_eq_true rfl) (Nat.le_of_ble_eq_true rfl) (Nat.le_refl _) (Nat.le_refl _) dX12_is_34 (q_L.deep (by decide) (kJ0_length_8abf5 (Q := fun r S' => r = some (.int r1) ∧ S' = S)  e2 ⟨rfl, rfl⟩)) (q_kI ?_)
  refine q_icmp_ge 69 (by decide) dX12_is_37 (fun c => ?_) (fun c => ?_)
  · rw [if_pos c] at h
    refine q_iconst (v := (1 : Int32)) (by decide) dX12_is_69 ?_
    cases h
    exact q_iret rfl (by decide) dX12_is_70 hQ
  · rw [if_neg c] at h
    refine q_aload_n 0 rfl rfl dX12_is_40 ?_
    refine q_getR (q_sh102 w) (by decide) (by decide) rfl lfX12_23 dX12_is_41 (r := 160) (q_wr102_6 w) ?_
    refine q_aload_n 0 rfl rfl dX12_is_44 ?_
    refine q_getR (q_sh102 w) (by decide) (by decide) rfl lfX12_26 dX12_is_45 (r := 161) (q_wr102_8 w) ?_
    refine q_iload_n 1 rfl rfl dX12_is_48 ?_
    obtain ⟨hg4, h⟩ := q_guard h
    refine q_iald (q_sh161 w) (q_inb_in hg4) dX12_is_49 ?_
    refine q_iload_n 3 rfl rfl dX12_is_50 ?_
    refine q_iadd dX12_is_51 ?_
    obtain ⟨hg5, h⟩ := q_guard h
    refine q_bald (q_sh160 w) (q_inb_in hg5) dX12_is_52 ?_
    refine q_aload_n 2 rfl rfl dX12_is_53 ?_
    refine q_iload_n 3 rfl rfl dX12_is_54 ?_
    obtain ⟨r6, e7, h⟩ := q_bind h
    obtain ⟨js, own, ix, tx, bs, hj, hr, _⟩ := q_isS_of (fJ0_charAt_str e7)
    refine q_callT (d := 3) (Mc := mJ0_charAt_5068e) (kc := 0) (nc := 0) [.int x] okJ0_charAt_5068e hj hr rfl lmX12_127 inJ0_charAt_5068e seJ0_charAt_5068e rfl (Nat.le_of_ble_eq_true rfl) (Nat.le_of_ble_eq_true rfl) (Nat.le_refl _) (Nat.le_refl _) dX12_is_55 (q_L.deep (by decide) (kJ0_charAt_5068e (Q := fun r S' => r = some (.int r6) ∧ S' = S)  e7 ⟨rfl, rfl⟩)) (q_kI ?_)
    refine q_icmp_eq 63 (by decide) dX12_is_58 (fun c => ?_) (fun c => ?_)
    · rw [if_pos c] at h
      refine q_iinc (v := (x + (1 : Int32))) 3 [(3, .int (x + (1 : Int32))), (0, .ref 102), (1, .int y1), (2, .ref y2)] (by decide) rfl (congrArg (fun t => x + t) (by decide)) rfl dX12_is_63 ?_
      refine q_goto 32 (by decide) dX12_is_66 ?_
      refine q_sub [1, 2, 3, 0] rfl ?_
      cases h
      exact hQ
    · rw [if_neg c] at h
      refine q_iconst (v := (0 : Int32)) (by decide) dX12_is_61 ?_
      cases h
      exact q_iret rfl (by decide) dX12_is_62 hQ
theorem lX12_is_32 {S : QS} {g : QG} {Q : Option Value → QS → Prop}  {y1 : Int32} {y2 : Nat} {r : Bool} (w : q_Wire S) (hQ : Q (some (.int (q_b r))) S) : ∀ (c : Nat) (x : Int32), q_it (tX12_is_32 S y1 y2) c x = some r → q_L g mX12_is 4 0 0 Q 0 0 32 [(0, .ref 102), (1, .int y1), (2, .ref y2), (3, .int x)] [] S := by
  intro c
  induction c with
  | zero => intro x  h; cases h
  | succ c ih =>
    intro x  h
    simp only [q_it] at h
    cases hz : tX12_is_32 S y1 y2 x with
    | none => rw [hz] at h; cases h
    | some z =>
      rw [hz] at h
      refine sX12_is_32 w hz ?_
      rcases z with z | y
      · cases h; exact hQ
      · exact ih y  h
theorem kX12_is_32 {S : QS} {g : QG} {Q : Option Value → QS → Prop}  {y1 : Int32} {y2 : Nat} {y3 : Int32} {r : Bool} (w : q_Wire S) (h : fX12_is_32 S y1 y2 y3 = some r) (hQ : Q (some (.int (q_b r))) S) : q_L g mX12_is 4 0 0 Q 0 0 32 [(0, .ref 102), (1, .int y1), (2, .ref y2), (3, .int y3)] [] S := by
  obtain ⟨c, hc⟩ := q_run_it h
  exact lX12_is_32 w hQ c y3  hc
set_option maxRecDepth 20000 in
theorem kX12_is {S : QS} {g : QG} {Q : Option Value → QS → Prop}  {x1 : Int32} {x2 : Nat} {r : Bool} (w : q_Wire S) (h : fX12_is S x1 x2 = some r) (hQ : Q (some (.int (q_b r))) S) : q_M g mX12_is 4 0 0 [.ref 102, .int x1, .ref x2] S Q := by
  unfold fX12_is at h
  show q_L g mX12_is 4 0 0 Q 0 0 0 [(0, .ref 102), (1, .int x1), (2, .ref x2)] [] S
  refine q_iload_n 1 rfl rfl dX12_is_0 ?_
  refine q_aload_n 0 rfl rfl dX12_is_1 ?_
  refine q_getI (q_sh102 w) (by decide) (by decide) rfl lfX12_118 dX12_is_2 ?_
  refine q_icmp_ge 28 (by decide) dX12_is_5 (fun c => ?_) (fun c => ?_)
  · rw [if_pos c] at h
    refine q_iconst (v := (0 : Int32)) (by decide) dX12_is_28 ?_
    obtain rfl := Option.some.inj h
    exact q_iret rfl (by decide) dX12_is_29 hQ
  · rw [if_neg c] at h
    refine q_aload_n 0 rfl rfl dX12_is_8 ?_
    refine q_getR (q_sh102 w) (by decide) (by decide) rfl lfX12_30 dX12_is_9 (r := 162) (q_wr102_9 w) ?_
    refine q_iload_n 1 rfl rfl dX12_is_12 ?_
    obtain ⟨hg9, h⟩ := q_guard h
    refine q_iald (q_sh162 w) (q_inb_in hg9) dX12_is_13 ?_
    refine q_aload_n 0 rfl rfl dX12_is_14 ?_
    refine q_getR (q_sh102 w) (by decide) (by decide) rfl lfX12_26 dX12_is_15 (r := 161) (q_wr102_8 w) ?_
    refine q_iload_n 1 rfl rfl dX12_is_18 ?_
    obtain ⟨hg10, h⟩ := q_guard h
    refine q_iald (q_sh161 w) (q_inb_in hg10) dX12_is_19 ?_
    refine q_isub dX12_is_20 ?_
    refine q_aload_n 2 rfl rfl dX12_is_21 ?_
    obtain ⟨r11, e12, h⟩ := q_bind h
    obtain ⟨js, own, ix, tx, bs, hj, hr, _⟩ := q_isS_of (fJ0_length_str e12)
    refine q_callT (d := 3) (Mc := mJ0_length_8abf5) (kc := 0) (nc := 0) [] okJ0_length_8abf5 hj hr rfl lmX12_121 inJ0_length_8abf5 seJ0_length_8abf5 rfl (Nat.le_of_ble_eq_true rfl) (Nat.le_of_ble_eq_true rfl) (Nat.le_refl _) (Nat.le_refl _) dX12_is_22 (q_L.deep (by decide) (kJ0_length_8abf5 (Q := fun r S' => r = some (.int r11) ∧ S' = S)  e12 ⟨rfl, rfl⟩)) (q_kI ?_)
    refine q_icmp_eq 30 (by decide) dX12_is_25 (fun c => ?_) (fun c => ?_)
    · rw [if_pos c] at h
      refine q_iconst (v := (0 : Int32)) (by decide) dX12_is_30 ?_
      refine q_istore_n [(3, .int (0 : Int32)), (0, .ref 102), (1, .int x1), (2, .ref x2)] rfl (by decide) rfl dX12_is_31 ?_
      refine q_sub [1, 2, 3, 0] rfl ?_
      exact kX12_is_32 w h hQ
    · rw [if_neg c] at h
      refine q_iconst (v := (0 : Int32)) (by decide) dX12_is_28 ?_
      obtain rfl := Option.some.inj h
      exact q_iret rfl (by decide) dX12_is_29 hQ
set_option maxRecDepth 20000 in
theorem sX12_isSame_15 {S : QS} {g : QG} {Q : Option Value → QS → Prop}  {y1 : Int32} {y2 : Int32} {y3 : Int32} {x : Int32} {z : (Bool) ⊕ (Int32)} (w : q_Wire S) (h : tX12_isSame_15 S y1 y2 y3 x = some z) (hQ : (Sum.elim (fun r0 : Bool => Q (some (.int (q_b r0))) S) (fun y : Int32 => q_L g mX12_isSame 0 0 0 Q 0 0 15 [(0, .ref 102), (1, .int y1), (2, .int y2), (3, .int y3), (5, .int y)] [] S) z)) : q_L g mX12_isSame 0 0 0 Q 0 0 15 [(0, .ref 102), (1, .int y1), (2, .int y2), (3, .int y3), (5, .int x)] [] S := by
  unfold tX12_isSame_15 at h
  refine q_iload 4 rfl dX12_isSame_15 ?_
  refine q_iload_n 2 rfl rfl dX12_isSame_17 ?_
  refine q_iload_n 1 rfl rfl dX12_isSame_18 ?_
  refine q_isub dX12_isSame_19 ?_
  refine q_icmp_ge 52 (by decide) dX12_isSame_20 (fun c => ?_) (fun c => ?_)
  · rw [if_pos c] at h
    refine q_iconst (v := (1 : Int32)) (by decide) dX12_isSame_52 ?_
    cases h
    exact q_iret rfl (by decide) dX12_isSame_53 hQ
  · rw [if_neg c] at h
    refine q_aload_n 0 rfl rfl dX12_isSame_23 ?_
    refine q_getR (q_sh102 w) (by decide) (by decide) rfl lfX12_23 dX12_isSame_24 (r := 160) (q_wr102_6 w) ?_
    refine q_iload_n 1 rfl rfl dX12_isSame_27 ?_
    refine q_iload 4 rfl dX12_isSame_28 ?_
    refine q_iadd dX12_isSame_30 ?_
    obtain ⟨hg1, h⟩ := q_guard h
    refine q_bald (q_sh160 w) (q_inb_in hg1) dX12_isSame_31 ?_
    refine q_aload_n 0 rfl rfl dX12_isSame_32 ?_
    refine q_getR (q_sh102 w) (by decide) (by decide) rfl lfX12_23 dX12_isSame_33 (r := 160) (q_wr102_6 w) ?_
    refine q_iload_n 3 rfl rfl dX12_isSame_36 ?_
    refine q_iload 4 rfl dX12_isSame_37 ?_
    refine q_iadd dX12_isSame_39 ?_
    obtain ⟨hg2, h⟩ := q_guard h
    refine q_bald (q_sh160 w) (q_inb_in hg2) dX12_isSame_40 ?_
    refine q_icmp_eq 46 (by decide) dX12_isSame_41 (fun c => ?_) (fun c => ?_)
    · rw [if_pos c] at h
      refine q_iinc (v := (x + (1 : Int32))) 4 [(5, .int (x + (1 : Int32))), (0, .ref 102), (1, .int y1), (2, .int y2), (3, .int y3)] (by decide) rfl (congrArg (fun t => x + t) (by decide)) rfl dX12_isSame_46 ?_
      refine q_goto 15 (by decide) dX12_isSame_49 ?_
      refine q_sub [1, 2, 3, 4, 0] rfl ?_
      cases h
      exact hQ
    · rw [if_neg c] at h
      refine q_iconst (v := (0 : Int32)) (by decide) dX12_isSame_44 ?_
      cases h
      exact q_iret rfl (by decide) dX12_isSame_45 hQ
theorem lX12_isSame_15 {S : QS} {g : QG} {Q : Option Value → QS → Prop}  {y1 : Int32} {y2 : Int32} {y3 : Int32} {r : Bool} (w : q_Wire S) (hQ : Q (some (.int (q_b r))) S) : ∀ (c : Nat) (x : Int32), q_it (tX12_isSame_15 S y1 y2 y3) c x = some r → q_L g mX12_isSame 0 0 0 Q 0 0 15 [(0, .ref 102), (1, .int y1), (2, .int y2), (3, .int y3), (5, .int x)] [] S := by
  intro c
  induction c with
  | zero => intro x  h; cases h
  | succ c ih =>
    intro x  h
    simp only [q_it] at h
    cases hz : tX12_isSame_15 S y1 y2 y3 x with
    | none => rw [hz] at h; cases h
    | some z =>
      rw [hz] at h
      refine sX12_isSame_15 w hz ?_
      rcases z with z | y
      · cases h; exact hQ
      · exact ih y  h
theorem kX12_isSame_15 {S : QS} {g : QG} {Q : Option Value → QS → Prop}  {y1 : Int32} {y2 : Int32} {y3 : Int32} {y5 : Int32} {r : Bool} (w : q_Wire S) (h : fX12_isSame_15 S y1 y2 y3 y5 = some r) (hQ : Q (some (.int (q_b r))) S) : q_L g mX12_isSame 0 0 0 Q 0 0 15 [(0, .ref 102), (1, .int y1), (2, .int y2), (3, .int y3), (5, .int y5)] [] S := by
  obtain ⟨c, hc⟩ := q_run_it h
  exact lX12_isSame_15 w hQ c y5  hc
set_option maxRecDepth 20000 in
theorem kX12_isSame {S : QS} {g : QG} {Q : Option Value → QS → Prop}  {x1 : Int32} {x2 : Int32} {x3 : Int32} {x4 : Int32} {r : Bool} (w : q_Wire S) (h : fX12_isSame S x1 x2 x3 x4 = some r) (hQ : Q (some (.int (q_b r))) S) : q_M g mX12_isSame 0 0 0 [.ref 102, .int x1, .int x2, .int x3, .int x4] S Q := by
  unfold fX12_isSame at h
  show q_L g mX12_isSame 0 0 0 Q 0 0 0 [(0, .ref 102), (1, .int x1), (2, .int x2), (3, .int x3), (4, .int x4)] [] S
  refine q_iload_n 2 rfl rfl dX12_isSame_0 ?_
  refine q_iload_n 1 rfl rfl dX12_isSame_1 ?_
  refine q_isub dX12_isSame_2 ?_
  refine q_iload 4 rfl dX12_isSame_3 ?_
  refine q_iload_n 3 rfl rfl dX12_isSame_5 ?_
  refine q_isub dX12_isSame_6 ?_
  refine q_icmp_eq 12 (by decide) dX12_isSame_7 (fun c => ?_) (fun c => ?_)
  · rw [if_pos c] at h
    refine q_iconst (v := (0 : Int32)) (by decide) dX12_isSame_12 ?_
    refine q_istore [(5, .int (0 : Int32)), (0, .ref 102), (1, .int x1), (2, .int x2), (3, .int x3), (4, .int x4)] (by decide) rfl dX12_isSame_13 ?_
    refine q_sub [1, 2, 3, 4, 0] rfl ?_
    exact kX12_isSame_15 w h hQ
  · rw [if_neg c] at h
    refine q_iconst (v := (0 : Int32)) (by decide) dX12_isSame_10 ?_
    obtain rfl := Option.some.inj h
    exact q_iret rfl (by decide) dX12_isSame_11 hQ
set_option maxRecDepth 20000 in
theorem kX12_isSameToken {S : QS} {g : QG} {Q : Option Value → QS → Prop}  {x1 : Int32} {x2 : Int32} {r : Bool} (w : q_Wire S) (h : fX12_isSameToken S x1 x2 = some r) (hQ : Q (some (.int (q_b r))) S) : q_M g mX12_isSameToken 1 0 0 [.ref 102, .int x1, .int x2] S Q := by
  unfold fX12_isSameToken at h
  show q_L g mX12_isSameToken 1 0 0 Q 0 0 0 [(0, .ref 102), (1, .int x1), (2, .int x2)] [] S
  refine q_aload_n 0 rfl rfl dX12_isSameToken_0 ?_
  refine q_aload_n 0 rfl rfl dX12_isSameToken_1 ?_
  refine q_getR (q_sh102 w) (by decide) (by decide) rfl lfX12_26 dX12_isSameToken_2 (r := 161) (q_wr102_8 w) ?_
  refine q_iload_n 1 rfl rfl dX12_isSameToken_5 ?_
  obtain ⟨hg1, h⟩ := q_guard h
  refine q_iald (q_sh161 w) (q_inb_in hg1) dX12_isSameToken_6 ?_
  refine q_aload_n 0 rfl rfl dX12_isSameToken_7 ?_
  refine q_getR (q_sh102 w) (by decide) (by decide) rfl lfX12_30 dX12_isSameToken_8 (r := 162) (q_wr102_9 w) ?_
  refine q_iload_n 1 rfl rfl dX12_isSameToken_11 ?_
  obtain ⟨hg2, h⟩ := q_guard h
  refine q_iald (q_sh162 w) (q_inb_in hg2) dX12_isSameToken_12 ?_
  refine q_aload_n 0 rfl rfl dX12_isSameToken_13 ?_
  refine q_getR (q_sh102 w) (by decide) (by decide) rfl lfX12_26 dX12_isSameToken_14 (r := 161) (q_wr102_8 w) ?_
  refine q_iload_n 2 rfl rfl dX12_isSameToken_17 ?_
  obtain ⟨hg3, h⟩ := q_guard h
  refine q_iald (q_sh161 w) (q_inb_in hg3) dX12_isSameToken_18 ?_
  refine q_aload_n 0 rfl rfl dX12_isSameToken_19 ?_
  refine q_getR (q_sh102 w) (by decide) (by decide) rfl lfX12_30 dX12_isSameToken_20 (r := 162) (q_wr102_9 w) ?_
  refine q_iload_n 2 rfl rfl dX12_isSameToken_23 ?_
  obtain ⟨hg4, h⟩ := q_guard h
  refine q_iald (q_sh162 w) (q_inb_in hg4) dX12_isSameToken_24 ?_
  obtain ⟨r5, e6, h⟩ := q_bind h
  refine q_callV (ci := 12) (d := 0) (Mc := mX12_isSame) (kc := 0) (nc := 0) [.int (S.2.1 161 x1.toNatClampNeg), .int (S.2.1 162 x1.toNatClampNeg), .int (S.2.1 161 x2.toNatClampNeg), .int (S.2.1 162 x2.toNatClampNeg)] okX12_isSame (q_sh102 w) (by decide) rfl lmX12_131 inX12_isSame seX12_isSame rfl (Nat.le_of_ble_eq_true rfl) (Nat.le_of_ble_eq_true rfl) (Nat.le_refl _) (Nat.le_refl _) dX12_isSameToken_25 (q_L.deep (by decide) (kX12_isSame (Q := fun r S' => r = some (.int (q_b r5)) ∧ S' = S) w e6 ⟨rfl, rfl⟩)) (q_kI ?_)
  obtain rfl := Option.some.inj h
  exact q_iret rfl (q_b_nar _) dX12_isSameToken_28 hQ
set_option maxRecDepth 20000 in
theorem sX12_among_57 {S : QS} {g : QG} {Q : Option Value → QS → Prop}  {y1 : Int32} {y2 : Int32} {y3 : Nat} {y6 : Int32} {x : Int32 × Int32 × Int32 × Int32} {z : ((Int32) ⊕ (Int32 × Int32)) ⊕ (Int32 × Int32 × Int32 × Int32)} (w : q_Wire S) (h : tX12_among_57 S y1 y2 y3 y6 x = some z) (hQ : (Sum.elim (fun r1 : (Int32) ⊕ (Int32 × Int32) => (Sum.elim (fun r0 : Int32 => Q (some (.int r0)) S) (fun y : Int32 × Int32 => q_L g mX12_among 4 0 0 Q 0 0 6 [(0, .ref 102), (1, .int y1), (2, .int y2), (3, .ref y3), (4, .int y.1), (5, .int y.2)] [] S) r1)) (fun y' : Int32 × Int32 × Int32 × Int32 => q_L g mX12_among 4 0 0 Q 0 0 57 [(0, .ref 102), (1, .int y1), (2, .int y2), (3, .ref y3), (4, .int y'.1), (5, .int y'.2.1), (6, .int y6), (7, .int y'.2.2.1), (8, .int y'.2.2.2)] [] S) z)) : q_L g mX12_among 4 0 0 Q 0 0 57 [(0, .ref 102), (1, .int y1), (2, .int y2), (3, .ref y3), (4, .int x.1), (5, .int x.2.1), (6, .int y6), (7, .int x.2.2.1), (8, .int x.2.2.2)] [] S := by
  unfold tX12_among_57 at h
  refine q_iload 7 rfl dX12_among_57 ?_
  refine q_if_eq 104 (by decide) dX12_among_59 (fun c => ?_) (fun c => ?_)
  · rw [if_pos c] at h
    refine q_iload 7 rfl dX12_among_104 ?_
    refine q_if_eq 112 (by decide) dX12_among_106 (fun c => ?_) (fun c => ?_)
    · rw [if_pos c] at h
      refine q_iinc (v := (x.1 + (1 : Int32))) 4 [(4, .int (x.1 + (1 : Int32))), (0, .ref 102), (1, .int y1), (2, .int y2), (3, .ref y3), (5, .int x.2.1), (6, .int y6), (7, .int x.2.2.1), (8, .int x.2.2.2)] (by decide) rfl (congrArg (fun t => x.1 + t) (by decide)) rfl dX12_among_112 ?_
      refine q_iload 6 rfl dX12_among_115 ?_
      refine q_iconst (v := (1 : Int32)) (by decide) dX12_among_117 ?_
      refine q_iadd dX12_among_118 ?_
      refine q_istore [(5, .int (y6 + (1 : Int32))), (4, .int (x.1 + (1 : Int32))), (0, .ref 102), (1, .int y1), (2, .int y2), (3, .ref y3), (6, .int y6), (7, .int x.2.2.1), (8, .int x.2.2.2)] (by decide) rfl dX12_among_119 ?_
      refine q_goto 6 (by decide) dX12_among_121 ?_
      refine q_sub [2, 3, 4, 5, 1, 0] rfl ?_
      cases h
      exact hQ
    · rw [if_neg c] at h
      refine q_iload 4 rfl dX12_among_109 ?_
      cases h
      exact q_iret rfl rfl dX12_among_111 hQ
  · rw [if_neg c] at h
    refine q_iload 8 rfl dX12_among_62 ?_
    refine q_iload_n 2 rfl rfl dX12_among_64 ?_
    refine q_iload_n 1 rfl rfl dX12_among_65 ?_
    refine q_isub dX12_among_66 ?_
    refine q_icmp_ge 104 (by decide) dX12_among_67 (fun c => ?_) (fun c => ?_)
    · rw [if_pos c] at h
      refine q_iload 7 rfl dX12_among_104 ?_
      refine q_if_eq 112 (by decide) dX12_among_106 (fun c => ?_) (fun c => ?_)
      · rw [if_pos c] at h
        refine q_iinc (v := (x.1 + (1 : Int32))) 4 [(4, .int (x.1 + (1 : Int32))), (0, .ref 102), (1, .int y1), (2, .int y2), (3, .ref y3), (5, .int x.2.1), (6, .int y6), (7, .int x.2.2.1), (8, .int x.2.2.2)] (by decide) rfl (congrArg (fun t => x.1 + t) (by decide)) rfl dX12_among_112 ?_
        refine q_iload 6 rfl dX12_among_115 ?_
        refine q_iconst (v := (1 : Int32)) (by decide) dX12_among_117 ?_
        refine q_iadd dX12_among_118 ?_
        refine q_istore [(5, .int (y6 + (1 : Int32))), (4, .int (x.1 + (1 : Int32))), (0, .ref 102), (1, .int y1), (2, .int y2), (3, .ref y3), (6, .int y6), (7, .int x.2.2.1), (8, .int x.2.2.2)] (by decide) rfl dX12_among_119 ?_
        refine q_goto 6 (by decide) dX12_among_121 ?_
        refine q_sub [2, 3, 4, 5, 1, 0] rfl ?_
        cases h
        exact hQ
      · rw [if_neg c] at h
        refine q_iload 4 rfl dX12_among_109 ?_
        cases h
        exact q_iret rfl rfl dX12_among_111 hQ
    · rw [if_neg c] at h
      refine q_aload_n 0 rfl rfl dX12_among_70 ?_
      refine q_getR (q_sh102 w) (by decide) (by decide) rfl lfX12_23 dX12_among_71 (r := 160) (q_wr102_6 w) ?_
      refine q_iload_n 1 rfl rfl dX12_among_74 ?_
      refine q_iload 8 rfl dX12_among_75 ?_
      refine q_iadd dX12_among_77 ?_
      obtain ⟨hg1, h⟩ := q_guard h
      refine q_bald (q_sh160 w) (q_inb_in hg1) dX12_among_78 ?_
      refine q_aload_n 3 rfl rfl dX12_among_79 ?_
      refine q_iload 5 rfl dX12_among_80 ?_
      refine q_iload 8 rfl dX12_among_82 ?_
      refine q_iadd dX12_among_84 ?_
      obtain ⟨r2, e3, h⟩ := q_bind h
      obtain ⟨js, own, ix, tx, bs, hj, hr, _⟩ := q_isS_of (fJ0_charAt_str e3)
      refine q_callT (d := 3) (Mc := mJ0_charAt_5068e) (kc := 0) (nc := 0) [.int (x.2.1 + x.2.2.2)] okJ0_charAt_5068e hj hr rfl lmX12_127 inJ0_charAt_5068e seJ0_charAt_5068e rfl (Nat.le_of_ble_eq_true rfl) (Nat.le_of_ble_eq_true rfl) (Nat.le_refl _) (Nat.le_refl _) dX12_among_85 (q_L.deep (by decide) (kJ0_charAt_5068e (Q := fun r S' => r = some (.int r2) ∧ S' = S)  e3 ⟨rfl, rfl⟩)) (q_kI ?_)
      refine q_icmp_ne 95 (by decide) dX12_among_88 (fun c => ?_) (fun c => ?_)
      · rw [if_neg c] at h
        refine q_iconst (v := (0 : Int32)) (by decide) dX12_among_95 ?_
        refine q_istore [(7, .int (0 : Int32)), (0, .ref 102), (1, .int y1), (2, .int y2), (3, .ref y3), (4, .int x.1), (5, .int x.2.1), (6, .int y6), (8, .int x.2.2.2)] (by decide) rfl dX12_among_96 ?_
        refine q_iinc (v := (x.2.2.2 + (1 : Int32))) 8 [(8, .int (x.2.2.2 + (1 : Int32))), (7, .int (0 : Int32)), (0, .ref 102), (1, .int y1), (2, .int y2), (3, .ref y3), (4, .int x.1), (5, .int x.2.1), (6, .int y6)] (by decide) rfl (congrArg (fun t => x.2.2.2 + t) (by decide)) rfl dX12_among_98 ?_
        refine q_goto 57 (by decide) dX12_among_101 ?_
        refine q_sub [2, 3, 4, 5, 6, 7, 8, 1, 0] rfl ?_
        cases h
        exact hQ
      · rw [if_pos c] at h
        refine q_iconst (v := (1 : Int32)) (by decide) dX12_among_91 ?_
        refine q_goto 96 (by decide) dX12_among_92 ?_
        refine q_istore [(7, .int (1 : Int32)), (0, .ref 102), (1, .int y1), (2, .int y2), (3, .ref y3), (4, .int x.1), (5, .int x.2.1), (6, .int y6), (8, .int x.2.2.2)] (by decide) rfl dX12_among_96 ?_
        refine q_iinc (v := (x.2.2.2 + (1 : Int32))) 8 [(8, .int (x.2.2.2 + (1 : Int32))), (7, .int (1 : Int32)), (0, .ref 102), (1, .int y1), (2, .int y2), (3, .ref y3), (4, .int x.1), (5, .int x.2.1), (6, .int y6)] (by decide) rfl (congrArg (fun t => x.2.2.2 + t) (by decide)) rfl dX12_among_98 ?_
        refine q_goto 57 (by decide) dX12_among_101 ?_
        refine q_sub [2, 3, 4, 5, 6, 7, 8, 1, 0] rfl ?_
        cases h
        exact hQ
theorem lX12_among_57 {S : QS} {g : QG} {Q : Option Value → QS → Prop}  {y1 : Int32} {y2 : Int32} {y3 : Nat} {y6 : Int32} {r : (Int32) ⊕ (Int32 × Int32)} (w : q_Wire S) (hQ : (Sum.elim (fun r0 : Int32 => Q (some (.int r0)) S) (fun y : Int32 × Int32 => q_L g mX12_among 4 0 0 Q 0 0 6 [(0, .ref 102), (1, .int y1), (2, .int y2), (3, .ref y3), (4, .int y.1), (5, .int y.2)] [] S) r)) : ∀ (c : Nat) (x : Int32 × Int32 × Int32 × Int32), q_it (tX12_among_57 S y1 y2 y3 y6) c x = some r → q_L g mX12_among 4 0 0 Q 0 0 57 [(0, .ref 102), (1, .int y1), (2, .int y2), (3, .ref y3), (4, .int x.1), (5, .int x.2.1), (6, .int y6), (7, .int x.2.2.1), (8, .int x.2.2.2)] [] S := by
  intro c
  induction c with
  | zero => intro x  h; cases h
  | succ c ih =>
    intro x  h
    simp only [q_it] at h
    cases hz : tX12_among_57 S y1 y2 y3 y6 x with
    | none => rw [hz] at h; cases h
    | some z =>
      rw [hz] at h
      refine sX12_among_57 w hz ?_
      rcases z with z | y
      · cases h; exact hQ
      · exact ih y  h
theorem usX12_among_57 {S : QS} {g : QG} {Q : Option Value → QS → Prop}  {y1 : Int32} {y2 : Int32} {y3 : Nat} {y4 : Int32} {y5 : Int32} {y6 : Int32} {y7 : Int32} {y8 : Int32} {r : (Int32) ⊕ (Int32 × Int32)} (w : q_Wire S) (h : uX12_among_57 S y1 y2 y3 y4 y5 y6 y7 y8 = some r) (hQ : (Sum.elim (fun r0 : Int32 => Q (some (.int r0)) S) (fun y : Int32 × Int32 => q_L g mX12_among 4 0 0 Q 0 0 6 [(0, .ref 102), (1, .int y1), (2, .int y2), (3, .ref y3), (4, .int y.1), (5, .int y.2)] [] S) r)) : q_L g mX12_among 4 0 0 Q 0 0 57 [(0, .ref 102), (1, .int y1), (2, .int y2), (3, .ref y3), (4, .int y4), (5, .int y5), (6, .int y6), (7, .int y7), (8, .int y8)] [] S := by
  obtain ⟨c, hc⟩ := q_run_it h
  exact lX12_among_57 w hQ c (y4, y5, y7, y8)  hc
set_option maxRecDepth 20000 in
theorem sX12_among_19 {S : QS} {g : QG} {Q : Option Value → QS → Prop}  {y1 : Int32} {y2 : Int32} {y3 : Nat} {y4 : Int32} {y5 : Int32} {x : Int32} {z : ((Int32) ⊕ (Int32 × Int32)) ⊕ (Int32)} (w : q_Wire S) (h : tX12_among_19 S y1 y2 y3 y4 y5 x = some z) (hQ : (Sum.elim (fun r1 : (Int32) ⊕ (Int32 × Int32) => (Sum.elim (fun r0 : Int32 => Q (some (.int r0)) S) (fun y : Int32 × Int32 => q_L g mX12_among 4 0 0 Q 0 0 6 [(0, .ref 102), (1, .int y1), (2, .int y2), (3, .ref y3), (4, .int y.1), (5, .int y.2)] [] S) r1)) (fun y' : Int32 => q_L g mX12_among 4 0 0 Q 0 0 19 [(0, .ref 102), (1, .int y1), (2, .int y2), (3, .ref y3), (4, .int y4), (5, .int y5), (6, .int y')] [] S) z)) : q_L g mX12_among 4 0 0 Q 0 0 19 [(0, .ref 102), (1, .int y1), (2, .int y2), (3, .ref y3), (4, .int y4), (5, .int y5), (6, .int x)] [] S := by
  unfold tX12_among_19 at h
  refine q_aload_n 3 rfl rfl dX12_among_19 ?_
  refine q_iload 6 rfl dX12_among_20 ?_
  obtain ⟨r5, e6, h⟩ := q_bind h
  obtain ⟨js, own, ix, tx, bs, hj, hr, _⟩ := q_isS_of (fJ0_charAt_str e6)
  refine q_callT (d := 3) (Mc := mJ0_charAt_5068e) (kc := 0) (nc := 0) [.int x] okJ0_charAt_5068e hj hr rfl lmX12_127 inJ0_charAt_5068e seJ0_charAt_5068e rfl (Nat.le_of_ble_eq_true rfl) (Nat.le_of_ble_eq_true rfl) (Nat.le_refl _) (Nat.le_refl _) dX12_among_22 (q_L.deep (by decide) (kJ0_charAt_5068e (Q := fun r S' => r = some (.int r5) ∧ S' = S)  e6 ⟨rfl, rfl⟩)) (q_kI ?_)
  refine q_bipush (v := (32 : Int32)) (by decide) dX12_among_25 ?_
  refine q_icmp_eq 36 (by decide) dX12_among_27 (fun c => ?_) (fun c => ?_)
  · rw [if_pos c] at h
    refine q_iload 6 rfl dX12_among_36 ?_
    refine q_iload 5 rfl dX12_among_38 ?_
    refine q_isub dX12_among_40 ?_
    refine q_iload_n 2 rfl rfl dX12_among_41 ?_
    refine q_iload_n 1 rfl rfl dX12_among_42 ?_
    refine q_isub dX12_among_43 ?_
    refine q_icmp_ne 51 (by decide) dX12_among_44 (fun c => ?_) (fun c => ?_)
    · rw [if_neg c] at h
      refine q_iconst (v := (0 : Int32)) (by decide) dX12_among_51 ?_
      refine q_istore [(7, .int (0 : Int32)), (0, .ref 102), (1, .int y1), (2, .int y2), (3, .ref y3), (4, .int y4), (5, .int y5), (6, .int x)] (by decide) rfl dX12_among_52 ?_
      refine q_iconst (v := (0 : Int32)) (by decide) dX12_among_54 ?_
      refine q_istore [(8, .int (0 : Int32)), (7, .int (0 : Int32)), (0, .ref 102), (1, .int y1), (2, .int y2), (3, .ref y3), (4, .int y4), (5, .int y5), (6, .int x)] (by decide) rfl dX12_among_55 ?_
      refine q_sub [2, 3, 4, 5, 6, 7, 8, 1, 0] rfl ?_
      obtain ⟨r8, e9, h⟩ := q_bind h
      cases h
      exact usX12_among_57 w e9 hQ
    · rw [if_pos c] at h
      refine q_iconst (v := (1 : Int32)) (by decide) dX12_among_47 ?_
      refine q_goto 52 (by decide) dX12_among_48 ?_
      refine q_istore [(7, .int (1 : Int32)), (0, .ref 102), (1, .int y1), (2, .int y2), (3, .ref y3), (4, .int y4), (5, .int y5), (6, .int x)] (by decide) rfl dX12_among_52 ?_
      refine q_iconst (v := (0 : Int32)) (by decide) dX12_among_54 ?_
      refine q_istore [(8, .int (0 : Int32)), (7, .int (1 : Int32)), (0, .ref 102), (1, .int y1), (2, .int y2), (3, .ref y3), (4, .int y4), (5, .int y5), (6, .int x)] (by decide) rfl dX12_among_55 ?_
      refine q_sub [2, 3, 4, 5, 6, 7, 8, 1, 0] rfl ?_
      obtain ⟨r10, e11, h⟩ := q_bind h
      cases h
      exact usX12_among_57 w e11 hQ
  · rw [if_neg c] at h
    refine q_iinc (v := (x + (1 : Int32))) 6 [(6, .int (x + (1 : Int32))), (0, .ref 102), (1, .int y1), (2, .int y2), (3, .ref y3), (4, .int y4), (5, .int y5)] (by decide) rfl (congrArg (fun t => x + t) (by decide)) rfl dX12_among_30 ?_
    refine q_goto 19 (by decide) dX12_among_33 ?_
    refine q_sub [1, 2, 3, 4, 5, 6, 0] rfl ?_
    cases h
    exact hQ
theorem lX12_among_19 {S : QS} {g : QG} {Q : Option Value → QS → Prop}  {y1 : Int32} {y2 : Int32} {y3 : Nat} {y4 : Int32} {y5 : Int32} {r : (Int32) ⊕ (Int32 × Int32)} (w : q_Wire S) (hQ : (Sum.elim (fun r0 : Int32 => Q (some (.int r0)) S) (fun y : Int32 × Int32 => q_L g mX12_among 4 0 0 Q 0 0 6 [(0, .ref 102), (1, .int y1), (2, .int y2), (3, .ref y3), (4, .int y.1), (5, .int y.2)] [] S) r)) : ∀ (c : Nat) (x : Int32), q_it (tX12_among_19 S y1 y2 y3 y4 y5) c x = some r → q_L g mX12_among 4 0 0 Q 0 0 19 [(0, .ref 102), (1, .int y1), (2, .int y2), (3, .ref y3), (4, .int y4), (5, .int y5), (6, .int x)] [] S := by
  intro c
  induction c with
  | zero => intro x  h; cases h
  | succ c ih =>
    intro x  h
    simp only [q_it] at h
    cases hz : tX12_among_19 S y1 y2 y3 y4 y5 x with
    | none => rw [hz] at h; cases h
    | some z =>
      rw [hz] at h
      refine sX12_among_19 w hz ?_
      rcases z with z | y
      · cases h; exact hQ
      · exact ih y  h
theorem usX12_among_19 {S : QS} {g : QG} {Q : Option Value → QS → Prop}  {y1 : Int32} {y2 : Int32} {y3 : Nat} {y4 : Int32} {y5 : Int32} {y6 : Int32} {r : (Int32) ⊕ (Int32 × Int32)} (w : q_Wire S) (h : uX12_among_19 S y1 y2 y3 y4 y5 y6 = some r) (hQ : (Sum.elim (fun r0 : Int32 => Q (some (.int r0)) S) (fun y : Int32 × Int32 => q_L g mX12_among 4 0 0 Q 0 0 6 [(0, .ref 102), (1, .int y1), (2, .int y2), (3, .ref y3), (4, .int y.1), (5, .int y.2)] [] S) r)) : q_L g mX12_among 4 0 0 Q 0 0 19 [(0, .ref 102), (1, .int y1), (2, .int y2), (3, .ref y3), (4, .int y4), (5, .int y5), (6, .int y6)] [] S := by
  obtain ⟨c, hc⟩ := q_run_it h
  exact lX12_among_19 w hQ c y6  hc
set_option maxRecDepth 20000 in
theorem sX12_among_6 {S : QS} {g : QG} {Q : Option Value → QS → Prop}  {y1 : Int32} {y2 : Int32} {y3 : Nat} {x : Int32 × Int32} {z : (Int32) ⊕ (Int32 × Int32)} (w : q_Wire S) (h : tX12_among_6 S y1 y2 y3 x = some z) (hQ : (Sum.elim (fun r0 : Int32 => Q (some (.int r0)) S) (fun y : Int32 × Int32 => q_L g mX12_among 4 0 0 Q 0 0 6 [(0, .ref 102), (1, .int y1), (2, .int y2), (3, .ref y3), (4, .int y.1), (5, .int y.2)] [] S) z)) : q_L g mX12_among 4 0 0 Q 0 0 6 [(0, .ref 102), (1, .int y1), (2, .int y2), (3, .ref y3), (4, .int x.1), (5, .int x.2)] [] S := by
  unfold tX12_among_6 at h
  refine q_iload 5 rfl dX12_among_6 ?_
  refine q_aload_n 3 rfl rfl dX12_among_8 ?_
  obtain ⟨r12, e13, h⟩ := q_bind h
  obtain ⟨js, own, ix, tx, bs, hj, hr, _⟩ := q_isS_of (fJ0_length_str e13)
  refine q_callT (d := 3) (Mc := mJ0_length_8abf5) (kc := 0) (nc := 0) [] okJ0_length_8abf5 hj hr rfl lmX12_121 inJ0_length_8abf5 seJ0_length_8abf5 rfl (Nat.le_of_ble_eq_true rfl) (Nat.le_of_ble_eq_true rfl) (Nat.le_refl _) (Nat.le_refl _) dX12_among_9 (q_L.deep (by decide) (kJ0_length_8abf5 (Q := fun r S' => r = some (.int r12) ∧ S' = S)  e13 ⟨rfl, rfl⟩)) (q_kI ?_)
  refine q_icmp_ge 124 (by decide) dX12_among_12 (fun c => ?_) (fun c => ?_)
  · rw [if_pos c] at h
    refine q_iconst (v := (-1 : Int32)) (by decide) dX12_among_124 ?_
    cases h
    exact q_iret rfl rfl dX12_among_125 hQ
  · rw [if_neg c] at h
    refine q_iload 5 rfl dX12_among_15 ?_
    refine q_istore [(6, .int x.2), (0, .ref 102), (1, .int y1), (2, .int y2), (3, .ref y3), (4, .int x.1), (5, .int x.2)] (by decide) rfl dX12_among_17 ?_
    refine q_sub [1, 2, 3, 4, 5, 6, 0] rfl ?_
    exact usX12_among_19 w h hQ
theorem lX12_among_6 {S : QS} {g : QG} {Q : Option Value → QS → Prop}  {y1 : Int32} {y2 : Int32} {y3 : Nat} {r : Int32} (w : q_Wire S) (hQ : Q (some (.int r)) S) : ∀ (c : Nat) (x : Int32 × Int32), q_it (tX12_among_6 S y1 y2 y3) c x = some r → q_L g mX12_among 4 0 0 Q 0 0 6 [(0, .ref 102), (1, .int y1), (2, .int y2), (3, .ref y3), (4, .int x.1), (5, .int x.2)] [] S := by
  intro c
  induction c with
  | zero => intro x  h; cases h
  | succ c ih =>
    intro x  h
    simp only [q_it] at h
    cases hz : tX12_among_6 S y1 y2 y3 x with
    | none => rw [hz] at h; cases h
    | some z =>
      rw [hz] at h
      refine sX12_among_6 w hz ?_
      rcases z with z | y
      · cases h; exact hQ
      · exact ih y  h
theorem kX12_among_6 {S : QS} {g : QG} {Q : Option Value → QS → Prop}  {y1 : Int32} {y2 : Int32} {y3 : Nat} {y4 : Int32} {y5 : Int32} {r : Int32} (w : q_Wire S) (h : fX12_among_6 S y1 y2 y3 y4 y5 = some r) (hQ : Q (some (.int r)) S) : q_L g mX12_among 4 0 0 Q 0 0 6 [(0, .ref 102), (1, .int y1), (2, .int y2), (3, .ref y3), (4, .int y4), (5, .int y5)] [] S := by
  obtain ⟨c, hc⟩ := q_run_it h
  exact lX12_among_6 w hQ c (y4, y5)  hc
set_option maxRecDepth 20000 in
theorem kX12_among {S : QS} {g : QG} {Q : Option Value → QS → Prop}  {x1 : Int32} {x2 : Int32} {x3 : Nat} {r : Int32} (w : q_Wire S) (h : fX12_among S x1 x2 x3 = some r) (hQ : Q (some (.int r)) S) : q_M g mX12_among 4 0 0 [.ref 102, .int x1, .int x2, .ref x3] S Q := by
  unfold fX12_among at h
  show q_L g mX12_among 4 0 0 Q 0 0 0 [(0, .ref 102), (1, .int x1), (2, .int x2), (3, .ref x3)] [] S
  refine q_iconst (v := (0 : Int32)) (by decide) dX12_among_0 ?_
  refine q_istore [(4, .int (0 : Int32)), (0, .ref 102), (1, .int x1), (2, .int x2), (3, .ref x3)] (by decide) rfl dX12_among_1 ?_
  refine q_iconst (v := (1 : Int32)) (by decide) dX12_among_3 ?_
  refine q_istore [(5, .int (1 : Int32)), (4, .int (0 : Int32)), (0, .ref 102), (1, .int x1), (2, .int x2), (3, .ref x3)] (by decide) rfl dX12_among_4 ?_
  refine q_sub [2, 3, 4, 5, 1, 0] rfl ?_
  exact kX12_among_6 w h hQ
set_option maxRecDepth 20000 in
theorem usX12_isName_82 {S : QS} {g : QG} {Q : Option Value → QS → Prop}  {y2 : Int32} {y5 : Int32} {y6 : Int32} {z : (Bool) ⊕ (Int32)} (w : q_Wire S) (h : uX12_isName_82 S y2 y5 y6 = some z) (hQ : (Sum.elim (fun r0 : Bool => Q (some (.int (q_b r0))) S) (fun y : Int32 => q_L g mX12_isName 0 0 0 Q 0 0 39 [(0, .ref 102), (2, .int y2), (5, .int y)] [] S) z)) : q_L g mX12_isName 0 0 0 Q 0 0 82 [(0, .ref 102), (2, .int y2), (5, .int y5), (6, .int y6)] [] S := by
  unfold uX12_isName_82 at h
  refine q_iload 3 rfl dX12_isName_82 ?_
  refine q_bipush (v := (48 : Int32)) (by decide) dX12_isName_84 ?_
  refine q_icmp_lt 96 (by decide) dX12_isName_86 (fun c => ?_) (fun c => ?_)
  · rw [if_pos c] at h
    refine q_iload 3 rfl dX12_isName_96 ?_
    refine q_bipush (v := (95 : Int32)) (by decide) dX12_isName_98 ?_
    refine q_icmp_eq 105 (by decide) dX12_isName_100 (fun c => ?_) (fun c => ?_)
    · rw [if_pos c] at h
      refine q_iinc (v := (y5 + (1 : Int32))) 2 [(5, .int (y5 + (1 : Int32))), (0, .ref 102), (2, .int y2), (6, .int y6)] (by decide) rfl (congrArg (fun t => y5 + t) (by decide)) rfl dX12_isName_105 ?_
      refine q_goto 39 (by decide) dX12_isName_108 ?_
      refine q_sub [1, 2, 0] rfl ?_
      cases h
      exact hQ
    · rw [if_neg c] at h
      refine q_iconst (v := (0 : Int32)) (by decide) dX12_isName_103 ?_
      cases h
      exact q_iret rfl (by decide) dX12_isName_104 hQ
  · rw [if_neg c] at h
    refine q_iload 3 rfl dX12_isName_89 ?_
    refine q_bipush (v := (57 : Int32)) (by decide) dX12_isName_91 ?_
    refine q_icmp_le 105 (by decide) dX12_isName_93 (fun c => ?_) (fun c => ?_)
    · rw [if_pos c] at h
      refine q_iinc (v := (y5 + (1 : Int32))) 2 [(5, .int (y5 + (1 : Int32))), (0, .ref 102), (2, .int y2), (6, .int y6)] (by decide) rfl (congrArg (fun t => y5 + t) (by decide)) rfl dX12_isName_105 ?_
      refine q_goto 39 (by decide) dX12_isName_108 ?_
      refine q_sub [1, 2, 0] rfl ?_
      cases h
      exact hQ
    · rw [if_neg c] at h
      refine q_iload 3 rfl dX12_isName_96 ?_
      refine q_bipush (v := (95 : Int32)) (by decide) dX12_isName_98 ?_
      refine q_icmp_eq 105 (by decide) dX12_isName_100 (fun c => ?_) (fun c => ?_)
      · rw [if_pos c] at h
        refine q_iinc (v := (y5 + (1 : Int32))) 2 [(5, .int (y5 + (1 : Int32))), (0, .ref 102), (2, .int y2), (6, .int y6)] (by decide) rfl (congrArg (fun t => y5 + t) (by decide)) rfl dX12_isName_105 ?_
        refine q_goto 39 (by decide) dX12_isName_108 ?_
        refine q_sub [1, 2, 0] rfl ?_
        cases h
        exact hQ
      · rw [if_neg c] at h
        refine q_iconst (v := (0 : Int32)) (by decide) dX12_isName_103 ?_
        cases h
        exact q_iret rfl (by decide) dX12_isName_104 hQ
set_option maxRecDepth 20000 in
theorem usX12_isName_68 {S : QS} {g : QG} {Q : Option Value → QS → Prop}  {y2 : Int32} {y5 : Int32} {y6 : Int32} {z : (Bool) ⊕ (Int32)} (w : q_Wire S) (h : uX12_isName_68 S y2 y5 y6 = some z) (hQ : (Sum.elim (fun r0 : Bool => Q (some (.int (q_b r0))) S) (fun y : Int32 => q_L g mX12_isName 0 0 0 Q 0 0 39 [(0, .ref 102), (2, .int y2), (5, .int y)] [] S) z)) : q_L g mX12_isName 0 0 0 Q 0 0 68 [(0, .ref 102), (2, .int y2), (5, .int y5), (6, .int y6)] [] S := by
  unfold uX12_isName_68 at h
  refine q_iload 3 rfl dX12_isName_68 ?_
  refine q_bipush (v := (65 : Int32)) (by decide) dX12_isName_70 ?_
  refine q_icmp_lt 82 (by decide) dX12_isName_72 (fun c => ?_) (fun c => ?_)
  · rw [if_pos c] at h
    refine q_sub [0, 1, 2, 3] rfl ?_
    exact usX12_isName_82 w h hQ
  · rw [if_neg c] at h
    refine q_iload 3 rfl dX12_isName_75 ?_
    refine q_bipush (v := (90 : Int32)) (by decide) dX12_isName_77 ?_
    refine q_icmp_le 105 (by decide) dX12_isName_79 (fun c => ?_) (fun c => ?_)
    · rw [if_pos c] at h
      refine q_iinc (v := (y5 + (1 : Int32))) 2 [(5, .int (y5 + (1 : Int32))), (0, .ref 102), (2, .int y2), (6, .int y6)] (by decide) rfl (congrArg (fun t => y5 + t) (by decide)) rfl dX12_isName_105 ?_
      refine q_goto 39 (by decide) dX12_isName_108 ?_
      refine q_sub [1, 2, 0] rfl ?_
      cases h
      exact hQ
    · rw [if_neg c] at h
      refine q_sub [0, 1, 2, 3] rfl ?_
      exact usX12_isName_82 w h hQ
set_option maxRecDepth 20000 in
theorem sX12_isName_39 {S : QS} {g : QG} {Q : Option Value → QS → Prop}  {y2 : Int32} {x : Int32} {z : (Bool) ⊕ (Int32)} (w : q_Wire S) (h : tX12_isName_39 S y2 x = some z) (hQ : (Sum.elim (fun r0 : Bool => Q (some (.int (q_b r0))) S) (fun y : Int32 => q_L g mX12_isName 0 0 0 Q 0 0 39 [(0, .ref 102), (2, .int y2), (5, .int y)] [] S) z)) : q_L g mX12_isName 0 0 0 Q 0 0 39 [(0, .ref 102), (2, .int y2), (5, .int x)] [] S := by
  unfold tX12_isName_39 at h
  refine q_iload 2 rfl dX12_isName_39 ?_
  refine q_iload_n 1 rfl rfl dX12_isName_41 ?_
  refine q_icmp_ge 111 (by decide) dX12_isName_42 (fun c => ?_) (fun c => ?_)
  · rw [if_pos c] at h
    refine q_iconst (v := (1 : Int32)) (by decide) dX12_isName_111 ?_
    cases h
    exact q_iret rfl (by decide) dX12_isName_112 hQ
  · rw [if_neg c] at h
    refine q_aload_n 0 rfl rfl dX12_isName_45 ?_
    refine q_getR (q_sh102 w) (by decide) (by decide) rfl lfX12_23 dX12_isName_46 (r := 160) (q_wr102_6 w) ?_
    refine q_iload 2 rfl dX12_isName_49 ?_
    obtain ⟨hg1, h⟩ := q_guard h
    refine q_bald (q_sh160 w) (q_inb_in hg1) dX12_isName_51 ?_
    refine q_istore [(6, .int (S.2.1 160 x.toNatClampNeg)), (0, .ref 102), (2, .int y2), (5, .int x)] (by decide) rfl dX12_isName_52 ?_
    refine q_iload 0 rfl dX12_isName_54 ?_
    refine q_bipush (v := (97 : Int32)) (by decide) dX12_isName_56 ?_
    refine q_icmp_lt 68 (by decide) dX12_isName_58 (fun c => ?_) (fun c => ?_)
    · rw [if_pos c] at h
      refine q_sub [1, 2, 3, 0] rfl ?_
      exact usX12_isName_68 w h hQ
    · rw [if_neg c] at h
      refine q_iload 0 rfl dX12_isName_61 ?_
      refine q_bipush (v := (122 : Int32)) (by decide) dX12_isName_63 ?_
      refine q_icmp_le 105 (by decide) dX12_isName_65 (fun c => ?_) (fun c => ?_)
      · rw [if_pos c] at h
        refine q_iinc (v := (x + (1 : Int32))) 3 [(5, .int (x + (1 : Int32))), (6, .int (S.2.1 160 x.toNatClampNeg)), (0, .ref 102), (2, .int y2)] (by decide) rfl (congrArg (fun t => x + t) (by decide)) rfl dX12_isName_105 ?_
        refine q_goto 39 (by decide) dX12_isName_108 ?_
        refine q_sub [2, 3, 0] rfl ?_
        cases h
        exact hQ
      · rw [if_neg c] at h
        refine q_sub [1, 2, 3, 0] rfl ?_
        exact usX12_isName_68 w h hQ
theorem lX12_isName_39 {S : QS} {g : QG} {Q : Option Value → QS → Prop}  {y2 : Int32} {r : Bool} (w : q_Wire S) (hQ : Q (some (.int (q_b r))) S) : ∀ (c : Nat) (x : Int32), q_it (tX12_isName_39 S y2) c x = some r → q_L g mX12_isName 0 0 0 Q 0 0 39 [(0, .ref 102), (2, .int y2), (5, .int x)] [] S := by
  intro c
  induction c with
  | zero => intro x  h; cases h
  | succ c ih =>
    intro x  h
    simp only [q_it] at h
    cases hz : tX12_isName_39 S y2 x with
    | none => rw [hz] at h; cases h
    | some z =>
      rw [hz] at h
      refine sX12_isName_39 w hz ?_
      rcases z with z | y
      · cases h; exact hQ
      · exact ih y  h
theorem kX12_isName_39 {S : QS} {g : QG} {Q : Option Value → QS → Prop}  {y2 : Int32} {y5 : Int32} {r : Bool} (w : q_Wire S) (h : fX12_isName_39 S y2 y5 = some r) (hQ : Q (some (.int (q_b r))) S) : q_L g mX12_isName 0 0 0 Q 0 0 39 [(0, .ref 102), (2, .int y2), (5, .int y5)] [] S := by
  obtain ⟨c, hc⟩ := q_run_it h
  exact lX12_isName_39 w hQ c y5  hc
set_option maxRecDepth 20000 in
theorem kX12_isName {S : QS} {g : QG} {Q : Option Value → QS → Prop}  {x1 : Int32} {x2 : Int32} {x3 : Int32} {x4 : Int32} {r : Bool} (w : q_Wire S) (h : fX12_isName S x1 x2 x3 x4 = some r) (hQ : Q (some (.int (q_b r))) S) : q_M g mX12_isName 0 0 0 [.ref 102, .int x1, .int x2, .int x3, .int x4] S Q := by
  unfold fX12_isName at h
  show q_L g mX12_isName 0 0 0 Q 0 0 0 [(0, .ref 102), (1, .int x1), (2, .int x2), (3, .int x3), (4, .int x4)] [] S
  refine q_iload_n 1 rfl rfl dX12_isName_0 ?_
  refine q_iload_n 2 rfl rfl dX12_isName_1 ?_
  refine q_icmp_ge 34 (by decide) dX12_isName_2 (fun c => ?_) (fun c => ?_)
  · rw [if_pos c] at h
    refine q_iconst (v := (0 : Int32)) (by decide) dX12_isName_34 ?_
    obtain rfl := Option.some.inj h
    exact q_iret rfl (by decide) dX12_isName_35 hQ
  · rw [if_neg c] at h
    refine q_iload_n 2 rfl rfl dX12_isName_5 ?_
    refine q_iload_n 1 rfl rfl dX12_isName_6 ?_
    refine q_isub dX12_isName_7 ?_
    refine q_bipush (v := (24 : Int32)) (by decide) dX12_isName_8 ?_
    refine q_icmp_gt 34 (by decide) dX12_isName_10 (fun c => ?_) (fun c => ?_)
    · rw [if_pos c] at h
      refine q_iconst (v := (0 : Int32)) (by decide) dX12_isName_34 ?_
      obtain rfl := Option.some.inj h
      exact q_iret rfl (by decide) dX12_isName_35 hQ
    · rw [if_neg c] at h
      refine q_aload_n 0 rfl rfl dX12_isName_13 ?_
      refine q_getR (q_sh102 w) (by decide) (by decide) rfl lfX12_23 dX12_isName_14 (r := 160) (q_wr102_6 w) ?_
      refine q_iload_n 1 rfl rfl dX12_isName_17 ?_
      obtain ⟨hg2, h⟩ := q_guard h
      refine q_bald (q_sh160 w) (q_inb_in hg2) dX12_isName_18 ?_
      refine q_iload_n 3 rfl rfl dX12_isName_19 ?_
      refine q_icmp_lt 34 (by decide) dX12_isName_20 (fun c => ?_) (fun c => ?_)
      · rw [if_pos c] at h
        refine q_iconst (v := (0 : Int32)) (by decide) dX12_isName_34 ?_
        obtain rfl := Option.some.inj h
        exact q_iret rfl (by decide) dX12_isName_35 hQ
      · rw [if_neg c] at h
        refine q_aload_n 0 rfl rfl dX12_isName_23 ?_
        refine q_getR (q_sh102 w) (by decide) (by decide) rfl lfX12_23 dX12_isName_24 (r := 160) (q_wr102_6 w) ?_
        refine q_iload_n 1 rfl rfl dX12_isName_27 ?_
        obtain ⟨hg3, h⟩ := q_guard h
        refine q_bald (q_sh160 w) (q_inb_in hg3) dX12_isName_28 ?_
        refine q_iload 4 rfl dX12_isName_29 ?_
        refine q_icmp_le 36 (by decide) dX12_isName_31 (fun c => ?_) (fun c => ?_)
        · rw [if_pos c] at h
          refine q_iload_n 1 rfl rfl dX12_isName_36 ?_
          refine q_istore [(5, .int x1), (0, .ref 102), (1, .int x1), (2, .int x2), (3, .int x3), (4, .int x4)] (by decide) rfl dX12_isName_37 ?_
          refine q_sub [1, 3, 0] rfl ?_
          exact kX12_isName_39 w h hQ
        · rw [if_neg c] at h
          refine q_iconst (v := (0 : Int32)) (by decide) dX12_isName_34 ?_
          obtain rfl := Option.some.inj h
          exact q_iret rfl (by decide) dX12_isName_35 hQ
set_option maxRecDepth 20000 in
theorem kX12_isSmallName {S : QS} {g : QG} {Q : Option Value → QS → Prop}  {x1 : Int32} {r : Bool} (w : q_Wire S) (h : fX12_isSmallName S x1 = some r) (hQ : Q (some (.int (q_b r))) S) : q_M g mX12_isSmallName 1 0 0 [.ref 102, .int x1] S Q := by
  unfold fX12_isSmallName at h
  show q_L g mX12_isSmallName 1 0 0 Q 0 0 0 [(0, .ref 102), (1, .int x1)] [] S
  refine q_iload_n 1 rfl rfl dX12_isSmallName_0 ?_
  refine q_aload_n 0 rfl rfl dX12_isSmallName_1 ?_
  refine q_getI (q_sh102 w) (by decide) (by decide) rfl lfX12_118 dX12_isSmallName_2 ?_
  refine q_icmp_ge 35 (by decide) dX12_isSmallName_5 (fun c => ?_) (fun c => ?_)
  · rw [if_pos c] at h
    refine q_iconst (v := (0 : Int32)) (by decide) dX12_isSmallName_35 ?_
    obtain rfl := Option.some.inj h
    exact q_iret rfl (by decide) dX12_isSmallName_36 hQ
  · rw [if_neg c] at h
    refine q_aload_n 0 rfl rfl dX12_isSmallName_8 ?_
    refine q_aload_n 0 rfl rfl dX12_isSmallName_9 ?_
    refine q_getR (q_sh102 w) (by decide) (by decide) rfl lfX12_26 dX12_isSmallName_10 (r := 161) (q_wr102_8 w) ?_
    refine q_iload_n 1 rfl rfl dX12_isSmallName_13 ?_
    obtain ⟨hg1, h⟩ := q_guard h
    refine q_iald (q_sh161 w) (q_inb_in hg1) dX12_isSmallName_14 ?_
    refine q_aload_n 0 rfl rfl dX12_isSmallName_15 ?_
    refine q_getR (q_sh102 w) (by decide) (by decide) rfl lfX12_30 dX12_isSmallName_16 (r := 162) (q_wr102_9 w) ?_
    refine q_iload_n 1 rfl rfl dX12_isSmallName_19 ?_
    obtain ⟨hg2, h⟩ := q_guard h
    refine q_iald (q_sh162 w) (q_inb_in hg2) dX12_isSmallName_20 ?_
    refine q_bipush (v := (97 : Int32)) (by decide) dX12_isSmallName_21 ?_
    refine q_bipush (v := (122 : Int32)) (by decide) dX12_isSmallName_23 ?_
    obtain ⟨r3, e4, h⟩ := q_bind h
    refine q_callV (ci := 12) (d := 0) (Mc := mX12_isName) (kc := 0) (nc := 0) [.int (S.2.1 161 x1.toNatClampNeg), .int (S.2.1 162 x1.toNatClampNeg), .int (97 : Int32), .int (122 : Int32)] okX12_isName (q_sh102 w) (by decide) rfl lmX12_135 inX12_isName seX12_isName rfl (Nat.le_of_ble_eq_true rfl) (Nat.le_of_ble_eq_true rfl) (Nat.le_refl _) (Nat.le_refl _) dX12_isSmallName_25 (q_L.deep (by decide) (kX12_isName (Q := fun r S' => r = some (.int (q_b r3)) ∧ S' = S) w e4 ⟨rfl, rfl⟩)) (q_kI ?_)
    refine q_if_eq 35 (by decide) dX12_isSmallName_28 (fun c => ?_) (fun c => ?_)
    · have c := q_b_0.mp c; rw [q_if0 c] at h
      refine q_iconst (v := (0 : Int32)) (by decide) dX12_isSmallName_35 ?_
      obtain rfl := Option.some.inj h
      exact q_iret rfl (by decide) dX12_isSmallName_36 hQ
    · have c := q_b_n.mp c; rw [q_if1 c] at h
      refine q_iconst (v := (1 : Int32)) (by decide) dX12_isSmallName_31 ?_
      refine q_goto 36 (by decide) dX12_isSmallName_32 ?_
      obtain rfl := Option.some.inj h
      exact q_iret rfl (by decide) dX12_isSmallName_36 hQ
set_option maxRecDepth 20000 in
theorem kX12_isClassName {S : QS} {g : QG} {Q : Option Value → QS → Prop}  {x1 : Int32} {r : Bool} (w : q_Wire S) (h : fX12_isClassName S x1 = some r) (hQ : Q (some (.int (q_b r))) S) : q_M g mX12_isClassName 1 0 0 [.ref 102, .int x1] S Q := by
  unfold fX12_isClassName at h
  show q_L g mX12_isClassName 1 0 0 Q 0 0 0 [(0, .ref 102), (1, .int x1)] [] S
  refine q_iload_n 1 rfl rfl dX12_isClassName_0 ?_
  refine q_aload_n 0 rfl rfl dX12_isClassName_1 ?_
  refine q_getI (q_sh102 w) (by decide) (by decide) rfl lfX12_118 dX12_isClassName_2 ?_
  refine q_icmp_ge 35 (by decide) dX12_isClassName_5 (fun c => ?_) (fun c => ?_)
  · rw [if_pos c] at h
    refine q_iconst (v := (0 : Int32)) (by decide) dX12_isClassName_35 ?_
    obtain rfl := Option.some.inj h
    exact q_iret rfl (by decide) dX12_isClassName_36 hQ
  · rw [if_neg c] at h
    refine q_aload_n 0 rfl rfl dX12_isClassName_8 ?_
    refine q_aload_n 0 rfl rfl dX12_isClassName_9 ?_
    refine q_getR (q_sh102 w) (by decide) (by decide) rfl lfX12_26 dX12_isClassName_10 (r := 161) (q_wr102_8 w) ?_
    refine q_iload_n 1 rfl rfl dX12_isClassName_13 ?_
    obtain ⟨hg1, h⟩ := q_guard h
    refine q_iald (q_sh161 w) (q_inb_in hg1) dX12_isClassName_14 ?_
    refine q_aload_n 0 rfl rfl dX12_isClassName_15 ?_
    refine q_getR (q_sh102 w) (by decide) (by decide) rfl lfX12_30 dX12_isClassName_16 (r := 162) (q_wr102_9 w) ?_
    refine q_iload_n 1 rfl rfl dX12_isClassName_19 ?_
    obtain ⟨hg2, h⟩ := q_guard h
    refine q_iald (q_sh162 w) (q_inb_in hg2) dX12_isClassName_20 ?_
    refine q_bipush (v := (65 : Int32)) (by decide) dX12_isClassName_21 ?_
    refine q_bipush (v := (90 : Int32)) (by decide) dX12_isClassName_23 ?_
    obtain ⟨r3, e4, h⟩ := q_bind h
    refine q_callV (ci := 12) (d := 0) (Mc := mX12_isName) (kc := 0) (nc := 0) [.int (S.2.1 161 x1.toNatClampNeg), .int (S.2.1 162 x1.toNatClampNeg), .int (65 : Int32), .int (90 : Int32)] okX12_isName (q_sh102 w) (by decide) rfl lmX12_135 inX12_isName seX12_isName rfl (Nat.le_of_ble_eq_true rfl) (Nat.le_of_ble_eq_true rfl) (Nat.le_refl _) (Nat.le_refl _) dX12_isClassName_25 (q_L.deep (by decide) (kX12_isName (Q := fun r S' => r = some (.int (q_b r3)) ∧ S' = S) w e4 ⟨rfl, rfl⟩)) (q_kI ?_)
    refine q_if_eq 35 (by decide) dX12_isClassName_28 (fun c => ?_) (fun c => ?_)
    · have c := q_b_0.mp c; rw [q_if0 c] at h
      refine q_iconst (v := (0 : Int32)) (by decide) dX12_isClassName_35 ?_
      obtain rfl := Option.some.inj h
      exact q_iret rfl (by decide) dX12_isClassName_36 hQ
    · have c := q_b_n.mp c; rw [q_if1 c] at h
      refine q_iconst (v := (1 : Int32)) (by decide) dX12_isClassName_31 ?_
      refine q_goto 36 (by decide) dX12_isClassName_32 ?_
      obtain rfl := Option.some.inj h
      exact q_iret rfl (by decide) dX12_isClassName_36 hQ
set_option maxRecDepth 20000 in
theorem kX12_isArray {S : QS} {g : QG} {Q : Option Value → QS → Prop}  {x1 : Int32} {r : Bool} (w : q_Wire S) (h : fX12_isArray S x1 = some r) (hQ : Q (some (.int (q_b r))) S) : q_M g mX12_isArray 0 0 0 [.ref 102, .int x1] S Q := by
  unfold fX12_isArray at h
  show q_L g mX12_isArray 0 0 0 Q 0 0 0 [(0, .ref 102), (1, .int x1)] [] S
  refine q_aload_n 0 rfl rfl dX12_isArray_0 ?_
  refine q_getR (q_sh102 w) (by decide) (by decide) rfl lfX12_30 dX12_isArray_1 (r := 162) (q_wr102_9 w) ?_
  refine q_iload_n 1 rfl rfl dX12_isArray_4 ?_
  obtain ⟨hg1, h⟩ := q_guard h
  refine q_iald (q_sh162 w) (q_inb_in hg1) dX12_isArray_5 ?_
  refine q_aload_n 0 rfl rfl dX12_isArray_6 ?_
  refine q_getR (q_sh102 w) (by decide) (by decide) rfl lfX12_26 dX12_isArray_7 (r := 161) (q_wr102_8 w) ?_
  refine q_iload_n 1 rfl rfl dX12_isArray_10 ?_
  obtain ⟨hg2, h⟩ := q_guard h
  refine q_iald (q_sh161 w) (q_inb_in hg2) dX12_isArray_11 ?_
  refine q_isub dX12_isArray_12 ?_
  refine q_iconst (v := (2 : Int32)) (by decide) dX12_isArray_13 ?_
  refine q_icmp_le 57 (by decide) dX12_isArray_14 (fun c => ?_) (fun c => ?_)
  · rw [if_pos c] at h
    refine q_iconst (v := (0 : Int32)) (by decide) dX12_isArray_57 ?_
    obtain rfl := Option.some.inj h
    exact q_iret rfl (by decide) dX12_isArray_58 hQ
  · rw [if_neg c] at h
    refine q_aload_n 0 rfl rfl dX12_isArray_17 ?_
    refine q_getR (q_sh102 w) (by decide) (by decide) rfl lfX12_23 dX12_isArray_18 (r := 160) (q_wr102_6 w) ?_
    refine q_aload_n 0 rfl rfl dX12_isArray_21 ?_
    refine q_getR (q_sh102 w) (by decide) (by decide) rfl lfX12_30 dX12_isArray_22 (r := 162) (q_wr102_9 w) ?_
    refine q_iload_n 1 rfl rfl dX12_isArray_25 ?_
    obtain ⟨hg3, h⟩ := q_guard h
    refine q_iald (q_sh162 w) (q_inb_in hg3) dX12_isArray_26 ?_
    refine q_iconst (v := (2 : Int32)) (by decide) dX12_isArray_27 ?_
    refine q_isub dX12_isArray_28 ?_
    obtain ⟨hg4, h⟩ := q_guard h
    refine q_bald (q_sh160 w) (q_inb_in hg4) dX12_isArray_29 ?_
    refine q_bipush (v := (91 : Int32)) (by decide) dX12_isArray_30 ?_
    refine q_icmp_ne 57 (by decide) dX12_isArray_32 (fun c => ?_) (fun c => ?_)
    · rw [if_neg c] at h
      refine q_iconst (v := (0 : Int32)) (by decide) dX12_isArray_57 ?_
      obtain rfl := Option.some.inj h
      exact q_iret rfl (by decide) dX12_isArray_58 hQ
    · rw [if_pos c] at h
      refine q_aload_n 0 rfl rfl dX12_isArray_35 ?_
      refine q_getR (q_sh102 w) (by decide) (by decide) rfl lfX12_23 dX12_isArray_36 (r := 160) (q_wr102_6 w) ?_
      refine q_aload_n 0 rfl rfl dX12_isArray_39 ?_
      refine q_getR (q_sh102 w) (by decide) (by decide) rfl lfX12_30 dX12_isArray_40 (r := 162) (q_wr102_9 w) ?_
      refine q_iload_n 1 rfl rfl dX12_isArray_43 ?_
      obtain ⟨hg5, h⟩ := q_guard h
      refine q_iald (q_sh162 w) (q_inb_in hg5) dX12_isArray_44 ?_
      refine q_iconst (v := (1 : Int32)) (by decide) dX12_isArray_45 ?_
      refine q_isub dX12_isArray_46 ?_
      obtain ⟨hg6, h⟩ := q_guard h
      refine q_bald (q_sh160 w) (q_inb_in hg6) dX12_isArray_47 ?_
      refine q_bipush (v := (93 : Int32)) (by decide) dX12_isArray_48 ?_
      refine q_icmp_ne 57 (by decide) dX12_isArray_50 (fun c => ?_) (fun c => ?_)
      · rw [if_neg c] at h
        refine q_iconst (v := (0 : Int32)) (by decide) dX12_isArray_57 ?_
        obtain rfl := Option.some.inj h
        exact q_iret rfl (by decide) dX12_isArray_58 hQ
      · rw [if_pos c] at h
        refine q_iconst (v := (1 : Int32)) (by decide) dX12_isArray_53 ?_
        refine q_goto 58 (by decide) dX12_isArray_54 ?_
        obtain rfl := Option.some.inj h
        exact q_iret rfl (by decide) dX12_isArray_58 hQ
