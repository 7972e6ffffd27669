set_option maxRecDepth 20000 in
theorem kJ6_numberOfLeadingZeros_0f7a4 {S : QS} {g : QG} {Q : Option Value → QS → Prop}  {x0 : Int32} {r : Int32} (w : q_Wire S) (h : fJ6_numberOfLeadingZeros_0f7a4 S x0 = some r) (hQ : Q (some (.int r)) S) : q_M g mJ6_numberOfLeadingZeros_0f7a4 0 0 0 [.int x0] S Q := by
  unfold fJ6_numberOfLeadingZeros_0f7a4 at h
  show q_L g mJ6_numberOfLeadingZeros_0f7a4 0 0 0 Q 0 0 0 [(0, .int x0)] [] S
  refine q_iload_n 0 rfl rfl dJ6_numberOfLeadingZeros_0f7a4_0 ?_
  refine q_if_gt 15 (by decide) dJ6_numberOfLeadingZeros_0f7a4_1 (fun c => ?_) (fun c => ?_)
  · rw [if_pos c] at h
    refine q_bipush (v := (31 : Int32)) (by decide) dJ6_numberOfLeadingZeros_0f7a4_15 ?_
    refine q_istore_n [(1, .int (31 : Int32)), (0, .int x0)] rfl (by decide) rfl dJ6_numberOfLeadingZeros_0f7a4_17 ?_
    refine q_iload_n 1 rfl rfl dJ6_numberOfLeadingZeros_0f7a4_18 ?_
    refine q_ldcw lkJ6_264 dJ6_numberOfLeadingZeros_0f7a4_19 ?_
    obtain ⟨v1, hv, h⟩ := q_bind h
    have K1 : q_L g mJ6_numberOfLeadingZeros_0f7a4 0 0 0 Q 0 0 33 [(0, .int v1.1), (1, .int v1.2)] [] S := by
      refine q_iload_n 0 rfl rfl dJ6_numberOfLeadingZeros_0f7a4_33 ?_
      refine q_sipush (v := (256 : Int32)) (by decide) dJ6_numberOfLeadingZeros_0f7a4_34 ?_
      obtain ⟨v2, hv, h⟩ := q_bind h
      have K2 : q_L g mJ6_numberOfLeadingZeros_0f7a4 0 0 0 Q 0 0 48 [(0, .int v2.1), (1, .int v2.2)] [] S := by
        refine q_iload_n 0 rfl rfl dJ6_numberOfLeadingZeros_0f7a4_48 ?_
        refine q_bipush (v := (16 : Int32)) (by decide) dJ6_numberOfLeadingZeros_0f7a4_49 ?_
        obtain ⟨v3, hv, h⟩ := q_bind h
        have K3 : q_L g mJ6_numberOfLeadingZeros_0f7a4 0 0 0 Q 0 0 61 [(0, .int v3.1), (1, .int v3.2)] [] S := by
          refine q_iload_n 0 rfl rfl dJ6_numberOfLeadingZeros_0f7a4_61 ?_
          refine q_iconst (v := (4 : Int32)) (by decide) dJ6_numberOfLeadingZeros_0f7a4_62 ?_
          obtain ⟨v4, hv, h⟩ := q_bind h
          have K4 : q_L g mJ6_numberOfLeadingZeros_0f7a4 0 0 0 Q 0 0 73 [(0, .int v4.1), (1, .int v4.2)] [] S := by
            refine q_iload_n 1 rfl rfl dJ6_numberOfLeadingZeros_0f7a4_73 ?_
            refine q_iload_n 0 rfl rfl dJ6_numberOfLeadingZeros_0f7a4_74 ?_
            refine q_iconst (v := (1 : Int32)) (by decide) dJ6_numberOfLeadingZeros_0f7a4_75 ?_
            refine q_iushr dJ6_numberOfLeadingZeros_0f7a4_76 ?_
            refine q_isub dJ6_numberOfLeadingZeros_0f7a4_77 ?_
            obtain rfl := Option.some.inj h
            exact q_iret rfl rfl dJ6_numberOfLeadingZeros_0f7a4_78 hQ
          replace h := hv
          refine q_icmp_lt 73 (by decide) dJ6_numberOfLeadingZeros_0f7a4_63 (fun c => ?_) (fun c => ?_)
          · rw [if_pos c] at h
            obtain rfl := Option.some.inj h
            refine q_sub [0, 1] rfl ?_
            exact K4
          · rw [if_neg c] at h
            refine q_iinc (v := (v3.2 + (-2 : Int32))) 1 [(1, .int (v3.2 + (-2 : Int32))), (0, .int v3.1)] (by decide) rfl (congrArg (fun t => v3.2 + t) (by decide)) rfl dJ6_numberOfLeadingZeros_0f7a4_66 ?_
            refine q_iload_n 1 rfl rfl dJ6_numberOfLeadingZeros_0f7a4_69 ?_
            refine q_iconst (v := (2 : Int32)) (by decide) dJ6_numberOfLeadingZeros_0f7a4_70 ?_
            refine q_iushr dJ6_numberOfLeadingZeros_0f7a4_71 ?_
            refine q_istore_n [(0, .int (v3.1.toUInt32 >>> ((2 : Int32).toUInt32 &&& Int32.toUInt32 31)).toInt32), (1, .int (v3.2 + (-2 : Int32)))] rfl (by decide) rfl dJ6_numberOfLeadingZeros_0f7a4_72 ?_
            obtain rfl := Option.some.inj h
            refine q_sub [0, 1] rfl ?_
            exact K4
        replace h := hv
        refine q_icmp_lt 61 (by decide) dJ6_numberOfLeadingZeros_0f7a4_51 (fun c => ?_) (fun c => ?_)
        · rw [if_pos c] at h
          obtain rfl := Option.some.inj h
          refine q_sub [0, 1] rfl ?_
          exact K3
        · rw [if_neg c] at h
          refine q_iinc (v := (v2.2 + (-4 : Int32))) 1 [(1, .int (v2.2 + (-4 : Int32))), (0, .int v2.1)] (by decide) rfl (congrArg (fun t => v2.2 + t) (by decide)) rfl dJ6_numberOfLeadingZeros_0f7a4_54 ?_
          refine q_iload_n 1 rfl rfl dJ6_numberOfLeadingZeros_0f7a4_57 ?_
          refine q_iconst (v := (4 : Int32)) (by decide) dJ6_numberOfLeadingZeros_0f7a4_58 ?_
          refine q_iushr dJ6_numberOfLeadingZeros_0f7a4_59 ?_
          refine q_istore_n [(0, .int (v2.1.toUInt32 >>> ((4 : Int32).toUInt32 &&& Int32.toUInt32 31)).toInt32), (1, .int (v2.2 + (-4 : Int32)))] rfl (by decide) rfl dJ6_numberOfLeadingZeros_0f7a4_60 ?_
          obtain rfl := Option.some.inj h
          refine q_sub [0, 1] rfl ?_
          exact K3
      replace h := hv
      refine q_icmp_lt 48 (by decide) dJ6_numberOfLeadingZeros_0f7a4_37 (fun c => ?_) (fun c => ?_)
      · rw [if_pos c] at h
        obtain rfl := Option.some.inj h
        refine q_sub [0, 1] rfl ?_
        exact K2
      · rw [if_neg c] at h
        refine q_iinc (v := (v1.2 + (-8 : Int32))) 1 [(1, .int (v1.2 + (-8 : Int32))), (0, .int v1.1)] (by decide) rfl (congrArg (fun t => v1.2 + t) (by decide)) rfl dJ6_numberOfLeadingZeros_0f7a4_40 ?_
        refine q_iload_n 1 rfl rfl dJ6_numberOfLeadingZeros_0f7a4_43 ?_
        refine q_bipush (v := (8 : Int32)) (by decide) dJ6_numberOfLeadingZeros_0f7a4_44 ?_
        refine q_iushr dJ6_numberOfLeadingZeros_0f7a4_46 ?_
        refine q_istore_n [(0, .int (v1.1.toUInt32 >>> ((8 : Int32).toUInt32 &&& Int32.toUInt32 31)).toInt32), (1, .int (v1.2 + (-8 : Int32)))] rfl (by decide) rfl dJ6_numberOfLeadingZeros_0f7a4_47 ?_
        obtain rfl := Option.some.inj h
        refine q_sub [0, 1] rfl ?_
        exact K2
    replace h := hv
    refine q_icmp_lt 33 (by decide) dJ6_numberOfLeadingZeros_0f7a4_22 (fun c => ?_) (fun c => ?_)
    · rw [if_pos c] at h
      obtain rfl := Option.some.inj h
      refine q_sub [1, 0] rfl ?_
      exact K1
    · rw [if_neg c] at h
      refine q_iinc (v := ((31 : Int32) + (-16 : Int32))) 0 [(1, .int ((31 : Int32) + (-16 : Int32))), (0, .int x0)] (by decide) rfl (congrArg (fun t => (31 : Int32) + t) (by decide)) rfl dJ6_numberOfLeadingZeros_0f7a4_25 ?_
      refine q_iload_n 1 rfl rfl dJ6_numberOfLeadingZeros_0f7a4_28 ?_
      refine q_bipush (v := (16 : Int32)) (by decide) dJ6_numberOfLeadingZeros_0f7a4_29 ?_
      refine q_iushr dJ6_numberOfLeadingZeros_0f7a4_31 ?_
      refine q_istore_n [(0, .int (x0.toUInt32 >>> ((16 : Int32).toUInt32 &&& Int32.toUInt32 31)).toInt32), (1, .int ((31 : Int32) + (-16 : Int32)))] rfl (by decide) rfl dJ6_numberOfLeadingZeros_0f7a4_32 ?_
      obtain rfl := Option.some.inj h
      refine q_sub [0, 1] rfl ?_
      exact K1
  · rw [if_neg c] at h
    refine q_iload_n 0 rfl rfl dJ6_numberOfLeadingZeros_0f7a4_4 ?_
    refine q_if_ne 13 (by decide) dJ6_numberOfLeadingZeros_0f7a4_5 (fun c => ?_) (fun c => ?_)
    · rw [if_neg c] at h
      refine q_iconst (v := (0 : Int32)) (by decide) dJ6_numberOfLeadingZeros_0f7a4_13 ?_
      obtain rfl := Option.some.inj h
      exact q_iret rfl rfl dJ6_numberOfLeadingZeros_0f7a4_14 hQ
    · rw [if_pos c] at h
      refine q_bipush (v := (32 : Int32)) (by decide) dJ6_numberOfLeadingZeros_0f7a4_8 ?_
      refine q_goto 14 (by decide) dJ6_numberOfLeadingZeros_0f7a4_10 ?_
      obtain rfl := Option.some.inj h
      exact q_iret rfl rfl dJ6_numberOfLeadingZeros_0f7a4_14 hQ
set_option maxRecDepth 20000 in
theorem kJ6_numberOfTrailingZeros_0f7a4 {S : QS} {g : QG} {Q : Option Value → QS → Prop}  {x0 : Int32} {r : Int32} (w : q_Wire S) (h : fJ6_numberOfTrailingZeros_0f7a4 S x0 = some r) (hQ : Q (some (.int r)) S) : q_M g mJ6_numberOfTrailingZeros_0f7a4 0 0 0 [.int x0] S Q := by
  unfold fJ6_numberOfTrailingZeros_0f7a4 at h
  show q_L g mJ6_numberOfTrailingZeros_0f7a4 0 0 0 Q 0 0 0 [(0, .int x0)] [] S
  refine q_iload_n 0 rfl rfl dJ6_numberOfTrailingZeros_0f7a4_0 ?_
  refine q_iconst (v := (-1 : Int32)) (by decide) dJ6_numberOfTrailingZeros_0f7a4_1 ?_
  refine q_ixor dJ6_numberOfTrailingZeros_0f7a4_2 ?_
  refine q_iload_n 0 rfl rfl dJ6_numberOfTrailingZeros_0f7a4_3 ?_
  refine q_iconst (v := (1 : Int32)) (by decide) dJ6_numberOfTrailingZeros_0f7a4_4 ?_
  refine q_isub dJ6_numberOfTrailingZeros_0f7a4_5 ?_
  refine q_iand dJ6_numberOfTrailingZeros_0f7a4_6 ?_
  refine q_istore_n [(0, .int ((x0 ^^^ (-1 : Int32)) &&& (x0 - (1 : Int32))))] rfl (by decide) rfl dJ6_numberOfTrailingZeros_0f7a4_7 ?_
  refine q_iload_n 0 rfl rfl dJ6_numberOfTrailingZeros_0f7a4_8 ?_
  refine q_if_gt 17 (by decide) dJ6_numberOfTrailingZeros_0f7a4_9 (fun c => ?_) (fun c => ?_)
  · rw [if_pos c] at h
    refine q_iconst (v := (1 : Int32)) (by decide) dJ6_numberOfTrailingZeros_0f7a4_17 ?_
    refine q_istore_n [(1, .int (1 : Int32)), (0, .int ((x0 ^^^ (-1 : Int32)) &&& (x0 - (1 : Int32))))] rfl (by decide) rfl dJ6_numberOfTrailingZeros_0f7a4_18 ?_
    refine q_iload_n 1 rfl rfl dJ6_numberOfTrailingZeros_0f7a4_19 ?_
    refine q_ldcw lkJ6_264 dJ6_numberOfTrailingZeros_0f7a4_20 ?_
    obtain ⟨v1, hv, h⟩ := q_bind h
    have K1 : q_L g mJ6_numberOfTrailingZeros_0f7a4 0 0 0 Q 0 0 34 [(0, .int v1.1), (1, .int v1.2)] [] S := by
      refine q_iload_n 0 rfl rfl dJ6_numberOfTrailingZeros_0f7a4_34 ?_
      refine q_sipush (v := (256 : Int32)) (by decide) dJ6_numberOfTrailingZeros_0f7a4_35 ?_
      obtain ⟨v2, hv, h⟩ := q_bind h
      have K2 : q_L g mJ6_numberOfTrailingZeros_0f7a4 0 0 0 Q 0 0 49 [(0, .int v2.1), (1, .int v2.2)] [] S := by
        refine q_iload_n 0 rfl rfl dJ6_numberOfTrailingZeros_0f7a4_49 ?_
        refine q_bipush (v := (16 : Int32)) (by decide) dJ6_numberOfTrailingZeros_0f7a4_50 ?_
        obtain ⟨v3, hv, h⟩ := q_bind h
        have K3 : q_L g mJ6_numberOfTrailingZeros_0f7a4 0 0 0 Q 0 0 62 [(0, .int v3.1), (1, .int v3.2)] [] S := by
          refine q_iload_n 0 rfl rfl dJ6_numberOfTrailingZeros_0f7a4_62 ?_
          refine q_iconst (v := (4 : Int32)) (by decide) dJ6_numberOfTrailingZeros_0f7a4_63 ?_
          obtain ⟨v4, hv, h⟩ := q_bind h
          have K4 : q_L g mJ6_numberOfTrailingZeros_0f7a4 0 0 0 Q 0 0 74 [(0, .int v4.1), (1, .int v4.2)] [] S := by
            refine q_iload_n 1 rfl rfl dJ6_numberOfTrailingZeros_0f7a4_74 ?_
            refine q_iload_n 0 rfl rfl dJ6_numberOfTrailingZeros_0f7a4_75 ?_
            refine q_iconst (v := (1 : Int32)) (by decide) dJ6_numberOfTrailingZeros_0f7a4_76 ?_
            refine q_iushr dJ6_numberOfTrailingZeros_0f7a4_77 ?_
            refine q_iadd dJ6_numberOfTrailingZeros_0f7a4_78 ?_
            obtain rfl := Option.some.inj h
            exact q_iret rfl rfl dJ6_numberOfTrailingZeros_0f7a4_79 hQ
          replace h := hv
          refine q_icmp_le 74 (by decide) dJ6_numberOfTrailingZeros_0f7a4_64 (fun c => ?_) (fun c => ?_)
          · rw [if_pos c] at h
            obtain rfl := Option.some.inj h
            refine q_sub [0, 1] rfl ?_
            exact K4
          · rw [if_neg c] at h
            refine q_iinc (v := (v3.2 + (2 : Int32))) 1 [(1, .int (v3.2 + (2 : Int32))), (0, .int v3.1)] (by decide) rfl (congrArg (fun t => v3.2 + t) (by decide)) rfl dJ6_numberOfTrailingZeros_0f7a4_67 ?_
            refine q_iload_n 1 rfl rfl dJ6_numberOfTrailingZeros_0f7a4_70 ?_
            refine q_iconst (v := (2 : Int32)) (by decide) dJ6_numberOfTrailingZeros_0f7a4_71 ?_
            refine q_iushr dJ6_numberOfTrailingZeros_0f7a4_72 ?_
            refine q_istore_n [(0, .int (v3.1.toUInt32 >>> ((2 : Int32).toUInt32 &&& Int32.toUInt32 31)).toInt32), (1, .int (v3.2 + (2 : Int32)))] rfl (by decide) rfl dJ6_numberOfTrailingZeros_0f7a4_73 ?_
            obtain rfl := Option.some.inj h
            refine q_sub [0, 1] rfl ?_
            exact K4
        replace h := hv
        refine q_icmp_le 62 (by decide) dJ6_numberOfTrailingZeros_0f7a4_52 (fun c => ?_) (fun c => ?_)
        · rw [if_pos c] at h
          obtain rfl := Option.some.inj h
          refine q_sub [0, 1] rfl ?_
          exact K3
        · rw [if_neg c] at h
          refine q_iinc (v := (v2.2 + (4 : Int32))) 1 [(1, .int (v2.2 + (4 : Int32))), (0, .int v2.1)] (by decide) rfl (congrArg (fun t => v2.2 + t) (by decide)) rfl dJ6_numberOfTrailingZeros_0f7a4_55 ?_
          refine q_iload_n 1 rfl rfl dJ6_numberOfTrailingZeros_0f7a4_58 ?_
          refine q_iconst (v := (4 : Int32)) (by decide) dJ6_numberOfTrailingZeros_0f7a4_59 ?_
          refine q_iushr dJ6_numberOfTrailingZeros_0f7a4_60 ?_
          refine q_istore_n [(0, .int (v2.1.toUInt32 >>> ((4 : Int32).toUInt32 &&& Int32.toUInt32 31)).toInt32), (1, .int (v2.2 + (4 : Int32)))] rfl (by decide) rfl dJ6_numberOfTrailingZeros_0f7a4_61 ?_
          obtain rfl := Option.some.inj h
          refine q_sub [0, 1] rfl ?_
          exact K3
      replace h := hv
      refine q_icmp_le 49 (by decide) dJ6_numberOfTrailingZeros_0f7a4_38 (fun c => ?_) (fun c => ?_)
      · rw [if_pos c] at h
        obtain rfl := Option.some.inj h
        refine q_sub [0, 1] rfl ?_
        exact K2
      · rw [if_neg c] at h
        refine q_iinc (v := (v1.2 + (8 : Int32))) 1 [(1, .int (v1.2 + (8 : Int32))), (0, .int v1.1)] (by decide) rfl (congrArg (fun t => v1.2 + t) (by decide)) rfl dJ6_numberOfTrailingZeros_0f7a4_41 ?_
        refine q_iload_n 1 rfl rfl dJ6_numberOfTrailingZeros_0f7a4_44 ?_
        refine q_bipush (v := (8 : Int32)) (by decide) dJ6_numberOfTrailingZeros_0f7a4_45 ?_
        refine q_iushr dJ6_numberOfTrailingZeros_0f7a4_47 ?_
        refine q_istore_n [(0, .int (v1.1.toUInt32 >>> ((8 : Int32).toUInt32 &&& Int32.toUInt32 31)).toInt32), (1, .int (v1.2 + (8 : Int32)))] rfl (by decide) rfl dJ6_numberOfTrailingZeros_0f7a4_48 ?_
        obtain rfl := Option.some.inj h
        refine q_sub [0, 1] rfl ?_
        exact K2
    replace h := hv
    refine q_icmp_le 34 (by decide) dJ6_numberOfTrailingZeros_0f7a4_23 (fun c => ?_) (fun c => ?_)
    · rw [if_pos c] at h
      obtain rfl := Option.some.inj h
      refine q_sub [1, 0] rfl ?_
      exact K1
    · rw [if_neg c] at h
      refine q_iinc (v := ((1 : Int32) + (16 : Int32))) 0 [(1, .int ((1 : Int32) + (16 : Int32))), (0, .int ((x0 ^^^ (-1 : Int32)) &&& (x0 - (1 : Int32))))] (by decide) rfl (congrArg (fun t => (1 : Int32) + t) (by decide)) rfl dJ6_numberOfTrailingZeros_0f7a4_26 ?_
      refine q_iload_n 1 rfl rfl dJ6_numberOfTrailingZeros_0f7a4_29 ?_
      refine q_bipush (v := (16 : Int32)) (by decide) dJ6_numberOfTrailingZeros_0f7a4_30 ?_
      refine q_iushr dJ6_numberOfTrailingZeros_0f7a4_32 ?_
      refine q_istore_n [(0, .int (((x0 ^^^ (-1 : Int32)) &&& (x0 - (1 : Int32))).toUInt32 >>> ((16 : Int32).toUInt32 &&& Int32.toUInt32 31)).toInt32), (1, .int ((1 : Int32) + (16 : Int32)))] rfl (by decide) rfl dJ6_numberOfTrailingZeros_0f7a4_33 ?_
      obtain rfl := Option.some.inj h
      refine q_sub [0, 1] rfl ?_
      exact K1
  · rw [if_neg c] at h
    refine q_iload_n 0 rfl rfl dJ6_numberOfTrailingZeros_0f7a4_12 ?_
    refine q_bipush (v := (32 : Int32)) (by decide) dJ6_numberOfTrailingZeros_0f7a4_13 ?_
    refine q_iand dJ6_numberOfTrailingZeros_0f7a4_15 ?_
    obtain rfl := Option.some.inj h
    exact q_iret rfl rfl dJ6_numberOfTrailingZeros_0f7a4_16 hQ
set_option maxRecDepth 20000 in
theorem kJ6_bitCount_0f7a4 {S : QS} {g : QG} {Q : Option Value → QS → Prop}  {x0 : Int32} {r : Int32} (w : q_Wire S) (h : fJ6_bitCount_0f7a4 S x0 = some r) (hQ : Q (some (.int r)) S) : q_M g mJ6_bitCount_0f7a4 0 0 0 [.int x0] S Q := by
  unfold fJ6_bitCount_0f7a4 at h
  show q_L g mJ6_bitCount_0f7a4 0 0 0 Q 0 0 0 [(0, .int x0)] [] S
  refine q_iload_n 0 rfl rfl dJ6_bitCount_0f7a4_0 ?_
  refine q_iload_n 0 rfl rfl dJ6_bitCount_0f7a4_1 ?_
  refine q_iconst (v := (1 : Int32)) (by decide) dJ6_bitCount_0f7a4_2 ?_
  refine q_iushr dJ6_bitCount_0f7a4_3 ?_
  refine q_ldcw lkJ6_265 dJ6_bitCount_0f7a4_4 ?_
  refine q_iand dJ6_bitCount_0f7a4_7 ?_
  refine q_isub dJ6_bitCount_0f7a4_8 ?_
  refine q_istore_n [(0, .int (x0 - ((x0.toUInt32 >>> ((1 : Int32).toUInt32 &&& Int32.toUInt32 31)).toInt32 &&& (1431655765 : Int32))))] rfl (by decide) rfl dJ6_bitCount_0f7a4_9 ?_
  refine q_iload_n 0 rfl rfl dJ6_bitCount_0f7a4_10 ?_
  refine q_ldcw lkJ6_266 dJ6_bitCount_0f7a4_11 ?_
  refine q_iand dJ6_bitCount_0f7a4_14 ?_
  refine q_iload_n 0 rfl rfl dJ6_bitCount_0f7a4_15 ?_
  refine q_iconst (v := (2 : Int32)) (by decide) dJ6_bitCount_0f7a4_16 ?_
  refine q_iushr dJ6_bitCount_0f7a4_17 ?_
  refine q_ldcw lkJ6_266 dJ6_bitCount_0f7a4_18 ?_
  refine q_iand dJ6_bitCount_0f7a4_21 ?_
  refine q_iadd dJ6_bitCount_0f7a4_22 ?_
  refine q_istore_n [(0, .int (((x0 - ((x0.toUInt32 >>> ((1 : Int32).toUInt32 &&& Int32.toUInt32 31)).toInt32 &&& (1431655765 : Int32))) &&& (858993459 : Int32)) + (((x0 - ((x0.toUInt32 >>> ((1 : Int32).toUInt32 &&& Int32.toUInt32 31)).toInt32 &&& (1431655765 : Int32))).toUInt32 >>> ((2 : Int32).toUInt32 &&& Int32.toUInt32 31)).toInt32 &&& (858993459 : Int32))))] rfl (by decide) rfl dJ6_bitCount_0f7a4_23 ?_
  refine q_iload_n 0 rfl rfl dJ6_bitCount_0f7a4_24 ?_
  refine q_iload_n 0 rfl rfl dJ6_bitCount_0f7a4_25 ?_
  refine q_iconst (v := (4 : Int32)) (by decide) dJ6_bitCount_0f7a4_26 ?_
  refine q_iushr dJ6_bitCount_0f7a4_27 ?_
  refine q_iadd dJ6_bitCount_0f7a4_28 ?_
  refine q_ldcw lkJ6_267 dJ6_bitCount_0f7a4_29 ?_
  refine q_iand dJ6_bitCount_0f7a4_32 ?_
  refine q_istore_n [(0, .int (((((x0 - ((x0.toUInt32 >>> ((1 : Int32).toUInt32 &&& Int32.toUInt32 31)).toInt32 &&& (1431655765 : Int32))) &&& (858993459 : Int32)) + (((x0 - ((x0.toUInt32 >>> ((1 : Int32).toUInt32 &&& Int32.toUInt32 31)).toInt32 &&& (1431655765 : Int32))).toUInt32 >>> ((2 : Int32).toUInt32 &&& Int32.toUInt32 31)).toInt32 &&& (858993459 : Int32))) + ((((x0 - ((x0.toUInt32 >>> ((1 : Int32).toUInt32 &&& Int32.toUInt32 31)).toInt32 &&& (1431655765 : Int32))) &&& (858993459 : Int32)) + (((x0 - ((x0.toUInt32 >>> ((1 : Int32).toUInt32 &&& Int32.toUInt32 31)).toInt32 &&& (1431655765 : Int32))).toUInt32 >>> ((2 : Int32).toUInt32 &&& Int32.toUInt32 31)).toInt32 &&& (858993459 : Int32))).toUInt32 >>> ((4 : Int32).toUInt32 &&& Int32.toUInt32 31)).toInt32) &&& (252645135 : Int32)))] rfl (by decide) rfl dJ6_bitCount_0f7a4_33 ?_
  refine q_iload_n 0 rfl rfl dJ6_bitCount_0f7a4_34 ?_
  refine q_iload_n 0 rfl rfl dJ6_bitCount_0f7a4_35 ?_
  refine q_bipush (v := (8 : Int32)) (by decide) dJ6_bitCount_0f7a4_36 ?_
  refine q_iushr dJ6_bitCount_0f7a4_38 ?_
  refine q_iadd dJ6_bitCount_0f7a4_39 ?_
  refine q_istore_n [(0, .int ((((((x0 - ((x0.toUInt32 >>> ((1 : Int32).toUInt32 &&& Int32.toUInt32 31)).toInt32 &&& (1431655765 : Int32))) &&& (858993459 : Int32)) + (((x0 - ((x0.toUInt32 >>> ((1 : Int32).toUInt32 &&& Int32.toUInt32 31)).toInt32 &&& (1431655765 : Int32))).toUInt32 >>> ((2 : Int32).toUInt32 &&& Int32.toUInt32 31)).toInt32 &&& (858993459 : Int32))) + ((((x0 - ((x0.toUInt32 >>> ((1 : Int32).toUInt32 &&& Int32.toUInt32 31)).toInt32 &&& (1431655765 : Int32))) &&& (858993459 : Int32)) + (((x0 - ((x0.toUInt32 >>> ((1 : Int32).toUInt32 &&& Int32.toUInt32 31)).toInt32 &&& (1431655765 : Int32))).toUInt32 >>> ((2 : Int32).toUInt32 &&& Int32.toUInt32 31)).toInt32 &&& (858993459 : Int32))).toUInt32 >>> ((4 : Int32).toUInt32 &&& Int32.toUInt32 31)).toInt32) &&& (252645135 : Int32)) + ((((((x0 - ((x0.toUInt32 >>> ((1 : Int32).toUInt32 &&& Int32.toUInt32 31)).toInt32 &&& (1431655765 : Int32))) &&& (858993459 : Int32)) + (((x0 - ((x0.toUInt32 >>> ((1 : Int32).toUInt32 &&& Int32.toUInt32 31)).toInt32 &&& (1431655765 : Int32))).toUInt32 >>> ((2 : Int32).toUInt32 &&& Int32.toUInt32 31)).toInt32 &&& (858993459 : Int32))) + ((((x0 - ((x0.toUInt32 >>> ((1 : Int32).toUInt32 &&& Int32.toUInt32 31)).toInt32 &&& (1431655765 : Int32))) &&& (858993459 : Int32)) + (((x0 - ((x0.toUInt32 >>> ((1 : Int32).toUInt32 &&& Int32.toUInt32 31)).toInt32 &&& (1431655765 : Int32))).toUInt32 >>> ((2 : Int32).toUInt32 &&& Int32.toUInt32 31)).toInt32 &&& (858993459 : Int32))).toUInt32 >>> ((4 : Int32).toUInt32 &&& Int32.toUInt32 31)).toInt32) &&& (252645135 : Int32)).toUInt32 >>> ((8 : Int32).toUInt32 &&& Int32.toUInt32 31)).toInt32))] rfl (by decide) rfl dJ6_bitCount_0f7a4_40 ?_
  refine q_iload_n 0 rfl rfl dJ6_bitCount_0f7a4_41 ?_
  refine q_iload_n 0 rfl rfl dJ6_bitCount_0f7a4_42 ?_
  refine q_bipush (v := (16 : Int32)) (by decide) dJ6_bitCount_0f7a4_43 ?_
  refine q_iushr dJ6_bitCount_0f7a4_45 ?_
  refine q_iadd dJ6_bitCount_0f7a4_46 ?_
  refine q_istore_n [(0, .int (((((((x0 - ((x0.toUInt32 >>> ((1 : Int32).toUInt32 &&& Int32.toUInt32 31)).toInt32 &&& (1431655765 : Int32))) &&& (858993459 : Int32)) + (((x0 - ((x0.toUInt32 >>> ((1 : Int32).toUInt32 &&& Int32.toUInt32 31)).toInt32 &&& (1431655765 : Int32))).toUInt32 >>> ((2 : Int32).toUInt32 &&& Int32.toUInt32 31)).toInt32 &&& (858993459 : Int32))) + ((((x0 - ((x0.toUInt32 >>> ((1 : Int32).toUInt32 &&& Int32.toUInt32 31)).toInt32 &&& (1431655765 : Int32))) &&& (858993459 : Int32)) + (((x0 - ((x0.toUInt32 >>> ((1 : Int32).toUInt32 &&& Int32.toUInt32 31)).toInt32 &&& (1431655765 : Int32))).toUInt32 >>> ((2 : Int32).toUInt32 &&& Int32.toUInt32 31)).toInt32 &&& (858993459 : Int32))).toUInt32 >>> ((4 : Int32).toUInt32 &&& Int32.toUInt32 31)).toInt32) &&& (252645135 : Int32)) + ((((((x0 - ((x0.toUInt32 >>> ((1 : Int32).toUInt32 &&& Int32.toUInt32 31)).toInt32 &&& (1431655765 : Int32))) &&& (858993459 : Int32)) + (((x0 - ((x0.toUInt32 >>> ((1 : Int32).toUInt32 &&& Int32.toUInt32 31)).toInt32 &&& (1431655765 : Int32))).toUInt32 >>> ((2 : Int32).toUInt32 &&& Int32.toUInt32 31)).toInt32 &&& (858993459 : Int32))) + ((((x0 - ((x0.toUInt32 >>> ((1 : Int32).toUInt32 &&& Int32.toUInt32 31)).toInt32 &&& (1431655765 : Int32))) &&& (858993459 : Int32)) + (((x0 - ((x0.toUInt32 >>> ((1 : Int32).toUInt32 &&& Int32.toUInt32 31)).toInt32 &&& (1431655765 : Int32))).toUInt32 >>> ((2 : Int32).toUInt32 &&& Int32.toUInt32 31)).toInt32 &&& (858993459 : Int32))).toUInt32 >>> ((4 : Int32).toUInt32 &&& Int32.toUInt32 31)).toInt32) &&& (252645135 : Int32)).toUInt32 >>> ((8 : Int32).toUInt32 &&& Int32.toUInt32 31)).toInt32) + (((((((x0 - ((x0.toUInt32 >>> ((1 : Int32).toUInt32 &&& Int32.toUInt32 31)).toInt32 &&& (1431655765 : Int32))) &&& (858993459 : Int32)) + (((x0 - ((x0.toUInt32 >>> ((1 : Int32).toUInt32 &&& Int32.toUInt32 31)).toInt32 &&& (1431655765 : Int32))).toUInt32 >>> ((2 : Int32).toUInt32 &&& Int32.toUInt32 31)).toInt32 &&& (858993459 : Int32))) + ((((x0 - ((x0.toUInt32 >>> ((1 : Int32).toUInt32 &&& Int32.toUInt32 31)).toInt32 &&& (1431655765 : Int32))) &&& (858993459 : Int32)) + (((x0 - ((x0.toUInt32 >>> ((1 : Int32).toUInt32 &&& Int32.toUInt32 31)).toInt32 &&& (1431655765 : Int32))).toUInt32 >>> ((2 : Int32).toUInt32 &&& Int32.toUInt32 31)).toInt32 &&& (858993459 : Int32))).toUInt32 >>> ((4 : Int32).toUInt32 &&& Int32.toUInt32 31)).toInt32) &&& (252645135 : Int32)) + ((((((x0 - ((x0.toUInt32 >>> ((1 : Int32).toUInt32 &&& Int32.toUInt32 31)).toInt32 &&& (1431655765 : Int32))) &&& (858993459 : Int32)) + (((x0 - ((x0.toUInt32 >>> ((1 : Int32).toUInt32 &&& Int32.toUInt32 31)).toInt32 &&& (1431655765 : Int32))).toUInt32 >>> ((2 : Int32).toUInt32 &&& Int32.toUInt32 31)).toInt32 &&& (858993459 : Int32))) + ((((x0 - ((x0.toUInt32 >>> ((1 : Int32).toUInt32 &&& Int32.toUInt32 31)).toInt32 &&& (1431655765 : Int32))) &&& (858993459 : Int32)) + (((x0 - ((x0.toUInt32 >>> ((1 : Int32).toUInt32 &&& Int32.toUInt32 31)).toInt32 &&& (1431655765 : Int32))).toUInt32 >>> ((2 : Int32).toUInt32 &&& Int32.toUInt32 31)).toInt32 &&& (858993459 : Int32))).toUInt32 >>> ((4 : Int32).toUInt32 &&& Int32.toUInt32 31)).toInt32) &&& (252645135 : Int32)).toUInt32 >>> ((8 : Int32).toUInt32 &&& Int32.toUInt32 31)).toInt32).toUInt32 >>> ((16 : Int32).toUInt32 &&& Int32.toUInt32 31)).toInt32))] rfl (by decide) rfl dJ6_bitCount_0f7a4_47 ?_
  refine q_iload_n 0 rfl rfl dJ6_bitCount_0f7a4_48 ?_
  refine q_bipush (v := (63 : Int32)) (by decide) dJ6_bitCount_0f7a4_49 ?_
  refine q_iand dJ6_bitCount_0f7a4_51 ?_
  obtain rfl := Option.some.inj h
  exact q_iret rfl rfl dJ6_bitCount_0f7a4_52 hQ
set_option maxRecDepth 20000 in
theorem kJ7_rangeCheck_23922 {S : QS} {g : QG} {Q : Option Value → QS → Prop}  {x0 : Int32} {x1 : Int32} {x2 : Int32} {r : Unit} (w : q_Wire S) (h : fJ7_rangeCheck_23922 S x0 x1 x2 = some r) (hQ : Q (none) S) : q_M g mJ7_rangeCheck_23922 0 0 0 [.int x0, .int x1, .int x2] S Q := by
  unfold fJ7_rangeCheck_23922 at h
  show q_L g mJ7_rangeCheck_23922 0 0 0 Q 0 0 0 [(0, .int x0), (1, .int x1), (2, .int x2)] [] S
  refine q_iload_n 1 rfl rfl dJ7_rangeCheck_23922_0 ?_
  refine q_iload_n 2 rfl rfl dJ7_rangeCheck_23922_1 ?_
  obtain ⟨hg1, h⟩ := q_guard h
  refine q_icmp_le 46 (by decide) dJ7_rangeCheck_23922_2 (fun c => ?_) (fun c => absurd hg1 c)
  refine q_iload_n 1 rfl rfl dJ7_rangeCheck_23922_46 ?_
  obtain ⟨hg2, h⟩ := q_guard h
  refine q_if_ge 59 (by decide) dJ7_rangeCheck_23922_47 (fun c => ?_) (fun c => absurd hg2 c)
  refine q_iload_n 2 rfl rfl dJ7_rangeCheck_23922_59 ?_
  refine q_iload_n 0 rfl rfl dJ7_rangeCheck_23922_60 ?_
  obtain ⟨hg3, h⟩ := q_guard h
  refine q_icmp_le 73 (by decide) dJ7_rangeCheck_23922_61 (fun c => ?_) (fun c => absurd hg3 c)
  obtain rfl := Option.some.inj h
  exact q_vret rfl dJ7_rangeCheck_23922_73 hQ
set_option maxRecDepth 20000 in
theorem sJ7_fill_53178_5 {g : QG} {Q : Option Value → QS → Prop} {a0 : Nat} {n0 : Nat} {y1 : Int32} {y3 : Int32} {x : Int32 × QS} {z : (QS) ⊕ (Int32 × QS)} (w : q_Wire x.2) (ha0 : x.2.1[a0]? = some (.inr (0, n0))) (h : tJ7_fill_53178_5 a0 n0 y1 y3 x = some z) (hQ : (Sum.elim (fun r0 : QS => Q none r0) (fun y : Int32 × QS => q_L g mJ7_fill_53178 0 0 0 Q 0 0 5 [(0, .ref a0), (1, .int y1), (2, .int y.1), (3, .int y3)] [] y.2) z)) : q_L g mJ7_fill_53178 0 0 0 Q 0 0 5 [(0, .ref a0), (1, .int y1), (2, .int x.1), (3, .int y3)] [] x.2 := by
  unfold tJ7_fill_53178_5 at h
  refine q_iload_n 2 rfl rfl dJ7_fill_53178_5 ?_
  refine q_iload_n 3 rfl rfl dJ7_fill_53178_6 ?_
  refine q_icmp_ge 20 (by decide) dJ7_fill_53178_7 (fun c => ?_) (fun c => ?_)
  · rw [if_pos c] at h
    cases h
    exact q_vret rfl dJ7_fill_53178_20 hQ
  · rw [if_neg c] at h
    refine q_aload_n 0 rfl rfl dJ7_fill_53178_10 ?_
    refine q_iload_n 2 rfl rfl dJ7_fill_53178_11 ?_
    refine q_iload_n 1 rfl rfl dJ7_fill_53178_12 ?_
    obtain ⟨hg1, h⟩ := q_guard h
    refine q_iast ha0 (q_inb_in hg1) dJ7_fill_53178_13 ?_
    obtain ⟨S2, e3, h⟩ := q_bindS h
    refine q_st e3 ?_
    have fx4 : q_Fx x.2 S2 := e3 ▸ q_Fx.sI (q_Fx.rf x.2)
    refine q_iinc (v := (x.1 + (1 : Int32))) 2 [(2, .int (x.1 + (1 : Int32))), (0, .ref a0), (1, .int y1), (3, .int y3)] (by decide) rfl (congrArg (fun t => x.1 + t) (by decide)) rfl dJ7_fill_53178_14 ?_
    refine q_goto 5 (by decide) dJ7_fill_53178_17 ?_
    refine q_sub [1, 2, 0, 3] rfl ?_
    cases h
    exact hQ
theorem lJ7_fill_53178_5 {g : QG} {Q : Option Value → QS → Prop} {a0 : Nat} {n0 : Nat} {y1 : Int32} {y3 : Int32} {r : QS}  (hQ : Q none r) : ∀ (c : Nat) (x : Int32 × QS), q_Wire x.2 → x.2.1[a0]? = some (.inr (0, n0)) → q_it (tJ7_fill_53178_5 a0 n0 y1 y3) c x = some r → q_L g mJ7_fill_53178 0 0 0 Q 0 0 5 [(0, .ref a0), (1, .int y1), (2, .int x.1), (3, .int y3)] [] x.2 := by
  intro c
  induction c with
  | zero => intro x w ha0 h; cases h
  | succ c ih =>
    intro x w ha0 h
    simp only [q_it] at h
    cases hz : tJ7_fill_53178_5 a0 n0 y1 y3 x with
    | none => rw [hz] at h; cases h
    | some z =>
      rw [hz] at h
      refine sJ7_fill_53178_5 w ha0 hz ?_
      rcases z with z | y
      · cases h; exact hQ
      · have fz := fxtJ7_fill_53178_5 hz; exact ih y (w.fx fz) (q_shfx fz ha0) h
theorem kJ7_fill_53178_5 {S : QS} {g : QG} {Q : Option Value → QS → Prop} {a0 : Nat} {n0 : Nat} {y1 : Int32} {y2 : Int32} {y3 : Int32} {r : QS} (w : q_Wire S) (ha0 : S.1[a0]? = some (.inr (0, n0))) (h : fJ7_fill_53178_5 S a0 n0 y1 y2 y3 = some r) (hQ : Q none r) : q_L g mJ7_fill_53178 0 0 0 Q 0 0 5 [(0, .ref a0), (1, .int y1), (2, .int y2), (3, .int y3)] [] S := by
  obtain ⟨c, hc⟩ := q_run_it h
  exact lJ7_fill_53178_5  hQ c (y2, S) w ha0 hc
set_option maxRecDepth 20000 in
theorem kJ7_fill_53178 {S : QS} {g : QG} {Q : Option Value → QS → Prop}  {a0 : Nat} {n0 : Nat} {x1 : Int32} {r : QS} (w : q_Wire S) (ha0 : S.1[a0]? = some (.inr (0, n0))) (h : fJ7_fill_53178 S a0 n0 x1 = some r) (hQ : Q none r) : q_M g mJ7_fill_53178 0 0 0 [.ref a0, .int x1] S Q := by
  unfold fJ7_fill_53178 at h
  show q_L g mJ7_fill_53178 0 0 0 Q 0 0 0 [(0, .ref a0), (1, .int x1)] [] S
  refine q_iconst (v := (0 : Int32)) (by decide) dJ7_fill_53178_0 ?_
  refine q_istore_n [(2, .int (0 : Int32)), (0, .ref a0), (1, .int x1)] rfl (by decide) rfl dJ7_fill_53178_1 ?_
  refine q_aload_n 1 rfl rfl dJ7_fill_53178_2 ?_
  refine q_alen ha0 (by decide) dJ7_fill_53178_3 ?_
  refine q_istore_n [(3, .int (nI n0)), (2, .int (0 : Int32)), (0, .ref a0), (1, .int x1)] rfl (by decide) rfl dJ7_fill_53178_4 ?_
  refine q_sub [2, 3, 1, 0] rfl ?_
  exact kJ7_fill_53178_5 w ha0 h hQ
set_option maxRecDepth 20000 in
theorem sJ7_fill_fda19_10 {g : QG} {Q : Option Value → QS → Prop} {a0 : Nat} {n0 : Nat} {y2 : Int32} {y3 : Int32} {x : Int32 × QS} {z : (QS) ⊕ (Int32 × QS)} (w : q_Wire x.2) (ha0 : x.2.1[a0]? = some (.inr (0, n0))) (h : tJ7_fill_fda19_10 a0 n0 y2 y3 x = some z) (hQ : (Sum.elim (fun r0 : QS => Q none r0) (fun y : Int32 × QS => q_L g mJ7_fill_fda19 1 0 0 Q 0 0 10 [(0, .ref a0), (2, .int y2), (3, .int y3), (4, .int y.1)] [] y.2) z)) : q_L g mJ7_fill_fda19 1 0 0 Q 0 0 10 [(0, .ref a0), (2, .int y2), (3, .int y3), (4, .int x.1)] [] x.2 := by
  unfold tJ7_fill_fda19_10 at h
  refine q_iload 3 rfl dJ7_fill_fda19_10 ?_
  refine q_iload_n 1 rfl rfl dJ7_fill_fda19_12 ?_
  refine q_icmp_ge 27 (by decide) dJ7_fill_fda19_13 (fun c => ?_) (fun c => ?_)
  · rw [if_pos c] at h
    cases h
    exact q_vret rfl dJ7_fill_fda19_27 hQ
  · rw [if_neg c] at h
    refine q_aload_n 0 rfl rfl dJ7_fill_fda19_16 ?_
    refine q_iload 3 rfl dJ7_fill_fda19_17 ?_
    refine q_iload_n 2 rfl rfl dJ7_fill_fda19_19 ?_
    obtain ⟨hg1, h⟩ := q_guard h
    refine q_iast ha0 (q_inb_in hg1) dJ7_fill_fda19_20 ?_
    obtain ⟨S2, e3, h⟩ := q_bindS h
    refine q_st e3 ?_
    have fx4 : q_Fx x.2 S2 := e3 ▸ q_Fx.sI (q_Fx.rf x.2)
    refine q_iinc (v := (x.1 + (1 : Int32))) 3 [(4, .int (x.1 + (1 : Int32))), (0, .ref a0), (2, .int y2), (3, .int y3)] (by decide) rfl (congrArg (fun t => x.1 + t) (by decide)) rfl dJ7_fill_fda19_21 ?_
    refine q_goto 10 (by decide) dJ7_fill_fda19_24 ?_
    refine q_sub [1, 2, 3, 0] rfl ?_
    cases h
    exact hQ
theorem lJ7_fill_fda19_10 {g : QG} {Q : Option Value → QS → Prop} {a0 : Nat} {n0 : Nat} {y2 : Int32} {y3 : Int32} {r : QS}  (hQ : Q none r) : ∀ (c : Nat) (x : Int32 × QS), q_Wire x.2 → x.2.1[a0]? = some (.inr (0, n0)) → q_it (tJ7_fill_fda19_10 a0 n0 y2 y3) c x = some r → q_L g mJ7_fill_fda19 1 0 0 Q 0 0 10 [(0, .ref a0), (2, .int y2), (3, .int y3), (4, .int x.1)] [] x.2 := by
  intro c
  induction c with
  | zero => intro x w ha0 h; cases h
  | succ c ih =>
    intro x w ha0 h
    simp only [q_it] at h
    cases hz : tJ7_fill_fda19_10 a0 n0 y2 y3 x with
    | none => rw [hz] at h; cases h
    | some z =>
      rw [hz] at h
      refine sJ7_fill_fda19_10 w ha0 hz ?_
      rcases z with z | y
      · cases h; exact hQ
      · have fz := fxtJ7_fill_fda19_10 hz; exact ih y (w.fx fz) (q_shfx fz ha0) h
theorem kJ7_fill_fda19_10 {S : QS} {g : QG} {Q : Option Value → QS → Prop} {a0 : Nat} {n0 : Nat} {y2 : Int32} {y3 : Int32} {y4 : Int32} {r : QS} (w : q_Wire S) (ha0 : S.1[a0]? = some (.inr (0, n0))) (h : fJ7_fill_fda19_10 S a0 n0 y2 y3 y4 = some r) (hQ : Q none r) : q_L g mJ7_fill_fda19 1 0 0 Q 0 0 10 [(0, .ref a0), (2, .int y2), (3, .int y3), (4, .int y4)] [] S := by
  obtain ⟨c, hc⟩ := q_run_it h
  exact lJ7_fill_fda19_10  hQ c (y4, S) w ha0 hc
set_option maxRecDepth 20000 in
theorem kJ7_fill_fda19 {S : QS} {g : QG} {Q : Option Value → QS → Prop}  {a0 : Nat} {n0 : Nat} {x1 : Int32} {x2 : Int32} {x3 : Int32} {r : QS} (w : q_Wire S) (ha0 : S.1[a0]? = some (.inr (0, n0))) (h : fJ7_fill_fda19 S a0 n0 x1 x2 x3 = some r) (hQ : Q none r) : q_M g mJ7_fill_fda19 1 0 0 [.ref a0, .int x1, .int x2, .int x3] S Q := by
  unfold fJ7_fill_fda19 at h
  show q_L g mJ7_fill_fda19 1 0 0 Q 0 0 0 [(0, .ref a0), (1, .int x1), (2, .int x2), (3, .int x3)] [] S
  refine q_aload_n 0 rfl rfl dJ7_fill_fda19_0 ?_
  refine q_alen ha0 (by decide) dJ7_fill_fda19_1 ?_
  refine q_iload_n 1 rfl rfl dJ7_fill_fda19_2 ?_
  refine q_iload_n 2 rfl rfl dJ7_fill_fda19_3 ?_
  obtain ⟨r5, e6, h⟩ := q_bind h
  refine q_callS (d := 0) (Mc := mJ7_rangeCheck_23922) (kc := 0) (nc := 0) [.int (nI n0), .int x1, .int x2] okJ7_rangeCheck_23922 lmJ7_13 inJ7_rangeCheck_23922 rfl (Nat.le_of_ble_eq_true rfl) (Nat.le_of_ble_eq_true rfl) (Nat.le_refl _) (Nat.le_refl _) dJ7_fill_fda19_4 (q_L.deep (by decide) (kJ7_rangeCheck_23922 (Q := fun r S' => r = none ∧ S' = S) w e6 ⟨rfl, rfl⟩)) (q_kV ?_)
  refine q_iload_n 1 rfl rfl dJ7_fill_fda19_7 ?_
  refine q_istore [(4, .int x1), (0, .ref a0), (1, .int x1), (2, .int x2), (3, .int x3)] (by decide) rfl dJ7_fill_fda19_8 ?_
  refine q_sub [1, 3, 4, 0] rfl ?_
  exact kJ7_fill_fda19_10 w ha0 h hQ
set_option maxRecDepth 20000 in
theorem sJ7_fill_eb02e_10 {g : QG} {Q : Option Value → QS → Prop} {a0 : Nat} {n0 : Nat} {y2 : Int32} {y3 : Int32} {x : Int32 × QS} {z : (QS) ⊕ (Int32 × QS)} (w : q_Wire x.2) (ha0 : x.2.1[a0]? = some (.inr (1, n0))) (h : tJ7_fill_eb02e_10 a0 n0 y2 y3 x = some z) (hQ : (Sum.elim (fun r0 : QS => Q none r0) (fun y : Int32 × QS => q_L g mJ7_fill_eb02e 1 0 0 Q 0 0 10 [(0, .ref a0), (2, .int y2), (3, .int y3), (4, .int y.1)] [] y.2) z)) : q_L g mJ7_fill_eb02e 1 0 0 Q 0 0 10 [(0, .ref a0), (2, .int y2), (3, .int y3), (4, .int x.1)] [] x.2 := by
  unfold tJ7_fill_eb02e_10 at h
  refine q_iload 3 rfl dJ7_fill_eb02e_10 ?_
  refine q_iload_n 1 rfl rfl dJ7_fill_eb02e_12 ?_
  refine q_icmp_ge 27 (by decide) dJ7_fill_eb02e_13 (fun c => ?_) (fun c => ?_)
  · rw [if_pos c] at h
    cases h
    exact q_vret rfl dJ7_fill_eb02e_27 hQ
  · rw [if_neg c] at h
    refine q_aload_n 0 rfl rfl dJ7_fill_eb02e_16 ?_
    refine q_iload 3 rfl dJ7_fill_eb02e_17 ?_
    refine q_iload_n 2 rfl rfl dJ7_fill_eb02e_19 ?_
    obtain ⟨hg1, h⟩ := q_guard h
    refine q_bast ha0 (q_inb_in hg1) dJ7_fill_eb02e_20 ?_
    obtain ⟨S2, e3, h⟩ := q_bindS h
    refine q_st e3 ?_
    have fx4 : q_Fx x.2 S2 := e3 ▸ q_Fx.sI (q_Fx.rf x.2)
    refine q_iinc (v := (x.1 + (1 : Int32))) 3 [(4, .int (x.1 + (1 : Int32))), (0, .ref a0), (2, .int y2), (3, .int y3)] (by decide) rfl (congrArg (fun t => x.1 + t) (by decide)) rfl dJ7_fill_eb02e_21 ?_
    refine q_goto 10 (by decide) dJ7_fill_eb02e_24 ?_
    refine q_sub [1, 2, 3, 0] rfl ?_
    cases h
    exact hQ
theorem lJ7_fill_eb02e_10 {g : QG} {Q : Option Value → QS → Prop} {a0 : Nat} {n0 : Nat} {y2 : Int32} {y3 : Int32} {r : QS}  (hQ : Q none r) : ∀ (c : Nat) (x : Int32 × QS), q_Wire x.2 → x.2.1[a0]? = some (.inr (1, n0)) → q_it (tJ7_fill_eb02e_10 a0 n0 y2 y3) c x = some r → q_L g mJ7_fill_eb02e 1 0 0 Q 0 0 10 [(0, .ref a0), (2, .int y2), (3, .int y3), (4, .int x.1)] [] x.2 := by
  intro c
  induction c with
  | zero => intro x w ha0 h; cases h
  | succ c ih =>
    intro x w ha0 h
    simp only [q_it] at h
    cases hz : tJ7_fill_eb02e_10 a0 n0 y2 y3 x with
    | none => rw [hz] at h; cases h
    | some z =>
      rw [hz] at h
      refine sJ7_fill_eb02e_10 w ha0 hz ?_
      rcases z with z | y
      · cases h; exact hQ
      · have fz := fxtJ7_fill_eb02e_10 hz; exact ih y (w.fx fz) (q_shfx fz ha0) h
theorem kJ7_fill_eb02e_10 {S : QS} {g : QG} {Q : Option Value → QS → Prop} {a0 : Nat} {n0 : Nat} {y2 : Int32} {y3 : Int32} {y4 : Int32} {r : QS} (w : q_Wire S) (ha0 : S.1[a0]? = some (.inr (1, n0))) (h : fJ7_fill_eb02e_10 S a0 n0 y2 y3 y4 = some r) (hQ : Q none r) : q_L g mJ7_fill_eb02e 1 0 0 Q 0 0 10 [(0, .ref a0), (2, .int y2), (3, .int y3), (4, .int y4)] [] S := by
  obtain ⟨c, hc⟩ := q_run_it h
  exact lJ7_fill_eb02e_10  hQ c (y4, S) w ha0 hc
set_option maxRecDepth 20000 in
theorem kJ7_fill_eb02e {S : QS} {g : QG} {Q : Option Value → QS → Prop}  {a0 : Nat} {n0 : Nat} {x1 : Int32} {x2 : Int32} {x3 : Int32} {r : QS} (w : q_Wire S) (ha0 : S.1[a0]? = some (.inr (1, n0))) (h : fJ7_fill_eb02e S a0 n0 x1 x2 x3 = some r) (hQ : Q none r) : q_M g mJ7_fill_eb02e 1 0 0 [.ref a0, .int x1, .int x2, .int x3] S Q := by
  unfold fJ7_fill_eb02e at h
  show q_L g mJ7_fill_eb02e 1 0 0 Q 0 0 0 [(0, .ref a0), (1, .int x1), (2, .int x2), (3, .int x3)] [] S
  refine q_aload_n 0 rfl rfl dJ7_fill_eb02e_0 ?_
  refine q_alen ha0 (by decide) dJ7_fill_eb02e_1 ?_
  refine q_iload_n 1 rfl rfl dJ7_fill_eb02e_2 ?_
  refine q_iload_n 2 rfl rfl dJ7_fill_eb02e_3 ?_
  obtain ⟨r5, e6, h⟩ := q_bind h
  refine q_callS (d := 0) (Mc := mJ7_rangeCheck_23922) (kc := 0) (nc := 0) [.int (nI n0), .int x1, .int x2] okJ7_rangeCheck_23922 lmJ7_13 inJ7_rangeCheck_23922 rfl (Nat.le_of_ble_eq_true rfl) (Nat.le_of_ble_eq_true rfl) (Nat.le_refl _) (Nat.le_refl _) dJ7_fill_eb02e_4 (q_L.deep (by decide) (kJ7_rangeCheck_23922 (Q := fun r S' => r = none ∧ S' = S) w e6 ⟨rfl, rfl⟩)) (q_kV ?_)
  refine q_iload_n 1 rfl rfl dJ7_fill_eb02e_7 ?_
  refine q_istore [(4, .int x1), (0, .ref a0), (1, .int x1), (2, .int x2), (3, .int x3)] (by decide) rfl dJ7_fill_eb02e_8 ?_
  refine q_sub [1, 3, 4, 0] rfl ?_
  exact kJ7_fill_eb02e_10 w ha0 h hQ
