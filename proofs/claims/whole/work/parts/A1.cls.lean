noncomputable def fJ6_numberOfLeadingZeros_0f7a4 (S : QS) (x0 : Int32) : Option (Int32) :=
  if 0 < x0 then
    (Option.bind (α := Int32 × Int32) (if x0 < (65536 : Int32) then
        some ((x0, (31 : Int32)))
      else
        some (((x0.toUInt32 >>> ((16 : Int32).toUInt32 &&& Int32.toUInt32 31)).toInt32, ((31 : Int32) + (-16 : Int32))))) fun v1 =>
      (Option.bind (α := Int32 × Int32) (if v1.1 < (256 : Int32) then
          some ((v1.1, v1.2))
        else
          some (((v1.1.toUInt32 >>> ((8 : Int32).toUInt32 &&& Int32.toUInt32 31)).toInt32, (v1.2 + (-8 : Int32))))) fun v2 =>
        (Option.bind (α := Int32 × Int32) (if v2.1 < (16 : Int32) then
            some ((v2.1, v2.2))
          else
            some (((v2.1.toUInt32 >>> ((4 : Int32).toUInt32 &&& Int32.toUInt32 31)).toInt32, (v2.2 + (-4 : Int32))))) fun v3 =>
          (Option.bind (α := Int32 × Int32) (if v3.1 < (4 : Int32) then
              some ((v3.1, v3.2))
            else
              some (((v3.1.toUInt32 >>> ((2 : Int32).toUInt32 &&& Int32.toUInt32 31)).toInt32, (v3.2 + (-2 : Int32))))) fun v4 =>
            some ((v4.2 - (v4.1.toUInt32 >>> ((1 : Int32).toUInt32 &&& Int32.toUInt32 31)).toInt32))))))
  else
    if x0 = 0 then
      some ((32 : Int32))
    else
      some ((0 : Int32))
noncomputable def fJ6_numberOfTrailingZeros_0f7a4 (S : QS) (x0 : Int32) : Option (Int32) :=
  if 0 < ((x0 ^^^ (-1 : Int32)) &&& (x0 - (1 : Int32))) then
    (Option.bind (α := Int32 × Int32) (if ((x0 ^^^ (-1 : Int32)) &&& (x0 - (1 : Int32))) ≤ (65536 : Int32) then
        some ((((x0 ^^^ (-1 : Int32)) &&& (x0 - (1 : Int32))), (1 : Int32)))
      else
        some (((((x0 ^^^ (-1 : Int32)) &&& (x0 - (1 : Int32))).toUInt32 >>> ((16 : Int32).toUInt32 &&& Int32.toUInt32 31)).toInt32, ((1 : Int32) + (16 : Int32))))) fun v1 =>
      (Option.bind (α := Int32 × Int32) (if v1.1 ≤ (256 : Int32) then
          some ((v1.1, v1.2))
        else
          some (((v1.1.toUInt32 >>> ((8 : Int32).toUInt32 &&& Int32.toUInt32 31)).toInt32, (v1.2 + (8 : Int32))))) fun v2 =>
        (Option.bind (α := Int32 × Int32) (if v2.1 ≤ (16 : Int32) then
            some ((v2.1, v2.2))
          else
            some (((v2.1.toUInt32 >>> ((4 : Int32).toUInt32 &&& Int32.toUInt32 31)).toInt32, (v2.2 + (4 : Int32))))) fun v3 =>
          (Option.bind (α := Int32 × Int32) (if v3.1 ≤ (4 : Int32) then
              some ((v3.1, v3.2))
            else
              some (((v3.1.toUInt32 >>> ((2 : Int32).toUInt32 &&& Int32.toUInt32 31)).toInt32, (v3.2 + (2 : Int32))))) fun v4 =>
            some ((v4.2 + (v4.1.toUInt32 >>> ((1 : Int32).toUInt32 &&& Int32.toUInt32 31)).toInt32))))))
  else
    some ((((x0 ^^^ (-1 : Int32)) &&& (x0 - (1 : Int32))) &&& (32 : Int32)))
noncomputable def fJ6_bitCount_0f7a4 (S : QS) (x0 : Int32) : Option (Int32) :=
  some (((((((((x0 - ((x0.toUInt32 >>> ((1 : Int32).toUInt32 &&& Int32.toUInt32 31)).toInt32 &&& (1431655765 : Int32))) &&& (858993459 : Int32)) + (((x0 - ((x0.toUInt32 >>> ((1 : Int32).toUInt32 &&& Int32.toUInt32 31)).toInt32 &&& (1431655765 : Int32))).toUInt32 >>> ((2 : Int32).toUInt32 &&& Int32.toUInt32 31)).toInt32 &&& (858993459 : Int32))) + ((((x0 - ((x0.toUInt32 >>> ((1 : Int32).toUInt32 &&& Int32.toUInt32 31)).toInt32 &&& (1431655765 : Int32))) &&& (858993459 : Int32)) + (((x0 - ((x0.toUInt32 >>> ((1 : Int32).toUInt32 &&& Int32.toUInt32 31)).toInt32 &&& (1431655765 : Int32))).toUInt32 >>> ((2 : Int32).toUInt32 &&& Int32.toUInt32 31)).toInt32 &&& (858993459 : Int32))).toUInt32 >>> ((4 : Int32).toUInt32 &&& Int32.toUInt32 31)).toInt32) &&& (252645135 : Int32)) + ((((((x0 - ((x0.toUInt32 >>> ((1 : Int32).toUInt32 &&& Int32.toUInt32 31)).toInt32 &&& (1431655765 : Int32))) &&& (858993459 : Int32)) + (((x0 - ((x0.toUInt32 >>> ((1 : Int32).toUInt32 &&& Int32.toUInt32 31)).toInt32 &&& (1431655765 : Int32))).toUInt32 >>> ((2 : Int32).toUInt32 &&& Int32.toUInt32 31)).toInt32 &&& (858993459 : Int32))) + ((((x0 - ((x0.toUInt32 >>> ((1 : Int32).toUInt32 &&& Int32.toUInt32 31)).toInt32 &&& (1431655765 : Int32))) &&& (858993459 : Int32)) + (((x0 - ((x0.toUInt32 >>> ((1 : Int32).toUInt32 &&& Int32.toUInt32 31)).toInt32 &&& (1431655765 : Int32))).toUInt32 >>> ((2 : Int32).toUInt32 &&& Int32.toUInt32 31)).toInt32 &&& (858993459 : Int32))).toUInt32 >>> ((4 : Int32).toUInt32 &&& Int32.toUInt32 31)).toInt32) &&& (252645135 : Int32)).toUInt32 >>> ((8 : Int32).toUInt32 &&& Int32.toUInt32 31)).toInt32) + (((((((x0 - ((x0.toUInt32 >>> ((1 : Int32).toUInt32 &&& Int32.toUInt32 31)).toInt32 &&& (1431655765 : Int32))) &&& (858993459 : Int32)) + (((x0 - ((x0.toUInt32 >>> ((1 : Int32).toUInt32 &&& Int32.toUInt32 31)).toInt32 &&& (1431655765 : Int32))).toUInt32 >>> ((2 : Int32).toUInt32 &&& Int32.toUInt32 31)).toInt32 &&& (858993459 : Int32))) + ((((x0 - ((x0.toUInt32 >>> ((1 : Int32).toUInt32 &&& Int32.toUInt32 31)).toInt32 &&& (1431655765 : Int32))) &&& (858993459 : Int32)) + (((x0 - ((x0.toUInt32 >>> ((1 : Int32).toUInt32 &&& Int32.toUInt32 31)).toInt32 &&& (1431655765 : Int32))).toUInt32 >>> ((2 : Int32).toUInt32 &&& Int32.toUInt32 31)).toInt32 &&& (858993459 : Int32))).toUInt32 >>> ((4 : Int32).toUInt32 &&& Int32.toUInt32 31)).toInt32) &&& (252645135 : Int32)) + ((((((x0 - ((x0.toUInt32 >>> ((1 : Int32).toUInt32 &&& Int32.toUInt32 31)).toInt32 &&& (1431655765 : Int32))) &&& (858993459 : Int32)) + (((x0 - ((x0.toUInt32 >>> ((1 : Int32).toUInt32 &&& Int32.toUInt32 31)).toInt32 &&& (1431655765 : Int32))).toUInt32 >>> ((2 : Int32).toUInt32 &&& Int32.toUInt32 31)).toInt32 &&& (858993459 : Int32))) + ((((x0 - ((x0.toUInt32 >>> ((1 : Int32).toUInt32 &&& Int32.toUInt32 31)).toInt32 &&& (1431655765 : Int32))) &&& (858993459 : Int32)) + (((x0 - ((x0.toUInt32 >>> ((1 : Int32).toUInt32 &&& Int32.toUInt32 31)).toInt32 &&& (1431655765 : Int32))).toUInt32 >>> ((2 : Int32).toUInt32 &&& Int32.toUInt32 31)).toInt32 &&& (858993459 : Int32))).toUInt32 >>> ((4 : Int32).toUInt32 &&& Int32.toUInt32 31)).toInt32) &&& (252645135 : Int32)).toUInt32 >>> ((8 : Int32).toUInt32 &&& Int32.toUInt32 31)).toInt32).toUInt32 >>> ((16 : Int32).toUInt32 &&& Int32.toUInt32 31)).toInt32) &&& (63 : Int32)))
noncomputable def fJ7_rangeCheck_23922 (S : QS) (x0 : Int32) (x1 : Int32) (x2 : Int32) : Option (Unit) :=
  if x1 ≤ x2 then if 0 ≤ x1 then if x2 ≤ x0 then some (()) else none else none else none
noncomputable def tJ7_fill_53178_5 (a0 : Nat) (n0 : Nat) (y1 : Int32) (y3 : Int32) (x : Int32 × QS) : Option ((QS) ⊕ (Int32 × QS)) :=
  if y3 ≤ x.1 then
    some (.inl ((x.2)))
  else
    if q_inb x.1 n0 = true then (some (q_sI x.2 a0 x.1.toNatClampNeg y1)).bind fun S2 =>
    some (.inr ((x.1 + (1 : Int32)), S2)) else none
noncomputable def fJ7_fill_53178_5 (S : QS) (a0 : Nat) (n0 : Nat) (y1 : Int32) (y2 : Int32) (y3 : Int32) : Option (QS) := q_run (tJ7_fill_53178_5 a0 n0 y1 y3) (y2, S)
noncomputable def fJ7_fill_53178 (S : QS) (a0 : Nat) (n0 : Nat) (x1 : Int32) : Option (QS) :=
  fJ7_fill_53178_5 S a0 n0 x1 ((0 : Int32)) ((nI n0))
noncomputable def tJ7_fill_fda19_10 (a0 : Nat) (n0 : Nat) (y2 : Int32) (y3 : Int32) (x : Int32 × QS) : Option ((QS) ⊕ (Int32 × QS)) :=
  if y2 ≤ x.1 then
    some (.inl ((x.2)))
  else
    if q_inb x.1 n0 = true then (some (q_sI x.2 a0 x.1.toNatClampNeg y3)).bind fun S2 =>
    some (.inr ((x.1 + (1 : Int32)), S2)) else none
noncomputable def fJ7_fill_fda19_10 (S : QS) (a0 : Nat) (n0 : Nat) (y2 : Int32) (y3 : Int32) (y4 : Int32) : Option (QS) := q_run (tJ7_fill_fda19_10 a0 n0 y2 y3) (y4, S)
noncomputable def fJ7_fill_fda19 (S : QS) (a0 : Nat) (n0 : Nat) (x1 : Int32) (x2 : Int32) (x3 : Int32) : Option (QS) :=
  (fJ7_rangeCheck_23922 S ((nI n0)) x1 x2).bind fun r5 =>
  fJ7_fill_fda19_10 S a0 n0 x2 x3 x1
noncomputable def tJ7_fill_eb02e_10 (a0 : Nat) (n0 : Nat) (y2 : Int32) (y3 : Int32) (x : Int32 × QS) : Option ((QS) ⊕ (Int32 × QS)) :=
  if y2 ≤ x.1 then
    some (.inl ((x.2)))
  else
    if q_inb x.1 n0 = true then (some (q_sI x.2 a0 x.1.toNatClampNeg (vp_nar .byte y3))).bind fun S2 =>
    some (.inr ((x.1 + (1 : Int32)), S2)) else none
noncomputable def fJ7_fill_eb02e_10 (S : QS) (a0 : Nat) (n0 : Nat) (y2 : Int32) (y3 : Int32) (y4 : Int32) : Option (QS) := q_run (tJ7_fill_eb02e_10 a0 n0 y2 y3) (y4, S)
noncomputable def fJ7_fill_eb02e (S : QS) (a0 : Nat) (n0 : Nat) (x1 : Int32) (x2 : Int32) (x3 : Int32) : Option (QS) :=
  (fJ7_rangeCheck_23922 S ((nI n0)) x1 x2).bind fun r5 =>
  fJ7_fill_eb02e_10 S a0 n0 x2 x3 x1
noncomputable def fX0_addClass (S : QS) (p : Nat) (x1 : Int32) (x2 : Int32) : Option (QS) :=
  if (32 : Int32) ≤ (S.2.1 (p + 1) 0) then
    some (S)
  else
    if q_inb (S.2.1 (p + 1) 0) 32 = true then (some (q_sI S (p + 2) (S.2.1 (p + 1) 0).toNatClampNeg x1)).bind fun S2 =>
    if q_inb (S2.2.1 (p + 1) 0) 32 = true then (some (q_sI S2 (p + 3) (S2.2.1 (p + 1) 0).toNatClampNeg x2)).bind fun S6 =>
    (Option.bind (α := Int32) (if x2 < 0 then
        some ((0 : Int32))
      else
        if (S6.2.1 (p + 1) 0) ≤ x2 then
          some ((0 : Int32))
        else
          if q_inb x2 32 = true then some ((S6.2.1 (p + 4) x2.toNatClampNeg)) else none) fun v10 =>
      if q_inb (S6.2.1 (p + 1) 0) 32 = true then (some (q_sI S6 (p + 4) (S6.2.1 (p + 1) 0).toNatClampNeg (((1 : Int32) <<< ((S6.2.1 (p + 1) 0) &&& 31)) ||| v10))).bind fun S12 =>
      if q_inb (S12.2.1 (p + 1) 0) 32 = true then (some (q_sI S12 (p + 5) (S12.2.1 (p + 1) 0).toNatClampNeg (0 : Int32))).bind fun S16 =>
      (some (q_sI S16 (p + 1) 0 ((S16.2.1 (p + 1) 0) + (1 : Int32)))).bind fun S19 =>
      some (S19) else none else none) else none else none
noncomputable def tX0_begin_24 (p : Nat) (x : Int32 × QS) : Option ((QS) ⊕ (Int32 × QS)) :=
  if (8 : Int32) ≤ x.1 then
    some (.inl ((x.2)))
  else
    (fX0_addClass x.2 p ((-1 : Int32)) ((1 : Int32))).bind fun r1 =>
    some (.inr ((x.1 + (1 : Int32)), r1))
noncomputable def fX0_begin_24 (S : QS) (p : Nat) (y1 : Int32) : Option (QS) := q_run (tX0_begin_24 p) (y1, S)
noncomputable def fX0_begin (S : QS) (p : Nat) : Option (QS) :=
  (some (q_sI S (p + 1) 5 (0 : Int32))).bind fun S4 =>
  (some (q_sI S4 (p + 1) 0 (0 : Int32))).bind fun S7 =>
  (fX0_addClass S7 p ((-1 : Int32)) ((-1 : Int32))).bind fun r10 =>
  (fX0_addClass r10 p ((-1 : Int32)) ((0 : Int32))).bind fun r13 =>
  fX0_begin_24 r13 p ((2 : Int32))
noncomputable def fX0_isClass (S : QS) (p : Nat) (x1 : Int32) : Option (Bool) :=
  if x1 < 0 then
    some (false)
  else
    if (S.2.1 (p + 1) 0) ≤ x1 then
      some (false)
    else
      some (true)
noncomputable def fX0_addField (S : QS) (p : Nat) (x1 : Int32) (x2 : Int32) (x3 : Int32) : Option (QS) :=
  if (48 : Int32) ≤ (S.2.1 (p + 1) 5) then
    some (S)
  else
    (fX0_isClass S p x1).bind fun r1 =>
    if r1 = true then
      if q_inb (S.2.1 (p + 1) 5) 48 = true then (some (q_sI S (p + 6) (S.2.1 (p + 1) 5).toNatClampNeg x2)).bind fun S4 =>
      if q_inb (S4.2.1 (p + 1) 5) 48 = true then (some (q_sI S4 (p + 7) (S4.2.1 (p + 1) 5).toNatClampNeg x1)).bind fun S8 =>
      if q_inb (S8.2.1 (p + 1) 5) 48 = true then (some (q_sI S8 (p + 8) (S8.2.1 (p + 1) 5).toNatClampNeg x3)).bind fun S12 =>
      if q_inb x1 32 = true then if q_inb (S12.2.1 (p + 1) 5) 48 = true then (some (q_sI S12 (p + 9) (S12.2.1 (p + 1) 5).toNatClampNeg (S12.2.1 (p + 5) x1.toNatClampNeg))).bind fun S17 =>
      if q_inb x1 32 = true then if q_inb x1 32 = true then (some (q_sI S17 (p + 5) x1.toNatClampNeg ((S17.2.1 (p + 5) x1.toNatClampNeg) + (1 : Int32)))).bind fun S22 =>
      (some (q_sI S22 (p + 1) 5 ((S22.2.1 (p + 1) 5) + (1 : Int32)))).bind fun S25 =>
      some (S25) else none else none else none else none else none else none else none
    else
      some (S)
noncomputable def fX0_isArray (S : QS) (x0 : Int32) : Option (Bool) :=
  if x0 < (32 : Int32) then
    some (false)
  else
    if (64 : Int32) < x0 then
      some (false)
    else
      some (true)
noncomputable def fX0_isAbove (S : QS) (p : Nat) (x1 : Int32) (x2 : Int32) : Option (Bool) :=
  if x1 < 0 then
    some (false)
  else
    if (S.2.1 (p + 1) 0) ≤ x1 then
      some (false)
    else
      if x2 < 0 then
        some (false)
      else
        if (S.2.1 (p + 1) 0) ≤ x2 then
          some (false)
        else
          if q_inb x2 32 = true then if (((S.2.1 (p + 4) x2.toNatClampNeg) >>> (x1 &&& 31)) &&& (1 : Int32)) = 0 then
            some (false)
          else
            some (true) else none
noncomputable def fX0_isBelow (S : QS) (p : Nat) (x1 : Int32) (x2 : Int32) : Option (Bool) :=
  if x1 = x2 then
    some (true)
  else
    if x2 = (67 : Int32) then
      some (true)
    else
      if x2 = (69 : Int32) then
        if x1 = (65 : Int32) then
          some (true)
        else
          (fX0_isArray S x1).bind fun r5 =>
          if r5 = true then
            some (true)
          else
            some (false)
      else
        if (65 : Int32) < x1 then
          some (false)
        else
          if x2 ≤ (65 : Int32) then
            if x1 = (65 : Int32) then
              some (true)
            else
              if x2 = 0 then
                some (true)
              else
                (fX0_isAbove S p x2 x1).bind fun r1 =>
                if r1 = true then
                  some (true)
                else
                  if x1 < (32 : Int32) then
                    some (false)
                  else
                    (fX0_isAbove S p ((x2 - (32 : Int32))) ((x1 - (32 : Int32)))).bind fun r3 =>
                    if r3 = true then
                      some (true)
                    else
                      some (false)
          else
            some (false)
noncomputable def fX0_nearestAbove (S : QS) (p : Nat) (x1 : Int32) (x2 : Int32) : Option (Int32) :=
  if q_inb x1 32 = true then if q_inb x2 32 = true then (fJ6_numberOfLeadingZeros_0f7a4 S (((S.2.1 (p + 4) x1.toNatClampNeg) &&& (S.2.1 (p + 4) x2.toNatClampNeg)))).bind fun r3 =>
  some (((31 : Int32) - r3)) else none else none
noncomputable def fX0_join_60 (S : QS) (p : Nat) (y1 : Int32) (y2 : Int32) : Option (Int32) :=
  (fX0_isClass S p ((y1 - (32 : Int32)))).bind fun r1 =>
  (Option.bind (α := Bool) (if r1 = true then
      (fX0_isClass S p ((y2 - (32 : Int32)))).bind fun r3 =>
      if r3 = true then
        some (true)
      else
        some (false)
    else
      some (false)) fun v5 =>
    if v5 = true then
      (fX0_nearestAbove S p ((y1 - (32 : Int32))) ((y2 - (32 : Int32)))).bind fun r6 =>
      some (((32 : Int32) + r6))
    else
      some ((0 : Int32)))
noncomputable def fX0_join (S : QS) (p : Nat) (x1 : Int32) (x2 : Int32) : Option (Int32) :=
  (fX0_isBelow S p x1 x2).bind fun r8 =>
  if r8 = true then
    some (x2)
  else
    (fX0_isBelow S p x2 x1).bind fun r10 =>
    if r10 = true then
      some (x1)
    else
      if (65 : Int32) < x1 then
        some ((67 : Int32))
      else
        if x2 ≤ (65 : Int32) then
          (fX0_isClass S p x1).bind fun r12 =>
          if r12 = true then
            (fX0_isClass S p x2).bind fun r14 =>
            if r14 = true then
              (fX0_nearestAbove S p x1 x2).bind fun r16 =>
              some (r16)
            else
              fX0_join_60 S p x1 x2
          else
            fX0_join_60 S p x1 x2
        else
          some ((67 : Int32))
noncomputable def fX0_elementOf (S : QS) (p : Nat) (x1 : Int32) : Option (Int32) :=
  if x1 = (64 : Int32) then
    some ((66 : Int32))
  else
    if x1 = (65 : Int32) then
      some ((68 : Int32))
    else
      (fX0_isArray S x1).bind fun r1 =>
      if r1 = true then
        some ((x1 - (32 : Int32)))
      else
        some ((67 : Int32))
noncomputable def fX0_isElement (S : QS) (p : Nat) (x1 : Int32) (x2 : Int32) : Option (Bool) :=
  if x2 = (65 : Int32) then
    if x1 = (67 : Int32) then
      some (false)
    else
      some (true)
  else
    (fX0_elementOf S p x2).bind fun r1 =>
    (fX0_isBelow S p x1 r1).bind fun r3 =>
    some (r3)
noncomputable def fX1_begin (S : QS) (p : Nat) : Option (QS) :=
  (some (q_sI S (p + 10) 0 (0 : Int32))).bind fun S1 =>
  (some (q_sI S1 (p + 10) 8 (0 : Int32))).bind fun S4 =>
  (some (q_sI S4 (p + 10) 9 (0 : Int32))).bind fun S7 =>
  some (S7)
noncomputable def fX1_isMaking (S : QS) (x0 : Int32) : Option (Bool) :=
  if x0 = (30 : Int32) then
    some (true)
  else
    if x0 = (31 : Int32) then
      some (true)
    else
      some (false)
noncomputable def fX1_addInstruction (S : QS) (p : Nat) (x1 : Int32) (x2 : Int32) (x3 : Int32) : Option (QS) :=
  if (1024 : Int32) ≤ (S.2.1 (p + 10) 0) then
    some (S)
  else
    if q_inb (S.2.1 (p + 10) 0) 1024 = true then (some (q_sI S (p + 11) (S.2.1 (p + 10) 0).toNatClampNeg x1)).bind fun S2 =>
    if q_inb (S2.2.1 (p + 10) 0) 1024 = true then (some (q_sI S2 (p + 12) (S2.2.1 (p + 10) 0).toNatClampNeg (0 : Int32))).bind fun S6 =>
    if q_inb (S6.2.1 (p + 10) 0) 1024 = true then (some (q_sI S6 (p + 13) (S6.2.1 (p + 10) 0).toNatClampNeg (0 : Int32))).bind fun S10 =>
    if q_inb (S10.2.1 (p + 10) 0) 1024 = true then (some (q_sI S10 (p + 14) (S10.2.1 (p + 10) 0).toNatClampNeg x2)).bind fun S14 =>
    if q_inb (S14.2.1 (p + 10) 0) 1024 = true then (some (q_sI S14 (p + 15) (S14.2.1 (p + 10) 0).toNatClampNeg x3)).bind fun S18 =>
    if q_inb (S18.2.1 (p + 10) 0) 1024 = true then (some (q_sI S18 (p + 17) (S18.2.1 (p + 10) 0).toNatClampNeg (-1 : Int32))).bind fun S22 =>
    if q_inb (S22.2.1 (p + 10) 0) 1024 = true then (some (q_sI S22 (p + 16) (S22.2.1 (p + 10) 0).toNatClampNeg (S22.2.1 (p + 10) 8))).bind fun S26 =>
    (fX1_isMaking S26 x1).bind fun r29 =>
    (Option.bind (α := Bool) (if r29 = true then
        some (true)
      else
        some (false)) fun v31 =>
      (some (q_sI S26 (p + 10) 8 ((S26.2.1 (p + 10) 8) + (q_b v31)))).bind fun S32 =>
      (some (q_sI S32 (p + 10) 0 ((S32.2.1 (p + 10) 0) + (1 : Int32)))).bind fun S35 =>
      some (S35)) else none else none else none else none else none else none else none
noncomputable def fX1_addCatch (S : QS) (p : Nat) (x1 : Int32) (x2 : Int32) (x3 : Int32) (x4 : Int32) : Option (QS) :=
  if (64 : Int32) ≤ (S.2.1 (p + 10) 9) then
    some (S)
  else
    if q_inb (S.2.1 (p + 10) 9) 64 = true then (some (q_sI S (p + 18) (S.2.1 (p + 10) 9).toNatClampNeg x1)).bind fun S2 =>
    if q_inb (S2.2.1 (p + 10) 9) 64 = true then (some (q_sI S2 (p + 19) (S2.2.1 (p + 10) 9).toNatClampNeg x2)).bind fun S6 =>
    if q_inb (S6.2.1 (p + 10) 9) 64 = true then (some (q_sI S6 (p + 20) (S6.2.1 (p + 10) 9).toNatClampNeg x3)).bind fun S10 =>
    if q_inb (S10.2.1 (p + 10) 9) 64 = true then (some (q_sI S10 (p + 21) (S10.2.1 (p + 10) 9).toNatClampNeg x4)).bind fun S14 =>
    (some (q_sI S14 (p + 10) 9 ((S14.2.1 (p + 10) 9) + (1 : Int32)))).bind fun S17 =>
    some (S17) else none else none else none else none
noncomputable def fX1_goesOn (S : QS) (x0 : Int32) : Option (Bool) :=
  if x0 = (19 : Int32) then
    some (false)
  else
    if x0 = (41 : Int32) then
      some (false)
    else
      if x0 = (42 : Int32) then
        some (false)
      else
        if x0 = (43 : Int32) then
          some (false)
        else
          some (true)
noncomputable def fX1_goesToLabel (S : QS) (x0 : Int32) : Option (Bool) :=
  if x0 < (19 : Int32) then
    some (false)
  else
    if (29 : Int32) < x0 then
      some (false)
    else
      some (true)
noncomputable def fX1_isCaught (S : QS) (p : Nat) (x1 : Int32) (x2 : Int32) : Option (Bool) :=
  if q_inb x2 64 = true then if x1 < (S.2.1 (p + 18) x2.toNatClampNeg) then
    some (false)
  else
    if q_inb x2 64 = true then if (S.2.1 (p + 19) x2.toNatClampNeg) ≤ x1 then
      some (false)
    else
      some (true) else none else none
noncomputable def fX2_begin (S : QS) : Option (QS) :=
  (some (q_sI S 90 5 (0 : Int32))).bind fun S1 =>
  (some (q_sI S1 90 6 (0 : Int32))).bind fun S4 =>
  if q_inb (0 : Int32) 2001 = true then (some (q_sI S4 91 (0 : Int32).toNatClampNeg (65 : Int32))).bind fun S8 =>
  some (S8) else none
noncomputable def fX2_make (S : QS) (x1 : Int32) (x2 : Int32) (x3 : Int32) : Option (Int32 × QS) :=
  if (S.2.1 90 5) = (2000 : Int32) then
    some (((0 : Int32), S))
  else
    if x2 < 0 then
      some (((0 : Int32), S))
    else
      if x2 ≤ ((12000 : Int32) - (S.2.1 90 6)) then
        (some (q_sI S 90 5 ((S.2.1 90 5) + (1 : Int32)))).bind fun S1 =>
        if q_inb (S1.2.1 90 5) 2001 = true then (some (q_sI S1 91 (S1.2.1 90 5).toNatClampNeg x1)).bind fun S5 =>
        if q_inb (S5.2.1 90 5) 2001 = true then (some (q_sI S5 92 (S5.2.1 90 5).toNatClampNeg (S5.2.1 90 6))).bind fun S9 =>
        if q_inb (S9.2.1 90 5) 2001 = true then (some (q_sI S9 93 (S9.2.1 90 5).toNatClampNeg x2)).bind fun S13 =>
        if q_inb (S13.2.1 90 5) 2001 = true then (some (q_sI S13 94 (S13.2.1 90 5).toNatClampNeg x3)).bind fun S17 =>
        (fJ7_fill_fda19 S17 95 12000 ((S17.2.1 90 6)) (((S17.2.1 90 6) + x2)) ((0 : Int32))).bind fun r20 =>
        (some (q_sI r20 90 6 ((r20.2.1 90 6) + x2))).bind fun S23 =>
        some (((S23.2.1 90 5), S23)) else none else none else none else none
      else
        some (((0 : Int32), S))
noncomputable def fX2_hasCell (S : QS) (x1 : Int32) (x2 : Int32) : Option (Bool) :=
  if x1 ≤ 0 then
    some (false)
  else
    if (S.2.1 90 5) < x1 then
      some (false)
    else
      if x2 < 0 then
        some (false)
      else
        if q_inb x1 2001 = true then if (S.2.1 93 x1.toNatClampNeg) ≤ x2 then
          some (false)
        else
          some (true) else none
noncomputable def fX2_cell (S : QS) (x1 : Int32) (x2 : Int32) : Option (Int32) :=
  (fX2_hasCell S x1 x2).bind fun r1 =>
  if r1 = true then
    if q_inb x1 2001 = true then if q_inb ((S.2.1 92 x1.toNatClampNeg) + x2) 12000 = true then some ((S.2.1 95 ((S.2.1 92 x1.toNatClampNeg) + x2).toNatClampNeg)) else none else none
  else
    some ((0 : Int32))
noncomputable def fX2_setCell (S : QS) (x1 : Int32) (x2 : Int32) (x3 : Int32) : Option (QS) :=
  (fX2_hasCell S x1 x2).bind fun r1 =>
  if r1 = true then
    if q_inb x1 2001 = true then if q_inb ((S.2.1 92 x1.toNatClampNeg) + x2) 12000 = true then (some (q_sI S 95 ((S.2.1 92 x1.toNatClampNeg) + x2).toNatClampNeg x3)).bind fun S5 =>
    some (S5) else none else none
  else
    some (S)
noncomputable def fX5_begin (S : QS) (p : Nat) : Option (QS) :=
  (fX0_begin S p).bind fun r1 =>
  (fX1_begin r1 p).bind fun r4 =>
  (some (q_sI r4 p 2 (0 : Int32))).bind fun S7 =>
  (some (q_sI S7 p 16 (0 : Int32))).bind fun S10 =>
  (fJ7_fill_53178 S10 ((p + 34)) 1536 ((-1 : Int32))).bind fun r13 =>
  some (r13)
noncomputable def fX5_inherit (S : QS) (p : Nat) (x1 : Int32) : Option (QS) :=
  if x1 ≤ 0 then
    some (S)
  else
    if x1 < (S.2.1 (p + 1) 0) then
      if q_inb x1 32 = true then if (S.2.1 (p + 3) x1.toNatClampNeg) < 0 then
        some (S)
      else
        if q_inb (S.2.1 (p + 3) x1.toNatClampNeg) 32 = true then if q_inb x1 32 = true then (some (q_sI S (p + 5) x1.toNatClampNeg (S.2.1 (p + 5) (S.2.1 (p + 3) x1.toNatClampNeg).toNatClampNeg))).bind fun S4 =>
        if q_cpok S4 0 (p + 34) 1536 ((S.2.1 (p + 3) x1.toNatClampNeg) * (48 : Int32)) (x1 * (48 : Int32)) (48 : Int32) (p + 34) 1536 = true then (some (q_cpI S4 (p + 34) ((S.2.1 (p + 3) x1.toNatClampNeg) * (48 : Int32)).toNatClampNeg (p + 34) (x1 * (48 : Int32)).toNatClampNeg (48 : Int32).toNatClampNeg)).bind fun S8 =>
        some (S8) else none else none else none else none
    else
      some (S)
noncomputable def fX5_addParameter (S : QS) (p : Nat) (x1 : Int32) (x2 : Int32) : Option (QS) :=
  if q_inb x1 48 = true then (Option.bind (α := QS) (if (12 : Int32) ≤ (S.2.1 (p + 25) x1.toNatClampNeg) then
      some (S)
    else
      if q_inb x1 48 = true then if q_inb ((x1 * (12 : Int32)) + (S.2.1 (p + 25) x1.toNatClampNeg)) 576 = true then (some (q_sI S (p + 26) ((x1 * (12 : Int32)) + (S.2.1 (p + 25) x1.toNatClampNeg)).toNatClampNeg x2)).bind fun S4 =>
      some (S4) else none else none) fun v7 =>
    if q_inb x1 48 = true then if q_inb x1 48 = true then (some (q_sI v7 (p + 25) x1.toNatClampNeg ((v7.2.1 (p + 25) x1.toNatClampNeg) + (1 : Int32)))).bind fun S11 =>
    some (S11) else none else none) else none
noncomputable def fX5_addBody (S : QS) (p : Nat) (x1 : Int32) (x2 : Int32) (x3 : Bool) (x4 : Int32) : Option (QS) :=
  if (48 : Int32) ≤ (S.2.1 p 2) then
    some (S)
  else
    (fX0_isClass S p x1).bind fun r1 =>
    if r1 = true then
      (some (q_sI S p 2 ((S.2.1 p 2) + (1 : Int32)))).bind fun S3 =>
      if q_inb (S.2.1 p 2) 48 = true then (some (q_sI S3 (p + 22) (S.2.1 p 2).toNatClampNeg x2)).bind fun S7 =>
      if q_inb (S.2.1 p 2) 48 = true then (some (q_sI S7 (p + 23) (S.2.1 p 2).toNatClampNeg x1)).bind fun S11 =>
      if q_inb (S.2.1 p 2) 48 = true then (some (q_sI S11 (p + 24) (S.2.1 p 2).toNatClampNeg (vp_nar .boolean (q_b x3)))).bind fun S15 =>
      if q_inb (S.2.1 p 2) 48 = true then (some (q_sI S15 (p + 25) (S.2.1 p 2).toNatClampNeg (0 : Int32))).bind fun S19 =>
      (Option.bind (α := Int32) (if x4 = (-1 : Int32) then
          some ((S.2.1 p 2))
        else
          if q_inb x4 48 = true then some ((S19.2.1 (p + 33) x4.toNatClampNeg)) else none) fun v23 =>
        if q_inb (S.2.1 p 2) 48 = true then (some (q_sI S19 (p + 33) (S.2.1 p 2).toNatClampNeg v23)).bind fun S25 =>
        if x3 = true then
          (fX5_addParameter S25 p ((S.2.1 p 2)) x1).bind fun r28 =>
          if q_inb (S.2.1 p 2) 48 = true then if q_inb ((x1 * (48 : Int32)) + (r28.2.1 (p + 33) (S.2.1 p 2).toNatClampNeg)) 1536 = true then (some (q_sI r28 (p + 34) ((x1 * (48 : Int32)) + (r28.2.1 (p + 33) (S.2.1 p 2).toNatClampNeg)).toNatClampNeg (S.2.1 p 2))).bind fun S33 =>
          some (S33) else none else none
        else
          some (S25) else none) else none else none else none else none
    else
      some (S)
noncomputable def fX5_bodyOf (S : QS) (p : Nat) (x1 : Int32) (x2 : Int32) : Option (Int32) :=
  (fX0_isClass S p x1).bind fun r1 =>
  (Option.bind (α := Int32) (if r1 = true then
      if q_inb ((x1 * (48 : Int32)) + x2) 1536 = true then some ((S.2.1 (p + 34) ((x1 * (48 : Int32)) + x2).toNatClampNeg)) else none
    else
      some ((-1 : Int32))) fun v4 =>
    if v4 = (-1 : Int32) then
      some (x2)
    else
      some (v4))
noncomputable def fX5_takes (S : QS) (p : Nat) (x1 : Int32) : Option (Int32) :=
  if q_inb x1 1024 = true then if (S.2.1 (p + 11) x1.toNatClampNeg) = (39 : Int32) then
    if q_inb x1 1024 = true then if q_inb (S.2.1 (p + 12) x1.toNatClampNeg) 48 = true then some ((S.2.1 (p + 25) (S.2.1 (p + 12) x1.toNatClampNeg).toNatClampNeg)) else none else none
  else
    if (S.2.1 (p + 11) x1.toNatClampNeg) = (40 : Int32) then
      if q_inb x1 1024 = true then if q_inb (S.2.1 (p + 12) x1.toNatClampNeg) 48 = true then some ((S.2.1 (p + 25) (S.2.1 (p + 12) x1.toNatClampNeg).toNatClampNeg)) else none else none
    else
      if q_inb (S.2.1 (p + 11) x1.toNatClampNeg) 46 = true then some (((q_tab 0).getD (S.2.1 (p + 11) x1.toNatClampNeg).toNatClampNeg 0)) else none else none
noncomputable def fX5_leaves_22 (S : QS) (p : Nat) (y1 : Int32) : Option (Int32) :=
  if q_inb y1 1024 = true then if q_inb (S.2.1 (p + 12) y1.toNatClampNeg) 48 = true then if (S.2.1 (p + 27) (S.2.1 (p + 12) y1.toNatClampNeg).toNatClampNeg) = (68 : Int32) then
    some ((0 : Int32))
  else
    some ((1 : Int32)) else none else none
noncomputable def fX5_leaves (S : QS) (p : Nat) (x1 : Int32) : Option (Int32) :=
  if q_inb x1 1024 = true then if (S.2.1 (p + 11) x1.toNatClampNeg) = (39 : Int32) then
    fX5_leaves_22 S p x1
  else
    if (S.2.1 (p + 11) x1.toNatClampNeg) = (40 : Int32) then
      fX5_leaves_22 S p x1
    else
      if q_inb (S.2.1 (p + 11) x1.toNatClampNeg) 46 = true then some (((q_tab 1).getD (S.2.1 (p + 11) x1.toNatClampNeg).toNatClampNeg 0)) else none else none
noncomputable def fX5_told (S : QS) (p : Nat) (x1 : Int32) (x2 : Int32) : Option (Int32) :=
  if q_inb x1 1024 = true then if q_inb x1 1024 = true then if q_inb x1 1024 = true then if (S.2.1 (p + 11) x1.toNatClampNeg) = (3 : Int32) ∨ (S.2.1 (p + 11) x1.toNatClampNeg) = (5 : Int32) ∨ (S.2.1 (p + 11) x1.toNatClampNeg) = (6 : Int32) ∨ (S.2.1 (p + 11) x1.toNatClampNeg) = (7 : Int32) then
      some ((67 : Int32))
  else if (S.2.1 (p + 11) x1.toNatClampNeg) = (26 : Int32) ∨ (S.2.1 (p + 11) x1.toNatClampNeg) = (27 : Int32) ∨ (S.2.1 (p + 11) x1.toNatClampNeg) = (28 : Int32) ∨ (S.2.1 (p + 11) x1.toNatClampNeg) = (29 : Int32) ∨ (S.2.1 (p + 11) x1.toNatClampNeg) = (37 : Int32) ∨ (S.2.1 (p + 11) x1.toNatClampNeg) = (38 : Int32) then
      some ((0 : Int32))
  else if (S.2.1 (p + 11) x1.toNatClampNeg) = (32 : Int32) then
      some ((69 : Int32))
  else if (S.2.1 (p + 11) x1.toNatClampNeg) = (33 : Int32) then
      if x2 = 0 then
        some ((69 : Int32))
      else
        some ((66 : Int32))
  else if (S.2.1 (p + 11) x1.toNatClampNeg) = (34 : Int32) then
      if x2 = 0 then
        some ((69 : Int32))
      else
        if x2 = (1 : Int32) then
          some ((66 : Int32))
        else
          some ((67 : Int32))
  else if (S.2.1 (p + 11) x1.toNatClampNeg) = (35 : Int32) then
      some ((S.2.1 (p + 13) x1.toNatClampNeg))
  else if (S.2.1 (p + 11) x1.toNatClampNeg) = (36 : Int32) then
      if x2 = 0 then
        some ((S.2.1 (p + 13) x1.toNatClampNeg))
      else
        if q_inb (S.2.1 (p + 12) x1.toNatClampNeg) 48 = true then some ((S.2.1 (p + 8) (S.2.1 (p + 12) x1.toNatClampNeg).toNatClampNeg)) else none
  else if (S.2.1 (p + 11) x1.toNatClampNeg) = (39 : Int32) then
      if q_inb (((S.2.1 (p + 12) x1.toNatClampNeg) * (12 : Int32)) + x2) 576 = true then some ((S.2.1 (p + 26) (((S.2.1 (p + 12) x1.toNatClampNeg) * (12 : Int32)) + x2).toNatClampNeg)) else none
  else if (S.2.1 (p + 11) x1.toNatClampNeg) = (40 : Int32) then
      if x2 = 0 then
        some ((S.2.1 (p + 13) x1.toNatClampNeg))
      else
        if q_inb (((S.2.1 (p + 12) x1.toNatClampNeg) * (12 : Int32)) + x2) 576 = true then some ((S.2.1 (p + 26) (((S.2.1 (p + 12) x1.toNatClampNeg) * (12 : Int32)) + x2).toNatClampNeg)) else none
  else if (S.2.1 (p + 11) x1.toNatClampNeg) = (41 : Int32) then
      some ((1 : Int32))
  else if (S.2.1 (p + 11) x1.toNatClampNeg) = (42 : Int32) then
      if q_inb x1 1024 = true then if q_inb (S.2.1 (p + 15) x1.toNatClampNeg) 48 = true then some ((S.2.1 (p + 27) (S.2.1 (p + 15) x1.toNatClampNeg).toNatClampNeg)) else none else none
  else some ((66 : Int32)) else none else none else none
noncomputable def fX5_leftBy (S : QS) (p : Nat) (x1 : Int32) : Option (Int32) :=
  if q_inb x1 1024 = true then if (S.2.1 (p + 11) x1.toNatClampNeg) = (1 : Int32) then
      some ((65 : Int32))
  else if (S.2.1 (p + 11) x1.toNatClampNeg) = (30 : Int32) ∨ (S.2.1 (p + 11) x1.toNatClampNeg) = (31 : Int32) ∨ (S.2.1 (p + 11) x1.toNatClampNeg) = (37 : Int32) then
      if q_inb x1 1024 = true then some ((S.2.1 (p + 12) x1.toNatClampNeg)) else none
  else if (S.2.1 (p + 11) x1.toNatClampNeg) = (35 : Int32) then
      if q_inb x1 1024 = true then if q_inb (S.2.1 (p + 12) x1.toNatClampNeg) 48 = true then some ((S.2.1 (p + 8) (S.2.1 (p + 12) x1.toNatClampNeg).toNatClampNeg)) else none else none
  else if (S.2.1 (p + 11) x1.toNatClampNeg) = (39 : Int32) ∨ (S.2.1 (p + 11) x1.toNatClampNeg) = (40 : Int32) then
      if q_inb x1 1024 = true then if q_inb (S.2.1 (p + 12) x1.toNatClampNeg) 48 = true then some ((S.2.1 (p + 27) (S.2.1 (p + 12) x1.toNatClampNeg).toNatClampNeg)) else none else none
  else some ((66 : Int32)) else none
noncomputable def tX5_suits_127 (S : QS) (p : Nat) (a2 : Nat) (n2 : Nat) (y1 : Int32) (y4 : Int32) (y5 : Int32) (x : Int32) : Option ((Bool) ⊕ (Int32)) :=
  if y5 ≤ x then
    some (.inl ((true)))
  else
    if q_inb (y4 + x) n2 = true then (fX5_told S p y1 x).bind fun r2 =>
    (fX0_isBelow S p ((S.2.1 a2 (y4 + x).toNatClampNeg)) r2).bind fun r4 =>
    if r4 = true then
      some (.inr (x + (1 : Int32)))
    else
      some (.inl ((false))) else none
noncomputable def fX5_suits_127 (S : QS) (p : Nat) (a2 : Nat) (n2 : Nat) (y1 : Int32) (y4 : Int32) (y5 : Int32) (y6 : Int32) : Option (Bool) := q_run (tX5_suits_127 S p a2 n2 y1 y4 y5) y6
noncomputable def fX5_suits (S : QS) (p : Nat) (x1 : Int32) (a2 : Nat) (n2 : Nat) (x3 : Int32) (x4 : Int32) : Option (Bool) :=
  if q_inb x1 1024 = true then if (S.2.1 (p + 11) x1.toNatClampNeg) = (2 : Int32) then
      if q_inb x1 1024 = true then if q_inb (x3 + (S.2.1 (p + 12) x1.toNatClampNeg)) n2 = true then if (S.2.1 a2 (x3 + (S.2.1 (p + 12) x1.toNatClampNeg)).toNatClampNeg) = (67 : Int32) then
        some (false)
      else
        some (true) else none else none
  else if (S.2.1 (p + 11) x1.toNatClampNeg) = (4 : Int32) then
      if q_inb x1 1024 = true then if q_inb (x3 + (S.2.1 (p + 12) x1.toNatClampNeg)) n2 = true then if (S.2.1 a2 (x3 + (S.2.1 (p + 12) x1.toNatClampNeg)).toNatClampNeg) = (66 : Int32) then
        some (true)
      else
        some (false) else none else none
  else if (S.2.1 (p + 11) x1.toNatClampNeg) = (43 : Int32) then
      if q_inb x1 1024 = true then if q_inb (S.2.1 (p + 15) x1.toNatClampNeg) 48 = true then if (S.2.1 (p + 27) (S.2.1 (p + 15) x1.toNatClampNeg).toNatClampNeg) = (68 : Int32) then
        some (true)
      else
        some (false) else none else none
  else (fX5_takes S p x1).bind fun r16 =>
    fX5_suits_127 S p a2 n2 x1 x4 r16 ((0 : Int32)) else none
noncomputable def tX8_take_30 (x : Int32 × QS) : Option ((QS) ⊕ (Int32 × QS)) :=
  if (x.2.2.1 2 1) ≤ x.1 then
    some (.inl ((x.2)))
  else
    if q_inb (x.1 >>> ((2 : Int32) &&& 31)) 4000 = true then if q_inb x.1 16000 = true then (some (q_sI x.2 3 x.1.toNatClampNeg (vp_nar .byte ((x.2.2.1 1 (x.1 >>> ((2 : Int32) &&& 31)).toNatClampNeg) >>> (((24 : Int32) - ((8 : Int32) * (x.1 &&& (3 : Int32)))) &&& 31)).toInt8.toInt32))).bind fun S3 =>
    some (.inr ((x.1 + (1 : Int32)), S3)) else none else none
noncomputable def fX8_take_30 (S : QS) (y3 : Int32) : Option (QS) := q_run (tX8_take_30) (y3, S)
noncomputable def fX8_take (S : QS) (x2 : Int32) : Option (QS) :=
  if x2 < 0 then
    (some (q_sI S 2 1 (0 : Int32))).bind fun S6 =>
    fX8_take_30 S6 ((0 : Int32))
  else
    if (16000 : Int32) < x2 then
      (some (q_sI S 2 1 (0 : Int32))).bind fun S9 =>
      fX8_take_30 S9 ((0 : Int32))
    else
      if x2 ≤ ((4 : Int32) * (nI 4000)) then
        (some (q_sI S 2 1 x2)).bind fun S12 =>
        fX8_take_30 S12 ((0 : Int32))
      else
        (some (q_sI S 2 1 (0 : Int32))).bind fun S15 =>
        fX8_take_30 S15 ((0 : Int32))
noncomputable def fX8_useUp (S : QS) : Option (QS) :=
  (some (q_sI S 2 1 (0 : Int32))).bind fun S1 =>
  some (S1)
noncomputable def uX8_split_55 (S : QS) (y1 : Int32) (y2 : Int32) (y3 : Int32) (y4 : Int32) : Option ((Bool × QS) ⊕ (Int32 × Int32 × Int32 × QS)) :=
  if y4 = (127 : Int32) then
    some (.inl (((false, S))))
  else
    (Option.bind (α := Bool) (if y4 = (59 : Int32) then
        some (true)
      else
        if y1 = 0 then
          some (false)
        else
          if y4 = (10 : Int32) then
            some (false)
          else
            some (true)) fun v1 =>
      (Option.bind (α := Bool) (if v1 = true then
          some (true)
        else
          if (32 : Int32) < y4 then
            some (false)
          else
            some (true)) fun v2 =>
        (Option.bind (α := Bool) (if y4 = (40 : Int32) then
            some (true)
          else
            if y4 = (41 : Int32) then
              some (true)
            else
              if y4 = (123 : Int32) then
                some (true)
              else
                if y4 = (125 : Int32) then
                  some (true)
                else
                  if y4 = (58 : Int32) then
                    some (true)
                  else
                    some (false)) fun v3 =>
          (Option.bind (α := QS) (if v2 = true then
              some (S)
            else
              if v3 = true then
                if q_inb (S.2.1 2 5) 16000 = true then (some (q_sI S 4 (S.2.1 2 5).toNatClampNeg y3)).bind fun S5 =>
                (some (q_sI S5 2 5 ((S5.2.1 2 5) + (1 : Int32)))).bind fun S8 =>
                some (S8) else none
              else
                if y2 = 0 then
                  if q_inb (S.2.1 2 5) 16000 = true then (some (q_sI S 4 (S.2.1 2 5).toNatClampNeg y3)).bind fun S12 =>
                  (some (q_sI S12 2 5 ((S12.2.1 2 5) + (1 : Int32)))).bind fun S15 =>
                  some (S15) else none
                else
                  some (S)) fun v18 =>
            (Option.bind (α := QS) (if v2 = true then
                some (v18)
              else
                if q_inb ((v18.2.1 2 5) - (1 : Int32)) 16000 = true then (some (q_sI v18 5 ((v18.2.1 2 5) - (1 : Int32)).toNatClampNeg (y3 + (1 : Int32)))).bind fun S21 =>
                some (S21) else none) fun v24 =>
              if v2 = true then
                some (.inr ((q_b v1), (0 : Int32), (y3 + (1 : Int32)), v24))
              else
                if v3 = true then
                  some (.inr ((q_b v1), (0 : Int32), (y3 + (1 : Int32)), v24))
                else
                  some (.inr ((q_b v1), (1 : Int32), (y3 + (1 : Int32)), v24)))))))
noncomputable def tX8_split_11 (x : Int32 × Int32 × Int32 × QS) : Option ((Bool × QS) ⊕ (Int32 × Int32 × Int32 × QS)) :=
  if (x.2.2.2.2.1 2 1) ≤ x.2.2.1 then
    some (.inl (((true, x.2.2.2))))
  else
    if q_inb x.2.2.1 16000 = true then if (32 : Int32) ≤ (x.2.2.2.2.1 3 x.2.2.1.toNatClampNeg) then
      uX8_split_55 x.2.2.2 x.1 x.2.1 x.2.2.1 ((x.2.2.2.2.1 3 x.2.2.1.toNatClampNeg))
    else
      if (x.2.2.2.2.1 3 x.2.2.1.toNatClampNeg) = (9 : Int32) then
        uX8_split_55 x.2.2.2 x.1 x.2.1 x.2.2.1 ((x.2.2.2.2.1 3 x.2.2.1.toNatClampNeg))
      else
        if (x.2.2.2.2.1 3 x.2.2.1.toNatClampNeg) = (10 : Int32) then
          uX8_split_55 x.2.2.2 x.1 x.2.1 x.2.2.1 ((x.2.2.2.2.1 3 x.2.2.1.toNatClampNeg))
        else
          if (x.2.2.2.2.1 3 x.2.2.1.toNatClampNeg) = (13 : Int32) then
            uX8_split_55 x.2.2.2 x.1 x.2.1 x.2.2.1 ((x.2.2.2.2.1 3 x.2.2.1.toNatClampNeg))
          else
            some (.inl (((false, x.2.2.2)))) else none
noncomputable def fX8_split_11 (S : QS) (y1 : Int32) (y2 : Int32) (y3 : Int32) : Option (Bool × QS) := q_run (tX8_split_11) (y1, y2, y3, S)
noncomputable def fX8_split (S : QS) : Option (Bool × QS) :=
  (some (q_sI S 2 5 (0 : Int32))).bind fun S27 =>
  fX8_split_11 S27 ((0 : Int32)) ((0 : Int32)) ((0 : Int32))
noncomputable def fX8_start (S : QS) (x1 : Int32) : Option (Int32) :=
  if x1 < 0 then
    some ((0 : Int32))
  else
    if (S.2.1 2 5) ≤ x1 then
      some ((0 : Int32))
    else
      if q_inb x1 16000 = true then some ((S.2.1 4 x1.toNatClampNeg)) else none
noncomputable def fX8_stop (S : QS) (x1 : Int32) : Option (Int32) :=
  if x1 < 0 then
    some ((0 : Int32))
  else
    if (S.2.1 2 5) ≤ x1 then
      some ((0 : Int32))
    else
      if q_inb x1 16000 = true then some ((S.2.1 5 x1.toNatClampNeg)) else none
noncomputable def fX8_isMark (S : QS) (x1 : Int32) (x2 : Int32) : Option (Bool) :=
  if x1 < 0 then
    some (false)
  else
    if (S.2.1 2 5) ≤ x1 then
      some (false)
    else
      if q_inb x1 16000 = true then if q_inb (S.2.1 4 x1.toNatClampNeg) 16000 = true then if (S.2.1 3 (S.2.1 4 x1.toNatClampNeg).toNatClampNeg) = x2 then
        some (true)
      else
        some (false) else none else none
noncomputable def tX8_isText_27 (S : QS) (y1 : Int32) (y3 : Nat) (x : Int32) : Option ((Bool) ⊕ (Int32)) :=
  (fJ0_length y3).bind fun r1 =>
  if r1 ≤ x then
    some (.inl ((true)))
  else
    if q_inb (y1 + x) 16000 = true then (fJ0_charAt y3 x).bind fun r5 =>
    if (S.2.1 3 (y1 + x).toNatClampNeg) = r5 then
      some (.inr (x + (1 : Int32)))
    else
      some (.inl ((false))) else none
noncomputable def fX8_isText_27 (S : QS) (y1 : Int32) (y3 : Nat) (y4 : Int32) : Option (Bool) := q_run (tX8_isText_27 S y1 y3) y4
noncomputable def fX8_isText (S : QS) (x1 : Int32) (x2 : Int32) (x3 : Nat) : Option (Bool) :=
  if x1 < 0 then
    some (false)
  else
    if (S.2.1 2 1) < x2 then
      some (false)
    else
      (fJ0_length x3).bind fun r8 =>
      if (x2 - x1) = r8 then
        fX8_isText_27 S x1 x3 ((0 : Int32))
      else
        some (false)
noncomputable def fX8_isWord (S : QS) (x1 : Int32) (x2 : Nat) : Option (Bool) :=
  if x1 < 0 then
    some (false)
  else
    if (S.2.1 2 5) ≤ x1 then
      some (false)
    else
      if q_inb x1 16000 = true then if q_inb x1 16000 = true then (fX8_isText S ((S.2.1 4 x1.toNatClampNeg)) ((S.2.1 5 x1.toNatClampNeg)) x2).bind fun r3 =>
      if r3 = true then
        some (true)
      else
        some (false) else none else none
noncomputable def tX8_same_63 (S : QS) (y1 : Int32) (y4 : Int32) (x : Int32) : Option ((Bool) ⊕ (Int32)) :=
  if q_inb y1 16000 = true then if (S.2.1 5 y1.toNatClampNeg) ≤ x then
    some (.inl ((true)))
  else
    if q_inb x 16000 = true then if q_inb (x + y4) 16000 = true then if (S.2.1 3 x.toNatClampNeg) = (S.2.1 3 (x + y4).toNatClampNeg) then
      some (.inr (x + (1 : Int32)))
    else
      some (.inl ((false))) else none else none else none
noncomputable def fX8_same_63 (S : QS) (y1 : Int32) (y4 : Int32) (y5 : Int32) : Option (Bool) := q_run (tX8_same_63 S y1 y4) y5
noncomputable def fX8_same (S : QS) (x1 : Int32) (x2 : Int32) (x3 : Int32) : Option (Bool) :=
  if x1 < 0 then
    some (false)
  else
    if (S.2.1 2 5) ≤ x1 then
      some (false)
    else
      if x2 < 0 then
        some (false)
      else
        if (S.2.1 2 1) < x3 then
          some (false)
        else
          if q_inb x1 16000 = true then if q_inb x1 16000 = true then if (x3 - x2) = ((S.2.1 5 x1.toNatClampNeg) - (S.2.1 4 x1.toNatClampNeg)) then
            if q_inb x1 16000 = true then if q_inb x1 16000 = true then fX8_same_63 S x1 ((x2 - (S.2.1 4 x1.toNatClampNeg))) ((S.2.1 4 x1.toNatClampNeg)) else none else none
          else
            some (false) else none else none
noncomputable def uX8_numberIn_102 (S : QS) (y1 : Nat) (y2 : Int32) (y3 : Int32) (y4 : Int32) (y7 : Int32) : Option ((Int32) ⊕ (Int32 × Int32 × Int32 × Int32)) :=
  if y2 < 0 then
    some (.inr ((y4 + (1 : Int32)), y2, (0 : Int32), (y7 + (1 : Int32))))
  else
    if (S.2.1 2 1) < y3 then
      some (.inr ((y4 + (1 : Int32)), y2, (0 : Int32), (y7 + (1 : Int32))))
    else
      some (.inr ((y4 + (1 : Int32)), y2, (1 : Int32), (y7 + (1 : Int32))))
noncomputable def tX8_numberIn_28 (S : QS) (y1 : Nat) (y2 : Int32) (y3 : Int32) (x : Int32 × Int32 × Int32 × Int32) : Option ((Int32) ⊕ (Int32 × Int32 × Int32 × Int32)) :=
  (fJ0_length y1).bind fun r1 =>
  if r1 ≤ x.2.2.2 then
    if x.2.2.1 = 0 then
      some (.inl (((-1 : Int32))))
    else
      if x.2.1 = y3 then
        some (.inl ((x.1)))
      else
        some (.inl (((-1 : Int32))))
  else
    (fJ0_charAt y1 x.2.2.2).bind fun r4 =>
    if r4 = (32 : Int32) then
      if x.2.2.1 = 0 then
        uX8_numberIn_102 S y1 y2 y3 x.1 x.2.2.2
      else
        if x.2.1 = y3 then
          some (.inl ((x.1)))
        else
          uX8_numberIn_102 S y1 y2 y3 x.1 x.2.2.2
    else
      (Option.bind (α := Bool) (if x.2.2.1 = 0 then
          some (false)
        else
          if y3 ≤ x.2.1 then
            some (false)
          else
            if q_inb x.2.1 16000 = true then if (S.2.1 3 x.2.1.toNatClampNeg) = r4 then
              some (true)
            else
              some (false) else none) fun v8 =>
        some (.inr (x.1, (x.2.1 + (1 : Int32)), (q_b v8), (x.2.2.2 + (1 : Int32)))))
noncomputable def fX8_numberIn_28 (S : QS) (y1 : Nat) (y2 : Int32) (y3 : Int32) (y4 : Int32) (y5 : Int32) (y6 : Int32) (y7 : Int32) : Option (Int32) := q_run (tX8_numberIn_28 S y1 y2 y3) (y4, y5, y6, y7)
noncomputable def fX8_numberIn (S : QS) (x1 : Nat) (x2 : Int32) (x3 : Int32) : Option (Int32) :=
  if x2 < 0 then
    fX8_numberIn_28 S x1 x2 x3 ((0 : Int32)) x2 ((0 : Int32)) ((0 : Int32))
  else
    if (S.2.1 2 1) < x3 then
      fX8_numberIn_28 S x1 x2 x3 ((0 : Int32)) x2 ((0 : Int32)) ((0 : Int32))
    else
      fX8_numberIn_28 S x1 x2 x3 ((0 : Int32)) x2 ((1 : Int32)) ((0 : Int32))
noncomputable def tX8_isNamed_55 (S : QS) (y2 : Int32) (x : Int32) : Option ((Bool) ⊕ (Int32)) :=
  if y2 ≤ x then
    some (.inl ((true)))
  else
    if q_inb x 16000 = true then (Option.bind (α := Bool) (if (S.2.1 3 x.toNatClampNeg) < (97 : Int32) then
        if (S.2.1 3 x.toNatClampNeg) < (65 : Int32) then
          some (false)
        else
          if (90 : Int32) < (S.2.1 3 x.toNatClampNeg) then
            some (false)
          else
            some (true)
      else
        if (S.2.1 3 x.toNatClampNeg) ≤ (122 : Int32) then
          some (true)
        else
          if (S.2.1 3 x.toNatClampNeg) < (65 : Int32) then
            some (false)
          else
            if (90 : Int32) < (S.2.1 3 x.toNatClampNeg) then
              some (false)
            else
              some (true)) fun v2 =>
      if v2 = true then
        some (.inr (x + (1 : Int32)))
      else
        if (S.2.1 3 x.toNatClampNeg) = (95 : Int32) then
          some (.inr (x + (1 : Int32)))
        else
          if (S.2.1 3 x.toNatClampNeg) < (48 : Int32) then
            some (.inl ((false)))
          else
            if (S.2.1 3 x.toNatClampNeg) ≤ (57 : Int32) then
              some (.inr (x + (1 : Int32)))
            else
              some (.inl ((false)))) else none
noncomputable def fX8_isNamed_55 (S : QS) (y2 : Int32) (y4 : Int32) : Option (Bool) := q_run (tX8_isNamed_55 S y2) y4
noncomputable def fX8_isNamed (S : QS) (x1 : Int32) (x2 : Int32) (x3 : Int32) : Option (Bool) :=
  if x1 < 0 then
    some (false)
  else
    if (S.2.1 2 1) < x2 then
      some (false)
    else
      if x2 ≤ x1 then
        some (false)
      else
        if (x2 - x1) ≤ (24 : Int32) then
          if q_inb x1 16000 = true then if (S.2.1 3 x1.toNatClampNeg) < x3 then
            some (false)
          else
            if q_inb x1 16000 = true then if (S.2.1 3 x1.toNatClampNeg) ≤ (x3 + (25 : Int32)) then
              fX8_isNamed_55 S x2 x1
            else
              some (false) else none else none
        else
          some (false)
noncomputable def fX8_isName (S : QS) (x1 : Int32) : Option (Bool) :=
  if x1 < 0 then
    some (false)
  else
    if (S.2.1 2 5) ≤ x1 then
      some (false)
    else
      if q_inb x1 16000 = true then if q_inb x1 16000 = true then (fX8_isNamed S ((S.2.1 4 x1.toNatClampNeg)) ((S.2.1 5 x1.toNatClampNeg)) ((97 : Int32))).bind fun r3 =>
      if r3 = true then
        some (true)
      else
        some (false) else none else none
noncomputable def fX8_isClassName (S : QS) (x1 : Int32) : Option (Bool) :=
  if x1 < 0 then
    some (false)
  else
    if (S.2.1 2 5) ≤ x1 then
      some (false)
    else
      if q_inb x1 16000 = true then if q_inb x1 16000 = true then (fX8_isNamed S ((S.2.1 4 x1.toNatClampNeg)) ((S.2.1 5 x1.toNatClampNeg)) ((65 : Int32))).bind fun r3 =>
      if r3 = true then
        some (true)
      else
        some (false) else none else none
noncomputable def tX8_dotOf_19 (S : QS) (y1 : Int32) (x : Int32) : Option ((Int32) ⊕ (Int32)) :=
  if q_inb y1 16000 = true then if (S.2.1 5 y1.toNatClampNeg) ≤ x then
    some (.inl (((-1 : Int32))))
  else
    if q_inb x 16000 = true then if (S.2.1 3 x.toNatClampNeg) = (46 : Int32) then
      some (.inl ((x)))
    else
      some (.inr (x + (1 : Int32))) else none else none
noncomputable def fX8_dotOf_19 (S : QS) (y1 : Int32) (y2 : Int32) : Option (Int32) := q_run (tX8_dotOf_19 S y1) y2
noncomputable def fX8_dotOf (S : QS) (x1 : Int32) : Option (Int32) :=
  if x1 < 0 then
    some ((-1 : Int32))
  else
    if (S.2.1 2 5) ≤ x1 then
      some ((-1 : Int32))
    else
      if q_inb x1 16000 = true then fX8_dotOf_19 S x1 ((S.2.1 4 x1.toNatClampNeg)) else none
noncomputable def fX8_isReference (S : QS) (x1 : Int32) : Option (Bool) :=
  (fX8_dotOf S x1).bind fun r1 =>
  if r1 < 0 then
    some (false)
  else
    if q_inb x1 16000 = true then (fX8_isNamed S ((S.2.1 4 x1.toNatClampNeg)) r1 ((65 : Int32))).bind fun r4 =>
    if r4 = true then
      if q_inb x1 16000 = true then (fX8_isNamed S ((r1 + (1 : Int32))) ((S.2.1 5 x1.toNatClampNeg)) ((97 : Int32))).bind fun r7 =>
      if r7 = true then
        some (true)
      else
        some (false) else none
    else
      some (false) else none
noncomputable def fX8_elementStop (S : QS) (x1 : Int32) : Option (Int32) :=
  (fX8_stop S x1).bind fun r1 =>
  (fX8_start S x1).bind fun r3 =>
  if (r1 - (2 : Int32)) < r3 then
    some (r1)
  else
    (fX8_isText S ((r1 - (2 : Int32))) r1 1000002).bind fun r5 =>
    if r5 = true then
      some ((r1 - (2 : Int32)))
    else
      some (r1)
noncomputable def fX8_isType (S : QS) (x1 : Int32) : Option (Bool) :=
  (fX8_start S x1).bind fun r1 =>
  (fX8_elementStop S x1).bind fun r3 =>
  (fX8_isText S r1 r3 1000004).bind fun r5 =>
  if r5 = true then
    some (true)
  else
    (fX8_isNamed S r1 r3 ((65 : Int32))).bind fun r7 =>
    if r7 = true then
      some (true)
    else
      some (false)
noncomputable def tX8_longOf_47 (S : QS) (y1 : Int32) (y2 : Int32) (x : Int64 × Int32) : Option ((Int64) ⊕ (Int64 × Int32)) :=
  if q_inb y1 16000 = true then if (S.2.1 5 y1.toNatClampNeg) ≤ x.2 then
    if y2 = 0 then
      some (.inl ((x.1)))
    else
      some (.inl (((-x.1))))
  else
    if q_inb x.2 16000 = true then some (.inr (((x.1 * (10 : Int64)) + ((S.2.1 3 x.2.toNatClampNeg) - (48 : Int32)).toInt64), (x.2 + (1 : Int32)))) else none else none
noncomputable def fX8_longOf_47 (S : QS) (y1 : Int32) (y2 : Int32) (y3 : Int64) (y5 : Int32) : Option (Int64) := q_run (tX8_longOf_47 S y1 y2) (y3, y5)
noncomputable def fX8_longOf (S : QS) (x1 : Int32) : Option (Int64) :=
  if q_inb x1 16000 = true then if q_inb (S.2.1 4 x1.toNatClampNeg) 16000 = true then (Option.bind (α := Bool) (if (S.2.1 3 (S.2.1 4 x1.toNatClampNeg).toNatClampNeg) = (45 : Int32) then
      some (true)
    else
      some (false)) fun v5 =>
    if v5 = true then
      if q_inb x1 16000 = true then fX8_longOf_47 S x1 ((q_b v5)) ((0 : Int64)) (((S.2.1 4 x1.toNatClampNeg) + (1 : Int32))) else none
    else
      if q_inb x1 16000 = true then fX8_longOf_47 S x1 ((q_b v5)) ((0 : Int64)) ((S.2.1 4 x1.toNatClampNeg)) else none) else none else none
noncomputable def tX8_isNumber_73 (S : QS) (y1 : Int32) (x : Int32) : Option ((Bool) ⊕ (Int32)) :=
  if q_inb y1 16000 = true then if (S.2.1 5 y1.toNatClampNeg) ≤ x then
    (fX8_longOf S y1).bind fun r2 =>
    if (lg_cmp r2 r2.toInt32.toInt64) = 0 then
      some (.inl ((true)))
    else
      some (.inl ((false)))
  else
    if q_inb x 16000 = true then if (S.2.1 3 x.toNatClampNeg) < (48 : Int32) then
      some (.inl ((false)))
    else
      if q_inb x 16000 = true then if (S.2.1 3 x.toNatClampNeg) ≤ (57 : Int32) then
        some (.inr (x + (1 : Int32)))
      else
        some (.inl ((false))) else none else none else none
noncomputable def fX8_isNumber_73 (S : QS) (y1 : Int32) (y4 : Int32) : Option (Bool) := q_run (tX8_isNumber_73 S y1) y4
noncomputable def fX8_isNumber (S : QS) (x1 : Int32) : Option (Bool) :=
  if x1 < 0 then
    some (false)
  else
    if x1 < (S.2.1 2 5) then
      if q_inb x1 16000 = true then if q_inb (S.2.1 4 x1.toNatClampNeg) 16000 = true then (Option.bind (α := Int32) (if (S.2.1 3 (S.2.1 4 x1.toNatClampNeg).toNatClampNeg) = (45 : Int32) then
          if q_inb x1 16000 = true then some (((S.2.1 4 x1.toNatClampNeg) + (1 : Int32))) else none
        else
          if q_inb x1 16000 = true then some ((S.2.1 4 x1.toNatClampNeg)) else none) fun v10 =>
        if q_inb x1 16000 = true then if ((S.2.1 5 x1.toNatClampNeg) - v10) < (1 : Int32) then
          some (false)
        else
          if ((S.2.1 5 x1.toNatClampNeg) - v10) ≤ (10 : Int32) then
            fX8_isNumber_73 S x1 v10
          else
            some (false) else none) else none else none
    else
      some (false)
noncomputable def fX8_number (S : QS) (x1 : Int32) : Option (Int32) :=
  (fX8_isNumber S x1).bind fun r1 =>
  if r1 = true then
    (fX8_longOf S x1).bind fun r3 =>
    some (r3.toInt32)
  else
    some ((0 : Int32))
noncomputable def fX7_takesPart_28 (S : QS) (y1 : Int32) (y2 : Int32) : Option (Bool × QS) :=
  (some (q_sI S 77 2 ((S.2.1 77 2) + (1 : Int32)))).bind fun S1 =>
  (Option.bind (α := Bool) (if y2 = (123 : Int32) then
      some (true)
    else
      some (false)) fun v4 =>
    (some (q_sI S1 77 3 ((S1.2.1 77 3) + (q_b v4)))).bind fun S5 =>
    if y2 = (67 : Int32) then
        (fX8_isClassName S5 y1).bind fun r9 =>
        some ((r9, S5))
    else if y2 = (69 : Int32) then
        (fX8_isClassName S5 y1).bind fun r12 =>
        if r12 = true then
          some ((true, S5))
        else
          (fX8_isWord S5 y1 1000010).bind fun r14 =>
          if r14 = true then
            some ((true, S5))
          else
            some ((false, S5))
    else if y2 = (70 : Int32) then
        (fX8_isReference S5 y1).bind fun r17 =>
        some ((r17, S5))
    else if y2 = (78 : Int32) then
        (fX8_isNumber S5 y1).bind fun r20 =>
        some ((r20, S5))
    else if y2 = (80 : Int32) then
        some ((true, S5))
    else if y2 = (82 : Int32) then
        (fX8_isType S5 y1).bind fun r24 =>
        if r24 = true then
          some ((true, S5))
        else
          (fX8_isWord S5 y1 1000008).bind fun r26 =>
          if r26 = true then
            some ((true, S5))
          else
            some ((false, S5))
    else if y2 = (84 : Int32) then
        (fX8_isType S5 y1).bind fun r29 =>
        some ((r29, S5))
    else if y2 = (89 : Int32) then
        (fX8_isType S5 y1).bind fun r32 =>
        if r32 = true then
          (fX8_isWord S5 y1 1000010).bind fun r34 =>
          if r34 = true then
            some ((false, S5))
          else
            some ((true, S5))
        else
          some ((false, S5))
    else if y2 = (110 : Int32) then
        (fX8_isName S5 y1).bind fun r37 =>
        some ((r37, S5))
    else if y2 = (111 : Int32) then
        (fX8_isWord S5 y1 1000006).bind fun r40 =>
        some ((r40, S5))
    else (fX8_isMark S5 y1 y2).bind fun r42 =>
      some ((r42, S5)))
noncomputable def fX7_takesPart (S : QS) (x1 : Int32) (x2 : Int32) : Option (Bool × QS) :=
  if x2 = (80 : Int32) then
    (fX8_isMark S x1 ((41 : Int32))).bind fun r44 =>
    if r44 = true then
      fX7_takesPart_28 S x1 x2
    else
      (fX8_isType S x1).bind fun r46 =>
      some ((r46, S))
  else
    fX7_takesPart_28 S x1 x2
noncomputable def fX7_expect (S : QS) (x1 : Int32) (x2 : Int32) (x3 : Nat) : Option (QS) :=
  if q_inb x1 16000 = true then (some (q_sI S 6 x1.toNatClampNeg (vp_nar .byte x2.toInt8.toInt32))).bind fun S2 =>
  (some (q_sR S2 77 1 x3)).bind fun S5 =>
  (some (q_sI S5 77 2 (0 : Int32))).bind fun S8 =>
  some (S8) else none
noncomputable def fX7_beginsClass (S : QS) (x1 : Int32) : Option (Bool × QS) :=
  (fX7_expect S x1 ((48 : Int32)) 1000012).bind fun r1 =>
  (fX8_isWord r1 x1 1000014).bind fun r4 =>
  some ((r4, r1))
noncomputable def fX7_beginsMember (S : QS) (x1 : Int32) : Option (Bool × QS) :=
  (fX8_isWord S x1 1000016).bind fun r1 =>
  if r1 = true then
    (fX7_expect S x1 ((49 : Int32)) 1000018).bind fun r11 =>
    some ((true, r11))
  else
    (fX8_isWord S x1 1000020).bind fun r3 =>
    (Option.bind (α := Int32) (if r3 = true then
        some ((50 : Int32))
      else
        some ((51 : Int32))) fun v5 =>
      (fX7_expect S x1 v5 1000022).bind fun r6 =>
      if r3 = true then
        some ((true, r6))
      else
        (fX8_isWord r6 x1 1000024).bind fun r9 =>
        if r9 = true then
          some ((true, r6))
        else
          some ((false, r6)))
noncomputable def fX7_operandsOf (S : QS) (x0 : Int32) : Option (Nat) :=
  if x0 = (0 : Int32) ∨ x0 = (2 : Int32) ∨ x0 = (3 : Int32) then
      some (1000034)
  else if x0 = (4 : Int32) then
      some (1000036)
  else if x0 = (30 : Int32) then
      some (1000038)
  else if x0 = (31 : Int32) then
      some (1000040)
  else if x0 = (35 : Int32) ∨ x0 = (36 : Int32) ∨ x0 = (39 : Int32) ∨ x0 = (40 : Int32) then
      some (1000042)
  else if x0 = (37 : Int32) ∨ x0 = (38 : Int32) then
      some (1000044)
  else if x0 < (19 : Int32) then
      some (1000000)
    else
      if (29 : Int32) < x0 then
        some (1000000)
      else
        some (1000046)
noncomputable def fX7_beginsLine (S : QS) (x1 : Int32) : Option (Bool × QS) :=
  (fX8_isName S x1).bind fun r1 =>
  (Option.bind (α := Int32) (if r1 = true then
      (fX8_start S x1).bind fun r3 =>
      (fX8_stop S x1).bind fun r5 =>
      (fX8_numberIn S 1000026 r3 r5).bind fun r7 =>
      some (r7)
    else
      some ((-1 : Int32))) fun v9 =>
    (fX8_isWord S x1 1000028).bind fun r10 =>
    (fX8_isMark S ((x1 + (1 : Int32))) ((58 : Int32))).bind fun r12 =>
    if r12 = true then
      (fX7_expect S x1 ((47 : Int32)) 1000030).bind fun r14 =>
      some ((r1, r14))
    else
      if v9 = (-1 : Int32) then
        if r10 = true then
          if r10 = true then
            (fX7_expect S x1 ((46 : Int32)) 1000032).bind fun r30 =>
            some ((r1, r30))
          else
            (fX7_operandsOf S v9).bind fun r25 =>
            (fX7_expect S x1 v9 r25).bind fun r27 =>
            some ((r1, r27))
        else
          (fX7_expect S x1 ((47 : Int32)) 1000030).bind fun r33 =>
          some ((r1, r33))
      else
        if r10 = true then
          (fX7_expect S x1 ((46 : Int32)) 1000032).bind fun r22 =>
          some ((r1, r22))
        else
          (fX7_operandsOf S v9).bind fun r17 =>
          (fX7_expect S x1 v9 r17).bind fun r19 =>
          some ((r1, r19)))
noncomputable def fX7_begins_57 (S : QS) (y1 : Int32) : Option (Bool × QS) :=
  if (S.2.1 77 3) = (0 : Int32) then
      (fX7_beginsClass S y1).bind fun r2 =>
      some ((r2.1, r2.2))
  else if (S.2.1 77 3) = (1 : Int32) then
      (fX7_beginsMember S y1).bind fun r6 =>
      some ((r6.1, r6.2))
  else (fX7_beginsLine S y1).bind fun r9 =>
    some ((r9.1, r9.2))
noncomputable def fX7_begins (S : QS) (x1 : Int32) : Option (Bool × QS) :=
  if (S.2.1 77 3) ≤ 0 then
    fX7_begins_57 S x1
  else
    (fX8_isMark S x1 ((125 : Int32))).bind fun r12 =>
    if r12 = true then
      (some (q_sI S 77 3 ((S.2.1 77 3) - (1 : Int32)))).bind fun S14 =>
      (Option.bind (α := Int32) (if (S14.2.1 77 3) = (1 : Int32) then
          some ((52 : Int32))
        else
          some ((53 : Int32))) fun v17 =>
        if q_inb x1 16000 = true then (some (q_sI S14 6 x1.toNatClampNeg (vp_nar .byte v17.toInt8.toInt32))).bind fun S19 =>
        some ((true, S19)) else none)
    else
      fX7_begins_57 S x1
noncomputable def tX7_firstFault_18 (x : Int32 × QS) : Option ((Int32 × QS) ⊕ (Int32 × QS)) :=
  if (x.2.2.1 2 5) ≤ x.1 then
    if (x.2.2.1 77 3) = 0 then
      (fJ0_length (x.2.2.2.2 77 1)).bind fun r1 =>
      if (x.2.2.1 77 2) = r1 then
        some (.inl ((((-1 : Int32), x.2))))
      else
        some (.inl ((((x.2.2.1 2 5), x.2))))
    else
      some (.inl ((((x.2.2.1 2 5), x.2))))
  else
    if q_inb x.1 16000 = true then (some (q_sI x.2 6 x.1.toNatClampNeg (vp_nar .byte (53 : Int32)))).bind fun S5 =>
    (fJ0_length (S5.2.2.2 77 1)).bind fun r8 =>
    (Option.bind (α := Bool × QS) (if r8 ≤ (S5.2.1 77 2) then
        (fX7_begins S5 x.1).bind fun r11 =>
        some ((r11.1, r11.2))
      else
        (fJ0_charAt (S5.2.2.2 77 1) ((S5.2.1 77 2))).bind fun r14 =>
        (fX7_takesPart S5 x.1 r14).bind fun r17 =>
        some ((r17.1, r17.2))) fun v20 =>
      if v20.1 = true then
        some (.inr ((x.1 + (1 : Int32)), v20.2))
      else
        some (.inl (((x.1, v20.2))))) else none
noncomputable def fX7_firstFault_18 (S : QS) (y1 : Int32) : Option (Int32 × QS) := q_run (tX7_firstFault_18) (y1, S)
noncomputable def fX7_firstFault (S : QS) : Option (Int32 × QS) :=
  (some (q_sR S 77 1 1000000)).bind fun S22 =>
  (some (q_sI S22 77 2 (0 : Int32))).bind fun S25 =>
  (some (q_sI S25 77 3 (0 : Int32))).bind fun S28 =>
  fX7_firstFault_18 S28 ((0 : Int32))
noncomputable def fX4_begin (S : QS) (p : Nat) : Option (QS) :=
  (some (q_sR S 78 1 p)).bind fun S1 =>
  (some (q_sR S1 78 2 (p + 1))).bind fun S5 =>
  (some (q_sR S5 78 3 (p + 10))).bind fun S9 =>
  (fX5_begin S9 p).bind fun r13 =>
  some (r13)
noncomputable def tX4_classIn_3 (S : QS) (p : Nat) (y1 : Int32) (y2 : Int32) (x : Int32) : Option ((Int32) ⊕ (Int32)) :=
  if (S.2.1 (p + 1) 0) ≤ x then
    (fX8_numberIn S 1000048 y1 y2).bind fun r1 =>
    some (.inl ((r1)))
  else
    if q_inb x 32 = true then (fX8_same S ((S.2.1 (p + 2) x.toNatClampNeg)) y1 y2).bind fun r4 =>
    if r4 = true then
      some (.inl ((x)))
    else
      some (.inr (x + (1 : Int32))) else none
noncomputable def fX4_classIn_3 (S : QS) (p : Nat) (y1 : Int32) (y2 : Int32) (y3 : Int32) : Option (Int32) := q_run (tX4_classIn_3 S p y1 y2) y3
noncomputable def fX4_classIn (S : QS) (p : Nat) (x1 : Int32) (x2 : Int32) : Option (Int32) :=
  fX4_classIn_3 S p x1 x2 ((8 : Int32))
noncomputable def fX4_classAt (S : QS) (p : Nat) (x1 : Int32) : Option (Int32) :=
  (fX8_start S x1).bind fun r1 =>
  (fX8_stop S x1).bind fun r3 =>
  (fX4_classIn S p r1 r3).bind fun r5 =>
  some (r5)
noncomputable def tX4_classFault_2 (p : Nat) (x : Int32 × QS) : Option ((Int32 × QS) ⊕ (Int32 × QS)) :=
  if (x.2.2.1 2 5) ≤ x.1 then
    some (.inl ((((-1 : Int32), x.2))))
  else
    if q_inb x.1 16000 = true then if (x.2.2.1 6 x.1.toNatClampNeg) = (48 : Int32) then
      (fX4_classAt x.2 p ((x.1 + (1 : Int32)))).bind fun r2 =>
      if r2 = (-1 : Int32) then
        if (x.2.2.1 (p + 1) 0) = (32 : Int32) then
          some (.inl ((((x.1 + (1 : Int32)), x.2))))
        else
          (fX4_classAt x.2 p ((x.1 + (3 : Int32)))).bind fun r4 =>
          if r4 = (-1 : Int32) then
            some (.inl ((((x.1 + (3 : Int32)), x.2))))
          else
            (fX0_addClass x.2 p ((x.1 + (1 : Int32))) r4).bind fun r6 =>
            some (.inr ((x.1 + (1 : Int32)), r6))
      else
        some (.inl ((((x.1 + (1 : Int32)), x.2))))
    else
      some (.inr ((x.1 + (1 : Int32)), x.2)) else none
noncomputable def fX4_classFault_2 (S : QS) (p : Nat) (y1 : Int32) : Option (Int32 × QS) := q_run (tX4_classFault_2 p) (y1, S)
noncomputable def fX4_classFault (S : QS) (p : Nat) : Option (Int32 × QS) :=
  fX4_classFault_2 S p ((0 : Int32))
noncomputable def tX4_fieldNamed_3 (S : QS) (p : Nat) (y1 : Int32) (y2 : Int32) (y3 : Int32) (x : Int32) : Option ((Int32) ⊕ (Int32)) :=
  if (S.2.1 (p + 1) 5) ≤ x then
    some (.inl (((-1 : Int32))))
  else
    if q_inb x 48 = true then (fX0_isAbove S p ((S.2.1 (p + 7) x.toNatClampNeg)) y1).bind fun r2 =>
    if r2 = true then
      if q_inb x 48 = true then (fX8_same S ((S.2.1 (p + 6) x.toNatClampNeg)) y2 y3).bind fun r5 =>
      if r5 = true then
        some (.inl ((x)))
      else
        some (.inr (x + (1 : Int32))) else none
    else
      some (.inr (x + (1 : Int32))) else none
noncomputable def fX4_fieldNamed_3 (S : QS) (p : Nat) (y1 : Int32) (y2 : Int32) (y3 : Int32) (y4 : Int32) : Option (Int32) := q_run (tX4_fieldNamed_3 S p y1 y2 y3) y4
noncomputable def fX4_fieldNamed (S : QS) (p : Nat) (x1 : Int32) (x2 : Int32) (x3 : Int32) : Option (Int32) :=
  fX4_fieldNamed_3 S p x1 x2 x3 ((0 : Int32))
noncomputable def fX4_arrayOf (S : QS) (x0 : Int32) : Option (Int32) :=
  if x0 = (66 : Int32) then
    some ((64 : Int32))
  else
    if x0 = (-1 : Int32) then
      some ((-1 : Int32))
    else
      some (((32 : Int32) + x0))
noncomputable def fX4_typeAt (S : QS) (p : Nat) (x1 : Int32) : Option (Int32) :=
  (fX8_start S x1).bind fun r1 =>
  (fX8_elementStop S x1).bind fun r3 =>
  (fX8_stop S x1).bind fun r5 =>
  (Option.bind (α := Bool) (if r5 ≤ r3 then
      some (false)
    else
      some (true)) fun v7 =>
    (fX8_isText S r1 r3 1000050).bind fun r8 =>
    if r8 = true then
      if v7 = true then
        some ((64 : Int32))
      else
        some ((66 : Int32))
    else
      (fX4_classIn S p r1 r3).bind fun r10 =>
      if v7 = true then
        (fX4_arrayOf S r10).bind fun r12 =>
        some (r12)
      else
        some (r10))
noncomputable def fX4_fieldFault (S : QS) (p : Nat) (x1 : Int32) (x2 : Int32) : Option (Int32 × QS) :=
  (fX8_start S ((x1 + (1 : Int32)))).bind fun r1 =>
  (fX8_stop S ((x1 + (1 : Int32)))).bind fun r3 =>
  (fX4_fieldNamed S p x2 r1 r3).bind fun r5 =>
  if r5 = (-1 : Int32) then
    if (S.2.1 (p + 1) 5) = (48 : Int32) then
      some (((x1 + (1 : Int32)), S))
    else
      (fX4_typeAt S p ((x1 + (2 : Int32)))).bind fun r7 =>
      if r7 = (-1 : Int32) then
        some (((x1 + (2 : Int32)), S))
      else
        (fX0_addField S p x2 ((x1 + (1 : Int32))) r7).bind fun r9 =>
        some (((-1 : Int32), r9))
  else
    some (((x1 + (1 : Int32)), S))
noncomputable def tX4_bodyNamed_6 (S : QS) (p : Nat) (y1 : Int32) (y2 : Int32) (y3 : Int32) (x : Int32 × Int32) : Option ((Int32) ⊕ (Int32 × Int32)) :=
  if (S.2.1 p 2) ≤ x.2 then
    some (.inl ((x.1)))
  else
    if q_inb x.2 48 = true then (fX0_isAbove S p ((S.2.1 (p + 23) x.2.toNatClampNeg)) y1).bind fun r2 =>
    if r2 = true then
      if q_inb x.2 48 = true then (fX8_same S ((S.2.1 (p + 22) x.2.toNatClampNeg)) y2 y3).bind fun r5 =>
      if r5 = true then
        some (.inr (x.2, (x.2 + (1 : Int32))))
      else
        some (.inr (x.1, (x.2 + (1 : Int32)))) else none
    else
      some (.inr (x.1, (x.2 + (1 : Int32)))) else none
noncomputable def fX4_bodyNamed_6 (S : QS) (p : Nat) (y1 : Int32) (y2 : Int32) (y3 : Int32) (y4 : Int32) (y5 : Int32) : Option (Int32) := q_run (tX4_bodyNamed_6 S p y1 y2 y3) (y4, y5)
noncomputable def fX4_bodyNamed (S : QS) (p : Nat) (x1 : Int32) (x2 : Int32) (x3 : Int32) : Option (Int32) :=
  fX4_bodyNamed_6 S p x1 x2 x3 ((-1 : Int32)) ((0 : Int32))
noncomputable def tX4_hasSameHead_9 (S : QS) (y3 : Int32) (x : Int32) : Option ((Bool) ⊕ (Int32)) :=
  if (S.2.1 2 5) ≤ x then
    some (.inl ((false)))
  else
    (fX8_start S ((x + y3))).bind fun r1 =>
    (fX8_stop S ((x + y3))).bind fun r3 =>
    (fX8_same S x r1 r3).bind fun r5 =>
    if r5 = true then
      (fX8_isMark S x ((41 : Int32))).bind fun r7 =>
      if r7 = true then
        (fX8_start S (((x + y3) + (1 : Int32)))).bind fun r9 =>
        (fX8_stop S (((x + y3) + (1 : Int32)))).bind fun r11 =>
        (fX8_same S ((x + (1 : Int32))) r9 r11).bind fun r13 =>
        some (.inl ((r13)))
      else
        some (.inr (x + (1 : Int32)))
    else
      some (.inl ((false)))
noncomputable def fX4_hasSameHead_9 (S : QS) (y3 : Int32) (y4 : Int32) : Option (Bool) := q_run (tX4_hasSameHead_9 S y3) y4
noncomputable def fX4_hasSameHead (S : QS) (x1 : Int32) (x2 : Int32) : Option (Bool) :=
  fX4_hasSameHead_9 S ((x2 - x1)) ((x1 + (1 : Int32)))
noncomputable def fX4_mayReplace (S : QS) (p : Nat) (x1 : Int32) (x2 : Int32) (x3 : Int32) : Option (Bool) :=
  if q_inb x1 16000 = true then if (S.2.1 6 x1.toNatClampNeg) = (51 : Int32) then
    if q_inb x3 48 = true then if (S.2.1 (p + 24) x3.toNatClampNeg) = 0 then
      some (false)
    else
      if q_inb x3 48 = true then if (S.2.1 (p + 23) x3.toNatClampNeg) = x2 then
        some (false)
      else
        if q_inb x3 48 = true then (fX4_hasSameHead S ((x1 + (1 : Int32))) ((S.2.1 (p + 22) x3.toNatClampNeg))).bind fun r5 =>
        if r5 = true then
          some (true)
        else
          some (false) else none else none else none
  else
    some (false) else none
noncomputable def fX4_headFault_162 (S : QS) (p : Nat) (y4 : Int32) (y5 : Int32) : Option (Int32 × QS) :=
  (fX8_isWord S ((y5 + (1 : Int32))) 1000052).bind fun r1 =>
  (Option.bind (α := Int32) (if r1 = true then
      some ((68 : Int32))
    else
      (fX4_typeAt S p ((y5 + (1 : Int32)))).bind fun r3 =>
      some (r3)) fun v5 =>
    if v5 = (-1 : Int32) then
      some (((y5 + (1 : Int32)), S))
    else
      (fX8_number S ((y5 + (2 : Int32)))).bind fun r6 =>
      if q_inb y4 48 = true then if r6 < (S.2.1 (p + 25) y4.toNatClampNeg) then
        some (((y5 + (2 : Int32)), S))
      else
        if r6 ≤ (12 : Int32) then
          if q_inb y4 48 = true then (some (q_sI S (p + 27) y4.toNatClampNeg v5)).bind fun S10 =>
          if q_inb y4 48 = true then (some (q_sI S10 (p + 28) y4.toNatClampNeg r6)).bind fun S14 =>
          some (((-1 : Int32), S14)) else none else none
        else
          some (((y5 + (2 : Int32)), S)) else none)
noncomputable def tX4_headFault_102 (p : Nat) (y4 : Int32) (x : Int32 × QS) : Option ((Int32 × QS) ⊕ (Int32 × QS)) :=
  if (x.2.2.1 2 5) ≤ x.1 then
    (fX4_headFault_162 x.2 p y4 x.1).bind fun r17 => some (.inl (r17))
  else
    (fX8_isMark x.2 x.1 ((41 : Int32))).bind fun r19 =>
    if r19 = true then
      (fX4_headFault_162 x.2 p y4 x.1).bind fun r21 => some (.inl (r21))
    else
      (fX4_typeAt x.2 p x.1).bind fun r23 =>
      if r23 = (-1 : Int32) then
        some (.inl (((x.1, x.2))))
      else
        (fX5_addParameter x.2 p y4 r23).bind fun r25 =>
        some (.inr ((x.1 + (1 : Int32)), r25))
noncomputable def fX4_headFault_102 (S : QS) (p : Nat) (y4 : Int32) (y5 : Int32) : Option (Int32 × QS) := q_run (tX4_headFault_102 p y4) (y5, S)
noncomputable def fX4_headFault_57 (S : QS) (p : Nat) (y1 : Int32) (y2 : Int32) (y3 : Int32) : Option (Int32 × QS) :=
  if q_inb y1 16000 = true then (Option.bind (α := Bool) (if (S.2.1 6 y1.toNatClampNeg) = (51 : Int32) then
      some (true)
    else
      some (false)) fun v29 =>
    (fX5_addBody S p y2 ((y1 + (1 : Int32))) v29 y3).bind fun r30 =>
    fX4_headFault_102 r30 p ((S.2.1 p 2)) ((y1 + (3 : Int32)))) else none
noncomputable def fX4_headFault (S : QS) (p : Nat) (x1 : Int32) (x2 : Int32) : Option (Int32 × QS) :=
  (fX8_start S ((x1 + (1 : Int32)))).bind fun r33 =>
  (fX8_stop S ((x1 + (1 : Int32)))).bind fun r35 =>
  (fX4_bodyNamed S p x2 r33 r35).bind fun r37 =>
  if (S.2.1 p 2) = (48 : Int32) then
    some (((x1 + (1 : Int32)), S))
  else
    if r37 = (-1 : Int32) then
      fX4_headFault_57 S p x1 x2 r37
    else
      (fX4_mayReplace S p x1 x2 r37).bind fun r39 =>
      if r39 = true then
        fX4_headFault_57 S p x1 x2 r37
      else
        some (((x1 + (1 : Int32)), S))
noncomputable def tX4_memberFault_5 (p : Nat) (x : Int32 × Int32 × QS) : Option ((Int32 × QS) ⊕ (Int32 × Int32 × QS)) :=
  if (x.2.2.2.1 2 5) ≤ x.2.1 then
    some (.inl ((((-1 : Int32), x.2.2))))
  else
    if q_inb x.2.1 16000 = true then (Option.bind (α := Int32 × Int32 × QS) (if (x.2.2.2.1 6 x.2.1.toNatClampNeg) = (48 : Int32) then
          (fX5_inherit x.2.2 p ((x.1 + (1 : Int32)))).bind fun r3 =>
          some (((x.1 + (1 : Int32)), (-1 : Int32), r3))
      else if (x.2.2.2.1 6 x.2.1.toNatClampNeg) = (49 : Int32) then
          (fX4_fieldFault x.2.2 p x.2.1 x.1).bind fun r7 =>
          some ((x.1, r7.1, r7.2))
      else if (x.2.2.2.1 6 x.2.1.toNatClampNeg) = (50 : Int32) ∨ (x.2.2.2.1 6 x.2.1.toNatClampNeg) = (51 : Int32) then
          (fX4_headFault x.2.2 p x.2.1 x.1).bind fun r11 =>
          some ((x.1, r11.1, r11.2))
      else some ((x.1, (-1 : Int32), x.2.2))) fun v16 =>
      if v16.2.1 = (-1 : Int32) then
        some (.inr (v16.1, (x.2.1 + (1 : Int32)), v16.2.2))
      else
        some (.inl (((v16.2.1, v16.2.2))))) else none
noncomputable def fX4_memberFault_5 (S : QS) (p : Nat) (y1 : Int32) (y2 : Int32) : Option (Int32 × QS) := q_run (tX4_memberFault_5 p) (y1, y2, S)
noncomputable def fX4_memberFault (S : QS) (p : Nat) : Option (Int32 × QS) :=
  fX4_memberFault_5 S p ((7 : Int32)) ((0 : Int32))
noncomputable def tX4_beginBody_68 (p : Nat) (x : Int32 × QS) : Option ((QS) ⊕ (Int32 × QS)) :=
  if (x.2.2.1 2 5) ≤ x.1 then
    some (.inl ((x.2)))
  else
    if q_inb x.1 16000 = true then if (x.2.2.1 6 x.1.toNatClampNeg) = (52 : Int32) then
      some (.inl ((x.2)))
    else
      if q_inb x.1 16000 = true then if (x.2.2.1 6 x.1.toNatClampNeg) = (47 : Int32) then
        if (nI 8000) ≤ (x.2.2.1 78 6) then
          if q_inb x.1 16000 = true then if (46 : Int32) ≤ (x.2.2.1 6 x.1.toNatClampNeg) then
            some (.inr ((x.1 + (1 : Int32)), x.2))
          else
            (some (q_sI x.2 78 7 ((x.2.2.1 78 7) + (1 : Int32)))).bind fun S8 =>
            some (.inr ((x.1 + (1 : Int32)), S8)) else none
        else
          if q_inb (x.2.2.1 78 6) 8000 = true then (some (q_sI x.2 79 (x.2.2.1 78 6).toNatClampNeg x.1)).bind fun S12 =>
          if q_inb (S12.2.1 78 6) 8000 = true then (some (q_sI S12 80 (S12.2.1 78 6).toNatClampNeg (S12.2.1 78 7))).bind fun S16 =>
          (some (q_sI S16 78 6 ((S16.2.1 78 6) + (1 : Int32)))).bind fun S19 =>
          some (.inr ((x.1 + (1 : Int32)), S19)) else none else none
      else
        if q_inb x.1 16000 = true then if (46 : Int32) ≤ (x.2.2.1 6 x.1.toNatClampNeg) then
          some (.inr ((x.1 + (1 : Int32)), x.2))
        else
          (some (q_sI x.2 78 7 ((x.2.2.1 78 7) + (1 : Int32)))).bind fun S4 =>
          some (.inr ((x.1 + (1 : Int32)), S4)) else none else none else none
noncomputable def fX4_beginBody_68 (S : QS) (p : Nat) (y2 : Int32) : Option (QS) := q_run (tX4_beginBody_68 p) (y2, S)
noncomputable def fX4_beginBody (S : QS) (p : Nat) (x1 : Int32) : Option (QS) :=
  (some (q_sI S 78 8 ((S.2.1 78 8) + (1 : Int32)))).bind fun S22 =>
  if q_inb (S22.2.1 78 8) 48 = true then (some (q_sI S22 (p + 29) (S22.2.1 78 8).toNatClampNeg (S22.2.1 (p + 10) 0))).bind fun S26 =>
  if q_inb (S26.2.1 78 8) 48 = true then (some (q_sI S26 (p + 31) (S26.2.1 78 8).toNatClampNeg (S26.2.1 (p + 10) 9))).bind fun S30 =>
  (some (q_sI S30 78 6 (0 : Int32))).bind fun S33 =>
  (some (q_sI S33 78 7 (S33.2.1 (p + 10) 0))).bind fun S36 =>
  fX4_beginBody_68 S36 p ((x1 + (1 : Int32))) else none else none
noncomputable def tX4_labelNamed_21 (S : QS) (y2 : Int32) (y3 : Int32) (x : Int32) : Option ((Int32) ⊕ (Int32)) :=
  if (S.2.1 78 6) ≤ x then
    some (.inl (((-1 : Int32))))
  else
    if q_inb x 8000 = true then (fX8_same S ((S.2.1 79 x.toNatClampNeg)) y2 y3).bind fun r2 =>
    if r2 = true then
      some (.inl ((x)))
    else
      some (.inr (x + (1 : Int32))) else none
noncomputable def fX4_labelNamed_21 (S : QS) (y2 : Int32) (y3 : Int32) (y4 : Int32) : Option (Int32) := q_run (tX4_labelNamed_21 S y2 y3) y4
noncomputable def fX4_labelNamed (S : QS) (x1 : Int32) : Option (Int32) :=
  (fX8_start S x1).bind fun r4 =>
  (fX8_stop S x1).bind fun r6 =>
  fX4_labelNamed_21 S r4 r6 ((0 : Int32))
noncomputable def fX4_isFirstLabel (S : QS) (x1 : Int32) : Option (Bool) :=
  (fX4_labelNamed S x1).bind fun r1 =>
  if r1 = (-1 : Int32) then
    some (false)
  else
    if q_inb r1 8000 = true then if (S.2.1 79 r1.toNatClampNeg) = x1 then
      some (true)
    else
      some (false) else none
noncomputable def fX4_placeNamed (S : QS) (x1 : Int32) : Option (Int32) :=
  (fX4_labelNamed S x1).bind fun r1 =>
  if r1 = (-1 : Int32) then
    some ((-1 : Int32))
  else
    if q_inb r1 8000 = true then some ((S.2.1 80 r1.toNatClampNeg)) else none
noncomputable def fX4_catchFault (S : QS) (p : Nat) (x1 : Int32) : Option (Int32 × QS) :=
  if (S.2.1 (p + 10) 9) = (64 : Int32) then
    some ((x1, S))
  else
    (fX4_placeNamed S ((x1 + (1 : Int32)))).bind fun r1 =>
    if r1 = (-1 : Int32) then
      some (((x1 + (1 : Int32)), S))
    else
      (fX4_placeNamed S ((x1 + (2 : Int32)))).bind fun r3 =>
      if r1 < r3 then
        (fX4_placeNamed S ((x1 + (3 : Int32)))).bind fun r5 =>
        if r5 = (-1 : Int32) then
          some (((x1 + (3 : Int32)), S))
        else
          if r5 < (S.2.1 78 7) then
            (fX4_classAt S p ((x1 + (4 : Int32)))).bind fun r7 =>
            (fX0_isAbove S p ((1 : Int32)) r7).bind fun r9 =>
            if r9 = true then
              (fX1_addCatch S p r1 r3 r5 r7).bind fun r11 =>
              some (((-1 : Int32), r11))
            else
              some (((x1 + (4 : Int32)), S))
          else
            some (((x1 + (3 : Int32)), S))
      else
        some (((x1 + (2 : Int32)), S))
noncomputable def fX4_endFault (S : QS) (p : Nat) (x1 : Int32) : Option (Int32 × QS) :=
  if q_inb (S.2.1 78 8) 48 = true then (some (q_sI S (p + 30) (S.2.1 78 8).toNatClampNeg (S.2.1 (p + 10) 0))).bind fun S2 =>
  if q_inb (S2.2.1 78 8) 48 = true then (some (q_sI S2 (p + 32) (S2.2.1 78 8).toNatClampNeg (S2.2.1 (p + 10) 9))).bind fun S6 =>
  if q_inb (S6.2.1 78 8) 48 = true then (Option.bind (α := Bool) (if (S6.2.1 (p + 10) 0) = (S6.2.1 (p + 29) (S6.2.1 78 8).toNatClampNeg) then
      some (true)
    else
      some (false)) fun v10 =>
    if v10 = true then
      some ((x1, S6))
    else
      if q_inb ((S6.2.1 (p + 10) 0) - (1 : Int32)) 1024 = true then (fX1_goesOn S6 ((S6.2.1 (p + 11) ((S6.2.1 (p + 10) 0) - (1 : Int32)).toNatClampNeg))).bind fun r12 =>
      if r12 = true then
        some ((x1, S6))
      else
        some (((-1 : Int32), S6)) else none) else none else none else none
noncomputable def fX4_hasRoomFor (S : QS) (p : Nat) (x1 : Int32) : Option (Bool) :=
  if (1024 : Int32) ≤ (S.2.1 (p + 10) 0) then
    some (false)
  else
    if (S.2.1 (p + 10) 8) < (48 : Int32) then
      some (true)
    else
      (fX1_isMaking S x1).bind fun r1 =>
      if r1 = true then
        some (false)
      else
        some (true)
noncomputable def fX4_setsReference_70 (S : QS) (p : Nat) (y1 : Int32) (y4 : Int32) (y5 : Int32) : Option (Bool × QS) :=
  if q_inb y1 1024 = true then (fX4_fieldNamed S p ((S.2.1 (p + 13) y1.toNatClampNeg)) ((y4 + (1 : Int32))) y5).bind fun r2 =>
  if q_inb y1 1024 = true then (some (q_sI S (p + 12) y1.toNatClampNeg r2)).bind fun S5 =>
  if q_inb y1 1024 = true then if (S5.2.1 (p + 12) y1.toNatClampNeg) = (-1 : Int32) then
    some ((false, S5))
  else
    some ((true, S5)) else none else none else none
noncomputable def fX4_setsReference (S : QS) (p : Nat) (x1 : Int32) (x2 : Int32) (x3 : Int32) : Option (Bool × QS) :=
  (fX8_dotOf S x3).bind fun r9 =>
  (fX8_stop S x3).bind fun r11 =>
  (fX8_start S x3).bind fun r13 =>
  (fX4_classIn S p r13 r9).bind fun r15 =>
  if q_inb x1 1024 = true then (some (q_sI S (p + 13) x1.toNatClampNeg r15)).bind fun S18 =>
  if q_inb x1 1024 = true then if (S18.2.1 (p + 13) x1.toNatClampNeg) = (-1 : Int32) then
    some ((false, S18))
  else
    if x2 = (35 : Int32) then
      fX4_setsReference_70 S18 p x1 r9 r11
    else
      if x2 = (36 : Int32) then
        fX4_setsReference_70 S18 p x1 r9 r11
      else
        if q_inb x1 1024 = true then (fX4_bodyNamed S18 p ((S18.2.1 (p + 13) x1.toNatClampNeg)) ((r9 + (1 : Int32))) r11).bind fun r23 =>
        if r23 = (-1 : Int32) then
          some ((false, S18))
        else
          if q_inb r23 48 = true then (Option.bind (α := Bool) (if x2 = (40 : Int32) then
              some (true)
            else
              some (false)) fun v26 =>
            if (S18.2.1 (p + 24) r23.toNatClampNeg) = (q_b v26) then
              if q_inb r23 48 = true then if q_inb x1 1024 = true then (some (q_sI S18 (p + 12) x1.toNatClampNeg (S18.2.1 (p + 33) r23.toNatClampNeg))).bind fun S29 =>
              some ((true, S29)) else none else none
            else
              some ((false, S18))) else none else none else none else none
noncomputable def fX4_addsInstruction (S : QS) (p : Nat) (x1 : Int32) : Option (Bool × QS) :=
  if q_inb x1 16000 = true then (fX1_addInstruction S p ((S.2.1 6 x1.toNatClampNeg)) x1 ((S.2.1 78 8))).bind fun r2 =>
  if (S.2.1 6 x1.toNatClampNeg) = (0 : Int32) then
      (fX8_number r2 ((x1 + (1 : Int32)))).bind fun r6 =>
      if q_inb (S.2.1 (p + 10) 0) 1024 = true then (some (q_sI r2 (p + 12) (S.2.1 (p + 10) 0).toNatClampNeg r6)).bind fun S9 =>
      some ((true, S9)) else none
  else if (S.2.1 6 x1.toNatClampNeg) = (2 : Int32) ∨ (S.2.1 6 x1.toNatClampNeg) = (3 : Int32) ∨ (S.2.1 6 x1.toNatClampNeg) = (4 : Int32) then
      (fX8_number r2 ((x1 + (1 : Int32)))).bind fun r13 =>
      if q_inb (S.2.1 (p + 10) 0) 1024 = true then (some (q_sI r2 (p + 12) (S.2.1 (p + 10) 0).toNatClampNeg r13)).bind fun S16 =>
      (Option.bind (α := Int32) (if (S.2.1 6 x1.toNatClampNeg) = (4 : Int32) then
          (fX8_number S16 (((x1 + (1 : Int32)) + (1 : Int32)))).bind fun r19 =>
          some (r19)
        else
          some ((0 : Int32))) fun v21 =>
        if q_inb (S.2.1 (p + 10) 0) 1024 = true then (some (q_sI S16 (p + 13) (S.2.1 (p + 10) 0).toNatClampNeg v21)).bind fun S23 =>
        if q_inb (S.2.1 (p + 10) 0) 1024 = true then if (S23.2.1 (p + 12) (S.2.1 (p + 10) 0).toNatClampNeg) < 0 then
          some ((false, S23))
        else
          if q_inb (S.2.1 (p + 10) 0) 1024 = true then if q_inb (S23.2.1 78 8) 48 = true then if (S23.2.1 (p + 28) (S23.2.1 78 8).toNatClampNeg) ≤ (S23.2.1 (p + 12) (S.2.1 (p + 10) 0).toNatClampNeg) then
            some ((false, S23))
          else
            some ((true, S23)) else none else none else none else none) else none
  else if (S.2.1 6 x1.toNatClampNeg) = (30 : Int32) ∨ (S.2.1 6 x1.toNatClampNeg) = (37 : Int32) ∨ (S.2.1 6 x1.toNatClampNeg) = (38 : Int32) then
      (fX4_typeAt r2 p ((x1 + (1 : Int32)))).bind fun r30 =>
      if q_inb (S.2.1 (p + 10) 0) 1024 = true then (some (q_sI r2 (p + 12) (S.2.1 (p + 10) 0).toNatClampNeg r30)).bind fun S33 =>
      if q_inb (S.2.1 (p + 10) 0) 1024 = true then if (S33.2.1 (p + 12) (S.2.1 (p + 10) 0).toNatClampNeg) = (-1 : Int32) then
        some ((false, S33))
      else
        some ((true, S33)) else none else none
  else if (S.2.1 6 x1.toNatClampNeg) = (31 : Int32) then
      (fX4_typeAt r2 p ((x1 + (1 : Int32)))).bind fun r38 =>
      (fX4_arrayOf r2 r38).bind fun r40 =>
      if q_inb (S.2.1 (p + 10) 0) 1024 = true then (some (q_sI r2 (p + 12) (S.2.1 (p + 10) 0).toNatClampNeg r40)).bind fun S43 =>
      if q_inb (S.2.1 (p + 10) 0) 1024 = true then if (S43.2.1 (p + 12) (S.2.1 (p + 10) 0).toNatClampNeg) = (-1 : Int32) then
        some ((false, S43))
      else
        some ((true, S43)) else none else none
  else if (S.2.1 6 x1.toNatClampNeg) = (35 : Int32) ∨ (S.2.1 6 x1.toNatClampNeg) = (36 : Int32) ∨ (S.2.1 6 x1.toNatClampNeg) = (39 : Int32) ∨ (S.2.1 6 x1.toNatClampNeg) = (40 : Int32) then
      (fX4_setsReference r2 p ((S.2.1 (p + 10) 0)) ((S.2.1 6 x1.toNatClampNeg)) ((x1 + (1 : Int32)))).bind fun r48 =>
      some ((r48.1, r48.2))
  else (fX1_goesToLabel r2 ((S.2.1 6 x1.toNatClampNeg))).bind fun r51 =>
    (Option.bind (α := Int32) (if r51 = true then
        (fX4_placeNamed r2 ((x1 + (1 : Int32)))).bind fun r53 =>
        some (r53)
      else
        some ((0 : Int32))) fun v55 =>
      if q_inb (S.2.1 (p + 10) 0) 1024 = true then (some (q_sI r2 (p + 12) (S.2.1 (p + 10) 0).toNatClampNeg v55)).bind fun S57 =>
      (fX1_goesToLabel S57 ((S.2.1 6 x1.toNatClampNeg))).bind fun r60 =>
      if r60 = true then
        if q_inb (S.2.1 (p + 10) 0) 1024 = true then if (S57.2.1 (p + 12) (S.2.1 (p + 10) 0).toNatClampNeg) < 0 then
          some ((false, S57))
        else
          if q_inb (S.2.1 (p + 10) 0) 1024 = true then if (S57.2.1 78 7) ≤ (S57.2.1 (p + 12) (S.2.1 (p + 10) 0).toNatClampNeg) then
            some ((false, S57))
          else
            some ((true, S57)) else none else none
      else
        some ((true, S57)) else none) else none
noncomputable def tX4_lineFault_7 (p : Nat) (x : Int32 × QS) : Option ((Int32 × QS) ⊕ (Int32 × QS)) :=
  if (x.2.2.1 2 5) ≤ x.1 then
    some (.inl ((((-1 : Int32), x.2))))
  else
    if q_inb x.1 16000 = true then (Option.bind (α := Int32 × QS) (if (x.2.2.1 6 x.1.toNatClampNeg) = (46 : Int32) then
          (fX4_catchFault x.2 p x.1).bind fun r3 =>
          some ((r3.1, r3.2))
      else if (x.2.2.1 6 x.1.toNatClampNeg) = (47 : Int32) then
          (fX4_isFirstLabel x.2 x.1).bind fun r7 =>
          (Option.bind (α := Int32) (if r7 = true then
              some ((-1 : Int32))
            else
              some (x.1)) fun v9 =>
            some ((v9, x.2)))
      else if (x.2.2.1 6 x.1.toNatClampNeg) = (48 : Int32) ∨ (x.2.2.1 6 x.1.toNatClampNeg) = (49 : Int32) ∨ (x.2.2.1 6 x.1.toNatClampNeg) = (53 : Int32) then
          some (((-1 : Int32), x.2))
      else if (x.2.2.1 6 x.1.toNatClampNeg) = (50 : Int32) ∨ (x.2.2.1 6 x.1.toNatClampNeg) = (51 : Int32) then
          (fX4_beginBody x.2 p x.1).bind fun r12 =>
          some (((-1 : Int32), r12))
      else if (x.2.2.1 6 x.1.toNatClampNeg) = (52 : Int32) then
          (fX4_endFault x.2 p x.1).bind fun r16 =>
          some ((r16.1, r16.2))
      else if q_inb x.1 16000 = true then (fX4_hasRoomFor x.2 p ((x.2.2.1 6 x.1.toNatClampNeg))).bind fun r20 =>
        if r20 = true then
          (fX4_addsInstruction x.2 p x.1).bind fun r22 =>
          if r22.1 = true then
            some (((-1 : Int32), r22.2))
          else
            some (((x.1 + (1 : Int32)), r22.2))
        else
          some ((x.1, x.2)) else none) fun v30 =>
      if v30.1 = (-1 : Int32) then
        some (.inr ((x.1 + (1 : Int32)), v30.2))
      else
        some (.inl (((v30.1, v30.2))))) else none
noncomputable def fX4_lineFault_7 (S : QS) (p : Nat) (y1 : Int32) : Option (Int32 × QS) := q_run (tX4_lineFault_7 p) (y1, S)
noncomputable def fX4_lineFault (S : QS) (p : Nat) : Option (Int32 × QS) :=
  (some (q_sI S 78 8 (-1 : Int32))).bind fun S32 =>
  fX4_lineFault_7 S32 p ((0 : Int32))
noncomputable def tX4_mainFault_2 (p : Nat) (x : Int32 × QS) : Option ((Int32 × QS) ⊕ (Int32 × QS)) :=
  if (x.2.2.1 p 2) ≤ x.1 then
    some (.inl ((((x.2.2.1 2 5), x.2))))
  else
    if q_inb x.1 48 = true then (Option.bind (α := Bool) (if (x.2.2.1 (p + 24) x.1.toNatClampNeg) = 0 then
        if q_inb x.1 48 = true then if (x.2.2.1 (p + 25) x.1.toNatClampNeg) = 0 then
          if q_inb x.1 48 = true then if (x.2.2.1 (p + 27) x.1.toNatClampNeg) = (68 : Int32) then
            some (true)
          else
            some (false) else none
        else
          some (false) else none
      else
        some (false)) fun v4 =>
      if q_inb x.1 48 = true then if q_inb (x.2.2.1 (p + 23) x.1.toNatClampNeg) 32 = true then if v4 = true then
        if q_inb x.1 48 = true then (fX8_isWord x.2 ((x.2.2.1 (p + 22) x.1.toNatClampNeg)) 1000054).bind fun r8 =>
        if r8 = true then
          (fX8_isWord x.2 ((x.2.2.1 (p + 2) (x.2.2.1 (p + 23) x.1.toNatClampNeg).toNatClampNeg)) 1000056).bind fun r10 =>
          if r10 = true then
            (some (q_sI x.2 p 16 x.1)).bind fun S12 =>
            some (.inl ((((-1 : Int32), S12))))
          else
            some (.inr ((x.1 + (1 : Int32)), x.2))
        else
          some (.inr ((x.1 + (1 : Int32)), x.2)) else none
      else
        some (.inr ((x.1 + (1 : Int32)), x.2)) else none else none) else none
noncomputable def fX4_mainFault_2 (S : QS) (p : Nat) (y1 : Int32) : Option (Int32 × QS) := q_run (tX4_mainFault_2 p) (y1, S)
noncomputable def fX4_mainFault (S : QS) (p : Nat) : Option (Int32 × QS) :=
  fX4_mainFault_2 S p ((0 : Int32))
noncomputable def fX3_begin (S : QS) (p : Nat) : Option (QS) :=
  (some (q_sR S 81 0 p)).bind fun S1 =>
  (some (q_sR S1 81 1 (p + 10))).bind fun S5 =>
  some (S5)
noncomputable def fX3_arrive (S : QS) (p : Nat) (x1 : Int32) (x2 : Int32) : Option (QS) :=
  if x1 < 0 then
    some (S)
  else
    if (S.2.1 (p + 10) 0) ≤ x1 then
      some (S)
    else
      if q_inb x1 1024 = true then if q_inb x1 1024 = true then if ((S.2.1 82 x1.toNatClampNeg) ||| x2) = (S.2.1 82 x1.toNatClampNeg) then
        some (S)
      else
        if q_inb x1 1024 = true then if q_inb x1 1024 = true then (some (q_sI S 82 x1.toNatClampNeg ((S.2.1 82 x1.toNatClampNeg) ||| x2))).bind fun S5 =>
        if q_inb x1 1024 = true then (some (q_sI S5 83 x1.toNatClampNeg (vp_nar .boolean (1 : Int32)))).bind fun S9 =>
        (some (q_sI S9 81 4 (1 : Int32))).bind fun S12 =>
        some (S12) else none else none else none else none else none
noncomputable def tX3_goodOf_29 (S : QS) (p : Nat) (y1 : Int32) (y3 : Int32) (x : Int32 × Int32) : Option ((Int32) ⊕ (Int32 × Int32)) :=
  if y3 < x.2 then
    some (.inl ((x.1)))
  else
    if (8 : Int32) < x.2 then
      some (.inl ((x.1)))
    else
      if q_inb y1 1024 = true then some (.inr ((x.1 ||| ((S.2.1 82 y1.toNatClampNeg) &&& ((1 : Int32) <<< (x.2 &&& 31)))), (x.2 + (1 : Int32)))) else none
noncomputable def fX3_goodOf_29 (S : QS) (p : Nat) (y1 : Int32) (y3 : Int32) (y4 : Int32) (y5 : Int32) : Option (Int32) := q_run (tX3_goodOf_29 S p y1 y3) (y4, y5)
noncomputable def fX3_goodOf (S : QS) (p : Nat) (x1 : Int32) : Option (Int32) :=
  (fX5_takes S p x1).bind fun r2 =>
  (fX5_leaves S p x1).bind fun r4 =>
  fX3_goodOf_29 S p x1 ((((8 : Int32) - r4) + r2)) ((0 : Int32)) r2
noncomputable def tX3_spread_97 (p : Nat) (y1 : Int32) (y2 : Int32) (x : Int32 × QS) : Option ((QS) ⊕ (Int32 × QS)) :=
  if q_inb y2 48 = true then if (x.2.2.1 (p + 32) y2.toNatClampNeg) ≤ x.1 then
    some (.inl ((x.2)))
  else
    (fX1_isCaught x.2 p y1 x.1).bind fun r2 =>
    if r2 = true then
      if q_inb x.1 64 = true then (fX3_arrive x.2 p ((x.2.2.1 (p + 20) x.1.toNatClampNeg)) ((2 : Int32))).bind fun r5 =>
      some (.inr ((x.1 + (1 : Int32)), r5)) else none
    else
      some (.inr ((x.1 + (1 : Int32)), x.2)) else none
noncomputable def fX3_spread_97 (S : QS) (p : Nat) (y1 : Int32) (y2 : Int32) (y5 : Int32) : Option (QS) := q_run (tX3_spread_97 p y1 y2) (y5, S)
noncomputable def fX3_spread (S : QS) (p : Nat) (x1 : Int32) (x2 : Int32) : Option (QS) :=
  (fX3_goodOf S p x1).bind fun r8 =>
  if r8 = 0 then
    some (S)
  else
    (fX5_takes S p x1).bind fun r10 =>
    (fX5_leaves S p x1).bind fun r12 =>
    if q_inb x1 1024 = true then (fX1_goesOn S ((S.2.1 (p + 11) x1.toNatClampNeg))).bind fun r15 =>
    (Option.bind (α := QS) (if r15 = true then
        (fX3_arrive S p ((x1 + (1 : Int32))) (((r8 >>> (r10 &&& 31)) <<< (r12 &&& 31)))).bind fun r17 =>
        some (r17)
      else
        some (S)) fun v20 =>
      if q_inb x1 1024 = true then (fX1_goesToLabel v20 ((v20.2.1 (p + 11) x1.toNatClampNeg))).bind fun r23 =>
      (Option.bind (α := QS) (if r23 = true then
          if q_inb x1 1024 = true then (fX3_arrive v20 p ((v20.2.1 (p + 12) x1.toNatClampNeg)) (((r8 >>> (r10 &&& 31)) <<< (r12 &&& 31)))).bind fun r26 =>
          some (r26) else none
        else
          some (v20)) fun v29 =>
        if q_inb x2 48 = true then fX3_spread_97 v29 p x1 x2 ((v29.2.1 (p + 31) x2.toNatClampNeg)) else none) else none) else none
noncomputable def tX3_firstFault_107 (p : Nat) (y3 : Int32) (x : Int32 × QS) : Option ((Int32 × QS) ⊕ (Int32 × QS)) :=
  if y3 ≤ x.1 then
    some (.inl ((((-1 : Int32), x.2))))
  else
    if q_inb x.1 1024 = true then (fX3_goodOf x.2 p x.1).bind fun r2 =>
    if (x.2.2.1 82 x.1.toNatClampNeg) = r2 then
      (fJ6_bitCount_0f7a4 x.2 ((x.2.2.1 82 x.1.toNatClampNeg))).bind fun r4 =>
      if r4 ≤ (1 : Int32) then
        if (x.2.2.1 82 x.1.toNatClampNeg) = 0 then
          if q_inb x.1 1024 = true then (some (q_sI x.2 (p + 17) x.1.toNatClampNeg (-1 : Int32))).bind fun S13 =>
          some (.inr ((x.1 + (1 : Int32)), S13)) else none
        else
          (fJ6_numberOfTrailingZeros_0f7a4 x.2 ((x.2.2.1 82 x.1.toNatClampNeg))).bind fun r6 =>
          if q_inb x.1 1024 = true then (some (q_sI x.2 (p + 17) x.1.toNatClampNeg r6)).bind fun S9 =>
          some (.inr ((x.1 + (1 : Int32)), S9)) else none
      else
        some (.inl (((x.1, x.2))))
    else
      some (.inl (((x.1, x.2)))) else none
noncomputable def fX3_firstFault_107 (S : QS) (p : Nat) (y3 : Int32) (y4 : Int32) : Option (Int32 × QS) := q_run (tX3_firstFault_107 p y3) (y4, S)
noncomputable def tX3_firstFault_61 (p : Nat) (y1 : Int32) (y2 : Int32) (y3 : Int32) (x : Int32 × Int32 × QS) : Option (((Int32 × QS) ⊕ (Int32 × QS)) ⊕ (Int32 × Int32 × QS)) :=
  if y3 ≤ x.2.1 then
    some (.inl (.inr ((x.1 + (1 : Int32)), x.2.2)))
  else
    if q_inb x.2.1 1024 = true then if (x.2.2.2.1 83 x.2.1.toNatClampNeg) = 0 then
      some (.inr (x.1, (x.2.1 + (1 : Int32)), x.2.2))
    else
      if q_inb x.2.1 1024 = true then (some (q_sI x.2.2 83 x.2.1.toNatClampNeg (vp_nar .boolean (0 : Int32)))).bind fun S18 =>
      (fX3_spread S18 p x.2.1 y1).bind fun r21 =>
      some (.inr (x.1, (x.2.1 + (1 : Int32)), r21)) else none else none
noncomputable def uX3_firstFault_61 (S : QS) (p : Nat) (y1 : Int32) (y2 : Int32) (y3 : Int32) (y4 : Int32) (y5 : Int32) : Option ((Int32 × QS) ⊕ (Int32 × QS)) := q_run (tX3_firstFault_61 p y1 y2 y3) (y4, y5, S)
noncomputable def tX3_firstFault_39 (p : Nat) (y1 : Int32) (y2 : Int32) (y3 : Int32) (x : Int32 × QS) : Option ((Int32 × QS) ⊕ (Int32 × QS)) :=
  if (1000000 : Int32) ≤ x.1 then
    (fX3_firstFault_107 x.2 p y3 y2).bind fun r24 => some (.inl (r24))
  else
    if (x.2.2.1 81 4) = 0 then
      (fX3_firstFault_107 x.2 p y3 y2).bind fun r26 => some (.inl (r26))
    else
      (some (q_sI x.2 81 4 (0 : Int32))).bind fun S28 =>
      uX3_firstFault_61 S28 p y1 y2 y3 x.1 y2
noncomputable def fX3_firstFault_39 (S : QS) (p : Nat) (y1 : Int32) (y2 : Int32) (y3 : Int32) (y4 : Int32) : Option (Int32 × QS) := q_run (tX3_firstFault_39 p y1 y2 y3) (y4, S)
noncomputable def fX3_firstFault (S : QS) (p : Nat) (x1 : Int32) : Option (Int32 × QS) :=
  if q_inb x1 48 = true then if q_inb x1 48 = true then (fJ7_fill_fda19 S 82 1024 ((S.2.1 (p + 29) x1.toNatClampNeg)) ((S.2.1 (p + 30) x1.toNatClampNeg)) ((0 : Int32))).bind fun r33 =>
  (fX3_arrive r33 p ((S.2.1 (p + 29) x1.toNatClampNeg)) ((1 : Int32))).bind fun r36 =>
  fX3_firstFault_39 r36 p x1 ((S.2.1 (p + 29) x1.toNatClampNeg)) ((S.2.1 (p + 30) x1.toNatClampNeg)) ((0 : Int32)) else none else none
noncomputable def fX9_begin (S : QS) (p : Nat) : Option (QS) :=
  (some (q_sR S 84 0 p)).bind fun S1 =>
  (some (q_sR S1 84 1 (p + 1))).bind fun S5 =>
  (some (q_sR S5 84 2 (p + 10))).bind fun S9 =>
  some (S9)
noncomputable def tX9_arrive_67 (p : Nat) (y1 : Int32) (y2 : Int32) (y3 : Int32) (x : Int32 × Int32 × QS) : Option ((QS) ⊕ (Int32 × Int32 × QS)) :=
  if y3 ≤ x.2.1 then
    if x.1 = 0 then
      some (.inl ((x.2.2)))
    else
      if q_inb y1 1024 = true then (some (q_sI x.2.2 87 y1.toNatClampNeg (vp_nar .boolean (1 : Int32)))).bind fun S2 =>
      (some (q_sI S2 84 6 (1 : Int32))).bind fun S5 =>
      some (.inl ((S5))) else none
  else
    if q_inb (y2 + x.2.1) 20480 = true then if q_inb x.2.1 20 = true then (fX0_join x.2.2 p ((x.2.2.2.1 85 (y2 + x.2.1).toNatClampNeg)) ((x.2.2.2.1 88 x.2.1.toNatClampNeg))).bind fun r10 =>
    if q_inb (y2 + x.2.1) 20480 = true then (Option.bind (α := Bool) (if r10.toInt8.toInt32 = (x.2.2.2.1 85 (y2 + x.2.1).toNatClampNeg) then
        some (false)
      else
        some (true)) fun v13 =>
      if q_inb (y2 + x.2.1) 20480 = true then (some (q_sI x.2.2 85 (y2 + x.2.1).toNatClampNeg (vp_nar .byte r10.toInt8.toInt32))).bind fun S15 =>
      some (.inr ((x.1 ||| (q_b v13)), (x.2.1 + (1 : Int32)), S15)) else none) else none else none else none
noncomputable def fX9_arrive_67 (S : QS) (p : Nat) (y1 : Int32) (y2 : Int32) (y3 : Int32) (y4 : Int32) (y5 : Int32) : Option (QS) := q_run (tX9_arrive_67 p y1 y2 y3) (y4, y5, S)
noncomputable def fX9_arrive (S : QS) (p : Nat) (x1 : Int32) : Option (QS) :=
  if q_inb x1 1024 = true then if q_inb x1 1024 = true then (Option.bind (α := Bool) (if (S.2.1 86 x1.toNatClampNeg) = 0 then
      some (true)
    else
      some (false)) fun v20 =>
    if q_inb x1 1024 = true then if (S.2.1 86 x1.toNatClampNeg) = 0 then
      if q_cpok S 1 88 20 (0 : Int32) (x1 * (20 : Int32)) ((12 : Int32) + (S.2.1 (p + 17) x1.toNatClampNeg)) 85 20480 = true then (some (q_cpI S 88 (0 : Int32).toNatClampNeg 85 (x1 * (20 : Int32)).toNatClampNeg ((12 : Int32) + (S.2.1 (p + 17) x1.toNatClampNeg)).toNatClampNeg)).bind fun S23 =>
      if q_inb x1 1024 = true then (some (q_sI S23 86 x1.toNatClampNeg (vp_nar .boolean (1 : Int32)))).bind fun S27 =>
      fX9_arrive_67 S27 p x1 ((x1 * (20 : Int32))) (((12 : Int32) + (S.2.1 (p + 17) x1.toNatClampNeg))) ((q_b v20)) ((0 : Int32)) else none else none
    else
      fX9_arrive_67 S p x1 ((x1 * (20 : Int32))) (((12 : Int32) + (S.2.1 (p + 17) x1.toNatClampNeg))) ((q_b v20)) ((0 : Int32)) else none) else none else none
noncomputable def tX9_enter_2 (p : Nat) (y1 : Int32) (x : Int32 × QS) : Option ((QS) ⊕ (Int32 × QS)) :=
  if (12 : Int32) ≤ x.1 then
    if q_inb y1 48 = true then (fX9_arrive x.2 p ((x.2.2.1 (p + 29) y1.toNatClampNeg))).bind fun r2 =>
    some (.inl ((r2))) else none
  else
    if q_inb y1 48 = true then (Option.bind (α := Int32) (if (x.2.2.1 (p + 25) y1.toNatClampNeg) ≤ x.1 then
        some ((67 : Int32))
      else
        if q_inb ((y1 * (12 : Int32)) + x.1) 576 = true then some ((x.2.2.1 (p + 26) ((y1 * (12 : Int32)) + x.1).toNatClampNeg)) else none) fun v7 =>
      if q_inb x.1 20 = true then (some (q_sI x.2 88 x.1.toNatClampNeg (vp_nar .byte v7.toInt8.toInt32))).bind fun S9 =>
      some (.inr ((x.1 + (1 : Int32)), S9)) else none) else none
noncomputable def fX9_enter_2 (S : QS) (p : Nat) (y1 : Int32) (y2 : Int32) : Option (QS) := q_run (tX9_enter_2 p y1) (y2, S)
noncomputable def fX9_enter (S : QS) (p : Nat) (x1 : Int32) : Option (QS) :=
  fX9_enter_2 S p x1 ((0 : Int32))
noncomputable def fX9_swap (S : QS) (x1 : Int32) (x2 : Int32) : Option (QS) :=
  if q_inb x1 20 = true then if q_inb x2 20 = true then if q_inb x1 20 = true then (some (q_sI S 88 x1.toNatClampNeg (vp_nar .byte (S.2.1 88 x2.toNatClampNeg)))).bind fun S4 =>
  if q_inb x2 20 = true then (some (q_sI S4 88 x2.toNatClampNeg (vp_nar .byte (S.2.1 88 x1.toNatClampNeg)))).bind fun S8 =>
  some (S8) else none else none else none else none
noncomputable def fX9_perform (S : QS) (p : Nat) (x1 : Int32) : Option (Bool × QS) :=
  if q_inb x1 1024 = true then if q_inb x1 1024 = true then (fX5_takes S p x1).bind fun r3 =>
  if q_inb x1 1024 = true then if (S.2.1 (p + 11) x1.toNatClampNeg) = (2 : Int32) then
      if q_inb (S.2.1 (p + 12) x1.toNatClampNeg) 20 = true then if q_inb ((12 : Int32) + (S.2.1 (p + 17) x1.toNatClampNeg)) 20 = true then (some (q_sI S 88 ((12 : Int32) + (S.2.1 (p + 17) x1.toNatClampNeg)).toNatClampNeg (vp_nar .byte (S.2.1 88 (S.2.1 (p + 12) x1.toNatClampNeg).toNatClampNeg)))).bind fun S9 =>
      some ((true, S9)) else none else none
  else if (S.2.1 (p + 11) x1.toNatClampNeg) = (3 : Int32) then
      if q_inb (((12 : Int32) + (S.2.1 (p + 17) x1.toNatClampNeg)) - r3) 20 = true then if q_inb (S.2.1 (p + 12) x1.toNatClampNeg) 20 = true then (some (q_sI S 88 (S.2.1 (p + 12) x1.toNatClampNeg).toNatClampNeg (vp_nar .byte (S.2.1 88 (((12 : Int32) + (S.2.1 (p + 17) x1.toNatClampNeg)) - r3).toNatClampNeg)))).bind fun S15 =>
      some ((true, S15)) else none else none
  else if (S.2.1 (p + 11) x1.toNatClampNeg) = (5 : Int32) then
      if q_inb (((12 : Int32) + (S.2.1 (p + 17) x1.toNatClampNeg)) - r3) 20 = true then if q_inb ((12 : Int32) + (S.2.1 (p + 17) x1.toNatClampNeg)) 20 = true then (some (q_sI S 88 ((12 : Int32) + (S.2.1 (p + 17) x1.toNatClampNeg)).toNatClampNeg (vp_nar .byte (S.2.1 88 (((12 : Int32) + (S.2.1 (p + 17) x1.toNatClampNeg)) - r3).toNatClampNeg)))).bind fun S21 =>
      some ((true, S21)) else none else none
  else if (S.2.1 (p + 11) x1.toNatClampNeg) = (7 : Int32) then
      (fX9_swap S ((((12 : Int32) + (S.2.1 (p + 17) x1.toNatClampNeg)) - r3)) (((((12 : Int32) + (S.2.1 (p + 17) x1.toNatClampNeg)) - r3) + (1 : Int32)))).bind fun r25 =>
      some ((true, r25))
  else if (S.2.1 (p + 11) x1.toNatClampNeg) = (33 : Int32) then
      if q_inb (((12 : Int32) + (S.2.1 (p + 17) x1.toNatClampNeg)) - r3) 20 = true then (fX0_elementOf S p ((S.2.1 88 (((12 : Int32) + (S.2.1 (p + 17) x1.toNatClampNeg)) - r3).toNatClampNeg))).bind fun r30 =>
      if q_inb (((12 : Int32) + (S.2.1 (p + 17) x1.toNatClampNeg)) - r3) 20 = true then (some (q_sI S 88 (((12 : Int32) + (S.2.1 (p + 17) x1.toNatClampNeg)) - r3).toNatClampNeg (vp_nar .byte r30.toInt8.toInt32))).bind fun S33 =>
      if q_inb (((12 : Int32) + (S.2.1 (p + 17) x1.toNatClampNeg)) - r3) 20 = true then if (S33.2.1 88 (((12 : Int32) + (S.2.1 (p + 17) x1.toNatClampNeg)) - r3).toNatClampNeg) = (68 : Int32) then
        some ((false, S33))
      else
        some ((true, S33)) else none else none else none
  else (fX5_leaves S p x1).bind fun r37 =>
    if r37 = (1 : Int32) then
      (fX5_leftBy S p x1).bind fun r39 =>
      if q_inb (((12 : Int32) + (S.2.1 (p + 17) x1.toNatClampNeg)) - r3) 20 = true then (some (q_sI S 88 (((12 : Int32) + (S.2.1 (p + 17) x1.toNatClampNeg)) - r3).toNatClampNeg (vp_nar .byte r39.toInt8.toInt32))).bind fun S42 =>
      some ((true, S42)) else none
    else
      some ((true, S)) else none else none else none
noncomputable def tX9_spread_86 (p : Nat) (y1 : Int32) (y2 : Int32) (x : Int32 × QS) : Option ((QS) ⊕ (Int32 × QS)) :=
  if q_inb y2 48 = true then if (x.2.2.1 (p + 32) y2.toNatClampNeg) ≤ x.1 then
    some (.inl ((x.2)))
  else
    (fX1_isCaught x.2 p y1 x.1).bind fun r2 =>
    if r2 = true then
      if q_cpok x.2 1 85 20480 (y1 * (20 : Int32)) (0 : Int32) (20 : Int32) 88 20 = true then (some (q_cpI x.2 85 (y1 * (20 : Int32)).toNatClampNeg 88 (0 : Int32).toNatClampNeg (20 : Int32).toNatClampNeg)).bind fun S5 =>
      if q_inb x.1 64 = true then if q_inb (12 : Int32) 20 = true then (some (q_sI S5 88 (12 : Int32).toNatClampNeg (vp_nar .byte (S5.2.1 (p + 21) x.1.toNatClampNeg).toInt8.toInt32))).bind fun S10 =>
      if q_inb x.1 64 = true then (fX9_arrive S10 p ((S10.2.1 (p + 20) x.1.toNatClampNeg))).bind fun r14 =>
      some (.inr ((x.1 + (1 : Int32)), r14)) else none else none else none else none
    else
      some (.inr ((x.1 + (1 : Int32)), x.2)) else none
noncomputable def fX9_spread_86 (S : QS) (p : Nat) (y1 : Int32) (y2 : Int32) (y3 : Int32) : Option (QS) := q_run (tX9_spread_86 p y1 y2) (y3, S)
noncomputable def fX9_spread (S : QS) (p : Nat) (x1 : Int32) (x2 : Int32) : Option (QS) :=
  if q_cpok S 1 85 20480 (x1 * (20 : Int32)) (0 : Int32) (20 : Int32) 88 20 = true then (some (q_cpI S 85 (x1 * (20 : Int32)).toNatClampNeg 88 (0 : Int32).toNatClampNeg (20 : Int32).toNatClampNeg)).bind fun S18 =>
  (fX9_perform S18 p x1).bind fun r21 =>
  (Option.bind (α := QS) (if r21.1 = true then
      if q_inb x1 1024 = true then (fX1_goesOn r21.2 ((r21.2.2.1 (p + 11) x1.toNatClampNeg))).bind fun r25 =>
      (Option.bind (α := QS) (if r25 = true then
          (fX9_arrive r21.2 p ((x1 + (1 : Int32)))).bind fun r27 =>
          some (r27)
        else
          some (r21.2)) fun v30 =>
        if q_inb x1 1024 = true then (fX1_goesToLabel v30 ((v30.2.1 (p + 11) x1.toNatClampNeg))).bind fun r33 =>
        if r33 = true then
          if q_inb x1 1024 = true then (fX9_arrive v30 p ((v30.2.1 (p + 12) x1.toNatClampNeg))).bind fun r36 =>
          some (r36) else none
        else
          some (v30) else none) else none
    else
      some (r21.2)) fun v39 =>
    if q_inb x2 48 = true then fX9_spread_86 v39 p x1 x2 ((v39.2.1 (p + 31) x2.toNatClampNeg)) else none) else none
noncomputable def fX9_isRight (S : QS) (p : Nat) (x1 : Int32) : Option (Bool) :=
  if q_inb x1 1024 = true then (fX5_takes S p x1).bind fun r2 =>
  (fX5_suits S p x1 85 20480 ((x1 * (20 : Int32))) (((((x1 * (20 : Int32)) + (12 : Int32)) + (S.2.1 (p + 17) x1.toNatClampNeg)) - r2))).bind fun r4 =>
  if r4 = true then
    if q_inb x1 1024 = true then if (S.2.1 (p + 11) x1.toNatClampNeg) = (34 : Int32) then
      if q_inb (((((x1 * (20 : Int32)) + (12 : Int32)) + (S.2.1 (p + 17) x1.toNatClampNeg)) - r2) + (2 : Int32)) 20480 = true then if q_inb ((((x1 * (20 : Int32)) + (12 : Int32)) + (S.2.1 (p + 17) x1.toNatClampNeg)) - r2) 20480 = true then (fX0_isElement S p ((S.2.1 85 (((((x1 * (20 : Int32)) + (12 : Int32)) + (S.2.1 (p + 17) x1.toNatClampNeg)) - r2) + (2 : Int32)).toNatClampNeg)) ((S.2.1 85 ((((x1 * (20 : Int32)) + (12 : Int32)) + (S.2.1 (p + 17) x1.toNatClampNeg)) - r2).toNatClampNeg))).bind fun r9 =>
      if r9 = true then
        some (true)
      else
        some (false) else none else none
    else
      some (true) else none
  else
    some (false) else none
noncomputable def tX9_firstFault_119 (p : Nat) (y3 : Int32) (x : Int32 × QS) : Option ((Int32 × QS) ⊕ (Int32 × QS)) :=
  if y3 ≤ x.1 then
    some (.inl ((((-1 : Int32), x.2))))
  else
    if q_inb x.1 1024 = true then if (x.2.2.1 86 x.1.toNatClampNeg) = 0 then
      some (.inr ((x.1 + (1 : Int32)), x.2))
    else
      (fX9_isRight x.2 p x.1).bind fun r2 =>
      if r2 = true then
        some (.inr ((x.1 + (1 : Int32)), x.2))
      else
        some (.inl (((x.1, x.2)))) else none
noncomputable def fX9_firstFault_119 (S : QS) (p : Nat) (y3 : Int32) (y4 : Int32) : Option (Int32 × QS) := q_run (tX9_firstFault_119 p y3) (y4, S)
noncomputable def tX9_firstFault_73 (p : Nat) (y1 : Int32) (y2 : Int32) (y3 : Int32) (x : Int32 × Int32 × QS) : Option (((Int32 × QS) ⊕ (Int32 × QS)) ⊕ (Int32 × Int32 × QS)) :=
  if y3 ≤ x.2.1 then
    some (.inl (.inr ((x.1 + (1 : Int32)), x.2.2)))
  else
    if q_inb x.2.1 1024 = true then if (x.2.2.2.1 87 x.2.1.toNatClampNeg) = 0 then
      some (.inr (x.1, (x.2.1 + (1 : Int32)), x.2.2))
    else
      if q_inb x.2.1 1024 = true then (some (q_sI x.2.2 87 x.2.1.toNatClampNeg (vp_nar .boolean (0 : Int32)))).bind fun S6 =>
      (fX9_spread S6 p x.2.1 y1).bind fun r9 =>
      some (.inr (x.1, (x.2.1 + (1 : Int32)), r9)) else none else none
noncomputable def uX9_firstFault_73 (S : QS) (p : Nat) (y1 : Int32) (y2 : Int32) (y3 : Int32) (y4 : Int32) (y5 : Int32) : Option ((Int32 × QS) ⊕ (Int32 × QS)) := q_run (tX9_firstFault_73 p y1 y2 y3) (y4, y5, S)
noncomputable def tX9_firstFault_51 (p : Nat) (y1 : Int32) (y2 : Int32) (y3 : Int32) (x : Int32 × QS) : Option ((Int32 × QS) ⊕ (Int32 × QS)) :=
  if (1000000 : Int32) ≤ x.1 then
    (fX9_firstFault_119 x.2 p y3 y2).bind fun r12 => some (.inl (r12))
  else
    if (x.2.2.1 84 6) = 0 then
      (fX9_firstFault_119 x.2 p y3 y2).bind fun r14 => some (.inl (r14))
    else
      (some (q_sI x.2 84 6 (0 : Int32))).bind fun S16 =>
      uX9_firstFault_73 S16 p y1 y2 y3 x.1 y2
noncomputable def fX9_firstFault_51 (S : QS) (p : Nat) (y1 : Int32) (y2 : Int32) (y3 : Int32) (y4 : Int32) : Option (Int32 × QS) := q_run (tX9_firstFault_51 p y1 y2 y3) (y4, S)
noncomputable def tX9_firstFault_23 (p : Nat) (y1 : Int32) (y2 : Int32) (y3 : Int32) (x : Int32 × QS) : Option ((Int32 × QS) ⊕ (Int32 × QS)) :=
  if y3 ≤ x.1 then
    (fX9_enter x.2 p y1).bind fun r19 =>
    (fX9_firstFault_51 r19 p y1 y2 y3 ((0 : Int32))).bind fun r22 => some (.inl (r22))
  else
    if q_inb x.1 1024 = true then (some (q_sI x.2 86 x.1.toNatClampNeg (vp_nar .boolean (0 : Int32)))).bind fun S25 =>
    some (.inr ((x.1 + (1 : Int32)), S25)) else none
noncomputable def fX9_firstFault_23 (S : QS) (p : Nat) (y1 : Int32) (y2 : Int32) (y3 : Int32) (y4 : Int32) : Option (Int32 × QS) := q_run (tX9_firstFault_23 p y1 y2 y3) (y4, S)
noncomputable def fX9_firstFault (S : QS) (p : Nat) (x1 : Int32) : Option (Int32 × QS) :=
  if q_inb x1 48 = true then if q_inb x1 48 = true then fX9_firstFault_23 S p x1 ((S.2.1 (p + 29) x1.toNatClampNeg)) ((S.2.1 (p + 30) x1.toNatClampNeg)) ((S.2.1 (p + 29) x1.toNatClampNeg)) else none else none
noncomputable def fX6_addInput (S : QS) (x1 : Int32) : Option (Bool × QS) :=
  if (S.2.1 89 11) = (256 : Int32) then
    some ((false, S))
  else
    if q_inb (S.2.1 89 11) 256 = true then (some (q_sI S 100 (S.2.1 89 11).toNatClampNeg x1)).bind fun S2 =>
    (some (q_sI S2 89 11 ((S2.2.1 89 11) + (1 : Int32)))).bind fun S5 =>
    some ((true, S5)) else none
noncomputable def fX6_top (S : QS) : Option (Int32) :=
  if q_inb (S.2.1 89 7) 64 = true then some (((((S.2.1 89 7) * (20 : Int32)) + (12 : Int32)) + (S.2.1 99 (S.2.1 89 7).toNatClampNeg))) else none
noncomputable def fX6_isStray (S : QS) (p : Nat) (x1 : Int32) : Option (Bool) :=
  if q_inb (S.2.1 89 7) 64 = true then if q_inb x1 1024 = true then if (S.2.1 99 (S.2.1 89 7).toNatClampNeg) = (S.2.1 (p + 17) x1.toNatClampNeg) then
    (fX6_top S).bind fun r3 =>
    (fX5_takes S p x1).bind fun r5 =>
    (fX5_suits S p x1 97 1280 (((S.2.1 89 7) * (20 : Int32))) ((r3 - r5))).bind fun r7 =>
    if r7 = true then
      if q_inb x1 1024 = true then if (S.2.1 (p + 11) x1.toNatClampNeg) = (34 : Int32) then
        if q_inb ((r3 - r5) + (2 : Int32)) 1280 = true then (Option.bind (α := Int32) (if (65 : Int32) ≤ (S.2.1 97 ((r3 - r5) + (2 : Int32)).toNatClampNeg) then
            if q_inb ((r3 - r5) + (2 : Int32)) 1280 = true then some ((S.2.1 97 ((r3 - r5) + (2 : Int32)).toNatClampNeg)) else none
          else
            some ((65 : Int32))) fun v12 =>
          if q_inb (r3 - r5) 1280 = true then (fX0_isElement S p v12 ((S.2.1 97 (r3 - r5).toNatClampNeg))).bind fun r14 =>
          if r14 = true then
            some (false)
          else
            some (true) else none) else none
      else
        some (false) else none
    else
      some (true)
  else
    some (true) else none else none
noncomputable def fX6_push (S : QS) (x1 : Int32) (x2 : Int32) : Option (QS) :=
  if q_inb (S.2.1 89 7) 64 = true then if (8 : Int32) ≤ (S.2.1 99 (S.2.1 89 7).toNatClampNeg) then
    some (S)
  else
    if q_inb (S.2.1 89 7) 64 = true then if q_inb ((((S.2.1 89 7) * (20 : Int32)) + (12 : Int32)) + (S.2.1 99 (S.2.1 89 7).toNatClampNeg)) 1280 = true then (some (q_sI S 96 ((((S.2.1 89 7) * (20 : Int32)) + (12 : Int32)) + (S.2.1 99 (S.2.1 89 7).toNatClampNeg)).toNatClampNeg x1)).bind fun S4 =>
    if q_inb ((((S.2.1 89 7) * (20 : Int32)) + (12 : Int32)) + (S.2.1 99 (S.2.1 89 7).toNatClampNeg)) 1280 = true then (some (q_sI S4 97 ((((S.2.1 89 7) * (20 : Int32)) + (12 : Int32)) + (S.2.1 99 (S.2.1 89 7).toNatClampNeg)).toNatClampNeg (vp_nar .byte x2.toInt8.toInt32))).bind fun S8 =>
    if q_inb (S8.2.1 89 7) 64 = true then if q_inb (S8.2.1 89 7) 64 = true then (some (q_sI S8 99 (S8.2.1 89 7).toNatClampNeg ((S8.2.1 99 (S8.2.1 89 7).toNatClampNeg) + (1 : Int32)))).bind fun S13 =>
    some (S13) else none else none else none else none else none else none
noncomputable def fX6_pushInt (S : QS) (x1 : Int32) : Option (QS) :=
  (fX6_push S x1 ((66 : Int32))).bind fun r1 =>
  some (r1)
noncomputable def fX6_pushObject (S : QS) (x1 : Int32) : Option (QS) :=
  if q_inb x1 2001 = true then (fX6_push S x1 ((S.2.1 91 x1.toNatClampNeg))).bind fun r2 =>
  some (r2) else none
noncomputable def fX6_pop (S : QS) : Option (Int32 × QS) :=
  if q_inb (S.2.1 89 7) 64 = true then if (S.2.1 99 (S.2.1 89 7).toNatClampNeg) = 0 then
    some (((0 : Int32), S))
  else
    if q_inb (S.2.1 89 7) 64 = true then if q_inb (S.2.1 89 7) 64 = true then (some (q_sI S 99 (S.2.1 89 7).toNatClampNeg ((S.2.1 99 (S.2.1 89 7).toNatClampNeg) - (1 : Int32)))).bind fun S4 =>
    (fX6_top S4).bind fun r7 =>
    if q_inb r7 1280 = true then some (((S4.2.1 96 r7.toNatClampNeg), S4)) else none else none else none else none
noncomputable def fX6_swap (S : QS) (x1 : Int32) (x2 : Int32) : Option (QS) :=
  if q_inb x1 1280 = true then if q_inb x1 1280 = true then if q_inb x2 1280 = true then if q_inb x1 1280 = true then (some (q_sI S 96 x1.toNatClampNeg (S.2.1 96 x2.toNatClampNeg))).bind fun S5 =>
  if q_inb x2 1280 = true then if q_inb x1 1280 = true then (some (q_sI S5 97 x1.toNatClampNeg (vp_nar .byte (S5.2.1 97 x2.toNatClampNeg)))).bind fun S10 =>
  if q_inb x2 1280 = true then (some (q_sI S10 96 x2.toNatClampNeg (S.2.1 96 x1.toNatClampNeg))).bind fun S14 =>
  if q_inb x2 1280 = true then (some (q_sI S14 97 x2.toNatClampNeg (vp_nar .byte (S.2.1 97 x1.toNatClampNeg)))).bind fun S18 =>
  some (S18) else none else none else none else none else none else none else none else none
noncomputable def fX6_move (S : QS) (x1 : Int32) (x2 : Int32) (x3 : Int32) : Option (QS) :=
  (fX6_top S).bind fun r1 =>
  if x1 = (0 : Int32) then
      (fX6_pushInt S x2).bind fun r4 =>
      some (r4)
  else if x1 = (1 : Int32) then
      (fX6_pushObject S ((0 : Int32))).bind fun r8 =>
      some (r8)
  else if x1 = (2 : Int32) then
      if q_inb (((S.2.1 89 7) * (20 : Int32)) + x2) 1280 = true then if q_inb (((S.2.1 89 7) * (20 : Int32)) + x2) 1280 = true then (fX6_push S ((S.2.1 96 (((S.2.1 89 7) * (20 : Int32)) + x2).toNatClampNeg)) ((S.2.1 97 (((S.2.1 89 7) * (20 : Int32)) + x2).toNatClampNeg))).bind fun r14 =>
      some (r14) else none else none
  else if x1 = (3 : Int32) then
      (fX6_pop S).bind fun r18 =>
      if q_inb (((S.2.1 89 7) * (20 : Int32)) + x2) 1280 = true then (some (q_sI r18.2 96 (((S.2.1 89 7) * (20 : Int32)) + x2).toNatClampNeg r18.1)).bind fun S22 =>
      if q_inb (r1 - (1 : Int32)) 1280 = true then if q_inb (((S.2.1 89 7) * (20 : Int32)) + x2) 1280 = true then (some (q_sI S22 97 (((S.2.1 89 7) * (20 : Int32)) + x2).toNatClampNeg (vp_nar .byte (S22.2.1 97 (r1 - (1 : Int32)).toNatClampNeg)))).bind fun S27 =>
      some (S27) else none else none else none
  else if x1 = (4 : Int32) then
      if q_inb (((S.2.1 89 7) * (20 : Int32)) + x2) 1280 = true then if q_inb (((S.2.1 89 7) * (20 : Int32)) + x2) 1280 = true then (some (q_sI S 96 (((S.2.1 89 7) * (20 : Int32)) + x2).toNatClampNeg ((S.2.1 96 (((S.2.1 89 7) * (20 : Int32)) + x2).toNatClampNeg) + x3))).bind fun S33 =>
      some (S33) else none else none
  else if x1 = (5 : Int32) then
      if q_inb (r1 - (1 : Int32)) 1280 = true then if q_inb (r1 - (1 : Int32)) 1280 = true then (fX6_push S ((S.2.1 96 (r1 - (1 : Int32)).toNatClampNeg)) ((S.2.1 97 (r1 - (1 : Int32)).toNatClampNeg))).bind fun r39 =>
      some (r39) else none else none
  else if x1 = (6 : Int32) then
      (fX6_pop S).bind fun r43 =>
      some (r43.2)
  else (fX6_swap S ((r1 - (2 : Int32))) ((r1 - (1 : Int32)))).bind fun r46 =>
    some (r46)
noncomputable def fX6_raise (S : QS) (x1 : Int32) : Option (QS) :=
  (fX2_make S x1 ((0 : Int32)) ((((48 : Int32) + x1) - (2 : Int32)))).bind fun r1 =>
  (some (q_sI r1.2 89 9 r1.1)).bind fun S4 =>
  if (S4.2.1 89 9) = 0 then
    (some (q_sI S4 89 8 (3 : Int32))).bind fun S7 =>
    some (S7)
  else
    some (S4)
noncomputable def fX6_calculate_45 (S : QS) (y1 : Int32) (y2 : Int32) (y3 : Int32) : Option (QS) :=
  if y1 = (8 : Int32) then
      (fX6_pushInt S ((y3 + y2))).bind fun r2 =>
      some (r2)
  else if y1 = (9 : Int32) then
      (fX6_pushInt S ((y3 - y2))).bind fun r6 =>
      some (r6)
  else if y1 = (10 : Int32) then
      (fX6_pushInt S ((y3 * y2))).bind fun r10 =>
      some (r10)
  else if y1 = (11 : Int32) then
      if ¬ y2 = 0 then (fX6_pushInt S ((y3 / y2))).bind fun r15 =>
      some (r15) else none
  else if y1 = (12 : Int32) then
      if ¬ y2 = 0 then (fX6_pushInt S ((y3 - y3 / y2 * y2))).bind fun r20 =>
      some (r20) else none
  else if y1 = (13 : Int32) then
      (fX6_pushInt S ((y3 &&& y2))).bind fun r24 =>
      some (r24)
  else if y1 = (14 : Int32) then
      (fX6_pushInt S ((y3 ||| y2))).bind fun r28 =>
      some (r28)
  else if y1 = (15 : Int32) then
      (fX6_pushInt S ((y3 ^^^ y2))).bind fun r32 =>
      some (r32)
  else if y1 = (16 : Int32) then
      (fX6_pushInt S ((y3 <<< (y2 &&& 31)))).bind fun r36 =>
      some (r36)
  else (fX6_pushInt S ((y3 >>> (y2 &&& 31)))).bind fun r39 =>
    some (r39)
noncomputable def fX6_calculate_35 (S : QS) (y1 : Int32) (y2 : Int32) (y3 : Int32) : Option (QS) :=
  if y2 = 0 then
    (fX6_raise S ((5 : Int32))).bind fun r42 =>
    some (r42)
  else
    fX6_calculate_45 S y1 y2 y3
noncomputable def fX6_calculate (S : QS) (x1 : Int32) : Option (QS) :=
  (fX6_pop S).bind fun r45 =>
  if x1 = (18 : Int32) then
    (fX6_pushInt r45.2 ((-r45.1))).bind fun r51 =>
    some (r51)
  else
    (fX6_pop r45.2).bind fun r48 =>
    if x1 = (11 : Int32) then
      fX6_calculate_35 r48.2 x1 r45.1 r48.1
    else
      if x1 = (12 : Int32) then
        fX6_calculate_35 r48.2 x1 r45.1 r48.1
      else
        fX6_calculate_45 r48.2 x1 r45.1 r48.1
noncomputable def fX6_decide (S : QS) (x1 : Int32) (x2 : Int32) : Option (QS) :=
  (Option.bind (α := Int32 × QS) (if x1 = (19 : Int32) then
      some (((0 : Int32), S))
    else
      (fX6_pop S).bind fun r1 =>
      some ((r1.1, r1.2))) fun v4 =>
    (Option.bind (α := Int32 × QS) (if x1 = (19 : Int32) then
        some (((0 : Int32), v4.2))
      else
        if x1 = (26 : Int32) then
          some (((0 : Int32), v4.2))
        else
          if x1 = (27 : Int32) then
            some (((0 : Int32), v4.2))
          else
            (fX6_pop v4.2).bind fun r6 =>
            some ((r6.1, r6.2))) fun v9 =>
      (Option.bind (α := Bool) (if x1 = (20 : Int32) ∨ x1 = (28 : Int32) then
            (Option.bind (α := Bool) (if v9.1 = v4.1 then
                some (true)
              else
                some (false)) fun v12 =>
              some (v12))
        else if x1 = (21 : Int32) ∨ x1 = (29 : Int32) then
            (Option.bind (α := Bool) (if v9.1 = v4.1 then
                some (false)
              else
                some (true)) fun v14 =>
              some (v14))
        else if x1 = (22 : Int32) then
            (Option.bind (α := Bool) (if v4.1 ≤ v9.1 then
                some (false)
              else
                some (true)) fun v16 =>
              some (v16))
        else if x1 = (23 : Int32) then
            (Option.bind (α := Bool) (if v4.1 < v9.1 then
                some (false)
              else
                some (true)) fun v18 =>
              some (v18))
        else if x1 = (24 : Int32) then
            (Option.bind (α := Bool) (if v9.1 ≤ v4.1 then
                some (false)
              else
                some (true)) fun v20 =>
              some (v20))
        else if x1 = (25 : Int32) then
            (Option.bind (α := Bool) (if v9.1 < v4.1 then
                some (false)
              else
                some (true)) fun v22 =>
              some (v22))
        else if x1 = (26 : Int32) then
            (Option.bind (α := Bool) (if v4.1 = 0 then
                some (true)
              else
                some (false)) fun v24 =>
              some (v24))
        else if x1 = (27 : Int32) then
            (Option.bind (α := Bool) (if v4.1 = 0 then
                some (false)
              else
                some (true)) fun v26 =>
              some (v26))
        else some (true)) fun v31 =>
        if v31 = true then
          if q_inb (v9.2.2.1 89 7) 64 = true then (some (q_sI v9.2 98 (v9.2.2.1 89 7).toNatClampNeg x2)).bind fun S33 =>
          some (S33) else none
        else
          some (v9.2))))
noncomputable def fX6_pushMade (S : QS) (x1 : Int32) (x2 : Int32) (x3 : Int32) : Option (QS) :=
  (fX2_make S x1 x2 x3).bind fun r1 =>
  if r1.1 = 0 then
    (some (q_sI r1.2 89 8 (3 : Int32))).bind fun S7 =>
    some (S7)
  else
    (fX6_pushObject r1.2 r1.1).bind fun r4 =>
    some (r4)
noncomputable def fX6_pushCell (S : QS) (x1 : Int32) (x2 : Int32) (x3 : Bool) : Option (QS) :=
  (fX2_cell S x1 x2).bind fun r1 =>
  if x3 = true then
    (fX6_pushInt S r1).bind fun r6 =>
    some (r6)
  else
    (fX6_pushObject S r1).bind fun r3 =>
    some (r3)
noncomputable def fX6_mayHold (S : QS) (p : Nat) (x1 : Int32) (x2 : Int32) : Option (Bool) :=
  if q_inb x1 2001 = true then (fX0_elementOf S p ((S.2.1 91 x1.toNatClampNeg))).bind fun r2 =>
  if r2 = (66 : Int32) then
    some (true)
  else
    if q_inb x2 2001 = true then (fX0_isBelow S p ((S.2.1 91 x2.toNatClampNeg)) r2).bind fun r5 =>
    if r5 = true then
      some (true)
    else
      some (false) else none else none
noncomputable def fX6_useArray (S : QS) (p : Nat) (x1 : Int32) : Option (QS) :=
  if q_inb x1 1024 = true then if (S.2.1 (p + 11) x1.toNatClampNeg) = (30 : Int32) then
    if q_inb x1 1024 = true then if q_inb x1 1024 = true then if q_inb (S.2.1 (p + 12) x1.toNatClampNeg) 32 = true then if q_inb x1 1024 = true then (fX6_pushMade S ((S.2.1 (p + 12) x1.toNatClampNeg)) ((S.2.1 (p + 5) (S.2.1 (p + 12) x1.toNatClampNeg).toNatClampNeg)) ((S.2.1 (p + 16) x1.toNatClampNeg))).bind fun r88 =>
    some (r88) else none else none else none else none
  else
    (Option.bind (α := Int32 × QS) (if (S.2.1 (p + 11) x1.toNatClampNeg) = (34 : Int32) then
        (fX6_pop S).bind fun r2 =>
        some ((r2.1, r2.2))
      else
        some (((0 : Int32), S))) fun v5 =>
      (Option.bind (α := Int32 × QS) (if (S.2.1 (p + 11) x1.toNatClampNeg) = (32 : Int32) then
          some (((0 : Int32), v5.2))
        else
          (fX6_pop v5.2).bind fun r7 =>
          some ((r7.1, r7.2))) fun v10 =>
        (Option.bind (α := Int32 × QS) (if (S.2.1 (p + 11) x1.toNatClampNeg) = (31 : Int32) then
            some (((0 : Int32), v10.2))
          else
            (fX6_pop v10.2).bind fun r12 =>
            some ((r12.1, r12.2))) fun v15 =>
          if (S.2.1 (p + 11) x1.toNatClampNeg) = (31 : Int32) then
            if 0 ≤ v10.1 then
              if (S.2.1 (p + 11) x1.toNatClampNeg) = (31 : Int32) then
                if q_inb x1 1024 = true then if q_inb x1 1024 = true then (fX6_pushMade v15.2 ((v15.2.2.1 (p + 12) x1.toNatClampNeg)) v10.1 ((v15.2.2.1 (p + 16) x1.toNatClampNeg))).bind fun r78 =>
                some (r78) else none else none
              else
                if v15.1 = 0 then
                  (fX6_raise v15.2 ((2 : Int32))).bind fun r73 =>
                  some (r73)
                else
                  if (S.2.1 (p + 11) x1.toNatClampNeg) = (32 : Int32) then
                    if q_inb v15.1 2001 = true then (fX6_pushInt v15.2 ((v15.2.2.1 93 v15.1.toNatClampNeg))).bind fun r70 =>
                    some (r70) else none
                  else
                    (fX2_hasCell v15.2 v15.1 v10.1).bind fun r49 =>
                    if r49 = true then
                      if (S.2.1 (p + 11) x1.toNatClampNeg) = (33 : Int32) then
                        if q_inb v15.1 2001 = true then if (v15.2.2.1 91 v15.1.toNatClampNeg) = (64 : Int32) then
                          (fX6_pushCell v15.2 v15.1 v10.1 true).bind fun r63 =>
                          some (r63)
                        else
                          (fX6_pushCell v15.2 v15.1 v10.1 false).bind fun r60 =>
                          some (r60) else none
                      else
                        (fX6_mayHold v15.2 p v15.1 v5.1).bind fun r51 =>
                        if r51 = true then
                          (fX2_setCell v15.2 v15.1 v10.1 v5.1).bind fun r56 =>
                          some (r56)
                        else
                          (fX6_raise v15.2 ((7 : Int32))).bind fun r53 =>
                          some (r53)
                    else
                      (fX6_raise v15.2 ((3 : Int32))).bind fun r66 =>
                      some (r66)
            else
              (fX6_raise v15.2 ((4 : Int32))).bind fun r81 =>
              some (r81)
          else
            if (S.2.1 (p + 11) x1.toNatClampNeg) = (31 : Int32) then
              if q_inb x1 1024 = true then if q_inb x1 1024 = true then (fX6_pushMade v15.2 ((v15.2.2.1 (p + 12) x1.toNatClampNeg)) v10.1 ((v15.2.2.1 (p + 16) x1.toNatClampNeg))).bind fun r46 =>
              some (r46) else none else none
            else
              if v15.1 = 0 then
                (fX6_raise v15.2 ((2 : Int32))).bind fun r41 =>
                some (r41)
              else
                if (S.2.1 (p + 11) x1.toNatClampNeg) = (32 : Int32) then
                  if q_inb v15.1 2001 = true then (fX6_pushInt v15.2 ((v15.2.2.1 93 v15.1.toNatClampNeg))).bind fun r38 =>
                  some (r38) else none
                else
                  (fX2_hasCell v15.2 v15.1 v10.1).bind fun r17 =>
                  if r17 = true then
                    if (S.2.1 (p + 11) x1.toNatClampNeg) = (33 : Int32) then
                      if q_inb v15.1 2001 = true then if (v15.2.2.1 91 v15.1.toNatClampNeg) = (64 : Int32) then
                        (fX6_pushCell v15.2 v15.1 v10.1 true).bind fun r31 =>
                        some (r31)
                      else
                        (fX6_pushCell v15.2 v15.1 v10.1 false).bind fun r28 =>
                        some (r28) else none
                    else
                      (fX6_mayHold v15.2 p v15.1 v5.1).bind fun r19 =>
                      if r19 = true then
                        (fX2_setCell v15.2 v15.1 v10.1 v5.1).bind fun r24 =>
                        some (r24)
                      else
                        (fX6_raise v15.2 ((7 : Int32))).bind fun r21 =>
                        some (r21)
                  else
                    (fX6_raise v15.2 ((3 : Int32))).bind fun r34 =>
                    some (r34)))) else none
noncomputable def fX6_useObject (S : QS) (p : Nat) (x1 : Int32) : Option (QS) :=
  if q_inb x1 1024 = true then if q_inb x1 1024 = true then (Option.bind (α := Int32 × QS) (if (S.2.1 (p + 11) x1.toNatClampNeg) = (36 : Int32) then
      (fX6_pop S).bind fun r3 =>
      some ((r3.1, r3.2))
    else
      some (((0 : Int32), S))) fun v6 =>
    (fX6_pop v6.2).bind fun r8 =>
    (Option.bind (α := Bool) (if r8.1 = 0 then
        some (false)
      else
        if q_inb r8.1 2001 = true then (fX0_isBelow r8.2 p ((r8.2.2.1 91 r8.1.toNatClampNeg)) ((S.2.1 (p + 12) x1.toNatClampNeg))).bind fun r12 =>
        if r12 = true then
          some (true)
        else
          some (false) else none) fun v14 =>
      if (S.2.1 (p + 11) x1.toNatClampNeg) = (38 : Int32) then
        if v14 = true then
          (fX6_pushInt r8.2 ((1 : Int32))).bind fun r60 =>
          some (r60)
        else
          (fX6_pushInt r8.2 ((0 : Int32))).bind fun r57 =>
          some (r57)
      else
        if (S.2.1 (p + 11) x1.toNatClampNeg) = (37 : Int32) then
          if v14 = true then
            (fX6_pushObject r8.2 r8.1).bind fun r33 =>
            some (r33)
          else
            if r8.1 = 0 then
              (fX6_pushObject r8.2 r8.1).bind fun r54 =>
              some (r54)
            else
              if (S.2.1 (p + 11) x1.toNatClampNeg) = (37 : Int32) then
                (fX6_raise r8.2 ((6 : Int32))).bind fun r51 =>
                some (r51)
              else
                if r8.1 = 0 then
                  (fX6_raise r8.2 ((2 : Int32))).bind fun r48 =>
                  some (r48)
                else
                  if (S.2.1 (p + 11) x1.toNatClampNeg) = (36 : Int32) then
                    if q_inb (S.2.1 (p + 12) x1.toNatClampNeg) 48 = true then (fX2_setCell r8.2 r8.1 ((r8.2.2.1 (p + 9) (S.2.1 (p + 12) x1.toNatClampNeg).toNatClampNeg)) v6.1).bind fun r45 =>
                    some (r45) else none
                  else
                    if q_inb (S.2.1 (p + 12) x1.toNatClampNeg) 48 = true then if q_inb (S.2.1 (p + 12) x1.toNatClampNeg) 48 = true then if (r8.2.2.1 (p + 8) (S.2.1 (p + 12) x1.toNatClampNeg).toNatClampNeg) = (66 : Int32) then
                      (fX6_pushCell r8.2 r8.1 ((r8.2.2.1 (p + 9) (S.2.1 (p + 12) x1.toNatClampNeg).toNatClampNeg)) true).bind fun r41 =>
                      some (r41)
                    else
                      (fX6_pushCell r8.2 r8.1 ((r8.2.2.1 (p + 9) (S.2.1 (p + 12) x1.toNatClampNeg).toNatClampNeg)) false).bind fun r38 =>
                      some (r38) else none else none
        else
          if (S.2.1 (p + 11) x1.toNatClampNeg) = (37 : Int32) then
            (fX6_raise r8.2 ((6 : Int32))).bind fun r30 =>
            some (r30)
          else
            if r8.1 = 0 then
              (fX6_raise r8.2 ((2 : Int32))).bind fun r27 =>
              some (r27)
            else
              if (S.2.1 (p + 11) x1.toNatClampNeg) = (36 : Int32) then
                if q_inb (S.2.1 (p + 12) x1.toNatClampNeg) 48 = true then (fX2_setCell r8.2 r8.1 ((r8.2.2.1 (p + 9) (S.2.1 (p + 12) x1.toNatClampNeg).toNatClampNeg)) v6.1).bind fun r24 =>
                some (r24) else none
              else
                if q_inb (S.2.1 (p + 12) x1.toNatClampNeg) 48 = true then if q_inb (S.2.1 (p + 12) x1.toNatClampNeg) 48 = true then if (r8.2.2.1 (p + 8) (S.2.1 (p + 12) x1.toNatClampNeg).toNatClampNeg) = (66 : Int32) then
                  (fX6_pushCell r8.2 r8.1 ((r8.2.2.1 (p + 9) (S.2.1 (p + 12) x1.toNatClampNeg).toNatClampNeg)) true).bind fun r20 =>
                  some (r20)
                else
                  (fX6_pushCell r8.2 r8.1 ((r8.2.2.1 (p + 9) (S.2.1 (p + 12) x1.toNatClampNeg).toNatClampNeg)) false).bind fun r17 =>
                  some (r17) else none else none)) else none else none
noncomputable def fX6_enter (S : QS) (p : Nat) (x1 : Int32) (x2 : Int32) : Option (QS) :=
  if ((S.2.1 89 7) + (1 : Int32)) = (64 : Int32) then
    (some (q_sI S 89 8 (4 : Int32))).bind fun S31 =>
    some (S31)
  else
    if q_inb (S.2.1 89 7) 64 = true then if q_inb (S.2.1 89 7) 64 = true then (some (q_sI S 99 (S.2.1 89 7).toNatClampNeg ((S.2.1 99 (S.2.1 89 7).toNatClampNeg) - x2))).bind fun S3 =>
    (fX6_top S3).bind fun r6 =>
    (some (q_sI S3 89 7 ((S3.2.1 89 7) + (1 : Int32)))).bind fun S8 =>
    if q_cpok S8 0 96 1280 r6 ((S8.2.1 89 7) * (20 : Int32)) x2 96 1280 = true then (some (q_cpI S8 96 r6.toNatClampNeg 96 ((S8.2.1 89 7) * (20 : Int32)).toNatClampNeg x2.toNatClampNeg)).bind fun S12 =>
    if q_cpok S12 1 97 1280 r6 ((S8.2.1 89 7) * (20 : Int32)) x2 97 1280 = true then (some (q_cpI S12 97 r6.toNatClampNeg 97 ((S8.2.1 89 7) * (20 : Int32)).toNatClampNeg x2.toNatClampNeg)).bind fun S16 =>
    (fJ7_fill_eb02e S16 97 1280 ((((S8.2.1 89 7) * (20 : Int32)) + x2)) ((((S8.2.1 89 7) * (20 : Int32)) + (12 : Int32))) ((67 : Int32))).bind fun r19 =>
    if q_inb (r19.2.1 89 7) 64 = true then (some (q_sI r19 99 (r19.2.1 89 7).toNatClampNeg (0 : Int32))).bind fun S23 =>
    if q_inb x1 48 = true then if q_inb (S23.2.1 89 7) 64 = true then (some (q_sI S23 98 (S23.2.1 89 7).toNatClampNeg (S23.2.1 (p + 29) x1.toNatClampNeg))).bind fun S28 =>
    some (S28) else none else none else none else none else none else none else none
noncomputable def fX6_send (S : QS) (p : Nat) (x1 : Int32) (x2 : Int32) : Option (QS) :=
  if x2 = 0 then
    (fX6_raise S ((2 : Int32))).bind fun r8 =>
    some (r8)
  else
    if q_inb x2 2001 = true then (fX5_bodyOf S p ((S.2.1 91 x2.toNatClampNeg)) x1).bind fun r2 =>
    if q_inb x1 48 = true then (fX6_enter S p r2 ((S.2.1 (p + 25) x1.toNatClampNeg))).bind fun r5 =>
    some (r5) else none else none
noncomputable def fX6_raiseObject (S : QS) (x1 : Int32) : Option (QS) :=
  if x1 = 0 then
    (fX6_raise S ((2 : Int32))).bind fun r4 =>
    some (r4)
  else
    (some (q_sI S 89 9 x1)).bind fun S1 =>
    some (S1)
noncomputable def fX6_write (S : QS) (x1 : Int32) : Option (QS) :=
  (Option.bind (α := QS) (if (256 : Int32) ≤ (S.2.1 89 14) then
      some (S)
    else
      if q_inb (S.2.1 89 14) 256 = true then (some (q_sI S 101 (S.2.1 89 14).toNatClampNeg x1)).bind fun S2 =>
      some (S2) else none) fun v5 =>
    (some (q_sI v5 89 14 ((v5.2.1 89 14) + (1 : Int32)))).bind fun S7 =>
    some (S7))
noncomputable def fX6_leave (S : QS) (x1 : Bool) : Option (QS) :=
  if (S.2.1 89 7) = 0 then
    (some (q_sI S 89 8 (0 : Int32))).bind fun S11 =>
    some (S11)
  else
    (fX6_top S).bind fun r1 =>
    (some (q_sI S 89 7 ((S.2.1 89 7) - (1 : Int32)))).bind fun S3 =>
    if x1 = true then
      if q_inb (r1 - (1 : Int32)) 1280 = true then if q_inb (r1 - (1 : Int32)) 1280 = true then (fX6_push S3 ((S3.2.1 96 (r1 - (1 : Int32)).toNatClampNeg)) ((S3.2.1 97 (r1 - (1 : Int32)).toNatClampNeg))).bind fun r8 =>
      some (r8) else none else none
    else
      some (S3)
noncomputable def fX6_transfer (S : QS) (p : Nat) (x1 : Int32) : Option (QS) :=
  if q_inb x1 1024 = true then if q_inb x1 1024 = true then if (S.2.1 (p + 11) x1.toNatClampNeg) = (39 : Int32) then
      if q_inb (S.2.1 (p + 12) x1.toNatClampNeg) 48 = true then (fX6_enter S p ((S.2.1 (p + 12) x1.toNatClampNeg)) ((S.2.1 (p + 25) (S.2.1 (p + 12) x1.toNatClampNeg).toNatClampNeg))).bind fun r5 =>
      some (r5) else none
  else if (S.2.1 (p + 11) x1.toNatClampNeg) = (40 : Int32) then
      (fX6_top S).bind fun r9 =>
      if q_inb (S.2.1 (p + 12) x1.toNatClampNeg) 48 = true then if q_inb (r9 - (S.2.1 (p + 25) (S.2.1 (p + 12) x1.toNatClampNeg).toNatClampNeg)) 1280 = true then (fX6_send S p ((S.2.1 (p + 12) x1.toNatClampNeg)) ((S.2.1 96 (r9 - (S.2.1 (p + 25) (S.2.1 (p + 12) x1.toNatClampNeg).toNatClampNeg)).toNatClampNeg))).bind fun r13 =>
      some (r13) else none else none
  else if (S.2.1 (p + 11) x1.toNatClampNeg) = (41 : Int32) then
      (fX6_pop S).bind fun r17 =>
      (fX6_raiseObject r17.2 r17.1).bind fun r20 =>
      some (r20)
  else if (S.2.1 (p + 11) x1.toNatClampNeg) = (44 : Int32) then
      (Option.bind (α := Int32) (if (S.2.1 89 11) ≤ (S.2.1 89 12) then
          some ((0 : Int32))
        else
          if q_inb (S.2.1 89 12) 256 = true then some ((S.2.1 100 (S.2.1 89 12).toNatClampNeg)) else none) fun v25 =>
        (fX6_pushInt S v25).bind fun r26 =>
        (some (q_sI r26 89 12 ((r26.2.1 89 12) + (1 : Int32)))).bind fun S29 =>
        some (S29))
  else if (S.2.1 (p + 11) x1.toNatClampNeg) = (45 : Int32) then
      (fX6_pop S).bind fun r33 =>
      (fX6_write r33.2 r33.1).bind fun r36 =>
      some (r36)
  else if q_inb x1 1024 = true then if (S.2.1 (p + 11) x1.toNatClampNeg) = (42 : Int32) then
      (fX6_leave S true).bind fun r43 =>
      some (r43)
    else
      (fX6_leave S false).bind fun r40 =>
      some (r40) else none else none else none
noncomputable def fX6_step (S : QS) (p : Nat) : Option (QS) :=
  if q_inb (S.2.1 89 7) 64 = true then (some (q_sI S 89 16 (S.2.1 98 (S.2.1 89 7).toNatClampNeg))).bind fun S2 =>
  (fX6_isStray S2 p ((S.2.1 98 (S.2.1 89 7).toNatClampNeg))).bind fun r5 =>
  if r5 = true then
    (some (q_sI S2 89 18 ((S2.2.1 89 18) + (1 : Int32)))).bind fun S33 =>
    some (S33)
  else
    if q_inb (S2.2.1 89 7) 64 = true then (some (q_sI S2 98 (S2.2.1 89 7).toNatClampNeg ((S.2.1 98 (S.2.1 89 7).toNatClampNeg) + (1 : Int32)))).bind fun S8 =>
    if q_inb (S.2.1 98 (S.2.1 89 7).toNatClampNeg) 1024 = true then if (7 : Int32) < (S8.2.1 (p + 11) (S.2.1 98 (S.2.1 89 7).toNatClampNeg).toNatClampNeg) then
      if (18 : Int32) < (S8.2.1 (p + 11) (S.2.1 98 (S.2.1 89 7).toNatClampNeg).toNatClampNeg) then
        if (29 : Int32) < (S8.2.1 (p + 11) (S.2.1 98 (S.2.1 89 7).toNatClampNeg).toNatClampNeg) then
          if (34 : Int32) < (S8.2.1 (p + 11) (S.2.1 98 (S.2.1 89 7).toNatClampNeg).toNatClampNeg) then
            if (38 : Int32) < (S8.2.1 (p + 11) (S.2.1 98 (S.2.1 89 7).toNatClampNeg).toNatClampNeg) then
              (fX6_transfer S8 p ((S.2.1 98 (S.2.1 89 7).toNatClampNeg))).bind fun r12 =>
              some (r12)
            else
              (fX6_useObject S8 p ((S.2.1 98 (S.2.1 89 7).toNatClampNeg))).bind fun r15 =>
              some (r15)
          else
            (fX6_useArray S8 p ((S.2.1 98 (S.2.1 89 7).toNatClampNeg))).bind fun r18 =>
            some (r18)
        else
          if q_inb (S.2.1 98 (S.2.1 89 7).toNatClampNeg) 1024 = true then (fX6_decide S8 ((S8.2.1 (p + 11) (S.2.1 98 (S.2.1 89 7).toNatClampNeg).toNatClampNeg)) ((S8.2.1 (p + 12) (S.2.1 98 (S.2.1 89 7).toNatClampNeg).toNatClampNeg))).bind fun r22 =>
          some (r22) else none
      else
        (fX6_calculate S8 ((S8.2.1 (p + 11) (S.2.1 98 (S.2.1 89 7).toNatClampNeg).toNatClampNeg))).bind fun r25 =>
        some (r25)
    else
      if q_inb (S.2.1 98 (S.2.1 89 7).toNatClampNeg) 1024 = true then if q_inb (S.2.1 98 (S.2.1 89 7).toNatClampNeg) 1024 = true then (fX6_move S8 ((S8.2.1 (p + 11) (S.2.1 98 (S.2.1 89 7).toNatClampNeg).toNatClampNeg)) ((S8.2.1 (p + 12) (S.2.1 98 (S.2.1 89 7).toNatClampNeg).toNatClampNeg)) ((S8.2.1 (p + 13) (S.2.1 98 (S.2.1 89 7).toNatClampNeg).toNatClampNeg))).bind fun r30 =>
      some (r30) else none else none else none else none else none
noncomputable def tX6_handlerOf_21 (S : QS) (p : Nat) (y1 : Int32) (y2 : Int32) (y3 : Int32) (x : Int32) : Option ((Int32) ⊕ (Int32)) :=
  if q_inb y3 48 = true then if (S.2.1 (p + 32) y3.toNatClampNeg) ≤ x then
    some (.inl (((-1 : Int32))))
  else
    (fX1_isCaught S p y1 x).bind fun r2 =>
    if r2 = true then
      if q_inb x 64 = true then (fX0_isBelow S p y2 ((S.2.1 (p + 21) x.toNatClampNeg))).bind fun r5 =>
      if r5 = true then
        if q_inb x 64 = true then some (.inl (((S.2.1 (p + 20) x.toNatClampNeg)))) else none
      else
        some (.inr (x + (1 : Int32))) else none
    else
      some (.inr (x + (1 : Int32))) else none
noncomputable def fX6_handlerOf_21 (S : QS) (p : Nat) (y1 : Int32) (y2 : Int32) (y3 : Int32) (y4 : Int32) : Option (Int32) := q_run (tX6_handlerOf_21 S p y1 y2 y3) y4
noncomputable def fX6_handlerOf (S : QS) (p : Nat) (x1 : Int32) (x2 : Int32) : Option (Int32) :=
  if q_inb x1 1024 = true then if q_inb (S.2.1 (p + 15) x1.toNatClampNeg) 48 = true then fX6_handlerOf_21 S p x1 x2 ((S.2.1 (p + 15) x1.toNatClampNeg)) ((S.2.1 (p + 31) (S.2.1 (p + 15) x1.toNatClampNeg).toNatClampNeg)) else none else none
noncomputable def tX6_passUp_20 (p : Nat) (y1 : Int32) (x : Int32 × Int32 × QS) : Option ((QS) ⊕ (Int32 × Int32 × QS)) :=
  if x.2.1 < 0 then
    (some (q_sI x.2.2 89 8 (1 : Int32))).bind fun S1 =>
    if q_inb y1 2001 = true then (some (q_sI S1 89 17 (S1.2.1 94 y1.toNatClampNeg))).bind fun S5 =>
    some (.inl ((S5))) else none
  else
    if q_inb y1 2001 = true then (fX6_handlerOf x.2.2 p x.1 ((x.2.2.2.1 91 y1.toNatClampNeg))).bind fun r9 =>
    if r9 = (-1 : Int32) then
      if x.2.1 ≤ 0 then
        some (.inr (x.1, (x.2.1 - (1 : Int32)), x.2.2))
      else
        if q_inb (x.2.1 - (1 : Int32)) 64 = true then some (.inr (((x.2.2.2.1 98 (x.2.1 - (1 : Int32)).toNatClampNeg) - (1 : Int32)), (x.2.1 - (1 : Int32)), x.2.2)) else none
    else
      (some (q_sI x.2.2 89 7 x.2.1)).bind fun S12 =>
      if q_inb x.2.1 64 = true then (some (q_sI S12 99 x.2.1.toNatClampNeg (0 : Int32))).bind fun S16 =>
      if q_inb x.2.1 64 = true then (some (q_sI S16 98 x.2.1.toNatClampNeg r9)).bind fun S20 =>
      (fX6_pushObject S20 y1).bind fun r23 =>
      some (.inl ((r23))) else none else none else none
noncomputable def fX6_passUp_20 (S : QS) (p : Nat) (y1 : Int32) (y2 : Int32) (y3 : Int32) : Option (QS) := q_run (tX6_passUp_20 p y1) (y2, y3, S)
noncomputable def fX6_passUp (S : QS) (p : Nat) : Option (QS) :=
  (some (q_sI S 89 9 (0 : Int32))).bind fun S26 =>
  fX6_passUp_20 S26 p ((S.2.1 89 9)) ((S.2.1 89 16)) ((S26.2.1 89 7))
noncomputable def fX6_outcomeOf_141 (S : QS) (p : Nat) : Option (Int32 × QS) :=
  (Option.bind (α := QS) (if (S.2.1 89 8) = (-1 : Int32) then
      (some (q_sI S 89 8 (2 : Int32))).bind fun S1 =>
      if q_inb (S1.2.1 89 7) 64 = true then (some (q_sI S1 89 16 (S1.2.1 98 (S1.2.1 89 7).toNatClampNeg))).bind fun S5 =>
      some (S5) else none
    else
      some (S)) fun v8 =>
    (some (q_sI v8 89 11 (0 : Int32))).bind fun S10 =>
    some (((S10.2.1 89 8), S10)))
noncomputable def tX6_outcomeOf_97 (p : Nat) (y2 : Int32) (x : Int32 × QS) : Option ((Int32 × QS) ⊕ (Int32 × QS)) :=
  if y2 ≤ x.1 then
    (fX6_outcomeOf_141 x.2 p).bind fun r13 => some (.inl (r13))
  else
    if (x.2.2.1 89 8) = (-1 : Int32) then
      (some (q_sI x.2 89 15 ((x.2.2.1 89 15) + (1 : Int32)))).bind fun S17 =>
      (fX6_step S17 p).bind fun r20 =>
      if (r20.2.1 89 9) = 0 then
        some (.inr ((x.1 + (1 : Int32)), r20))
      else
        (fX6_passUp r20 p).bind fun r23 =>
        some (.inr ((x.1 + (1 : Int32)), r23))
    else
      (fX6_outcomeOf_141 x.2 p).bind fun r15 => some (.inl (r15))
noncomputable def fX6_outcomeOf_97 (S : QS) (p : Nat) (y2 : Int32) (y3 : Int32) : Option (Int32 × QS) := q_run (tX6_outcomeOf_97 p y2) (y3, S)
noncomputable def fX6_outcomeOf (S : QS) (p : Nat) (x2 : Int32) : Option (Int32 × QS) :=
  (some (q_sR S 89 0 p)).bind fun S26 =>
  (some (q_sR S26 89 1 (p + 10))).bind fun S30 =>
  (fX2_begin S30).bind fun r34 =>
  (some (q_sI r34 89 12 (0 : Int32))).bind fun S37 =>
  (some (q_sI S37 89 14 (0 : Int32))).bind fun S40 =>
  (some (q_sI S40 89 15 (0 : Int32))).bind fun S43 =>
  (some (q_sI S43 89 17 (-1 : Int32))).bind fun S46 =>
  (some (q_sI S46 89 8 (-1 : Int32))).bind fun S49 =>
  (some (q_sI S49 89 9 (0 : Int32))).bind fun S52 =>
  (some (q_sI S52 89 7 (0 : Int32))).bind fun S55 =>
  (fJ7_fill_eb02e S55 97 1280 ((0 : Int32)) ((12 : Int32)) ((67 : Int32))).bind fun r58 =>
  if q_inb (0 : Int32) 64 = true then (some (q_sI r58 99 (0 : Int32).toNatClampNeg (0 : Int32))).bind fun S62 =>
  if q_inb (S62.2.1 p 16) 48 = true then if q_inb (0 : Int32) 64 = true then (some (q_sI S62 98 (0 : Int32).toNatClampNeg (S62.2.1 (p + 29) (S62.2.1 p 16).toNatClampNeg))).bind fun S67 =>
  fX6_outcomeOf_97 S67 p x2 ((0 : Int32)) else none else none else none
noncomputable def fX10_feed (S : QS) (x1 : Int32) (x2 : Int32) (x3 : Int32) (x4 : Int32) (x5 : Int32) : Option (Int32 × QS) :=
  if (15980 : Int32) < (S.2.1 0 1) then
    some (((-1 : Int32), S))
  else
    if (S.2.1 0 2) ≤ (65516 : Int32) then
      if q_inb ((S.2.1 0 1) / (4 : Int32)) 4000 = true then (some (q_sI S 1 ((S.2.1 0 1) / (4 : Int32)).toNatClampNeg x1)).bind fun S2 =>
      if q_inb (((S.2.1 0 1) / (4 : Int32)) + (1 : Int32)) 4000 = true then (some (q_sI S2 1 (((S.2.1 0 1) / (4 : Int32)) + (1 : Int32)).toNatClampNeg x2)).bind fun S6 =>
      if q_inb (((S.2.1 0 1) / (4 : Int32)) + (2 : Int32)) 4000 = true then (some (q_sI S6 1 (((S.2.1 0 1) / (4 : Int32)) + (2 : Int32)).toNatClampNeg x3)).bind fun S10 =>
      if q_inb (((S.2.1 0 1) / (4 : Int32)) + (3 : Int32)) 4000 = true then (some (q_sI S10 1 (((S.2.1 0 1) / (4 : Int32)) + (3 : Int32)).toNatClampNeg x4)).bind fun S14 =>
      if q_inb (((S.2.1 0 1) / (4 : Int32)) + (4 : Int32)) 4000 = true then (some (q_sI S14 1 (((S.2.1 0 1) / (4 : Int32)) + (4 : Int32)).toNatClampNeg x5)).bind fun S18 =>
      (some (q_sI S18 0 1 ((S18.2.1 0 1) + (20 : Int32)))).bind fun S21 =>
      (some (q_sI S21 0 2 ((S21.2.1 0 2) + (20 : Int32)))).bind fun S24 =>
      some (((S24.2.1 0 1), S24)) else none else none else none else none else none
    else
      some (((-1 : Int32), S))
noncomputable def fX10_end (S : QS) (x1 : Int32) : Option (Bool × QS) :=
  if x1 < 0 then
    some ((false, S))
  else
    if x1 ≤ (S.2.1 0 1) then
      (fX8_take S x1).bind fun r1 =>
      (some (q_sI r1 0 1 (0 : Int32))).bind fun S4 =>
      some ((true, S4))
    else
      some ((false, S))
noncomputable def fX10_nameFault (S : QS) (pp : Nat) (ps : Nat) : Option (Int32 × QS) :=
  (fX4_begin S ps).bind fun r1 =>
  if q_okO r1 pp ps = true then if q_aNb r1 ps = true then (fX4_classFault r1 ps).bind fun r8 =>
  (Option.bind (α := Int32 × QS) (if r8.1 = (-1 : Int32) then
      if q_aNb r8.2 ps = true then (fX4_memberFault r8.2 ps).bind fun r13 =>
      some ((r13.1, r13.2)) else none
    else
      some ((r8.1, r8.2))) fun v16 =>
    (Option.bind (α := Int32 × QS) (if v16.1 = (-1 : Int32) then
        if q_aNb v16.2 ps = true then (fX4_lineFault v16.2 ps).bind fun r20 =>
        some ((r20.1, r20.2)) else none
      else
        some ((v16.1, v16.2))) fun v23 =>
      if v23.1 = (-1 : Int32) then
        if q_aNb v23.2 ps = true then (fX4_mainFault v23.2 ps).bind fun r27 =>
        some ((r27.1, r27.2)) else none
      else
        some ((v23.1, v23.2)))) else none else none
noncomputable def tX10_typeFault_24 (pp : Nat) (ps : Nat) (x : Int32 × QS) : Option ((Int32 × QS) ⊕ (Int32 × QS)) :=
  if (x.2.2.1 ps 2) ≤ x.1 then
    some (.inl ((((-1 : Int32), x.2))))
  else
    if q_aHb x.2 ps = true then (fX3_firstFault x.2 ps x.1).bind fun r3 =>
    (Option.bind (α := Int32 × QS) (if r3.1 = (-1 : Int32) then
        if q_aFb r3.2 ps = true then (fX9_firstFault r3.2 ps x.1).bind fun r8 =>
        some ((r8.1, r8.2)) else none
      else
        some ((r3.1, r3.2))) fun v11 =>
      if v11.1 = (-1 : Int32) then
        some (.inr ((x.1 + (1 : Int32)), v11.2))
      else
        if q_inb v11.1 1024 = true then some (.inl ((((v11.2.2.1 (ps + 14) v11.1.toNatClampNeg), v11.2)))) else none) else none
noncomputable def fX10_typeFault_24 (S : QS) (pp : Nat) (ps : Nat) (y1 : Int32) : Option (Int32 × QS) := q_run (tX10_typeFault_24 pp ps) (y1, S)
noncomputable def fX10_typeFault (S : QS) (pp : Nat) (ps : Nat) : Option (Int32 × QS) :=
  (fX3_begin S ps).bind fun r14 =>
  if q_okO r14 pp ps = true then (fX9_begin r14 ps).bind fun r19 =>
  if q_okO r19 pp ps = true then fX10_typeFault_24 r19 pp ps ((0 : Int32)) else none else none
noncomputable def fX10_takeSpare (S : QS) (pp : Nat) (ps : Nat) : Option (QS) :=
  (some (q_sR S 0 9 ps)).bind fun S1 =>
  (some (q_sR S1 0 10 pp)).bind fun S5 =>
  (some (q_sI S5 0 11 (1 : Int32))).bind fun S9 =>
  some (S9)
noncomputable def fX10_load (S : QS) (pp : Nat) (ps : Nat) : Option (Int32 × QS) :=
  (fX8_split S).bind fun r1 =>
  (Option.bind (α := Int32) (if r1.1 = true then
      some ((-1 : Int32))
    else
      some ((r1.2.2.1 2 5))) fun v4 =>
    (some (q_sI r1.2 0 12 v4)).bind fun S5 =>
    (Option.bind (α := Int32 × QS) (if (S5.2.1 0 12) = (-1 : Int32) then
        (fX7_firstFault S5).bind fun r8 =>
        (some (q_sI r8.2 0 12 r8.1)).bind fun S11 =>
        some (((2 : Int32), S11))
      else
        some (((1 : Int32), S5))) fun v14 =>
      if q_okO v14.2 pp ps = true then (Option.bind (α := Int32 × QS) (if (v14.2.2.1 0 12) = (-1 : Int32) then
          (fX10_nameFault v14.2 pp ps).bind fun r18 =>
          if q_okO r18.2 pp ps = true then (some (q_sI r18.2 0 12 r18.1)).bind fun S23 =>
          some (((3 : Int32), S23)) else none
        else
          some ((v14.1, v14.2))) fun v26 =>
        if q_okO v26.2 pp ps = true then (Option.bind (α := Int32 × QS) (if (v26.2.2.1 0 12) = (-1 : Int32) then
            (fX10_typeFault v26.2 pp ps).bind fun r30 =>
            if q_okO r30.2 pp ps = true then (some (q_sI r30.2 0 12 r30.1)).bind fun S35 =>
            some (((4 : Int32), S35)) else none
          else
            some ((v26.1, v26.2))) fun v38 =>
          if q_okO v38.2 pp ps = true then (fX8_useUp v38.2).bind fun r42 =>
          if (r42.2.1 0 12) = (-1 : Int32) then
            (fX10_takeSpare r42 pp ps).bind fun r45 =>
            some (((0 : Int32), r45))
          else
            some ((v38.1, r42)) else none) else none) else none))
noncomputable def fX10_faultAt (S : QS) : Option (Int32) :=
  some ((S.2.1 0 12))
noncomputable def fX10_size (S : QS) (pp : Nat) (ps : Nat) (x1 : Int32) : Option (Int32) :=
  if (S.2.1 0 11) = 0 then
    some ((-1 : Int32))
  else
    if x1 = (0 : Int32) then
        some ((S.2.1 (pp + 10) 0))
    else if x1 = (1 : Int32) then
        some ((S.2.1 (pp + 10) 8))
    else if x1 = (2 : Int32) then
        some ((S.2.1 pp 2))
    else if x1 = (3 : Int32) then
        some ((S.2.1 (pp + 1) 5))
    else if x1 = (4 : Int32) then
        some (((S.2.1 (pp + 1) 0) - (8 : Int32)))
    else if x1 = (5 : Int32) then
        some ((S.2.1 (pp + 10) 9))
    else some ((-1 : Int32))
noncomputable def fX10_height (S : QS) (pp : Nat) (ps : Nat) (x1 : Int32) : Option (Int32) :=
  if (S.2.1 0 11) = 0 then
    some ((-1 : Int32))
  else
    if x1 < 0 then
      some ((-1 : Int32))
    else
      if x1 < (S.2.1 (pp + 10) 0) then
        if q_inb x1 1024 = true then some ((S.2.1 (pp + 17) x1.toNatClampNeg)) else none
      else
        some ((-1 : Int32))
noncomputable def fX10_input (S : QS) (x1 : Int32) : Option (Bool × QS) :=
  (fX6_addInput S x1).bind fun r1 =>
  some ((r1.1, r1.2))
noncomputable def fX10_run (S : QS) (pp : Nat) (ps : Nat) (x1 : Int32) : Option (Int32 × QS) :=
  if (S.2.1 0 11) = 0 then
    some (((-1 : Int32), S))
  else
    if x1 < 0 then
      some (((-1 : Int32), S))
    else
      if x1 ≤ (20000 : Int32) then
        (fX6_outcomeOf S pp x1).bind fun r1 =>
        some ((r1.1, r1.2))
      else
        some (((-1 : Int32), S))
noncomputable def fX10_steps (S : QS) : Option (Int32) :=
  some ((S.2.1 89 15))
noncomputable def fX10_place (S : QS) : Option (Int32) :=
  some ((S.2.1 89 16))
noncomputable def fX10_thrown (S : QS) : Option (Int32) :=
  some ((S.2.1 89 17))
noncomputable def fX10_made (S : QS) (x1 : Int32) : Option (Int32) :=
  if x1 = (0 : Int32) then
      some ((S.2.1 90 5))
  else if x1 = (1 : Int32) then
      some ((S.2.1 90 6))
  else some ((-1 : Int32))
noncomputable def fX10_written (S : QS) : Option (Int32) :=
  some ((S.2.1 89 14))
noncomputable def fX10_out (S : QS) (x1 : Int32) : Option (Int32) :=
  if x1 < 0 then
    some ((0 : Int32))
  else
    if (S.2.1 89 14) ≤ x1 then
      some ((0 : Int32))
    else
      if x1 < (256 : Int32) then
        if q_inb x1 256 = true then some ((S.2.1 101 x1.toNatClampNeg)) else none
      else
        some ((0 : Int32))
noncomputable def fX10_strays (S : QS) : Option (Int32) :=
  some ((S.2.1 89 18))
