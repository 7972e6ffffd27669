noncomputable def tX12_word_2 (y1 : Int32) (x : Int32 × QS) : Option ((QS) ⊕ (Int32 × QS)) :=
  if x.1 < 0 then
    some (.inl ((x.2)))
  else
    if q_inb (x.2.2.1 102 4) 16000 = true then (some (q_sI x.2 159 (x.2.2.1 102 4).toNatClampNeg (vp_nar .byte (y1 >>> (((8 : Int32) * x.1) &&& 31)).toInt8.toInt32))).bind fun S2 =>
    (some (q_sI S2 102 4 ((S2.2.1 102 4) + (1 : Int32)))).bind fun S5 =>
    some (.inr ((x.1 - (1 : Int32)), S5)) else none
noncomputable def fX12_word_2 (S : QS) (y1 : Int32) (y2 : Int32) : Option (QS) := q_run (tX12_word_2 y1) (y2, S)
noncomputable def fX12_word (S : QS) (x1 : Int32) : Option (QS) :=
  fX12_word_2 S x1 ((3 : Int32))
noncomputable def fX12_feed (S : QS) (x1 : Int32) (x2 : Int32) (x3 : Int32) (x4 : Int32) (x5 : Int32) : Option (Int32 × QS) :=
  if (16000 : Int32) < ((S.2.1 102 4) + (20 : Int32)) then
    some (((-1 : Int32), S))
  else
    if ((S.2.1 102 5) + (20 : Int32)) ≤ (65536 : Int32) then
      (fX12_word S x1).bind fun r1 =>
      (fX12_word r1 x2).bind fun r4 =>
      (fX12_word r4 x3).bind fun r7 =>
      (fX12_word r7 x4).bind fun r10 =>
      (fX12_word r10 x5).bind fun r13 =>
      (some (q_sI r13 102 5 ((r13.2.1 102 5) + (20 : Int32)))).bind fun S16 =>
      some (((S16.2.1 102 4), S16))
    else
      some (((-1 : Int32), S))
noncomputable def tX12_end_16 (y1 : Int32) (x : Int32 × QS) : Option ((Bool × QS) ⊕ (Int32 × QS)) :=
  if y1 ≤ x.1 then
    (some (q_sI x.2 102 7 y1)).bind fun S1 =>
    (some (q_sI S1 102 4 (0 : Int32))).bind fun S4 =>
    some (.inl (((true, S4))))
  else
    if q_inb x.1 16000 = true then if q_inb x.1 16000 = true then (some (q_sI x.2 160 x.1.toNatClampNeg (vp_nar .byte (x.2.2.1 159 x.1.toNatClampNeg)))).bind fun S9 =>
    some (.inr ((x.1 + (1 : Int32)), S9)) else none else none
noncomputable def fX12_end_16 (S : QS) (y1 : Int32) (y2 : Int32) : Option (Bool × QS) := q_run (tX12_end_16 y1) (y2, S)
noncomputable def fX12_end (S : QS) (x1 : Int32) : Option (Bool × QS) :=
  if x1 < 0 then
    some ((false, S))
  else
    if x1 ≤ (S.2.1 102 4) then
      fX12_end_16 S x1 ((0 : Int32))
    else
      some ((false, S))
noncomputable def uX12_cut_64 (S : QS) (y1 : Int32) (y2 : Int32) (y3 : Int32) (y4 : Int32) : Option ((Bool × QS) ⊕ (Int32 × Int32 × Int32 × QS)) :=
  (Option.bind (α := Int32) (if y4 = (10 : Int32) then
      some ((0 : Int32))
    else
      if y4 = (59 : Int32) then
        some ((1 : Int32))
      else
        some (y2)) fun v1 =>
    (Option.bind (α := Bool) (if v1 = 0 then
        if y4 = (9 : Int32) then
          some (true)
        else
          if y4 = (10 : Int32) then
            some (true)
          else
            if y4 = (13 : Int32) then
              some (true)
            else
              if y4 = (32 : Int32) then
                some (true)
              else
                some (false)
      else
        some (true)) fun v2 =>
      (Option.bind (α := Bool) (if v2 = true then
          some (false)
        else
          if y4 = (40 : Int32) then
            some (true)
          else
            if y4 = (41 : Int32) then
              some (true)
            else
              if y4 = (123 : Int32) then
                some (true)
              else
                if y4 = (125 : Int32) then
                  some (true)
                else
                  if y4 = (58 : Int32) then
                    some (true)
                  else
                    some (false)) fun v3 =>
        (Option.bind (α := Int32) (if v2 = true then
            some ((0 : Int32))
          else
            if v3 = true then
              some ((0 : Int32))
            else
              some (y1)) fun v4 =>
          if v2 = true then
            some (.inr (v4, v1, (y3 + (1 : Int32)), S))
          else
            (Option.bind (α := QS) (if v4 = 0 then
                if q_inb (S.2.1 102 10) 16002 = true then (some (q_sI S 161 (S.2.1 102 10).toNatClampNeg y3)).bind fun S6 =>
                (some (q_sI S6 102 10 ((S6.2.1 102 10) + (1 : Int32)))).bind fun S9 =>
                some (S9) else none
              else
                some (S)) fun v12 =>
              if q_inb ((v12.2.1 102 10) - (1 : Int32)) 16002 = true then (some (q_sI v12 162 ((v12.2.1 102 10) - (1 : Int32)).toNatClampNeg (y3 + (1 : Int32)))).bind fun S15 =>
              if v3 = true then
                some (.inr ((0 : Int32), v1, (y3 + (1 : Int32)), S15))
              else
                some (.inr ((1 : Int32), v1, (y3 + (1 : Int32)), S15)) else none)))))
noncomputable def tX12_cut_11 (x : Int32 × Int32 × Int32 × QS) : Option ((Bool × QS) ⊕ (Int32 × Int32 × Int32 × QS)) :=
  if (x.2.2.2.2.1 102 7) ≤ x.2.2.1 then
    some (.inl (((true, x.2.2.2))))
  else
    if q_inb x.2.2.1 16000 = true then if (x.2.2.2.2.1 160 x.2.2.1.toNatClampNeg) = (9 : Int32) then
      uX12_cut_64 x.2.2.2 x.1 x.2.1 x.2.2.1 ((x.2.2.2.2.1 160 x.2.2.1.toNatClampNeg))
    else
      if (x.2.2.2.2.1 160 x.2.2.1.toNatClampNeg) = (10 : Int32) then
        uX12_cut_64 x.2.2.2 x.1 x.2.1 x.2.2.1 ((x.2.2.2.2.1 160 x.2.2.1.toNatClampNeg))
      else
        if (x.2.2.2.2.1 160 x.2.2.1.toNatClampNeg) = (13 : Int32) then
          uX12_cut_64 x.2.2.2 x.1 x.2.1 x.2.2.1 ((x.2.2.2.2.1 160 x.2.2.1.toNatClampNeg))
        else
          if (x.2.2.2.2.1 160 x.2.2.1.toNatClampNeg) < (32 : Int32) then
            some (.inl (((false, x.2.2.2))))
          else
            if (x.2.2.2.2.1 160 x.2.2.1.toNatClampNeg) ≤ (126 : Int32) then
              uX12_cut_64 x.2.2.2 x.1 x.2.1 x.2.2.1 ((x.2.2.2.2.1 160 x.2.2.1.toNatClampNeg))
            else
              some (.inl (((false, x.2.2.2)))) else none
noncomputable def fX12_cut_11 (S : QS) (y1 : Int32) (y2 : Int32) (y3 : Int32) : Option (Bool × QS) := q_run (tX12_cut_11) (y1, y2, y3, S)
noncomputable def fX12_cut (S : QS) : Option (Bool × QS) :=
  (some (q_sI S 102 10 (0 : Int32))).bind fun S19 =>
  fX12_cut_11 S19 ((0 : Int32)) ((0 : Int32)) ((0 : Int32))
noncomputable def tX12_is_32 (S : QS) (y1 : Int32) (y2 : Nat) (x : Int32) : Option ((Bool) ⊕ (Int32)) :=
  (fJ0_length y2).bind fun r1 =>
  if r1 ≤ x then
    some (.inl ((true)))
  else
    if q_inb y1 16002 = true then if q_inb ((S.2.1 161 y1.toNatClampNeg) + x) 16000 = true then (fJ0_charAt y2 x).bind fun r6 =>
    if (S.2.1 160 ((S.2.1 161 y1.toNatClampNeg) + x).toNatClampNeg) = r6 then
      some (.inr (x + (1 : Int32)))
    else
      some (.inl ((false))) else none else none
noncomputable def fX12_is_32 (S : QS) (y1 : Int32) (y2 : Nat) (y3 : Int32) : Option (Bool) := q_run (tX12_is_32 S y1 y2) y3
noncomputable def fX12_is (S : QS) (x1 : Int32) (x2 : Nat) : Option (Bool) :=
  if (S.2.1 102 10) ≤ x1 then
    some (false)
  else
    if q_inb x1 16002 = true then if q_inb x1 16002 = true then (fJ0_length x2).bind fun r11 =>
    if ((S.2.1 162 x1.toNatClampNeg) - (S.2.1 161 x1.toNatClampNeg)) = r11 then
      fX12_is_32 S x1 x2 ((0 : Int32))
    else
      some (false) else none else none
noncomputable def tX12_isSame_15 (S : QS) (y1 : Int32) (y2 : Int32) (y3 : Int32) (x : Int32) : Option ((Bool) ⊕ (Int32)) :=
  if (y2 - y1) ≤ x then
    some (.inl ((true)))
  else
    if q_inb (y1 + x) 16000 = true then if q_inb (y3 + x) 16000 = true then if (S.2.1 160 (y1 + x).toNatClampNeg) = (S.2.1 160 (y3 + x).toNatClampNeg) then
      some (.inr (x + (1 : Int32)))
    else
      some (.inl ((false))) else none else none
noncomputable def fX12_isSame_15 (S : QS) (y1 : Int32) (y2 : Int32) (y3 : Int32) (y5 : Int32) : Option (Bool) := q_run (tX12_isSame_15 S y1 y2 y3) y5
noncomputable def fX12_isSame (S : QS) (x1 : Int32) (x2 : Int32) (x3 : Int32) (x4 : Int32) : Option (Bool) :=
  if (x2 - x1) = (x4 - x3) then
    fX12_isSame_15 S x1 x2 x3 ((0 : Int32))
  else
    some (false)
noncomputable def fX12_isSameToken (S : QS) (x1 : Int32) (x2 : Int32) : Option (Bool) :=
  if q_inb x1 16002 = true then if q_inb x1 16002 = true then if q_inb x2 16002 = true then if q_inb x2 16002 = true then (fX12_isSame S ((S.2.1 161 x1.toNatClampNeg)) ((S.2.1 162 x1.toNatClampNeg)) ((S.2.1 161 x2.toNatClampNeg)) ((S.2.1 162 x2.toNatClampNeg))).bind fun r5 =>
  some (r5) else none else none else none else none
noncomputable def tX12_among_57 (S : QS) (y1 : Int32) (y2 : Int32) (y3 : Nat) (y6 : Int32) (x : Int32 × Int32 × Int32 × Int32) : Option (((Int32) ⊕ (Int32 × Int32)) ⊕ (Int32 × Int32 × Int32 × Int32)) :=
  if x.2.2.1 = 0 then
    if x.2.2.1 = 0 then
      some (.inl (.inr ((x.1 + (1 : Int32)), (y6 + (1 : Int32)))))
    else
      some (.inl (.inl ((x.1))))
  else
    if (y2 - y1) ≤ x.2.2.2 then
      if x.2.2.1 = 0 then
        some (.inl (.inr ((x.1 + (1 : Int32)), (y6 + (1 : Int32)))))
      else
        some (.inl (.inl ((x.1))))
    else
      if q_inb (y1 + x.2.2.2) 16000 = true then (fJ0_charAt y3 ((x.2.1 + x.2.2.2))).bind fun r2 =>
      if (S.2.1 160 (y1 + x.2.2.2).toNatClampNeg) = r2 then
        some (.inr (x.1, x.2.1, (1 : Int32), (x.2.2.2 + (1 : Int32))))
      else
        some (.inr (x.1, x.2.1, (0 : Int32), (x.2.2.2 + (1 : Int32)))) else none
noncomputable def uX12_among_57 (S : QS) (y1 : Int32) (y2 : Int32) (y3 : Nat) (y4 : Int32) (y5 : Int32) (y6 : Int32) (y7 : Int32) (y8 : Int32) : Option ((Int32) ⊕ (Int32 × Int32)) := q_run (tX12_among_57 S y1 y2 y3 y6) (y4, y5, y7, y8)
noncomputable def tX12_among_19 (S : QS) (y1 : Int32) (y2 : Int32) (y3 : Nat) (y4 : Int32) (y5 : Int32) (x : Int32) : Option (((Int32) ⊕ (Int32 × Int32)) ⊕ (Int32)) :=
  (fJ0_charAt y3 x).bind fun r5 =>
  if r5 = (32 : Int32) then
    if (x - y5) = (y2 - y1) then
      (uX12_among_57 S y1 y2 y3 y4 y5 x ((1 : Int32)) ((0 : Int32))).bind fun r10 => some (.inl (r10))
    else
      (uX12_among_57 S y1 y2 y3 y4 y5 x ((0 : Int32)) ((0 : Int32))).bind fun r8 => some (.inl (r8))
  else
    some (.inr (x + (1 : Int32)))
noncomputable def uX12_among_19 (S : QS) (y1 : Int32) (y2 : Int32) (y3 : Nat) (y4 : Int32) (y5 : Int32) (y6 : Int32) : Option ((Int32) ⊕ (Int32 × Int32)) := q_run (tX12_among_19 S y1 y2 y3 y4 y5) y6
noncomputable def tX12_among_6 (S : QS) (y1 : Int32) (y2 : Int32) (y3 : Nat) (x : Int32 × Int32) : Option ((Int32) ⊕ (Int32 × Int32)) :=
  (fJ0_length y3).bind fun r12 =>
  if r12 ≤ x.2 then
    some (.inl (((-1 : Int32))))
  else
    uX12_among_19 S y1 y2 y3 x.1 x.2 x.2
noncomputable def fX12_among_6 (S : QS) (y1 : Int32) (y2 : Int32) (y3 : Nat) (y4 : Int32) (y5 : Int32) : Option (Int32) := q_run (tX12_among_6 S y1 y2 y3) (y4, y5)
noncomputable def fX12_among (S : QS) (x1 : Int32) (x2 : Int32) (x3 : Nat) : Option (Int32) :=
  fX12_among_6 S x1 x2 x3 ((0 : Int32)) ((1 : Int32))
noncomputable def uX12_isName_82 (S : QS) (y2 : Int32) (y5 : Int32) (y6 : Int32) : Option ((Bool) ⊕ (Int32)) :=
  if y6 < (48 : Int32) then
    if y6 = (95 : Int32) then
      some (.inr (y5 + (1 : Int32)))
    else
      some (.inl ((false)))
  else
    if y6 ≤ (57 : Int32) then
      some (.inr (y5 + (1 : Int32)))
    else
      if y6 = (95 : Int32) then
        some (.inr (y5 + (1 : Int32)))
      else
        some (.inl ((false)))
noncomputable def uX12_isName_68 (S : QS) (y2 : Int32) (y5 : Int32) (y6 : Int32) : Option ((Bool) ⊕ (Int32)) :=
  if y6 < (65 : Int32) then
    uX12_isName_82 S y2 y5 y6
  else
    if y6 ≤ (90 : Int32) then
      some (.inr (y5 + (1 : Int32)))
    else
      uX12_isName_82 S y2 y5 y6
noncomputable def tX12_isName_39 (S : QS) (y2 : Int32) (x : Int32) : Option ((Bool) ⊕ (Int32)) :=
  if y2 ≤ x then
    some (.inl ((true)))
  else
    if q_inb x 16000 = true then if (S.2.1 160 x.toNatClampNeg) < (97 : Int32) then
      uX12_isName_68 S y2 x ((S.2.1 160 x.toNatClampNeg))
    else
      if (S.2.1 160 x.toNatClampNeg) ≤ (122 : Int32) then
        some (.inr (x + (1 : Int32)))
      else
        uX12_isName_68 S y2 x ((S.2.1 160 x.toNatClampNeg)) else none
noncomputable def fX12_isName_39 (S : QS) (y2 : Int32) (y5 : Int32) : Option (Bool) := q_run (tX12_isName_39 S y2) y5
noncomputable def fX12_isName (S : QS) (x1 : Int32) (x2 : Int32) (x3 : Int32) (x4 : Int32) : Option (Bool) :=
  if x2 ≤ x1 then
    some (false)
  else
    if (24 : Int32) < (x2 - x1) then
      some (false)
    else
      if q_inb x1 16000 = true then if (S.2.1 160 x1.toNatClampNeg) < x3 then
        some (false)
      else
        if q_inb x1 16000 = true then if (S.2.1 160 x1.toNatClampNeg) ≤ x4 then
          fX12_isName_39 S x2 x1
        else
          some (false) else none else none
noncomputable def fX12_isSmallName (S : QS) (x1 : Int32) : Option (Bool) :=
  if (S.2.1 102 10) ≤ x1 then
    some (false)
  else
    if q_inb x1 16002 = true then if q_inb x1 16002 = true then (fX12_isName S ((S.2.1 161 x1.toNatClampNeg)) ((S.2.1 162 x1.toNatClampNeg)) ((97 : Int32)) ((122 : Int32))).bind fun r3 =>
    if r3 = true then
      some (true)
    else
      some (false) else none else none
noncomputable def fX12_isClassName (S : QS) (x1 : Int32) : Option (Bool) :=
  if (S.2.1 102 10) ≤ x1 then
    some (false)
  else
    if q_inb x1 16002 = true then if q_inb x1 16002 = true then (fX12_isName S ((S.2.1 161 x1.toNatClampNeg)) ((S.2.1 162 x1.toNatClampNeg)) ((65 : Int32)) ((90 : Int32))).bind fun r3 =>
    if r3 = true then
      some (true)
    else
      some (false) else none else none
noncomputable def fX12_isArray (S : QS) (x1 : Int32) : Option (Bool) :=
  if q_inb x1 16002 = true then if q_inb x1 16002 = true then if ((S.2.1 162 x1.toNatClampNeg) - (S.2.1 161 x1.toNatClampNeg)) ≤ (2 : Int32) then
    some (false)
  else
    if q_inb x1 16002 = true then if q_inb ((S.2.1 162 x1.toNatClampNeg) - (2 : Int32)) 16000 = true then if (S.2.1 160 ((S.2.1 162 x1.toNatClampNeg) - (2 : Int32)).toNatClampNeg) = (91 : Int32) then
      if q_inb x1 16002 = true then if q_inb ((S.2.1 162 x1.toNatClampNeg) - (1 : Int32)) 16000 = true then if (S.2.1 160 ((S.2.1 162 x1.toNatClampNeg) - (1 : Int32)).toNatClampNeg) = (93 : Int32) then
        some (true)
      else
        some (false) else none else none
    else
      some (false) else none else none else none else none
noncomputable def fX12_isType (S : QS) (x1 : Int32) : Option (Bool) :=
  if x1 < (S.2.1 102 10) then
    (fX12_isArray S x1).bind fun r1 =>
    (Option.bind (α := Int32) (if r1 = true then
        if q_inb x1 16002 = true then some (((S.2.1 162 x1.toNatClampNeg) - (2 : Int32))) else none
      else
        if q_inb x1 16002 = true then some ((S.2.1 162 x1.toNatClampNeg)) else none) fun v5 =>
      if q_inb x1 16002 = true then (Option.bind (α := Bool) (if (v5 - (S.2.1 161 x1.toNatClampNeg)) = (3 : Int32) then
          if q_inb (v5 - (3 : Int32)) 16000 = true then if (S.2.1 160 (v5 - (3 : Int32)).toNatClampNeg) = (105 : Int32) then
            if q_inb (v5 - (2 : Int32)) 16000 = true then if (S.2.1 160 (v5 - (2 : Int32)).toNatClampNeg) = (110 : Int32) then
              if q_inb (v5 - (1 : Int32)) 16000 = true then if (S.2.1 160 (v5 - (1 : Int32)).toNatClampNeg) = (116 : Int32) then
                some (true)
              else
                some (false) else none
            else
              some (false) else none
          else
            some (false) else none
        else
          some (false)) fun v10 =>
        if v10 = true then
          some (true)
        else
          if q_inb x1 16002 = true then (fX12_isName S ((S.2.1 161 x1.toNatClampNeg)) v5 ((65 : Int32)) ((90 : Int32))).bind fun r12 =>
          if r12 = true then
            some (true)
          else
            some (false) else none) else none)
  else
    some (false)
noncomputable def tX12_point_7 (S : QS) (y1 : Int32) (x : Int32) : Option ((Int32) ⊕ (Int32)) :=
  if q_inb y1 16002 = true then if (S.2.1 162 y1.toNatClampNeg) ≤ x then
    some (.inl ((x)))
  else
    if q_inb x 16000 = true then if (S.2.1 160 x.toNatClampNeg) = (46 : Int32) then
      some (.inl ((x)))
    else
      some (.inr (x + (1 : Int32))) else none else none
noncomputable def fX12_point_7 (S : QS) (y1 : Int32) (y2 : Int32) : Option (Int32) := q_run (tX12_point_7 S y1) y2
noncomputable def fX12_point (S : QS) (x1 : Int32) : Option (Int32) :=
  if q_inb x1 16002 = true then fX12_point_7 S x1 ((S.2.1 161 x1.toNatClampNeg)) else none
noncomputable def fX12_isReference (S : QS) (x1 : Int32) : Option (Bool) :=
  if x1 < (S.2.1 102 10) then
    (fX12_point S x1).bind fun r1 =>
    if q_inb x1 16002 = true then (fX12_isName S ((S.2.1 161 x1.toNatClampNeg)) r1 ((65 : Int32)) ((90 : Int32))).bind fun r4 =>
    if r4 = true then
      if q_inb x1 16002 = true then (fX12_isName S ((r1 + (1 : Int32))) ((S.2.1 162 x1.toNatClampNeg)) ((97 : Int32)) ((122 : Int32))).bind fun r7 =>
      if r7 = true then
        some (true)
      else
        some (false) else none
    else
      some (false) else none
  else
    some (false)
noncomputable def tX12_number_47 (S : QS) (y1 : Int32) (y2 : Int32) (x : Int64 × Int32) : Option ((Int64) ⊕ (Int64 × Int32)) :=
  if q_inb y1 16002 = true then if (S.2.1 162 y1.toNatClampNeg) ≤ x.2 then
    if y2 = 0 then
      some (.inl ((x.1)))
    else
      some (.inl (((-x.1))))
  else
    if q_inb x.2 16000 = true then some (.inr (((((10 : Int64) * x.1) + (S.2.1 160 x.2.toNatClampNeg).toInt64) - (48 : Int64)), (x.2 + (1 : Int32)))) else none else none
noncomputable def fX12_number_47 (S : QS) (y1 : Int32) (y2 : Int32) (y3 : Int64) (y5 : Int32) : Option (Int64) := q_run (tX12_number_47 S y1 y2) (y3, y5)
noncomputable def fX12_number (S : QS) (x1 : Int32) : Option (Int64) :=
  if q_inb x1 16002 = true then if q_inb (S.2.1 161 x1.toNatClampNeg) 16000 = true then (Option.bind (α := Bool) (if (S.2.1 160 (S.2.1 161 x1.toNatClampNeg).toNatClampNeg) = (45 : Int32) then
      some (true)
    else
      some (false)) fun v5 =>
    if v5 = true then
      if q_inb x1 16002 = true then fX12_number_47 S x1 ((q_b v5)) ((0 : Int64)) (((S.2.1 161 x1.toNatClampNeg) + (1 : Int32))) else none
    else
      if q_inb x1 16002 = true then fX12_number_47 S x1 ((q_b v5)) ((0 : Int64)) ((S.2.1 161 x1.toNatClampNeg)) else none) else none else none
noncomputable def tX12_isNumber_73 (S : QS) (y1 : Int32) (x : Int32) : Option ((Bool) ⊕ (Int32)) :=
  if q_inb y1 16002 = true then if (S.2.1 162 y1.toNatClampNeg) ≤ x then
    (fX12_number S y1).bind fun r2 =>
    if (lg_cmp r2 (-2147483648 : Int64)) < 0 then
      some (.inl ((false)))
    else
      if 0 < (lg_cmp r2 (2147483647 : Int64)) then
        some (.inl ((false)))
      else
        some (.inl ((true)))
  else
    if q_inb x 16000 = true then if (S.2.1 160 x.toNatClampNeg) < (48 : Int32) then
      some (.inl ((false)))
    else
      if q_inb x 16000 = true then if (S.2.1 160 x.toNatClampNeg) ≤ (57 : Int32) then
        some (.inr (x + (1 : Int32)))
      else
        some (.inl ((false))) else none else none else none
noncomputable def fX12_isNumber_73 (S : QS) (y1 : Int32) (y3 : Int32) : Option (Bool) := q_run (tX12_isNumber_73 S y1) y3
noncomputable def fX12_isNumber (S : QS) (x1 : Int32) : Option (Bool) :=
  if x1 < (S.2.1 102 10) then
    if q_inb x1 16002 = true then if q_inb (S.2.1 161 x1.toNatClampNeg) 16000 = true then (Option.bind (α := Int32) (if (S.2.1 160 (S.2.1 161 x1.toNatClampNeg).toNatClampNeg) = (45 : Int32) then
        if q_inb x1 16002 = true then some (((S.2.1 161 x1.toNatClampNeg) + (1 : Int32))) else none
      else
        if q_inb x1 16002 = true then some ((S.2.1 161 x1.toNatClampNeg)) else none) fun v10 =>
      if q_inb x1 16002 = true then if ((S.2.1 162 x1.toNatClampNeg) - v10) < (1 : Int32) then
        some (false)
      else
        if q_inb x1 16002 = true then if ((S.2.1 162 x1.toNatClampNeg) - v10) ≤ (10 : Int32) then
          fX12_isNumber_73 S x1 v10
        else
          some (false) else none else none) else none else none
  else
    some (false)
noncomputable def fX12_takes (S : QS) (x1 : Bool) : Option (Bool × QS) :=
  if x1 = true then
    (some (q_sI S 102 11 ((S.2.1 102 11) + (1 : Int32)))).bind fun S1 =>
    some ((x1, S1))
  else
    some ((x1, S))
noncomputable def fX12_isLabel (S : QS) (x1 : Int32) : Option (Bool) :=
  (fX12_is S ((x1 + (1 : Int32))) 1000078).bind fun r1 =>
  some (r1)
noncomputable def fX12_opOf (S : QS) (x1 : Int32) : Option (Int32) :=
  if q_inb x1 16002 = true then if q_inb x1 16002 = true then (fX12_among S ((S.2.1 161 x1.toNatClampNeg)) ((S.2.1 162 x1.toNatClampNeg)) 1000082).bind fun r3 =>
  some (r3) else none else none
noncomputable def fX12_isLine (S : QS) : Option (Bool × QS) :=
  if (S.2.1 102 11) < (S.2.1 102 10) then
    (fX12_isLabel S ((S.2.1 102 11))).bind fun r1 =>
    if r1 = true then
      (fX12_isSmallName S ((S.2.1 102 11))).bind fun r116 =>
      (fX12_takes S r116).bind fun r118 =>
      if r118.1 = true then
        (fX12_takes r118.2 true).bind fun r121 =>
        if r121.1 = true then
          some ((true, r121.2))
        else
          some ((false, r121.2))
      else
        some ((false, r118.2))
    else
      (fX12_is S ((S.2.1 102 11)) 1000080).bind fun r3 =>
      if r3 = true then
        (some (q_sI S 102 11 ((S.2.1 102 11) + (1 : Int32)))).bind fun S93 =>
        (fX12_isSmallName S93 ((S93.2.1 102 11))).bind fun r96 =>
        (fX12_takes S93 r96).bind fun r98 =>
        if r98.1 = true then
          (fX12_isSmallName r98.2 ((r98.2.2.1 102 11))).bind fun r101 =>
          (fX12_takes r98.2 r101).bind fun r103 =>
          if r103.1 = true then
            (fX12_isSmallName r103.2 ((r103.2.2.1 102 11))).bind fun r106 =>
            (fX12_takes r103.2 r106).bind fun r108 =>
            if r108.1 = true then
              (fX12_isClassName r108.2 ((r108.2.2.1 102 11))).bind fun r111 =>
              (fX12_takes r108.2 r111).bind fun r113 =>
              if r113.1 = true then
                some ((true, r113.2))
              else
                some ((false, r113.2))
            else
              some ((false, r108.2))
          else
            some ((false, r103.2))
        else
          some ((false, r98.2))
      else
        (fX12_opOf S ((S.2.1 102 11))).bind fun r5 =>
        if 0 ≤ r5 then
          (some (q_sI S 102 11 ((S.2.1 102 11) + (1 : Int32)))).bind fun S7 =>
          (fJ0_charAt 1000084 r5).bind fun r10 =>
          if r10 = (67 : Int32) then
              (fX12_isClassName S7 ((S7.2.1 102 11))).bind fun r14 =>
              (fX12_takes S7 r14).bind fun r16 =>
              some ((r16.1, r16.2))
          else if r10 = (69 : Int32) then
              (fX12_is S7 ((S7.2.1 102 11)) 1000086).bind fun r20 =>
              if r20 = true then
                (fX12_takes S7 true).bind fun r22 =>
                some ((r22.1, r22.2))
              else
                (fX12_isClassName S7 ((S7.2.1 102 11))).bind fun r25 =>
                if r25 = true then
                  (fX12_takes S7 true).bind fun r30 =>
                  some ((r30.1, r30.2))
                else
                  (fX12_takes S7 false).bind fun r27 =>
                  some ((r27.1, r27.2))
          else if r10 = (70 : Int32) then
              (fX12_isReference S7 ((S7.2.1 102 11))).bind fun r34 =>
              (fX12_takes S7 r34).bind fun r36 =>
              some ((r36.1, r36.2))
          else if r10 = (73 : Int32) then
              (fX12_isNumber S7 ((S7.2.1 102 11))).bind fun r40 =>
              (fX12_takes S7 r40).bind fun r42 =>
              if r42.1 = true then
                (fX12_isNumber r42.2 ((r42.2.2.1 102 11))).bind fun r45 =>
                (fX12_takes r42.2 r45).bind fun r47 =>
                if r47.1 = true then
                  some ((true, r47.2))
                else
                  some ((false, r47.2))
              else
                some ((false, r42.2))
          else if r10 = (75 : Int32) ∨ r10 = (78 : Int32) then
              (fX12_isNumber S7 ((S7.2.1 102 11))).bind fun r51 =>
              (fX12_takes S7 r51).bind fun r53 =>
              some ((r53.1, r53.2))
          else if r10 = (76 : Int32) then
              (fX12_isSmallName S7 ((S7.2.1 102 11))).bind fun r57 =>
              (fX12_takes S7 r57).bind fun r59 =>
              some ((r59.1, r59.2))
          else if r10 = (84 : Int32) then
              (fX12_isType S7 ((S7.2.1 102 11))).bind fun r63 =>
              if r63 = true then
                (fX12_is S7 ((S7.2.1 102 11)) 1000086).bind fun r68 =>
                if r68 = true then
                  (fX12_takes S7 false).bind fun r70 =>
                  some ((r70.1, r70.2))
                else
                  (fX12_takes S7 true).bind fun r73 =>
                  some ((r73.1, r73.2))
              else
                (fX12_takes S7 false).bind fun r65 =>
                some ((r65.1, r65.2))
          else some ((true, S7))
        else
          (fX12_isSmallName S ((S.2.1 102 11))).bind fun r88 =>
          (fX12_takes S r88).bind fun r90 =>
          if r90.1 = true then
            some ((false, r90.2))
          else
            some ((false, r90.2))
  else
    some ((false, S))
noncomputable def tX12_isMember_241 (x : QS) : Option ((Bool × QS) ⊕ (QS)) :=
  (fX12_is x ((x.2.1 102 11)) 1000064).bind fun r1 =>
  if r1 = true then
    (some (q_sI x 102 11 ((x.2.1 102 11) + (1 : Int32)))).bind fun S3 =>
    some (.inl (((true, S3))))
  else
    (fX12_isLine x).bind fun r6 =>
    if r6.1 = true then
      some (.inr r6.2)
    else
      some (.inl (((false, r6.2))))
noncomputable def fX12_isMember_241 (S : QS) : Option (Bool × QS) := q_run (tX12_isMember_241) S
noncomputable def tX12_isMember_131 (x : QS) : Option ((Bool × QS) ⊕ (QS)) :=
  (fX12_is x ((x.2.1 102 11)) 1000074).bind fun r9 =>
  if r9 = true then
    (some (q_sI x 102 11 ((x.2.1 102 11) + (1 : Int32)))).bind fun S11 =>
    (fX12_is S11 ((S11.2.1 102 11)) 1000076).bind fun r14 =>
    (Option.bind (α := Bool) (if r14 = true then
        some (true)
      else
        (fX12_isType S11 ((S11.2.1 102 11))).bind fun r16 =>
        if r16 = true then
          some (true)
        else
          some (false)) fun v18 =>
      (fX12_takes S11 v18).bind fun r19 =>
      if r19.1 = true then
        (fX12_isNumber r19.2 ((r19.2.2.1 102 11))).bind fun r22 =>
        (fX12_takes r19.2 r22).bind fun r24 =>
        if r24.1 = true then
          (fX12_is r24.2 ((r24.2.2.1 102 11)) 1000062).bind fun r27 =>
          (fX12_takes r24.2 r27).bind fun r29 =>
          if r29.1 = true then
            (fX12_isMember_241 r29.2).bind fun r32 => some (.inl (r32))
          else
            some (.inl (((false, r29.2))))
        else
          some (.inl (((false, r24.2))))
      else
        some (.inl (((false, r19.2)))))
  else
    (fX12_isType x ((x.2.1 102 11))).bind fun r34 =>
    (fX12_takes x r34).bind fun r36 =>
    if r36.1 = true then
      some (.inr r36.2)
    else
      some (.inl (((false, r36.2))))
noncomputable def fX12_isMember_131 (S : QS) : Option (Bool × QS) := q_run (tX12_isMember_131) S
noncomputable def fX12_isMember (S : QS) : Option (Bool × QS) :=
  (fX12_is S ((S.2.1 102 11)) 1000066).bind fun r39 =>
  if r39 = true then
    (some (q_sI S 102 11 ((S.2.1 102 11) + (1 : Int32)))).bind fun S59 =>
    (fX12_isSmallName S59 ((S59.2.1 102 11))).bind fun r62 =>
    (fX12_takes S59 r62).bind fun r64 =>
    if r64.1 = true then
      (fX12_isType r64.2 ((r64.2.2.1 102 11))).bind fun r67 =>
      (fX12_takes r64.2 r67).bind fun r69 =>
      if r69.1 = true then
        some ((true, r69.2))
      else
        some ((false, r69.2))
    else
      some ((false, r64.2))
  else
    (fX12_is S ((S.2.1 102 11)) 1000068).bind fun r41 =>
    (Option.bind (α := Bool) (if r41 = true then
        some (true)
      else
        (fX12_is S ((S.2.1 102 11)) 1000070).bind fun r43 =>
        if r43 = true then
          some (true)
        else
          some (false)) fun v45 =>
      (fX12_takes S v45).bind fun r46 =>
      if r46.1 = true then
        (fX12_isSmallName r46.2 ((r46.2.2.1 102 11))).bind fun r49 =>
        (fX12_takes r46.2 r49).bind fun r51 =>
        if r51.1 = true then
          (fX12_is r51.2 ((r51.2.2.1 102 11)) 1000072).bind fun r54 =>
          (fX12_takes r51.2 r54).bind fun r56 =>
          if r56.1 = true then
            fX12_isMember_131 r56.2
          else
            some ((false, r56.2))
        else
          some ((false, r51.2))
      else
        some ((false, r46.2)))
noncomputable def tX12_isProgram_99 (x : QS) : Option (((Bool × QS) ⊕ (QS)) ⊕ (QS)) :=
  (fX12_is x ((x.2.1 102 11)) 1000064).bind fun r1 =>
  if r1 = true then
    (some (q_sI x 102 11 ((x.2.1 102 11) + (1 : Int32)))).bind fun S3 =>
    some (.inl (.inr S3))
  else
    (fX12_isMember x).bind fun r6 =>
    if r6.1 = true then
      some (.inr r6.2)
    else
      some (.inl (.inl (((false, r6.2)))))
noncomputable def uX12_isProgram_99 (S : QS) : Option ((Bool × QS) ⊕ (QS)) := q_run (tX12_isProgram_99) S
noncomputable def tX12_isProgram_5 (x : QS) : Option ((Bool × QS) ⊕ (QS)) :=
  if (x.2.1 102 10) ≤ (x.2.1 102 11) then
    some (.inl (((true, x))))
  else
    (fX12_is x ((x.2.1 102 11)) 1000058).bind fun r9 =>
    (fX12_takes x r9).bind fun r11 =>
    if r11.1 = true then
      (fX12_isClassName r11.2 ((r11.2.2.1 102 11))).bind fun r14 =>
      (fX12_takes r11.2 r14).bind fun r16 =>
      if r16.1 = true then
        (fX12_is r16.2 ((r16.2.2.1 102 11)) 1000060).bind fun r19 =>
        (fX12_takes r16.2 r19).bind fun r21 =>
        if r21.1 = true then
          (fX12_isClassName r21.2 ((r21.2.2.1 102 11))).bind fun r24 =>
          (fX12_takes r21.2 r24).bind fun r26 =>
          if r26.1 = true then
            (fX12_is r26.2 ((r26.2.2.1 102 11)) 1000062).bind fun r29 =>
            (fX12_takes r26.2 r29).bind fun r31 =>
            if r31.1 = true then
              uX12_isProgram_99 r31.2
            else
              some (.inl (((false, r31.2))))
          else
            some (.inl (((false, r26.2))))
        else
          some (.inl (((false, r21.2))))
      else
        some (.inl (((false, r16.2))))
    else
      some (.inl (((false, r11.2))))
noncomputable def fX12_isProgram_5 (S : QS) : Option (Bool × QS) := q_run (tX12_isProgram_5) S
noncomputable def fX12_isProgram (S : QS) : Option (Bool × QS) :=
  (some (q_sI S 102 11 (0 : Int32))).bind fun S34 =>
  fX12_isProgram_5 S34
noncomputable def fX12_classCount (S : QS) (q : Nat) : Option (Int32) :=
  some (((8 : Int32) + (S.2.1 q 0)))
noncomputable def tX12_classOf_22 (S : QS) (q : Nat) (y2 : Int32) (y3 : Int32) (x : Int32) : Option ((Int32) ⊕ (Int32)) :=
  (fX12_classCount S q).bind fun r1 =>
  if r1 ≤ x then
    some (.inl (((-1 : Int32))))
  else
    if q_inb x 32 = true then if q_inb (S.2.1 163 x.toNatClampNeg) 16002 = true then if q_inb x 32 = true then if q_inb (S.2.1 163 x.toNatClampNeg) 16002 = true then (fX12_isSame S y2 y3 ((S.2.1 161 (S.2.1 163 x.toNatClampNeg).toNatClampNeg)) ((S.2.1 162 (S.2.1 163 x.toNatClampNeg).toNatClampNeg))).bind fun r7 =>
    if r7 = true then
      some (.inl ((x)))
    else
      some (.inr (x + (1 : Int32))) else none else none else none else none
noncomputable def fX12_classOf_22 (S : QS) (q : Nat) (y2 : Int32) (y3 : Int32) (y5 : Int32) : Option (Int32) := q_run (tX12_classOf_22 S q y2 y3) y5
noncomputable def fX12_classOf (S : QS) (q : Nat) (x2 : Int32) (x3 : Int32) : Option (Int32) :=
  (fX12_among S x2 x3 1000088).bind fun r9 =>
  if r9 < 0 then
    fX12_classOf_22 S q x2 x3 ((8 : Int32))
  else
    some (r9)
noncomputable def fX12_classOfToken (S : QS) (q : Nat) (x2 : Int32) : Option (Int32) :=
  if q_inb x2 16002 = true then if q_inb x2 16002 = true then (fX12_classOf S q ((S.2.1 161 x2.toNatClampNeg)) ((S.2.1 162 x2.toNatClampNeg))).bind fun r3 =>
  some (r3) else none else none
noncomputable def tX12_isAtOrBelow_2 (S : QS) (q : Nat) (y2 : Int32) (x : Int32) : Option ((Bool) ⊕ (Int32)) :=
  if x < 0 then
    if x < 0 then
      some (.inl ((false)))
    else
      some (.inl ((true)))
  else
    if x = y2 then
      if x < 0 then
        some (.inl ((false)))
      else
        some (.inl ((true)))
    else
      if q_inb x 32 = true then some (.inr (S.2.1 (q + 1) x.toNatClampNeg)) else none
noncomputable def fX12_isAtOrBelow_2 (S : QS) (q : Nat) (y2 : Int32) (y3 : Int32) : Option (Bool) := q_run (tX12_isAtOrBelow_2 S q y2) y3
noncomputable def fX12_isAtOrBelow (S : QS) (q : Nat) (x1 : Int32) (x2 : Int32) : Option (Bool) :=
  fX12_isAtOrBelow_2 S q x2 x1
noncomputable def fX12_typeOf (S : QS) (q : Nat) (x2 : Int32) : Option (Int32) :=
  (fX12_isArray S x2).bind fun r1 =>
  (Option.bind (α := Int32) (if r1 = true then
      if q_inb x2 16002 = true then some (((S.2.1 162 x2.toNatClampNeg) - (2 : Int32))) else none
    else
      if q_inb x2 16002 = true then some ((S.2.1 162 x2.toNatClampNeg)) else none) fun v5 =>
    if q_inb x2 16002 = true then if q_inb (S.2.1 161 x2.toNatClampNeg) 16000 = true then if (S.2.1 160 (S.2.1 161 x2.toNatClampNeg).toNatClampNeg) = (105 : Int32) then
      if r1 = true then
        some ((40 : Int32))
      else
        some ((0 : Int32))
    else
      if q_inb x2 16002 = true then (fX12_classOf S q ((S.2.1 161 x2.toNatClampNeg)) v5).bind fun r9 =>
      if 0 ≤ r9 then
        if r1 = true then
          some (((48 : Int32) + r9))
        else
          some (((8 : Int32) + r9))
      else
        some ((-1 : Int32)) else none else none else none)
noncomputable def tX12_behind_20 (S : QS) (x : Int32 × Int32) : Option ((Int32) ⊕ (Int32 × Int32)) :=
  (fX12_is S x.1 1000062).bind fun r1 =>
  (Option.bind (α := Int32) (if r1 = true then
      some ((x.2 + (1 : Int32)))
    else
      some (x.2)) fun v3 =>
    (fX12_is S x.1 1000064).bind fun r4 =>
    (Option.bind (α := Int32) (if r4 = true then
        some ((v3 - (1 : Int32)))
      else
        some (v3)) fun v6 =>
      if 0 < v6 then
        some (.inr ((x.1 + (1 : Int32)), v6))
      else
        some (.inl (((x.1 + (1 : Int32)))))))
noncomputable def fX12_behind_20 (S : QS) (y2 : Int32) (y3 : Int32) : Option (Int32) := q_run (tX12_behind_20 S) (y2, y3)
noncomputable def tX12_behind_2 (S : QS) (x : Int32) : Option ((Int32) ⊕ (Int32)) :=
  (fX12_is S x 1000062).bind fun r7 =>
  if r7 = true then
    (fX12_behind_20 S x ((0 : Int32))).bind fun r9 => some (.inl (r9))
  else
    some (.inr (x + (1 : Int32)))
noncomputable def fX12_behind_2 (S : QS) (y2 : Int32) : Option (Int32) := q_run (tX12_behind_2 S) y2
noncomputable def fX12_behind (S : QS) (x1 : Int32) : Option (Int32) :=
  fX12_behind_2 S x1
noncomputable def fX12_behindMember (S : QS) (x1 : Int32) : Option (Int32) :=
  (fX12_is S x1 1000066).bind fun r1 =>
  if r1 = true then
    some ((x1 + (3 : Int32)))
  else
    (fX12_behind S x1).bind fun r3 =>
    some (r3)
noncomputable def fX12_wrong (S : QS) (x1 : Int32) : Option (Bool × QS) :=
  (some (q_sI S 102 12 x1)).bind fun S1 =>
  some ((false, S1))
noncomputable def tX12_classNames_45 (q : Nat) (x : Int32 × QS) : Option ((Bool × QS) ⊕ (Int32 × QS)) :=
  if (x.2.2.1 102 10) ≤ x.1 then
    some (.inl (((true, x.2))))
  else
    (fX12_classOfToken x.2 q ((x.1 + (1 : Int32)))).bind fun r1 =>
    if 0 ≤ r1 then
      (fX12_wrong x.2 ((x.1 + (1 : Int32)))).bind fun r3 =>
      some (.inl (((r3.1, r3.2))))
    else
      if (x.2.2.1 q 0) = (24 : Int32) then
        (fX12_wrong x.2 ((x.1 + (1 : Int32)))).bind fun r24 =>
        some (.inl (((r24.1, r24.2))))
      else
        (fX12_classOfToken x.2 q ((x.1 + (3 : Int32)))).bind fun r6 =>
        if 0 ≤ r6 then
          if q_inb ((8 : Int32) + (x.2.2.1 q 0)) 32 = true then (some (q_sI x.2 163 ((8 : Int32) + (x.2.2.1 q 0)).toNatClampNeg (x.1 + (1 : Int32)))).bind fun S9 =>
          if q_inb ((8 : Int32) + (S9.2.1 q 0)) 32 = true then (some (q_sI S9 (q + 1) ((8 : Int32) + (S9.2.1 q 0)).toNatClampNeg r6)).bind fun S13 =>
          (some (q_sI S13 q 0 ((S13.2.1 q 0) + (1 : Int32)))).bind fun S16 =>
          (fX12_behind S16 x.1).bind fun r19 =>
          some (.inr (r19, S16)) else none else none
        else
          (fX12_wrong x.2 ((x.1 + (3 : Int32)))).bind fun r21 =>
          some (.inl (((r21.1, r21.2))))
noncomputable def fX12_classNames_45 (S : QS) (q : Nat) (y2 : Int32) : Option (Bool × QS) := q_run (tX12_classNames_45 q) (y2, S)
noncomputable def tX12_classNames_7 (q : Nat) (x : Int32 × QS) : Option ((Bool × QS) ⊕ (Int32 × QS)) :=
  if (8 : Int32) ≤ x.1 then
    (fX12_classNames_45 x.2 q ((0 : Int32))).bind fun r27 => some (.inl (r27))
  else
    if x.1 = 0 then
      if q_inb x.1 32 = true then (some (q_sI x.2 (q + 1) x.1.toNatClampNeg (-1 : Int32))).bind fun S38 =>
      some (.inr ((x.1 + (1 : Int32)), S38)) else none
    else
      if x.1 = (1 : Int32) then
        if q_inb x.1 32 = true then (some (q_sI x.2 (q + 1) x.1.toNatClampNeg (0 : Int32))).bind fun S34 =>
        some (.inr ((x.1 + (1 : Int32)), S34)) else none
      else
        if q_inb x.1 32 = true then (some (q_sI x.2 (q + 1) x.1.toNatClampNeg (1 : Int32))).bind fun S30 =>
        some (.inr ((x.1 + (1 : Int32)), S30)) else none
noncomputable def fX12_classNames_7 (S : QS) (q : Nat) (y2 : Int32) : Option (Bool × QS) := q_run (tX12_classNames_7 q) (y2, S)
noncomputable def fX12_classNames (S : QS) (q : Nat) : Option (Bool × QS) :=
  (some (q_sI S q 0 (0 : Int32))).bind fun S41 =>
  fX12_classNames_7 S41 q ((0 : Int32))
noncomputable def tX12_fieldOf_3 (S : QS) (q : Nat) (y2 : Int32) (y3 : Int32) (y4 : Int32) (x : Int32) : Option ((Int32) ⊕ (Int32)) :=
  if (S.2.1 q 1) ≤ x then
    some (.inl (((-1 : Int32))))
  else
    if q_inb x 48 = true then (fX12_isAtOrBelow S q y2 ((S.2.1 (q + 3) x.toNatClampNeg))).bind fun r2 =>
    if r2 = true then
      if q_inb x 48 = true then if q_inb (S.2.1 164 x.toNatClampNeg) 16002 = true then if q_inb x 48 = true then if q_inb (S.2.1 164 x.toNatClampNeg) 16002 = true then (fX12_isSame S y3 y4 ((S.2.1 161 (S.2.1 164 x.toNatClampNeg).toNatClampNeg)) ((S.2.1 162 (S.2.1 164 x.toNatClampNeg).toNatClampNeg))).bind fun r8 =>
      if r8 = true then
        some (.inl ((x)))
      else
        some (.inr (x + (1 : Int32))) else none else none else none else none
    else
      some (.inr (x + (1 : Int32))) else none
noncomputable def fX12_fieldOf_3 (S : QS) (q : Nat) (y2 : Int32) (y3 : Int32) (y4 : Int32) (y5 : Int32) : Option (Int32) := q_run (tX12_fieldOf_3 S q y2 y3 y4) y5
noncomputable def fX12_fieldOf (S : QS) (q : Nat) (x2 : Int32) (x3 : Int32) (x4 : Int32) : Option (Int32) :=
  fX12_fieldOf_3 S q x2 x3 x4 ((0 : Int32))
noncomputable def tX12_bodyOf_11 (S : QS) (q : Nat) (y3 : Int32) (y4 : Int32) (x : Int32 × Int32) : Option (((Int32) ⊕ (Int32)) ⊕ (Int32 × Int32)) :=
  if (S.2.1 q 2) ≤ x.2 then
    if q_inb x.1 32 = true then some (.inl (.inr (S.2.1 (q + 1) x.1.toNatClampNeg))) else none
  else
    if q_inb x.2 48 = true then if (S.2.1 (q + 6) x.2.toNatClampNeg) = x.1 then
      if q_inb x.2 48 = true then if q_inb (S.2.1 165 x.2.toNatClampNeg) 16002 = true then if q_inb x.2 48 = true then if q_inb (S.2.1 165 x.2.toNatClampNeg) 16002 = true then (fX12_isSame S y3 y4 ((S.2.1 161 (S.2.1 165 x.2.toNatClampNeg).toNatClampNeg)) ((S.2.1 162 (S.2.1 165 x.2.toNatClampNeg).toNatClampNeg))).bind fun r7 =>
      if r7 = true then
        some (.inl (.inl ((x.2))))
      else
        some (.inr (x.1, (x.2 + (1 : Int32)))) else none else none else none else none
    else
      some (.inr (x.1, (x.2 + (1 : Int32)))) else none
noncomputable def uX12_bodyOf_11 (S : QS) (q : Nat) (y3 : Int32) (y4 : Int32) (y5 : Int32) (y6 : Int32) : Option ((Int32) ⊕ (Int32)) := q_run (tX12_bodyOf_11 S q y3 y4) (y5, y6)
noncomputable def tX12_bodyOf_3 (S : QS) (q : Nat) (y3 : Int32) (y4 : Int32) (x : Int32) : Option ((Int32) ⊕ (Int32)) :=
  if x < 0 then
    some (.inl (((-1 : Int32))))
  else
    uX12_bodyOf_11 S q y3 y4 x ((0 : Int32))
noncomputable def fX12_bodyOf_3 (S : QS) (q : Nat) (y3 : Int32) (y4 : Int32) (y5 : Int32) : Option (Int32) := q_run (tX12_bodyOf_3 S q y3 y4) y5
noncomputable def fX12_bodyOf (S : QS) (q : Nat) (x2 : Int32) (x3 : Int32) (x4 : Int32) : Option (Int32) :=
  fX12_bodyOf_3 S q x3 x4 x2
noncomputable def fX12_field (S : QS) (q : Nat) (x2 : Int32) (x3 : Int32) : Option (Bool × QS) :=
  if (S.2.1 q 1) = (48 : Int32) then
    (fX12_wrong S ((x3 + (1 : Int32)))).bind fun r1 =>
    some ((r1.1, r1.2))
  else
    if q_inb (x3 + (1 : Int32)) 16002 = true then if q_inb (x3 + (1 : Int32)) 16002 = true then (fX12_fieldOf S q x2 ((S.2.1 161 (x3 + (1 : Int32)).toNatClampNeg)) ((S.2.1 162 (x3 + (1 : Int32)).toNatClampNeg))).bind fun r6 =>
    if r6 < 0 then
      (fX12_typeOf S q ((x3 + (2 : Int32)))).bind fun r8 =>
      if 0 ≤ r8 then
        if q_inb (S.2.1 q 1) 48 = true then (some (q_sI S 164 (S.2.1 q 1).toNatClampNeg (x3 + (1 : Int32)))).bind fun S11 =>
        if q_inb (S11.2.1 q 1) 48 = true then (some (q_sI S11 (q + 3) (S11.2.1 q 1).toNatClampNeg x2)).bind fun S15 =>
        if q_inb (S15.2.1 q 1) 48 = true then (some (q_sI S15 (q + 4) (S15.2.1 q 1).toNatClampNeg r8)).bind fun S19 =>
        (some (q_sI S19 q 1 ((S19.2.1 q 1) + (1 : Int32)))).bind fun S22 =>
        some ((true, S22)) else none else none else none
      else
        (fX12_wrong S ((x3 + (2 : Int32)))).bind fun r25 =>
        some ((r25.1, r25.2))
    else
      (fX12_wrong S ((x3 + (1 : Int32)))).bind fun r28 =>
      some ((r28.1, r28.2)) else none else none
noncomputable def fX12_isSameRow_47 (S : QS) (y1 : Int32) (y2 : Int32) (y3 : Int32) : Option (Bool) :=
  (fX12_is S ((y1 + y3)) 1000074).bind fun r1 =>
  if r1 = true then
    (fX12_is S ((y2 + y3)) 1000074).bind fun r3 =>
    if r3 = true then
      (fX12_isSameToken S (((y1 + y3) + (1 : Int32))) (((y2 + y3) + (1 : Int32)))).bind fun r5 =>
      if r5 = true then
        some (true)
      else
        some (false)
    else
      some (false)
  else
    some (false)
noncomputable def tX12_isSameRow_2 (S : QS) (y1 : Int32) (y2 : Int32) (x : Int32) : Option ((Bool) ⊕ (Int32)) :=
  (fX12_is S ((y1 + x)) 1000074).bind fun r7 =>
  if r7 = true then
    (fX12_isSameRow_47 S y1 y2 x).bind fun r9 => some (.inl (r9))
  else
    (fX12_is S ((y2 + x)) 1000074).bind fun r11 =>
    if r11 = true then
      (fX12_isSameRow_47 S y1 y2 x).bind fun r13 => some (.inl (r13))
    else
      (fX12_isSameToken S ((y1 + x)) ((y2 + x))).bind fun r15 =>
      if r15 = true then
        some (.inr (x + (1 : Int32)))
      else
        some (.inl ((false)))
noncomputable def fX12_isSameRow_2 (S : QS) (y1 : Int32) (y2 : Int32) (y3 : Int32) : Option (Bool) := q_run (tX12_isSameRow_2 S y1 y2) y3
noncomputable def fX12_isSameRow (S : QS) (x1 : Int32) (x2 : Int32) : Option (Bool) :=
  fX12_isSameRow_2 S x1 x2 ((0 : Int32))
noncomputable def fX12_body_282 (S : QS) (q : Nat) (y2 : Int32) (y3 : Int32) (y4 : Int32) (y7 : Int32) (y8 : Int32) (y9 : Int32) : Option (Bool × QS) :=
  if q_inb y7 48 = true then (some (q_sI S 166 y7.toNatClampNeg y9)).bind fun S2 =>
  (fX12_number S2 ((y9 + (1 : Int32)))).bind fun r5 =>
  if (lg_cmp r5 y8.toInt64) < 0 then
    (fX12_wrong S2 ((y9 + (1 : Int32)))).bind fun r7 =>
    some ((r7.1, r7.2))
  else
    if (lg_cmp r5 (12 : Int64)) ≤ 0 then
      if q_inb y7 48 = true then (some (q_sI S2 165 y7.toNatClampNeg (y3 + (1 : Int32)))).bind fun S11 =>
      if q_inb y7 48 = true then (some (q_sI S11 (q + 6) y7.toNatClampNeg y2)).bind fun S15 =>
      if q_inb y7 48 = true then (some (q_sI S15 (q + 7) y7.toNatClampNeg (vp_nar .boolean y4))).bind fun S19 =>
      if q_inb y7 48 = true then (some (q_sI S19 (q + 8) y7.toNatClampNeg y8)).bind fun S23 =>
      if q_inb y7 48 = true then (some (q_sI S23 (q + 11) y7.toNatClampNeg r5.toInt32)).bind fun S27 =>
      (some (q_sI S27 q 2 ((S27.2.1 q 2) + (1 : Int32)))).bind fun S30 =>
      some ((true, S30)) else none else none else none else none else none
    else
      (fX12_wrong S2 ((y9 + (1 : Int32)))).bind fun r33 =>
      some ((r33.1, r33.2)) else none
noncomputable def tX12_body_159 (q : Nat) (y2 : Int32) (y3 : Int32) (y4 : Int32) (y7 : Int32) (x : Int32 × Int32 × QS) : Option ((Bool × QS) ⊕ (Int32 × Int32 × QS)) :=
  (fX12_is x.2.2 x.2.1 1000074).bind fun r36 =>
  if r36 = true then
    (fX12_is x.2.2 ((x.2.1 + (1 : Int32))) 1000076).bind fun r38 =>
    (Option.bind (α := Int32) (if r38 = true then
        some ((-1 : Int32))
      else
        (fX12_typeOf x.2.2 q ((x.2.1 + (1 : Int32)))).bind fun r40 =>
        some (r40)) fun v42 =>
      if q_inb y7 48 = true then (some (q_sI x.2.2 (q + 10) y7.toNatClampNeg v42)).bind fun S44 =>
      (fX12_is S44 ((x.2.1 + (1 : Int32))) 1000076).bind fun r47 =>
      if r47 = true then
        (fX12_body_282 S44 q y2 y3 y4 y7 x.1 ((x.2.1 + (1 : Int32)))).bind fun r49 => some (.inl (r49))
      else
        if q_inb y7 48 = true then if 0 ≤ (S44.2.1 (q + 10) y7.toNatClampNeg) then
          (fX12_body_282 S44 q y2 y3 y4 y7 x.1 ((x.2.1 + (1 : Int32)))).bind fun r52 => some (.inl (r52))
        else
          (fX12_wrong S44 ((x.2.1 + (1 : Int32)))).bind fun r54 =>
          some (.inl (((r54.1, r54.2)))) else none else none)
  else
    (fX12_typeOf x.2.2 q x.2.1).bind fun r57 =>
    if 0 ≤ r57 then
      if (12 : Int32) ≤ x.1 then
        some (.inr ((x.1 + (1 : Int32)), (x.2.1 + (1 : Int32)), x.2.2))
      else
        if q_inb ((y7 * (12 : Int32)) + x.1) 576 = true then (some (q_sI x.2.2 (q + 9) ((y7 * (12 : Int32)) + x.1).toNatClampNeg r57)).bind fun S60 =>
        some (.inr ((x.1 + (1 : Int32)), (x.2.1 + (1 : Int32)), S60)) else none
    else
      (fX12_wrong x.2.2 x.2.1).bind fun r63 =>
      some (.inl (((r63.1, r63.2))))
noncomputable def fX12_body_159 (S : QS) (q : Nat) (y2 : Int32) (y3 : Int32) (y4 : Int32) (y7 : Int32) (y8 : Int32) (y9 : Int32) : Option (Bool × QS) := q_run (tX12_body_159 q y2 y3 y4 y7) (y8, y9, S)
noncomputable def fX12_body_100 (S : QS) (q : Nat) (y2 : Int32) (y3 : Int32) (y4 : Int32) : Option (Bool × QS) :=
  if (S.2.1 q 2) = (48 : Int32) then
    (fX12_wrong S ((y3 + (1 : Int32)))).bind fun r73 =>
    some ((r73.1, r73.2))
  else
    (Option.bind (α := Bool) (if y4 = 0 then
        some (false)
      else
        some (true)) fun v66 =>
      (Option.bind (α := QS) (if y4 = 0 then
          some (S)
        else
          if q_inb ((S.2.1 q 2) * (12 : Int32)) 576 = true then (some (q_sI S (q + 9) ((S.2.1 q 2) * (12 : Int32)).toNatClampNeg ((8 : Int32) + y2))).bind fun S68 =>
          some (S68) else none) fun v71 =>
        fX12_body_159 v71 q y2 y3 y4 ((S.2.1 q 2)) ((q_b v66)) ((y3 + (3 : Int32)))))
noncomputable def fX12_body (S : QS) (q : Nat) (x2 : Int32) (x3 : Int32) : Option (Bool × QS) :=
  (fX12_is S x3 1000070).bind fun r76 =>
  if q_inb (x3 + (1 : Int32)) 16002 = true then if q_inb (x3 + (1 : Int32)) 16002 = true then (fX12_bodyOf S q x2 ((S.2.1 161 (x3 + (1 : Int32)).toNatClampNeg)) ((S.2.1 162 (x3 + (1 : Int32)).toNatClampNeg))).bind fun r80 =>
  (Option.bind (α := Bool) (if r80 < 0 then
      some (false)
    else
      if q_inb r80 48 = true then if (S.2.1 (q + 6) r80.toNatClampNeg) = x2 then
        some (false)
      else
        if r76 = true then
          if q_inb r80 48 = true then if (S.2.1 (q + 7) r80.toNatClampNeg) = 0 then
            some (false)
          else
            if q_inb r80 48 = true then (fX12_isSameRow S ((x3 + (2 : Int32))) (((S.2.1 165 r80.toNatClampNeg) + (1 : Int32)))).bind fun r85 =>
            if r85 = true then
              some (true)
            else
              some (false) else none else none
        else
          some (false) else none) fun v87 =>
    if r80 < 0 then
      fX12_body_100 S q x2 x3 ((q_b r76))
    else
      if v87 = true then
        fX12_body_100 S q x2 x3 ((q_b r76))
      else
        (fX12_wrong S ((x3 + (1 : Int32)))).bind fun r88 =>
        some ((r88.1, r88.2))) else none else none
noncomputable def tX12_members_33 (q : Nat) (x : Int32 × Int32 × QS) : Option (((Bool × QS) ⊕ (Int32 × QS)) ⊕ (Int32 × Int32 × QS)) :=
  (fX12_is x.2.2 x.1 1000064).bind fun r1 =>
  if r1 = true then
    some (.inl (.inr ((x.2.1 + (1 : Int32)), x.2.2)))
  else
    (fX12_is x.2.2 x.1 1000066).bind fun r3 =>
    if r3 = true then
      (fX12_field x.2.2 q x.2.1 x.1).bind fun r10 =>
      if r10.1 = true then
        (fX12_behindMember r10.2 x.1).bind fun r13 =>
        some (.inr (r13, x.2.1, r10.2))
      else
        some (.inl (.inl (((false, r10.2)))))
    else
      (fX12_body x.2.2 q x.2.1 x.1).bind fun r5 =>
      if r5.1 = true then
        (fX12_behindMember r5.2 x.1).bind fun r8 =>
        some (.inr (r8, x.2.1, r5.2))
      else
        some (.inl (.inl (((false, r5.2)))))
noncomputable def uX12_members_33 (S : QS) (q : Nat) (y2 : Int32) (y3 : Int32) : Option ((Bool × QS) ⊕ (Int32 × QS)) := q_run (tX12_members_33 q) (y2, y3, S)
noncomputable def tX12_members_15 (q : Nat) (x : Int32 × QS) : Option ((Bool × QS) ⊕ (Int32 × QS)) :=
  (fX12_classCount x.2 q).bind fun r15 =>
  if r15 ≤ x.1 then
    some (.inl (((true, x.2))))
  else
    if q_inb x.1 32 = true then uX12_members_33 x.2 q (((x.2.2.1 163 x.1.toNatClampNeg) + (4 : Int32))) x.1 else none
noncomputable def fX12_members_15 (S : QS) (q : Nat) (y3 : Int32) : Option (Bool × QS) := q_run (tX12_members_15 q) (y3, S)
noncomputable def fX12_members (S : QS) (q : Nat) : Option (Bool × QS) :=
  (some (q_sI S q 1 (0 : Int32))).bind fun S18 =>
  (some (q_sI S18 q 2 (0 : Int32))).bind fun S21 =>
  fX12_members_15 S21 q ((8 : Int32))
noncomputable def fX12_lineLength (S : QS) (x1 : Int32) : Option (Int32) :=
  (fX12_isLabel S x1).bind fun r1 =>
  if r1 = true then
    some ((2 : Int32))
  else
    (fX12_is S x1 1000080).bind fun r3 =>
    if r3 = true then
      some ((5 : Int32))
    else
      (fX12_opOf S x1).bind fun r5 =>
      (fJ0_charAt 1000084 r5).bind fun r7 =>
      if r7 = (45 : Int32) then
        some ((1 : Int32))
      else
        if r7 = (73 : Int32) then
          some ((3 : Int32))
        else
          some ((2 : Int32))
noncomputable def tX12_label_2 (S : QS) (y1 : Int32) (x : Int32) : Option ((Int32) ⊕ (Int32)) :=
  if (S.2.1 102 19) ≤ x then
    some (.inl (((-1 : Int32))))
  else
    if q_inb x 16000 = true then (fX12_isSameToken S y1 ((S.2.1 167 x.toNatClampNeg))).bind fun r2 =>
    if r2 = true then
      some (.inl ((x)))
    else
      some (.inr (x + (1 : Int32))) else none
noncomputable def fX12_label_2 (S : QS) (y1 : Int32) (y2 : Int32) : Option (Int32) := q_run (tX12_label_2 S y1) y2
noncomputable def fX12_label (S : QS) (x1 : Int32) : Option (Int32) :=
  fX12_label_2 S x1 ((0 : Int32))
noncomputable def fX12_labelAt (S : QS) (x1 : Int32) : Option (Int32) :=
  (fX12_label S x1).bind fun r1 =>
  if 0 ≤ r1 then
    if q_inb r1 16000 = true then some ((S.2.1 168 r1.toNatClampNeg)) else none
  else
    some ((-1 : Int32))
noncomputable def fX12_catchLine (S : QS) (q : Nat) (x2 : Int32) (x3 : Int32) (x4 : Int32) : Option (Bool × QS) :=
  if (S.2.1 q 5) = (64 : Int32) then
    (fX12_wrong S x3).bind fun r52 =>
    some ((r52.1, r52.2))
  else
    (fX12_labelAt S ((x3 + (1 : Int32)))).bind fun r1 =>
    if 0 ≤ r1 then
      (fX12_labelAt S ((x3 + (2 : Int32)))).bind fun r3 =>
      if r1 < r3 then
        (fX12_labelAt S ((x3 + (3 : Int32)))).bind fun r5 =>
        if r5 < 0 then
          (fX12_wrong S ((x3 + (3 : Int32)))).bind fun r7 =>
          some ((r7.1, r7.2))
        else
          if r5 < x4 then
            (fX12_classOfToken S q ((x3 + (4 : Int32)))).bind fun r10 =>
            if r10 < 0 then
              (fX12_wrong S ((x3 + (4 : Int32)))).bind fun r12 =>
              some ((r12.1, r12.2))
            else
              (fX12_isAtOrBelow S q r10 ((1 : Int32))).bind fun r15 =>
              if r15 = true then
                if q_inb (S.2.1 q 5) 64 = true then (some (q_sI S (q + 21) (S.2.1 q 5).toNatClampNeg x2)).bind fun S18 =>
                if q_inb (S18.2.1 q 5) 64 = true then (some (q_sI S18 (q + 22) (S18.2.1 q 5).toNatClampNeg r1)).bind fun S22 =>
                if q_inb (S22.2.1 q 5) 64 = true then (some (q_sI S22 (q + 23) (S22.2.1 q 5).toNatClampNeg r3)).bind fun S26 =>
                if q_inb (S26.2.1 q 5) 64 = true then (some (q_sI S26 (q + 24) (S26.2.1 q 5).toNatClampNeg r5)).bind fun S30 =>
                if q_inb (S30.2.1 q 5) 64 = true then (some (q_sI S30 (q + 25) (S30.2.1 q 5).toNatClampNeg r10)).bind fun S34 =>
                (some (q_sI S34 q 5 ((S34.2.1 q 5) + (1 : Int32)))).bind fun S37 =>
                some ((true, S37)) else none else none else none else none else none
              else
                (fX12_wrong S ((x3 + (4 : Int32)))).bind fun r40 =>
                some ((r40.1, r40.2))
          else
            (fX12_wrong S ((x3 + (3 : Int32)))).bind fun r43 =>
            some ((r43.1, r43.2))
      else
        (fX12_wrong S ((x3 + (2 : Int32)))).bind fun r46 =>
        some ((r46.1, r46.2))
    else
      (fX12_wrong S ((x3 + (1 : Int32)))).bind fun r49 =>
      some ((r49.1, r49.2))
noncomputable def fX12_localStep (S : QS) (q : Nat) (x2 : Int32) (x3 : Int32) (x4 : Int32) : Option (Bool × QS) :=
  (fX12_number S x4).bind fun r1 =>
  if (lg_cmp r1 (0 : Int64)) < 0 then
    (fX12_wrong S x4).bind fun r3 =>
    some ((r3.1, r3.2))
  else
    if q_inb x2 48 = true then if (lg_cmp r1 (S.2.1 (q + 11) x2.toNatClampNeg).toInt64) < 0 then
      if q_inb x3 1024 = true then (some (q_sI S (q + 16) x3.toNatClampNeg r1.toInt32)).bind fun S8 =>
      some ((true, S8)) else none
    else
      (fX12_wrong S x4).bind fun r11 =>
      some ((r11.1, r11.2)) else none
noncomputable def fX12_makes_47 (S : QS) (q : Nat) (y2 : Int32) (y3 : Int32) (y5 : Int32) : Option (Bool × QS) :=
  (Option.bind (α := Int32) (if y3 = (30 : Int32) then
      some (((8 : Int32) + y5))
    else
      if 0 ≤ y5 then
        some (((48 : Int32) + y5))
      else
        some ((40 : Int32))) fun v1 =>
    if q_inb (S.2.1 q 4) 54 = true then (some (q_sI S (q + 20) (S.2.1 q 4).toNatClampNeg v1)).bind fun S3 =>
    if q_inb y2 1024 = true then (some (q_sI S3 (q + 16) y2.toNatClampNeg (S3.2.1 q 4))).bind fun S7 =>
    (some (q_sI S7 q 4 ((S7.2.1 q 4) + (1 : Int32)))).bind fun S10 =>
    some ((true, S10)) else none else none)
noncomputable def fX12_makes (S : QS) (q : Nat) (x2 : Int32) (x3 : Int32) (x4 : Int32) : Option (Bool × QS) :=
  (fX12_is S x4 1000086).bind fun r13 =>
  (Option.bind (α := Int32) (if r13 = true then
      some ((-1 : Int32))
    else
      (fX12_classOfToken S q x4).bind fun r15 =>
      some (r15)) fun v17 =>
    if 0 ≤ v17 then
      fX12_makes_47 S q x2 x3 v17
    else
      (fX12_is S x4 1000086).bind fun r18 =>
      if r18 = true then
        fX12_makes_47 S q x2 x3 v17
      else
        (fX12_wrong S x4).bind fun r20 =>
        some ((r20.1, r20.2)))
noncomputable def fX12_reference_133 (S : QS) (q : Nat) (y2 : Int32) (y6 : Int32) (y7 : Int32) : Option (Bool × QS) :=
  if q_inb y2 1024 = true then (some (q_sI S (q + 16) y2.toNatClampNeg y7)).bind fun S2 =>
  if q_inb y2 1024 = true then (some (q_sI S2 (q + 17) y2.toNatClampNeg y6)).bind fun S6 =>
  some ((true, S6)) else none else none
noncomputable def fX12_reference_110 (S : QS) (q : Nat) (y2 : Int32) (y3 : Int32) (y4 : Int32) (y6 : Int32) (y7 : Int32) : Option (Bool × QS) :=
  if y3 = (40 : Int32) then
    if q_inb y7 48 = true then if (S.2.1 (q + 7) y7.toNatClampNeg) = 0 then
      (fX12_wrong S y4).bind fun r10 =>
      some ((r10.1, r10.2))
    else
      fX12_reference_133 S q y2 y6 y7 else none
  else
    fX12_reference_133 S q y2 y6 y7
noncomputable def fX12_reference (S : QS) (q : Nat) (x2 : Int32) (x3 : Int32) (x4 : Int32) : Option (Bool × QS) :=
  (fX12_point S x4).bind fun r13 =>
  if q_inb x4 16002 = true then (fX12_classOf S q ((S.2.1 161 x4.toNatClampNeg)) r13).bind fun r16 =>
  if 0 ≤ r16 then
    (Option.bind (α := Int32) (if x3 = (35 : Int32) then
        if q_inb x4 16002 = true then (fX12_fieldOf S q r16 ((r13 + (1 : Int32))) ((S.2.1 162 x4.toNatClampNeg))).bind fun r19 =>
        some (r19) else none
      else
        if x3 = (36 : Int32) then
          if q_inb x4 16002 = true then (fX12_fieldOf S q r16 ((r13 + (1 : Int32))) ((S.2.1 162 x4.toNatClampNeg))).bind fun r25 =>
          some (r25) else none
        else
          if q_inb x4 16002 = true then (fX12_bodyOf S q r16 ((r13 + (1 : Int32))) ((S.2.1 162 x4.toNatClampNeg))).bind fun r22 =>
          some (r22) else none) fun v27 =>
      if v27 < 0 then
        (fX12_wrong S x4).bind fun r28 =>
        some ((r28.1, r28.2))
      else
        if x3 = (39 : Int32) then
          if q_inb v27 48 = true then if (S.2.1 (q + 7) v27.toNatClampNeg) = 0 then
            fX12_reference_110 S q x2 x3 x4 r16 v27
          else
            (fX12_wrong S x4).bind fun r32 =>
            some ((r32.1, r32.2)) else none
        else
          fX12_reference_110 S q x2 x3 x4 r16 v27)
  else
    (fX12_wrong S x4).bind fun r35 =>
    some ((r35.1, r35.2)) else none
noncomputable def fX12_code_46 (S : QS) (q : Nat) (y2 : Int32) (y3 : Int32) (y4 : Int32) (y5 : Int32) : Option (Bool × QS) :=
  if q_inb (S.2.1 q 3) 1024 = true then (some (q_sI S 169 (S.2.1 q 3).toNatClampNeg y3)).bind fun S2 =>
  if q_inb (S.2.1 q 3) 1024 = true then (some (q_sI S2 (q + 15) (S.2.1 q 3).toNatClampNeg y5)).bind fun S6 =>
  if q_inb (S.2.1 q 3) 1024 = true then (some (q_sI S6 (q + 18) (S.2.1 q 3).toNatClampNeg y2)).bind fun S10 =>
  if q_inb (S.2.1 q 3) 1024 = true then (some (q_sI S10 (q + 16) (S.2.1 q 3).toNatClampNeg (0 : Int32))).bind fun S14 =>
  if q_inb (S.2.1 q 3) 1024 = true then (some (q_sI S14 (q + 17) (S.2.1 q 3).toNatClampNeg (0 : Int32))).bind fun S18 =>
  (some (q_sI S18 q 3 ((S18.2.1 q 3) + (1 : Int32)))).bind fun S21 =>
  (fJ0_charAt 1000084 y5).bind fun r24 =>
  if r24 = (67 : Int32) ∨ r24 = (69 : Int32) then
      (fX12_makes S21 q ((S.2.1 q 3)) y5 ((y3 + (1 : Int32)))).bind fun r28 =>
      some ((r28.1, r28.2))
  else if r24 = (70 : Int32) then
      (fX12_reference S21 q ((S.2.1 q 3)) y5 ((y3 + (1 : Int32)))).bind fun r32 =>
      some ((r32.1, r32.2))
  else if r24 = (73 : Int32) then
      (fX12_localStep S21 q y2 ((S.2.1 q 3)) ((y3 + (1 : Int32)))).bind fun r36 =>
      if r36.1 = true then
        (fX12_number r36.2 ((y3 + (2 : Int32)))).bind fun r39 =>
        if q_inb (S.2.1 q 3) 1024 = true then (some (q_sI r36.2 (q + 17) (S.2.1 q 3).toNatClampNeg r39.toInt32)).bind fun S42 =>
        some ((true, S42)) else none
      else
        some ((false, r36.2))
  else if r24 = (75 : Int32) then
      (fX12_localStep S21 q y2 ((S.2.1 q 3)) ((y3 + (1 : Int32)))).bind fun r46 =>
      some ((r46.1, r46.2))
  else if r24 = (76 : Int32) then
      (fX12_labelAt S21 ((y3 + (1 : Int32)))).bind fun r50 =>
      if q_inb (S.2.1 q 3) 1024 = true then (some (q_sI S21 (q + 16) (S.2.1 q 3).toNatClampNeg r50)).bind fun S53 =>
      if q_inb (S.2.1 q 3) 1024 = true then if (S53.2.1 (q + 16) (S.2.1 q 3).toNatClampNeg) < 0 then
        (fX12_wrong S53 ((y3 + (1 : Int32)))).bind fun r57 =>
        if r57.1 = true then
          some ((true, r57.2))
        else
          some ((false, r57.2))
      else
        if q_inb (S.2.1 q 3) 1024 = true then if (S53.2.1 (q + 16) (S.2.1 q 3).toNatClampNeg) < y4 then
          some ((true, S53))
        else
          (fX12_wrong S53 ((y3 + (1 : Int32)))).bind fun r61 =>
          if r61.1 = true then
            some ((true, r61.2))
          else
            some ((false, r61.2)) else none else none else none
  else if r24 = (78 : Int32) then
      (fX12_number S21 ((y3 + (1 : Int32)))).bind fun r65 =>
      if q_inb (S.2.1 q 3) 1024 = true then (some (q_sI S21 (q + 16) (S.2.1 q 3).toNatClampNeg r65.toInt32)).bind fun S68 =>
      some ((true, S68)) else none
  else if r24 = (84 : Int32) then
      (fX12_typeOf S21 q ((y3 + (1 : Int32)))).bind fun r72 =>
      if q_inb (S.2.1 q 3) 1024 = true then (some (q_sI S21 (q + 16) (S.2.1 q 3).toNatClampNeg r72)).bind fun S75 =>
      if q_inb (S.2.1 q 3) 1024 = true then if 0 ≤ (S75.2.1 (q + 16) (S.2.1 q 3).toNatClampNeg) then
        some ((true, S75))
      else
        (fX12_wrong S75 ((y3 + (1 : Int32)))).bind fun r79 =>
        if r79.1 = true then
          some ((true, r79.2))
        else
          some ((false, r79.2)) else none else none
  else some ((true, S21)) else none else none else none else none else none
noncomputable def fX12_code_31 (S : QS) (q : Nat) (y2 : Int32) (y3 : Int32) (y4 : Int32) (y5 : Int32) : Option (Bool × QS) :=
  if (S.2.1 q 4) = (48 : Int32) then
    (fX12_wrong S y3).bind fun r94 =>
    some ((r94.1, r94.2))
  else
    fX12_code_46 S q y2 y3 y4 y5
noncomputable def fX12_code (S : QS) (q : Nat) (x2 : Int32) (x3 : Int32) (x4 : Int32) : Option (Bool × QS) :=
  (fX12_opOf S x3).bind fun r97 =>
  if (S.2.1 q 3) = (1024 : Int32) then
    (fX12_wrong S x3).bind fun r99 =>
    some ((r99.1, r99.2))
  else
    if r97 = (30 : Int32) then
      fX12_code_31 S q x2 x3 x4 r97
    else
      if r97 = (31 : Int32) then
        fX12_code_31 S q x2 x3 x4 r97
      else
        fX12_code_46 S q x2 x3 x4 r97
noncomputable def tX12_linesOf_131 (q : Nat) (y2 : Int32) (y6 : Int32) (x : Int32 × QS) : Option ((Bool × QS) ⊕ (Int32 × QS)) :=
  (fX12_is x.2 x.1 1000064).bind fun r1 =>
  if r1 = true then
    if q_inb y2 48 = true then (Option.bind (α := Bool) (if y6 ≤ (x.2.2.1 (q + 12) y2.toNatClampNeg) then
        some (false)
      else
        some (true)) fun v4 =>
      (Option.bind (α := Bool) (if v4 = true then
          if q_inb (y6 - (1 : Int32)) 1024 = true then (Option.bind (α := Bool) (if (x.2.2.1 (q + 15) (y6 - (1 : Int32)).toNatClampNeg) = (19 : Int32) then
              some (true)
            else
              if (x.2.2.1 (q + 15) (y6 - (1 : Int32)).toNatClampNeg) = (41 : Int32) then
                some (true)
              else
                if (x.2.2.1 (q + 15) (y6 - (1 : Int32)).toNatClampNeg) = (42 : Int32) then
                  some (true)
                else
                  if (x.2.2.1 (q + 15) (y6 - (1 : Int32)).toNatClampNeg) = (43 : Int32) then
                    some (true)
                  else
                    some (false)) fun v6 =>
            some (v6)) else none
        else
          some (v4)) fun v7 =>
        if v7 = true then
          some (.inl (((true, x.2))))
        else
          (fX12_wrong x.2 x.1).bind fun r8 =>
          if r8.1 = true then
            some (.inl (((true, r8.2))))
          else
            some (.inl (((false, r8.2)))))) else none
  else
    (fX12_isLabel x.2 x.1).bind fun r11 =>
    if r11 = true then
      (fX12_label x.2 x.1).bind fun r25 =>
      if r25 < 0 then
        (fX12_wrong x.2 x.1).bind fun r27 =>
        some (.inl (((r27.1, r27.2))))
      else
        (fX12_label x.2 x.1).bind fun r30 =>
        if q_inb r30 16000 = true then if (x.2.2.1 167 r30.toNatClampNeg) = x.1 then
          (fX12_lineLength x.2 x.1).bind fun r33 =>
          some (.inr ((x.1 + r33), x.2))
        else
          (fX12_wrong x.2 x.1).bind fun r35 =>
          some (.inl (((r35.1, r35.2)))) else none
    else
      (fX12_is x.2 x.1 1000080).bind fun r13 =>
      if r13 = true then
        (fX12_catchLine x.2 q y2 x.1 y6).bind fun r20 =>
        if r20.1 = true then
          (fX12_lineLength r20.2 x.1).bind fun r23 =>
          some (.inr ((x.1 + r23), r20.2))
        else
          some (.inl (((false, r20.2))))
      else
        (fX12_code x.2 q y2 x.1 y6).bind fun r15 =>
        if r15.1 = true then
          (fX12_lineLength r15.2 x.1).bind fun r18 =>
          some (.inr ((x.1 + r18), r15.2))
        else
          some (.inl (((false, r15.2))))
noncomputable def fX12_linesOf_131 (S : QS) (q : Nat) (y2 : Int32) (y5 : Int32) (y6 : Int32) : Option (Bool × QS) := q_run (tX12_linesOf_131 q y2 y6) (y5, S)
noncomputable def tX12_linesOf_33 (q : Nat) (y2 : Int32) (y3 : Int32) (x : Int32 × Int32 × QS) : Option ((Bool × QS) ⊕ (Int32 × Int32 × QS)) :=
  (fX12_is x.2.2 x.2.1 1000064).bind fun r38 =>
  if r38 = true then
    if q_inb y2 48 = true then (some (q_sI x.2.2 (q + 13) y2.toNatClampNeg x.1)).bind fun S41 =>
    (fX12_linesOf_131 S41 q y2 y3 x.1).bind fun r44 => some (.inl (r44)) else none
  else
    (fX12_isLabel x.2.2 x.2.1).bind fun r46 =>
    (Option.bind (α := Int32 × QS) (if r46 = true then
        if q_inb (x.2.2.2.1 102 19) 16000 = true then (some (q_sI x.2.2 167 (x.2.2.2.1 102 19).toNatClampNeg x.2.1)).bind fun S51 =>
        if q_inb (S51.2.1 102 19) 16000 = true then (some (q_sI S51 168 (S51.2.1 102 19).toNatClampNeg x.1)).bind fun S55 =>
        (some (q_sI S55 102 19 ((S55.2.1 102 19) + (1 : Int32)))).bind fun S58 =>
        some ((x.1, S58)) else none else none
      else
        (fX12_is x.2.2 x.2.1 1000080).bind fun r48 =>
        if r48 = true then
          some ((x.1, x.2.2))
        else
          some (((x.1 + (1 : Int32)), x.2.2))) fun v61 =>
      (fX12_lineLength v61.2 x.2.1).bind fun r63 =>
      some (.inr (v61.1, (x.2.1 + r63), v61.2)))
noncomputable def fX12_linesOf_33 (S : QS) (q : Nat) (y2 : Int32) (y3 : Int32) (y4 : Int32) (y5 : Int32) : Option (Bool × QS) := q_run (tX12_linesOf_33 q y2 y3) (y4, y5, S)
noncomputable def fX12_linesOf (S : QS) (q : Nat) (x2 : Int32) : Option (Bool × QS) :=
  if q_inb x2 48 = true then if q_inb x2 48 = true then (some (q_sI S (q + 12) x2.toNatClampNeg (S.2.1 q 3))).bind fun S67 =>
  (some (q_sI S67 102 19 (0 : Int32))).bind fun S70 =>
  fX12_linesOf_33 S70 q x2 (((S.2.1 166 x2.toNatClampNeg) + (3 : Int32))) ((S70.2.1 q 3)) (((S.2.1 166 x2.toNatClampNeg) + (3 : Int32))) else none else none
noncomputable def tX12_lines_17 (q : Nat) (x : Int32 × QS) : Option ((Bool × QS) ⊕ (Int32 × QS)) :=
  if (x.2.2.1 q 2) ≤ x.1 then
    some (.inl (((true, x.2))))
  else
    (fX12_linesOf x.2 q x.1).bind fun r1 =>
    if r1.1 = true then
      some (.inr ((x.1 + (1 : Int32)), r1.2))
    else
      some (.inl (((false, r1.2))))
noncomputable def fX12_lines_17 (S : QS) (q : Nat) (y2 : Int32) : Option (Bool × QS) := q_run (tX12_lines_17 q) (y2, S)
noncomputable def fX12_lines (S : QS) (q : Nat) : Option (Bool × QS) :=
  (some (q_sI S q 3 (0 : Int32))).bind fun S4 =>
  (some (q_sI S4 q 4 (0 : Int32))).bind fun S7 =>
  (some (q_sI S7 q 5 (0 : Int32))).bind fun S10 =>
  fX12_lines_17 S10 q ((0 : Int32))
noncomputable def tX12_settled_183 (q : Nat) (x : Int32 × QS) : Option ((Bool × QS) ⊕ (Int32 × QS)) :=
  if (x.2.2.1 q 2) ≤ x.1 then
    if 0 ≤ (x.2.2.1 q 6) then
      some (.inl (((true, x.2))))
    else
      (fX12_wrong x.2 ((x.2.2.1 102 10))).bind fun r1 =>
      if r1.1 = true then
        some (.inl (((true, r1.2))))
      else
        some (.inl (((false, r1.2))))
  else
    if q_inb x.1 48 = true then if q_inb (x.2.2.1 (q + 6) x.1.toNatClampNeg) 32 = true then (fX12_is x.2 ((x.2.2.1 163 (x.2.2.1 (q + 6) x.1.toNatClampNeg).toNatClampNeg)) 1000090).bind fun r6 =>
    if r6 = true then
      if q_inb x.1 48 = true then (fX12_is x.2 ((x.2.2.1 165 x.1.toNatClampNeg)) 1000092).bind fun r9 =>
      if r9 = true then
        if q_inb x.1 48 = true then if (x.2.2.1 (q + 7) x.1.toNatClampNeg) = 0 then
          if q_inb x.1 48 = true then if (x.2.2.1 (q + 8) x.1.toNatClampNeg) = 0 then
            if q_inb x.1 48 = true then if (x.2.2.1 (q + 10) x.1.toNatClampNeg) = (-1 : Int32) then
              (some (q_sI x.2 q 6 x.1)).bind fun S14 =>
              some (.inr ((x.1 + (1 : Int32)), S14))
            else
              some (.inr ((x.1 + (1 : Int32)), x.2)) else none
          else
            some (.inr ((x.1 + (1 : Int32)), x.2)) else none
        else
          some (.inr ((x.1 + (1 : Int32)), x.2)) else none
      else
        some (.inr ((x.1 + (1 : Int32)), x.2)) else none
    else
      some (.inr ((x.1 + (1 : Int32)), x.2)) else none else none
noncomputable def fX12_settled_183 (S : QS) (q : Nat) (y2 : Int32) : Option (Bool × QS) := q_run (tX12_settled_183 q) (y2, S)
noncomputable def tX12_settled_113 (q : Nat) (x : Int32 × Int32 × QS) : Option (((Bool × QS) ⊕ (Int32 × QS)) ⊕ (Int32 × Int32 × QS)) :=
  if (x.2.2.2.1 q 2) ≤ x.2.1 then
    some (.inl (.inr ((x.1 + (1 : Int32)), x.2.2)))
  else
    if q_inb x.2.1 48 = true then if q_inb (x.2.2.2.1 165 x.2.1.toNatClampNeg) 16002 = true then if q_inb x.2.1 48 = true then if q_inb (x.2.2.2.1 165 x.2.1.toNatClampNeg) 16002 = true then (fX12_bodyOf x.2.2 q x.1 ((x.2.2.2.1 161 (x.2.2.2.1 165 x.2.1.toNatClampNeg).toNatClampNeg)) ((x.2.2.2.1 162 (x.2.2.2.1 165 x.2.1.toNatClampNeg).toNatClampNeg))).bind fun r21 =>
    if q_inb ((x.1 * (48 : Int32)) + x.2.1) 1536 = true then (some (q_sI x.2.2 (q + 14) ((x.1 * (48 : Int32)) + x.2.1).toNatClampNeg r21)).bind fun S24 =>
    some (.inr (x.1, (x.2.1 + (1 : Int32)), S24)) else none else none else none else none else none
noncomputable def uX12_settled_113 (S : QS) (q : Nat) (y2 : Int32) (y4 : Int32) : Option ((Bool × QS) ⊕ (Int32 × QS)) := q_run (tX12_settled_113 q) (y2, y4, S)
noncomputable def tX12_settled_66 (q : Nat) (y2 : Int32) (x : Int32 × Int32 × QS) : Option (((Bool × QS) ⊕ (Int32 × QS)) ⊕ (Int32 × Int32 × QS)) :=
  if (x.2.2.2.1 q 1) ≤ x.2.1 then
    if q_inb y2 32 = true then (some (q_sI x.2.2 (q + 2) y2.toNatClampNeg x.1)).bind fun S28 =>
    (uX12_settled_113 S28 q y2 ((0 : Int32))).bind fun r31 => some (.inl (r31)) else none
  else
    if q_inb x.2.1 48 = true then if (x.2.2.2.1 (q + 3) x.2.1.toNatClampNeg) = y2 then
      if q_inb x.2.1 48 = true then (some (q_sI x.2.2 (q + 5) x.2.1.toNatClampNeg x.1)).bind fun S35 =>
      some (.inr ((x.1 + (1 : Int32)), (x.2.1 + (1 : Int32)), S35)) else none
    else
      some (.inr (x.1, (x.2.1 + (1 : Int32)), x.2.2)) else none
noncomputable def uX12_settled_66 (S : QS) (q : Nat) (y2 : Int32) (y3 : Int32) (y4 : Int32) : Option ((Bool × QS) ⊕ (Int32 × QS)) := q_run (tX12_settled_66 q y2) (y3, y4, S)
noncomputable def tX12_settled_29 (q : Nat) (x : Int32 × QS) : Option ((Bool × QS) ⊕ (Int32 × QS)) :=
  (fX12_classCount x.2 q).bind fun r38 =>
  if r38 ≤ x.1 then
    (some (q_sI x.2 q 6 (-1 : Int32))).bind fun S40 =>
    (fX12_settled_183 S40 q ((0 : Int32))).bind fun r43 => some (.inl (r43))
  else
    if q_inb x.1 32 = true then if 0 ≤ (x.2.2.1 (q + 1) x.1.toNatClampNeg) then
      if q_inb x.1 32 = true then if q_inb (x.2.2.1 (q + 1) x.1.toNatClampNeg) 32 = true then uX12_settled_66 x.2 q x.1 ((x.2.2.1 (q + 2) (x.2.2.1 (q + 1) x.1.toNatClampNeg).toNatClampNeg)) ((0 : Int32)) else none else none
    else
      uX12_settled_66 x.2 q x.1 ((0 : Int32)) ((0 : Int32)) else none
noncomputable def fX12_settled_29 (S : QS) (q : Nat) (y2 : Int32) : Option (Bool × QS) := q_run (tX12_settled_29 q) (y2, S)
noncomputable def tX12_settled_2 (q : Nat) (x : Int32 × QS) : Option ((Bool × QS) ⊕ (Int32 × QS)) :=
  if (6 : Int32) ≤ x.1 then
    (fX12_settled_29 x.2 q ((0 : Int32))).bind fun r48 => some (.inl (r48))
  else
    if q_inb ((48 : Int32) + x.1) 54 = true then (some (q_sI x.2 (q + 20) ((48 : Int32) + x.1).toNatClampNeg ((10 : Int32) + x.1))).bind fun S51 =>
    some (.inr ((x.1 + (1 : Int32)), S51)) else none
noncomputable def fX12_settled_2 (S : QS) (q : Nat) (y2 : Int32) : Option (Bool × QS) := q_run (tX12_settled_2 q) (y2, S)
noncomputable def fX12_settled (S : QS) (q : Nat) : Option (Bool × QS) :=
  fX12_settled_2 S q ((0 : Int32))
noncomputable def fX12_howMany (S : QS) (q : Nat) (x1 : Int32) : Option (Int32) :=
  if q_inb x1 1024 = true then if (S.2.1 (q + 15) x1.toNatClampNeg) = (3 : Int32) ∨ (S.2.1 (q + 15) x1.toNatClampNeg) = (5 : Int32) ∨ (S.2.1 (q + 15) x1.toNatClampNeg) = (6 : Int32) ∨ (S.2.1 (q + 15) x1.toNatClampNeg) = (18 : Int32) ∨ (S.2.1 (q + 15) x1.toNatClampNeg) = (26 : Int32) ∨ (S.2.1 (q + 15) x1.toNatClampNeg) = (27 : Int32) ∨ (S.2.1 (q + 15) x1.toNatClampNeg) = (31 : Int32) ∨ (S.2.1 (q + 15) x1.toNatClampNeg) = (32 : Int32) ∨ (S.2.1 (q + 15) x1.toNatClampNeg) = (35 : Int32) ∨ (S.2.1 (q + 15) x1.toNatClampNeg) = (37 : Int32) ∨ (S.2.1 (q + 15) x1.toNatClampNeg) = (38 : Int32) ∨ (S.2.1 (q + 15) x1.toNatClampNeg) = (41 : Int32) ∨ (S.2.1 (q + 15) x1.toNatClampNeg) = (42 : Int32) ∨ (S.2.1 (q + 15) x1.toNatClampNeg) = (45 : Int32) then
      some ((1 : Int32))
  else if (S.2.1 (q + 15) x1.toNatClampNeg) = (7 : Int32) ∨ (S.2.1 (q + 15) x1.toNatClampNeg) = (28 : Int32) ∨ (S.2.1 (q + 15) x1.toNatClampNeg) = (29 : Int32) ∨ (S.2.1 (q + 15) x1.toNatClampNeg) = (33 : Int32) ∨ (S.2.1 (q + 15) x1.toNatClampNeg) = (36 : Int32) then
      some ((2 : Int32))
  else if (S.2.1 (q + 15) x1.toNatClampNeg) = (34 : Int32) then
      some ((3 : Int32))
  else if (S.2.1 (q + 15) x1.toNatClampNeg) = (39 : Int32) ∨ (S.2.1 (q + 15) x1.toNatClampNeg) = (40 : Int32) then
      if q_inb x1 1024 = true then if q_inb (S.2.1 (q + 16) x1.toNatClampNeg) 48 = true then some ((S.2.1 (q + 8) (S.2.1 (q + 16) x1.toNatClampNeg).toNatClampNeg)) else none else none
  else if (S.2.1 (q + 15) x1.toNatClampNeg) < (8 : Int32) then
      if (S.2.1 (q + 15) x1.toNatClampNeg) < (20 : Int32) then
        some ((0 : Int32))
      else
        if (25 : Int32) < (S.2.1 (q + 15) x1.toNatClampNeg) then
          some ((0 : Int32))
        else
          some ((2 : Int32))
    else
      if (S.2.1 (q + 15) x1.toNatClampNeg) ≤ (17 : Int32) then
        some ((2 : Int32))
      else
        if (S.2.1 (q + 15) x1.toNatClampNeg) < (20 : Int32) then
          some ((0 : Int32))
        else
          if (25 : Int32) < (S.2.1 (q + 15) x1.toNatClampNeg) then
            some ((0 : Int32))
          else
            some ((2 : Int32)) else none
noncomputable def fX12_leaves (S : QS) (q : Nat) (x1 : Int32) : Option (Int32) :=
  if q_inb x1 1024 = true then if (S.2.1 (q + 15) x1.toNatClampNeg) = (0 : Int32) ∨ (S.2.1 (q + 15) x1.toNatClampNeg) = (1 : Int32) ∨ (S.2.1 (q + 15) x1.toNatClampNeg) = (2 : Int32) ∨ (S.2.1 (q + 15) x1.toNatClampNeg) = (18 : Int32) ∨ (S.2.1 (q + 15) x1.toNatClampNeg) = (30 : Int32) ∨ (S.2.1 (q + 15) x1.toNatClampNeg) = (31 : Int32) ∨ (S.2.1 (q + 15) x1.toNatClampNeg) = (32 : Int32) ∨ (S.2.1 (q + 15) x1.toNatClampNeg) = (33 : Int32) ∨ (S.2.1 (q + 15) x1.toNatClampNeg) = (35 : Int32) ∨ (S.2.1 (q + 15) x1.toNatClampNeg) = (37 : Int32) ∨ (S.2.1 (q + 15) x1.toNatClampNeg) = (38 : Int32) ∨ (S.2.1 (q + 15) x1.toNatClampNeg) = (44 : Int32) then
      some ((1 : Int32))
  else if (S.2.1 (q + 15) x1.toNatClampNeg) = (5 : Int32) ∨ (S.2.1 (q + 15) x1.toNatClampNeg) = (7 : Int32) then
      some ((2 : Int32))
  else if (S.2.1 (q + 15) x1.toNatClampNeg) = (39 : Int32) ∨ (S.2.1 (q + 15) x1.toNatClampNeg) = (40 : Int32) then
      if q_inb x1 1024 = true then if q_inb (S.2.1 (q + 16) x1.toNatClampNeg) 48 = true then if (S.2.1 (q + 10) (S.2.1 (q + 16) x1.toNatClampNeg).toNatClampNeg) = (-1 : Int32) then
        some ((0 : Int32))
      else
        some ((1 : Int32)) else none else none
  else if (S.2.1 (q + 15) x1.toNatClampNeg) < (8 : Int32) then
      some ((0 : Int32))
    else
      if (17 : Int32) < (S.2.1 (q + 15) x1.toNatClampNeg) then
        some ((0 : Int32))
      else
        some ((1 : Int32)) else none
noncomputable def fX12_hasNext (S : QS) (x0 : Int32) : Option (Bool) :=
  if x0 = (19 : Int32) then
    some (false)
  else
    if x0 = (41 : Int32) then
      some (false)
    else
      if x0 = (42 : Int32) then
        some (false)
      else
        if x0 = (43 : Int32) then
          some (false)
        else
          some (true)
noncomputable def fX12_hasLabel (S : QS) (x0 : Int32) : Option (Bool) :=
  if x0 < (19 : Int32) then
    some (false)
  else
    if (29 : Int32) < x0 then
      some (false)
    else
      some (true)
noncomputable def fX12_covers (S : QS) (q : Nat) (x1 : Int32) (x2 : Int32) : Option (Bool) :=
  if q_inb x1 64 = true then if q_inb x2 1024 = true then if (S.2.1 (q + 21) x1.toNatClampNeg) = (S.2.1 (q + 18) x2.toNatClampNeg) then
    if q_inb x1 64 = true then if x2 < (S.2.1 (q + 22) x1.toNatClampNeg) then
      some (false)
    else
      if q_inb x1 64 = true then if (S.2.1 (q + 23) x1.toNatClampNeg) ≤ x2 then
        some (false)
      else
        some (true) else none else none
  else
    some (false) else none else none
noncomputable def tX12_goodHeights_5 (S : QS) (q : Nat) (y2 : Int32) (x : Int32 × Int32) : Option ((Int32) ⊕ (Int32 × Int32)) :=
  if (8 : Int32) < x.2 then
    some (.inl ((x.1)))
  else
    (fX12_howMany S q y2).bind fun r1 =>
    if q_inb y2 1024 = true then if (((S.2.1 170 y2.toNatClampNeg) >>> (x.2 &&& 31)) &&& (1 : Int32)) = (1 : Int32) then
      if (x.2 - r1) < 0 then
        some (.inr (x.1, (x.2 + (1 : Int32))))
      else
        (fX12_leaves S q y2).bind fun r4 =>
        if (8 : Int32) < ((x.2 - r1) + r4) then
          some (.inr (x.1, (x.2 + (1 : Int32))))
        else
          (fX12_leaves S q y2).bind fun r6 =>
          some (.inr ((x.1 ||| ((1 : Int32) <<< (((x.2 - r1) + r6) &&& 31))), (x.2 + (1 : Int32))))
    else
      some (.inr (x.1, (x.2 + (1 : Int32)))) else none
noncomputable def fX12_goodHeights_5 (S : QS) (q : Nat) (y2 : Int32) (y3 : Int32) (y4 : Int32) : Option (Int32) := q_run (tX12_goodHeights_5 S q y2) (y3, y4)
noncomputable def fX12_goodHeights (S : QS) (q : Nat) (x2 : Int32) : Option (Int32) :=
  fX12_goodHeights_5 S q x2 ((0 : Int32)) ((0 : Int32))
noncomputable def fX12_added (S : QS) (x1 : Int32) (x2 : Int32) : Option (Bool × QS) :=
  if q_inb x1 1024 = true then if q_inb x1 1024 = true then (Option.bind (α := Bool) (if ((S.2.1 170 x1.toNatClampNeg) ||| x2) = (S.2.1 170 x1.toNatClampNeg) then
      some (false)
    else
      some (true)) fun v3 =>
    if q_inb x1 1024 = true then if q_inb x1 1024 = true then (some (q_sI S 170 x1.toNatClampNeg ((S.2.1 170 x1.toNatClampNeg) ||| x2))).bind fun S6 =>
    some ((v3, S6)) else none else none) else none else none
noncomputable def tX12_heights_300 (q : Nat) (y2 : Int32) (y5 : Int32) (x : Int32 × Int32 × QS) : Option (((Bool × QS) ⊕ (Int32 × QS)) ⊕ (Int32 × Int32 × QS)) :=
  if (8 : Int32) < x.2.1 then
    some (.inl (.inr ((x.1 + (1 : Int32)), x.2.2)))
  else
    if y5 = ((1 : Int32) <<< (x.2.1 &&& 31)) then
      if q_inb x.1 1024 = true then (some (q_sI x.2.2 (q + 19) x.1.toNatClampNeg x.2.1)).bind fun S2 =>
      some (.inr (x.1, (x.2.1 + (1 : Int32)), S2)) else none
    else
      some (.inr (x.1, (x.2.1 + (1 : Int32)), x.2.2))
noncomputable def uX12_heights_300 (S : QS) (q : Nat) (y2 : Int32) (y4 : Int32) (y5 : Int32) (y6 : Int32) : Option ((Bool × QS) ⊕ (Int32 × QS)) := q_run (tX12_heights_300 q y2 y5) (y4, y6, S)
noncomputable def tX12_heights_232 (q : Nat) (y2 : Int32) (x : Int32 × QS) : Option ((Bool × QS) ⊕ (Int32 × QS)) :=
  if q_inb y2 48 = true then if (x.2.2.1 (q + 13) y2.toNatClampNeg) ≤ x.1 then
    some (.inl (((true, x.2))))
  else
    if q_inb x.1 1024 = true then if ((x.2.2.1 170 x.1.toNatClampNeg) &&& ((x.2.2.1 170 x.1.toNatClampNeg) - (1 : Int32))) = 0 then
      if (x.2.2.1 170 x.1.toNatClampNeg) = 0 then
        if q_inb x.1 1024 = true then (some (q_sI x.2 (q + 19) x.1.toNatClampNeg (-1 : Int32))).bind fun S12 =>
        uX12_heights_300 S12 q y2 x.1 ((x.2.2.1 170 x.1.toNatClampNeg)) ((0 : Int32)) else none
      else
        (fX12_goodHeights x.2 q x.1).bind fun r15 =>
        if r15 = 0 then
          if q_inb x.1 1024 = true then (fX12_wrong x.2 ((x.2.2.1 169 x.1.toNatClampNeg))).bind fun r22 =>
          some (.inl (((r22.1, r22.2)))) else none
        else
          if q_inb x.1 1024 = true then (some (q_sI x.2 (q + 19) x.1.toNatClampNeg (-1 : Int32))).bind fun S18 =>
          uX12_heights_300 S18 q y2 x.1 ((x.2.2.1 170 x.1.toNatClampNeg)) ((0 : Int32)) else none
    else
      if q_inb x.1 1024 = true then (fX12_wrong x.2 ((x.2.2.1 169 x.1.toNatClampNeg))).bind fun r8 =>
      some (.inl (((r8.1, r8.2)))) else none else none else none
noncomputable def fX12_heights_232 (S : QS) (q : Nat) (y2 : Int32) (y4 : Int32) : Option (Bool × QS) := q_run (tX12_heights_232 q y2) (y4, S)
noncomputable def tX12_heights_164 (q : Nat) (y2 : Int32) (x : Int32 × Int32 × Int32 × QS) : Option ((((Bool × QS) ⊕ (Int32 × QS)) ⊕ (Int32 × Int32 × QS)) ⊕ (Int32 × Int32 × Int32 × QS)) :=
  if (x.2.2.2.2.1 q 5) ≤ x.2.2.1 then
    some (.inl (.inr (x.1, (x.2.1 + (1 : Int32)), x.2.2.2)))
  else
    (fX12_covers x.2.2.2 q x.2.2.1 x.2.1).bind fun r25 =>
    if r25 = true then
      if q_inb x.2.2.1 64 = true then (fX12_added x.2.2.2 ((x.2.2.2.2.1 (q + 24) x.2.2.1.toNatClampNeg)) ((2 : Int32))).bind fun r28 =>
      if r28.1 = true then
        some (.inr ((1 : Int32), x.2.1, (x.2.2.1 + (1 : Int32)), r28.2))
      else
        if x.1 = 0 then
          some (.inr ((0 : Int32), x.2.1, (x.2.2.1 + (1 : Int32)), r28.2))
        else
          some (.inr ((1 : Int32), x.2.1, (x.2.2.1 + (1 : Int32)), r28.2)) else none
    else
      some (.inr (x.1, x.2.1, (x.2.2.1 + (1 : Int32)), x.2.2.2))
noncomputable def uX12_heights_164 (S : QS) (q : Nat) (y2 : Int32) (y3 : Int32) (y4 : Int32) (y6 : Int32) : Option (((Bool × QS) ⊕ (Int32 × QS)) ⊕ (Int32 × Int32 × QS)) := q_run (tX12_heights_164 q y2) (y3, y4, y6, S)
noncomputable def tX12_heights_58 (q : Nat) (y2 : Int32) (x : Int32 × Int32 × QS) : Option (((Bool × QS) ⊕ (Int32 × QS)) ⊕ (Int32 × Int32 × QS)) :=
  if q_inb y2 48 = true then if (x.2.2.2.1 (q + 13) y2.toNatClampNeg) ≤ x.2.1 then
    some (.inl (.inr (x.1, x.2.2)))
  else
    (fX12_goodHeights x.2.2 q x.2.1).bind fun r32 =>
    if r32 = 0 then
      some (.inr (x.1, (x.2.1 + (1 : Int32)), x.2.2))
    else
      if q_inb x.2.1 1024 = true then (fX12_hasNext x.2.2 ((x.2.2.2.1 (q + 15) x.2.1.toNatClampNeg))).bind fun r35 =>
      (Option.bind (α := Int32 × QS) (if r35 = true then
          (fX12_added x.2.2 ((x.2.1 + (1 : Int32))) r32).bind fun r37 =>
          (Option.bind (α := Bool) (if r37.1 = true then
              some (true)
            else
              if x.1 = 0 then
                some (false)
              else
                some (true)) fun v40 =>
            some (((q_b v40), r37.2)))
        else
          some ((x.1, x.2.2))) fun v41 =>
        if q_inb x.2.1 1024 = true then (fX12_hasLabel v41.2 ((v41.2.2.1 (q + 15) x.2.1.toNatClampNeg))).bind fun r44 =>
        if r44 = true then
          if q_inb x.2.1 1024 = true then (fX12_added v41.2 ((v41.2.2.1 (q + 16) x.2.1.toNatClampNeg)) r32).bind fun r47 =>
          if r47.1 = true then
            uX12_heights_164 r47.2 q y2 ((1 : Int32)) x.2.1 ((0 : Int32))
          else
            if v41.1 = 0 then
              uX12_heights_164 r47.2 q y2 ((0 : Int32)) x.2.1 ((0 : Int32))
            else
              uX12_heights_164 r47.2 q y2 ((1 : Int32)) x.2.1 ((0 : Int32)) else none
        else
          uX12_heights_164 v41.2 q y2 v41.1 x.2.1 ((0 : Int32)) else none) else none else none
noncomputable def uX12_heights_58 (S : QS) (q : Nat) (y2 : Int32) (y3 : Int32) (y4 : Int32) : Option ((Bool × QS) ⊕ (Int32 × QS)) := q_run (tX12_heights_58 q y2) (y3, y4, S)
noncomputable def tX12_heights_44 (q : Nat) (y2 : Int32) (x : Int32 × QS) : Option ((Bool × QS) ⊕ (Int32 × QS)) :=
  if x.1 = 0 then
    if q_inb y2 48 = true then (fX12_heights_232 x.2 q y2 ((x.2.2.1 (q + 12) y2.toNatClampNeg))).bind fun r51 => some (.inl (r51)) else none
  else
    if q_inb y2 48 = true then uX12_heights_58 x.2 q y2 ((0 : Int32)) ((x.2.2.1 (q + 12) y2.toNatClampNeg)) else none
noncomputable def fX12_heights_44 (S : QS) (q : Nat) (y2 : Int32) (y3 : Int32) : Option (Bool × QS) := q_run (tX12_heights_44 q y2) (y3, S)
noncomputable def tX12_heights_7 (q : Nat) (y2 : Int32) (x : Int32 × QS) : Option ((Bool × QS) ⊕ (Int32 × QS)) :=
  if q_inb y2 48 = true then if (x.2.2.1 (q + 13) y2.toNatClampNeg) ≤ x.1 then
    if q_inb y2 48 = true then if q_inb (x.2.2.1 (q + 12) y2.toNatClampNeg) 1024 = true then (some (q_sI x.2 170 (x.2.2.1 (q + 12) y2.toNatClampNeg).toNatClampNeg (1 : Int32))).bind fun S57 =>
    (fX12_heights_44 S57 q y2 ((1 : Int32))).bind fun r60 => some (.inl (r60)) else none else none
  else
    if q_inb x.1 1024 = true then (some (q_sI x.2 170 x.1.toNatClampNeg (0 : Int32))).bind fun S63 =>
    some (.inr ((x.1 + (1 : Int32)), S63)) else none else none
noncomputable def fX12_heights_7 (S : QS) (q : Nat) (y2 : Int32) (y3 : Int32) : Option (Bool × QS) := q_run (tX12_heights_7 q y2) (y3, S)
noncomputable def fX12_heights (S : QS) (q : Nat) (x2 : Int32) : Option (Bool × QS) :=
  if q_inb x2 48 = true then fX12_heights_7 S q x2 ((S.2.1 (q + 12) x2.toNatClampNeg)) else none
noncomputable def fX12_isClass (S : QS) (x0 : Int32) : Option (Bool) :=
  if x0 < (8 : Int32) then
    some (false)
  else
    if (40 : Int32) ≤ x0 then
      some (false)
    else
      some (true)
noncomputable def fX12_isArrayType (S : QS) (x0 : Int32) : Option (Bool) :=
  if x0 < (40 : Int32) then
    some (false)
  else
    some (true)
noncomputable def fX12_isReferenceType (S : QS) (x0 : Int32) : Option (Bool) :=
  if x0 = (1 : Int32) then
    some (true)
  else
    if x0 < (8 : Int32) then
      some (false)
    else
      some (true)
noncomputable def fX12_isBelow (S : QS) (q : Nat) (x1 : Int32) (x2 : Int32) : Option (Bool) :=
  if x2 = (2 : Int32) then
    some (true)
  else
    if x1 = x2 then
      some (true)
    else
      if x1 = (2 : Int32) then
        some (false)
      else
        if x1 = 0 then
          some (false)
        else
          if x2 = 0 then
            some (false)
          else
            if x2 = (1 : Int32) then
              some (false)
            else
              if x1 = (1 : Int32) then
                some (true)
              else
                if x2 = (8 : Int32) then
                  some (true)
                else
                  (fX12_isClass S x1).bind fun r1 =>
                  if r1 = true then
                    (fX12_isClass S x2).bind fun r5 =>
                    if r5 = true then
                      (fX12_isAtOrBelow S q ((x1 - (8 : Int32))) ((x2 - (8 : Int32)))).bind fun r7 =>
                      if r7 = true then
                        some (true)
                      else
                        some (false)
                    else
                      some (false)
                  else
                    if x1 < (48 : Int32) then
                      some (false)
                    else
                      if x2 < (48 : Int32) then
                        some (false)
                      else
                        (fX12_isAtOrBelow S q ((x1 - (48 : Int32))) ((x2 - (48 : Int32)))).bind fun r3 =>
                        if r3 = true then
                          some (true)
                        else
                          some (false)
noncomputable def tX12_joined_102 (S : QS) (q : Nat) (y2 : Int32) (y5 : Int32) (x : Int32) : Option ((Int32) ⊕ (Int32)) :=
  (fX12_isAtOrBelow S q ((y2 - y5)) x).bind fun r1 =>
  if r1 = true then
    some (.inl (((y5 + x))))
  else
    if q_inb x 32 = true then some (.inr (S.2.1 (q + 1) x.toNatClampNeg)) else none
noncomputable def fX12_joined_102 (S : QS) (q : Nat) (y2 : Int32) (y5 : Int32) (y6 : Int32) : Option (Int32) := q_run (tX12_joined_102 S q y2 y5) y6
noncomputable def fX12_joined (S : QS) (q : Nat) (x1 : Int32) (x2 : Int32) : Option (Int32) :=
  (fX12_isBelow S q x1 x2).bind fun r4 =>
  if r4 = true then
    some (x2)
  else
    (fX12_isBelow S q x2 x1).bind fun r6 =>
    if r6 = true then
      some (x1)
    else
      if x1 = 0 then
        some ((2 : Int32))
      else
        if x2 = 0 then
          some ((2 : Int32))
        else
          (fX12_isClass S x1).bind fun r8 =>
          (Option.bind (α := Bool) (if r8 = true then
              (fX12_isClass S x2).bind fun r10 =>
              if r10 = true then
                some (true)
              else
                some (false)
            else
              some (false)) fun v12 =>
            (Option.bind (α := Bool) (if x1 < (48 : Int32) then
                some (false)
              else
                if x2 < (48 : Int32) then
                  some (false)
                else
                  some (true)) fun v13 =>
              if v12 = true then
                (Option.bind (α := Int32) (if v12 = true then
                    some ((8 : Int32))
                  else
                    some ((48 : Int32))) fun v14 =>
                  fX12_joined_102 S q x2 v14 ((x1 - v14)))
              else
                if v13 = true then
                  if v12 = true then
                    fX12_joined_102 S q x2 ((8 : Int32)) ((x1 - (8 : Int32)))
                  else
                    fX12_joined_102 S q x2 ((48 : Int32)) ((x1 - (48 : Int32)))
                else
                  some ((8 : Int32))))
noncomputable def tX12_typesAt_2 (q : Nat) (y2 : Int32) (x : Int32 × QS) : Option ((QS) ⊕ (Int32 × QS)) :=
  if (20 : Int32) ≤ x.1 then
    if q_inb y2 1024 = true then (some (q_sI x.2 102 23 ((12 : Int32) + (x.2.2.1 (q + 19) y2.toNatClampNeg)))).bind fun S2 =>
    some (.inl ((S2))) else none
  else
    if q_inb ((y2 * (20 : Int32)) + x.1) 20480 = true then if q_inb x.1 24 = true then (some (q_sI x.2 171 x.1.toNatClampNeg (x.2.2.1 (q + 26) ((y2 * (20 : Int32)) + x.1).toNatClampNeg))).bind fun S7 =>
    some (.inr ((x.1 + (1 : Int32)), S7)) else none else none
noncomputable def fX12_typesAt_2 (S : QS) (q : Nat) (y2 : Int32) (y3 : Int32) : Option (QS) := q_run (tX12_typesAt_2 q y2) (y3, S)
noncomputable def fX12_typesAt (S : QS) (q : Nat) (x2 : Int32) : Option (QS) :=
  fX12_typesAt_2 S q x2 ((0 : Int32))
noncomputable def tX12_typesTo_18 (q : Nat) (y2 : Int32) (x : Int32 × Int32 × QS) : Option ((Bool × QS) ⊕ (Int32 × Int32 × QS)) :=
  if q_inb y2 1024 = true then if ((12 : Int32) + (x.2.2.2.1 (q + 19) y2.toNatClampNeg)) ≤ x.2.1 then
    if q_inb y2 1024 = true then (some (q_sI x.2.2 (q + 27) y2.toNatClampNeg (vp_nar .boolean (1 : Int32)))).bind fun S3 =>
    if x.1 = 0 ∨ x.1 = 1 then some (.inl (((decide (x.1 = 1), S3)))) else none else none
  else
    if q_inb y2 1024 = true then (Option.bind (α := Int32) (if (x.2.2.2.1 (q + 27) y2.toNatClampNeg) = 0 then
        if q_inb x.2.1 24 = true then some ((x.2.2.2.1 171 x.2.1.toNatClampNeg)) else none
      else
        if q_inb ((y2 * (20 : Int32)) + x.2.1) 20480 = true then if q_inb x.2.1 24 = true then (fX12_joined x.2.2 q ((x.2.2.2.1 (q + 26) ((y2 * (20 : Int32)) + x.2.1).toNatClampNeg)) ((x.2.2.2.1 171 x.2.1.toNatClampNeg))).bind fun r10 =>
        some (r10) else none else none) fun v12 =>
      (Option.bind (α := Bool) (if x.1 = 0 then
          if q_inb ((y2 * (20 : Int32)) + x.2.1) 20480 = true then if v12 = (x.2.2.2.1 (q + 26) ((y2 * (20 : Int32)) + x.2.1).toNatClampNeg) then
            some (false)
          else
            some (true) else none
        else
          some (true)) fun v14 =>
        if q_inb ((y2 * (20 : Int32)) + x.2.1) 20480 = true then (some (q_sI x.2.2 (q + 26) ((y2 * (20 : Int32)) + x.2.1).toNatClampNeg v12)).bind fun S16 =>
        some (.inr ((q_b v14), (x.2.1 + (1 : Int32)), S16)) else none)) else none else none
noncomputable def fX12_typesTo_18 (S : QS) (q : Nat) (y2 : Int32) (y3 : Int32) (y4 : Int32) : Option (Bool × QS) := q_run (tX12_typesTo_18 q y2) (y3, y4, S)
noncomputable def fX12_typesTo (S : QS) (q : Nat) (x2 : Int32) : Option (Bool × QS) :=
  if q_inb x2 1024 = true then if (S.2.1 (q + 27) x2.toNatClampNeg) = 0 then
    fX12_typesTo_18 S q x2 ((1 : Int32)) ((0 : Int32))
  else
    fX12_typesTo_18 S q x2 ((0 : Int32)) ((0 : Int32)) else none
noncomputable def fX12_leave (S : QS) (x1 : Int32) : Option (QS) :=
  if q_inb (S.2.1 102 23) 24 = true then (some (q_sI S 171 (S.2.1 102 23).toNatClampNeg x1)).bind fun S2 =>
  (some (q_sI S2 102 23 ((S2.2.1 102 23) + (1 : Int32)))).bind fun S5 =>
  some (S5) else none
noncomputable def fX12_elementOf (S : QS) (x0 : Int32) : Option (Int32) :=
  if x0 = (40 : Int32) then
    some ((0 : Int32))
  else
    if x0 < (48 : Int32) then
      some ((2 : Int32))
    else
      some (((x0 - (48 : Int32)) + (8 : Int32)))
noncomputable def fX12_typesBehind (S : QS) (q : Nat) (x2 : Int32) : Option (QS) :=
  if q_inb x2 1024 = true then if q_inb x2 1024 = true then (Option.bind (α := Int32) (if (S.2.1 102 23) ≤ (12 : Int32) then
      some ((2 : Int32))
    else
      if q_inb ((S.2.1 102 23) - (1 : Int32)) 24 = true then some ((S.2.1 171 ((S.2.1 102 23) - (1 : Int32)).toNatClampNeg)) else none) fun v4 =>
    (Option.bind (α := Int32) (if (S.2.1 102 23) ≤ (13 : Int32) then
        some ((2 : Int32))
      else
        if q_inb ((S.2.1 102 23) - (2 : Int32)) 24 = true then some ((S.2.1 171 ((S.2.1 102 23) - (2 : Int32)).toNatClampNeg)) else none) fun v6 =>
      (fX12_howMany S q x2).bind fun r7 =>
      (some (q_sI S 102 23 ((S.2.1 102 23) - r7))).bind fun S9 =>
      if (S.2.1 (q + 15) x2.toNatClampNeg) = (1 : Int32) then
          (fX12_leave S9 ((1 : Int32))).bind fun r13 =>
          some (r13)
      else if (S.2.1 (q + 15) x2.toNatClampNeg) = (2 : Int32) then
          if q_inb (S.2.1 (q + 16) x2.toNatClampNeg) 24 = true then (fX12_leave S9 ((S9.2.1 171 (S.2.1 (q + 16) x2.toNatClampNeg).toNatClampNeg))).bind fun r18 =>
          some (r18) else none
      else if (S.2.1 (q + 15) x2.toNatClampNeg) = (3 : Int32) then
          if q_inb (S.2.1 (q + 16) x2.toNatClampNeg) 24 = true then (some (q_sI S9 171 (S.2.1 (q + 16) x2.toNatClampNeg).toNatClampNeg v4)).bind fun S23 =>
          some (S23) else none
      else if (S.2.1 (q + 15) x2.toNatClampNeg) = (5 : Int32) then
          (fX12_leave S9 v4).bind fun r27 =>
          (fX12_leave r27 v4).bind fun r30 =>
          some (r30)
      else if (S.2.1 (q + 15) x2.toNatClampNeg) = (7 : Int32) then
          (fX12_leave S9 v4).bind fun r34 =>
          (fX12_leave r34 v6).bind fun r37 =>
          some (r37)
      else if (S.2.1 (q + 15) x2.toNatClampNeg) = (30 : Int32) ∨ (S.2.1 (q + 15) x2.toNatClampNeg) = (31 : Int32) then
          if q_inb (S.2.1 (q + 16) x2.toNatClampNeg) 54 = true then (fX12_leave S9 ((S9.2.1 (q + 20) (S.2.1 (q + 16) x2.toNatClampNeg).toNatClampNeg))).bind fun r42 =>
          some (r42) else none
      else if (S.2.1 (q + 15) x2.toNatClampNeg) = (33 : Int32) then
          (fX12_elementOf S9 v6).bind fun r46 =>
          (fX12_leave S9 r46).bind fun r48 =>
          some (r48)
      else if (S.2.1 (q + 15) x2.toNatClampNeg) = (35 : Int32) then
          if q_inb (S.2.1 (q + 16) x2.toNatClampNeg) 48 = true then (fX12_leave S9 ((S9.2.1 (q + 4) (S.2.1 (q + 16) x2.toNatClampNeg).toNatClampNeg))).bind fun r53 =>
          some (r53) else none
      else if (S.2.1 (q + 15) x2.toNatClampNeg) = (37 : Int32) then
          (fX12_leave S9 ((S.2.1 (q + 16) x2.toNatClampNeg))).bind fun r57 =>
          some (r57)
      else if (S.2.1 (q + 15) x2.toNatClampNeg) = (39 : Int32) ∨ (S.2.1 (q + 15) x2.toNatClampNeg) = (40 : Int32) then
          if q_inb (S.2.1 (q + 16) x2.toNatClampNeg) 48 = true then if (S9.2.1 (q + 10) (S.2.1 (q + 16) x2.toNatClampNeg).toNatClampNeg) = (-1 : Int32) then
            some (S9)
          else
            if q_inb (S.2.1 (q + 16) x2.toNatClampNeg) 48 = true then (fX12_leave S9 ((S9.2.1 (q + 10) (S.2.1 (q + 16) x2.toNatClampNeg).toNatClampNeg))).bind fun r63 =>
            some (r63) else none else none
      else (fX12_leaves S9 q x2).bind fun r66 =>
        if r66 = (1 : Int32) then
          (fX12_leave S9 ((0 : Int32))).bind fun r68 =>
          some (r68)
        else
          some (S9))) else none else none
noncomputable def fX12_typesOn_119 (S : QS) (q : Nat) (y2 : Int32) (y3 : Int32) (y4 : Int32) : Option (Bool × QS) :=
  (fX12_typesBehind S q y2).bind fun r1 =>
  (fX12_hasNext r1 y4).bind fun r4 =>
  (Option.bind (α := Int32 × QS) (if r4 = true then
      (fX12_typesTo r1 q ((y2 + (1 : Int32)))).bind fun r6 =>
      (Option.bind (α := Bool) (if r6.1 = true then
          some (true)
        else
          if y3 = 0 then
            some (false)
          else
            some (true)) fun v9 =>
        some (((q_b v9), r6.2)))
    else
      some ((y3, r1))) fun v10 =>
    (fX12_hasLabel v10.2 y4).bind fun r12 =>
    if r12 = true then
      if q_inb y2 1024 = true then (fX12_typesTo v10.2 q ((v10.2.2.1 (q + 16) y2.toNatClampNeg))).bind fun r15 =>
      if r15.1 = true then
        some ((true, r15.2))
      else
        if v10.1 = 0 then
          some ((false, r15.2))
        else
          some ((true, r15.2)) else none
    else
      if v10.1 = 0 ∨ v10.1 = 1 then some (((decide (v10.1 = 1), v10.2))) else none)
noncomputable def tX12_typesOn_5 (q : Nat) (y2 : Int32) (x : Int32 × Int32 × QS) : Option ((Bool × QS) ⊕ (Int32 × Int32 × QS)) :=
  if (x.2.2.2.1 q 5) ≤ x.2.1 then
    (fX12_typesAt x.2.2 q y2).bind fun r18 =>
    if q_inb y2 1024 = true then if (r18.2.1 (q + 15) y2.toNatClampNeg) = (33 : Int32) then
      if q_inb ((r18.2.1 102 23) - (2 : Int32)) 24 = true then if (r18.2.1 171 ((r18.2.1 102 23) - (2 : Int32)).toNatClampNeg) = (1 : Int32) then
        if x.1 = 0 ∨ x.1 = 1 then some (.inl (((decide (x.1 = 1), r18)))) else none
      else
        (fX12_typesOn_119 r18 q y2 x.1 ((r18.2.1 (q + 15) y2.toNatClampNeg))).bind fun r25 => some (.inl (r25)) else none
    else
      (fX12_typesOn_119 r18 q y2 x.1 ((r18.2.1 (q + 15) y2.toNatClampNeg))).bind fun r22 => some (.inl (r22)) else none
  else
    (fX12_covers x.2.2 q x.2.1 y2).bind fun r27 =>
    if r27 = true then
      (fX12_typesAt x.2.2 q y2).bind fun r29 =>
      if q_inb x.2.1 64 = true then if q_inb (12 : Int32) 24 = true then (some (q_sI r29 171 (12 : Int32).toNatClampNeg ((8 : Int32) + (r29.2.1 (q + 25) x.2.1.toNatClampNeg)))).bind fun S34 =>
      if q_inb x.2.1 64 = true then (fX12_typesTo S34 q ((S34.2.1 (q + 24) x.2.1.toNatClampNeg))).bind fun r38 =>
      if r38.1 = true then
        some (.inr ((1 : Int32), (x.2.1 + (1 : Int32)), r38.2))
      else
        if x.1 = 0 then
          some (.inr ((0 : Int32), (x.2.1 + (1 : Int32)), r38.2))
        else
          some (.inr ((1 : Int32), (x.2.1 + (1 : Int32)), r38.2)) else none else none else none
    else
      some (.inr (x.1, (x.2.1 + (1 : Int32)), x.2.2))
noncomputable def fX12_typesOn_5 (S : QS) (q : Nat) (y2 : Int32) (y3 : Int32) (y4 : Int32) : Option (Bool × QS) := q_run (tX12_typesOn_5 q y2) (y3, y4, S)
noncomputable def fX12_typesOn (S : QS) (q : Nat) (x2 : Int32) : Option (Bool × QS) :=
  fX12_typesOn_5 S q x2 ((0 : Int32)) ((0 : Int32))
noncomputable def fX12_isElement (S : QS) (q : Nat) (x1 : Int32) (x2 : Int32) : Option (Bool) :=
  if x1 = (1 : Int32) then
    if x2 = (2 : Int32) then
      some (false)
    else
      some (true)
  else
    (fX12_isArrayType S x1).bind fun r1 =>
    if r1 = true then
      (fX12_elementOf S x1).bind fun r3 =>
      (fX12_isBelow S q x2 r3).bind fun r5 =>
      if r5 = true then
        some (true)
      else
        some (false)
    else
      some (false)
noncomputable def tX12_areArguments_11 (S : QS) (q : Nat) (y2 : Int32) (y3 : Int32) (y4 : Int32) (x : Int32) : Option ((Bool) ⊕ (Int32)) :=
  if y4 ≤ x then
    some (.inl ((true)))
  else
    (Option.bind (α := Int32) (if x = 0 then
        if q_inb y2 1024 = true then if (S.2.1 (q + 15) y2.toNatClampNeg) = (40 : Int32) then
          if q_inb y2 1024 = true then some (((8 : Int32) + (S.2.1 (q + 17) y2.toNatClampNeg))) else none
        else
          if q_inb ((y3 * (12 : Int32)) + x) 576 = true then some ((S.2.1 (q + 9) ((y3 * (12 : Int32)) + x).toNatClampNeg)) else none else none
      else
        if q_inb ((y3 * (12 : Int32)) + x) 576 = true then some ((S.2.1 (q + 9) ((y3 * (12 : Int32)) + x).toNatClampNeg)) else none) fun v5 =>
      if q_inb (((S.2.1 102 23) - y4) + x) 24 = true then (fX12_isBelow S q ((S.2.1 171 (((S.2.1 102 23) - y4) + x).toNatClampNeg)) v5).bind fun r7 =>
      if r7 = true then
        some (.inr (x + (1 : Int32)))
      else
        some (.inl ((false))) else none)
noncomputable def fX12_areArguments_11 (S : QS) (q : Nat) (y2 : Int32) (y3 : Int32) (y4 : Int32) (y5 : Int32) : Option (Bool) := q_run (tX12_areArguments_11 S q y2 y3 y4) y5
noncomputable def fX12_areArguments (S : QS) (q : Nat) (x2 : Int32) (x3 : Int32) : Option (Bool) :=
  if q_inb x3 48 = true then fX12_areArguments_11 S q x2 x3 ((S.2.1 (q + 8) x3.toNatClampNeg)) ((0 : Int32)) else none
noncomputable def fX12_fits (S : QS) (q : Nat) (x2 : Int32) : Option (Bool × QS) :=
  (fX12_typesAt S q x2).bind fun r1 =>
  if q_inb x2 1024 = true then if q_inb x2 1024 = true then (fX12_howMany r1 q x2).bind fun r6 =>
  (Option.bind (α := Int32) (if r6 ≤ 0 then
      some ((2 : Int32))
    else
      if q_inb ((r1.2.1 102 23) - (1 : Int32)) 24 = true then some ((r1.2.1 171 ((r1.2.1 102 23) - (1 : Int32)).toNatClampNeg)) else none) fun v9 =>
    (Option.bind (α := Int32) (if r6 ≤ (1 : Int32) then
        some ((2 : Int32))
      else
        if q_inb ((r1.2.1 102 23) - (2 : Int32)) 24 = true then some ((r1.2.1 171 ((r1.2.1 102 23) - (2 : Int32)).toNatClampNeg)) else none) fun v11 =>
      if (r1.2.1 (q + 15) x2.toNatClampNeg) = (2 : Int32) then
          if q_inb (r1.2.1 (q + 16) x2.toNatClampNeg) 24 = true then if (r1.2.1 171 (r1.2.1 (q + 16) x2.toNatClampNeg).toNatClampNeg) = (2 : Int32) then
            some ((false, r1))
          else
            some ((true, r1)) else none
      else if (r1.2.1 (q + 15) x2.toNatClampNeg) = (4 : Int32) then
          if q_inb (r1.2.1 (q + 16) x2.toNatClampNeg) 24 = true then if (r1.2.1 171 (r1.2.1 (q + 16) x2.toNatClampNeg).toNatClampNeg) = 0 then
            some ((true, r1))
          else
            some ((false, r1)) else none
      else if (r1.2.1 (q + 15) x2.toNatClampNeg) = (18 : Int32) ∨ (r1.2.1 (q + 15) x2.toNatClampNeg) = (31 : Int32) ∨ (r1.2.1 (q + 15) x2.toNatClampNeg) = (45 : Int32) then
          if v9 = 0 then
            some ((true, r1))
          else
            some ((false, r1))
      else if (r1.2.1 (q + 15) x2.toNatClampNeg) = (26 : Int32) ∨ (r1.2.1 (q + 15) x2.toNatClampNeg) = (27 : Int32) ∨ (r1.2.1 (q + 15) x2.toNatClampNeg) = (37 : Int32) ∨ (r1.2.1 (q + 15) x2.toNatClampNeg) = (38 : Int32) then
          (fX12_isReferenceType r1 v9).bind fun r18 =>
          some ((r18, r1))
      else if (r1.2.1 (q + 15) x2.toNatClampNeg) = (28 : Int32) ∨ (r1.2.1 (q + 15) x2.toNatClampNeg) = (29 : Int32) then
          (fX12_isReferenceType r1 v9).bind fun r21 =>
          if r21 = true then
            (fX12_isReferenceType r1 v11).bind fun r23 =>
            if r23 = true then
              some ((true, r1))
            else
              some ((false, r1))
          else
            some ((false, r1))
      else if (r1.2.1 (q + 15) x2.toNatClampNeg) = (32 : Int32) then
          if v9 = (1 : Int32) then
            some ((true, r1))
          else
            (fX12_isArrayType r1 v9).bind fun r26 =>
            if r26 = true then
              some ((true, r1))
            else
              some ((false, r1))
      else if (r1.2.1 (q + 15) x2.toNatClampNeg) = (33 : Int32) then
          if v9 = 0 then
            if v11 = (1 : Int32) then
              some ((true, r1))
            else
              (fX12_isArrayType r1 v11).bind fun r29 =>
              if r29 = true then
                some ((true, r1))
              else
                some ((false, r1))
          else
            some ((false, r1))
      else if (r1.2.1 (q + 15) x2.toNatClampNeg) = (34 : Int32) then
          if v11 = 0 then
            if q_inb ((r1.2.1 102 23) - (3 : Int32)) 24 = true then (fX12_isElement r1 q ((r1.2.1 171 ((r1.2.1 102 23) - (3 : Int32)).toNatClampNeg)) v9).bind fun r33 =>
            if r33 = true then
              some ((true, r1))
            else
              some ((false, r1)) else none
          else
            some ((false, r1))
      else if (r1.2.1 (q + 15) x2.toNatClampNeg) = (35 : Int32) then
          if q_inb x2 1024 = true then (fX12_isBelow r1 q v9 (((8 : Int32) + (r1.2.1 (q + 17) x2.toNatClampNeg)))).bind fun r37 =>
          some ((r37, r1)) else none
      else if (r1.2.1 (q + 15) x2.toNatClampNeg) = (36 : Int32) then
          if q_inb x2 1024 = true then (fX12_isBelow r1 q v11 (((8 : Int32) + (r1.2.1 (q + 17) x2.toNatClampNeg)))).bind fun r41 =>
          if r41 = true then
            if q_inb (r1.2.1 (q + 16) x2.toNatClampNeg) 48 = true then (fX12_isBelow r1 q v9 ((r1.2.1 (q + 4) (r1.2.1 (q + 16) x2.toNatClampNeg).toNatClampNeg))).bind fun r44 =>
            if r44 = true then
              some ((true, r1))
            else
              some ((false, r1)) else none
          else
            some ((false, r1)) else none
      else if (r1.2.1 (q + 15) x2.toNatClampNeg) = (39 : Int32) ∨ (r1.2.1 (q + 15) x2.toNatClampNeg) = (40 : Int32) then
          (fX12_areArguments r1 q x2 ((r1.2.1 (q + 16) x2.toNatClampNeg))).bind fun r47 =>
          some ((r47, r1))
      else if (r1.2.1 (q + 15) x2.toNatClampNeg) = (41 : Int32) then
          (fX12_isBelow r1 q v9 ((9 : Int32))).bind fun r50 =>
          some ((r50, r1))
      else if (r1.2.1 (q + 15) x2.toNatClampNeg) = (42 : Int32) then
          if q_inb x2 1024 = true then if q_inb (r1.2.1 (q + 18) x2.toNatClampNeg) 48 = true then if (r1.2.1 (q + 10) (r1.2.1 (q + 18) x2.toNatClampNeg).toNatClampNeg) = (-1 : Int32) then
            some ((false, r1))
          else
            if q_inb x2 1024 = true then if q_inb (r1.2.1 (q + 18) x2.toNatClampNeg) 48 = true then (fX12_isBelow r1 q v9 ((r1.2.1 (q + 10) (r1.2.1 (q + 18) x2.toNatClampNeg).toNatClampNeg))).bind fun r57 =>
            if r57 = true then
              some ((true, r1))
            else
              some ((false, r1)) else none else none else none else none
      else if (r1.2.1 (q + 15) x2.toNatClampNeg) = (43 : Int32) then
          if q_inb x2 1024 = true then if q_inb (r1.2.1 (q + 18) x2.toNatClampNeg) 48 = true then if (r1.2.1 (q + 10) (r1.2.1 (q + 18) x2.toNatClampNeg).toNatClampNeg) = (-1 : Int32) then
            some ((true, r1))
          else
            some ((false, r1)) else none else none
      else if (r1.2.1 (q + 15) x2.toNatClampNeg) < (8 : Int32) then
          if (r1.2.1 (q + 15) x2.toNatClampNeg) < (20 : Int32) then
            some ((true, r1))
          else
            if (25 : Int32) < (r1.2.1 (q + 15) x2.toNatClampNeg) then
              some ((true, r1))
            else
              if v9 = 0 then
                if v11 = 0 then
                  some ((true, r1))
                else
                  some ((false, r1))
              else
                some ((false, r1))
        else
          if (r1.2.1 (q + 15) x2.toNatClampNeg) ≤ (17 : Int32) then
            if v9 = 0 then
              if v11 = 0 then
                some ((true, r1))
              else
                some ((false, r1))
            else
              some ((false, r1))
          else
            if (r1.2.1 (q + 15) x2.toNatClampNeg) < (20 : Int32) then
              some ((true, r1))
            else
              if (25 : Int32) < (r1.2.1 (q + 15) x2.toNatClampNeg) then
                some ((true, r1))
              else
                if v9 = 0 then
                  if v11 = 0 then
                    some ((true, r1))
                  else
                    some ((false, r1))
                else
                  some ((false, r1)))) else none else none
noncomputable def tX12_types_168 (q : Nat) (y2 : Int32) (x : Int32 × QS) : Option ((Bool × QS) ⊕ (Int32 × QS)) :=
  if q_inb y2 48 = true then if (x.2.2.1 (q + 13) y2.toNatClampNeg) ≤ x.1 then
    some (.inl (((true, x.2))))
  else
    if q_inb x.1 1024 = true then if (x.2.2.1 (q + 27) x.1.toNatClampNeg) = 0 then
      some (.inr ((x.1 + (1 : Int32)), x.2))
    else
      (fX12_fits x.2 q x.1).bind fun r3 =>
      if r3.1 = true then
        some (.inr ((x.1 + (1 : Int32)), r3.2))
      else
        if q_inb x.1 1024 = true then (fX12_wrong r3.2 ((r3.2.2.1 169 x.1.toNatClampNeg))).bind fun r7 =>
        some (.inl (((r7.1, r7.2)))) else none else none else none
noncomputable def fX12_types_168 (S : QS) (q : Nat) (y2 : Int32) (y5 : Int32) : Option (Bool × QS) := q_run (tX12_types_168 q y2) (y5, S)
noncomputable def tX12_types_113 (q : Nat) (y2 : Int32) (y3 : Int32) (x : Int32 × Int32 × QS) : Option (((Bool × QS) ⊕ (Int32 × QS)) ⊕ (Int32 × Int32 × QS)) :=
  if q_inb y2 48 = true then if (x.2.2.2.1 (q + 13) y2.toNatClampNeg) ≤ x.2.1 then
    some (.inl (.inr (x.1, x.2.2)))
  else
    if q_inb x.2.1 1024 = true then if (x.2.2.2.1 (q + 27) x.2.1.toNatClampNeg) = 0 then
      some (.inr (x.1, (x.2.1 + (1 : Int32)), x.2.2))
    else
      (fX12_typesOn x.2.2 q x.2.1).bind fun r12 =>
      if r12.1 = true then
        some (.inr ((1 : Int32), (x.2.1 + (1 : Int32)), r12.2))
      else
        if x.1 = 0 then
          some (.inr ((0 : Int32), (x.2.1 + (1 : Int32)), r12.2))
        else
          some (.inr ((1 : Int32), (x.2.1 + (1 : Int32)), r12.2)) else none else none
noncomputable def uX12_types_113 (S : QS) (q : Nat) (y2 : Int32) (y3 : Int32) (y4 : Int32) (y5 : Int32) : Option ((Bool × QS) ⊕ (Int32 × QS)) := q_run (tX12_types_113 q y2 y3) (y4, y5, S)
noncomputable def tX12_types_102 (q : Nat) (y2 : Int32) (y3 : Int32) (x : Int32 × QS) : Option ((Bool × QS) ⊕ (Int32 × QS)) :=
  if x.1 = 0 then
    (fX12_types_168 x.2 q y2 y3).bind fun r15 => some (.inl (r15))
  else
    uX12_types_113 x.2 q y2 y3 ((0 : Int32)) y3
noncomputable def fX12_types_102 (S : QS) (q : Nat) (y2 : Int32) (y3 : Int32) (y4 : Int32) : Option (Bool × QS) := q_run (tX12_types_102 q y2 y3) (y4, S)
noncomputable def tX12_types_47 (q : Nat) (y2 : Int32) (y3 : Int32) (x : Int32 × QS) : Option ((Bool × QS) ⊕ (Int32 × QS)) :=
  if (12 : Int32) ≤ x.1 then
    (fX12_types_102 x.2 q y2 y3 ((1 : Int32))).bind fun r17 => some (.inl (r17))
  else
    if q_inb y2 48 = true then if (x.2.2.1 (q + 8) y2.toNatClampNeg) ≤ x.1 then
      if q_inb ((y3 * (20 : Int32)) + x.1) 20480 = true then (some (q_sI x.2 (q + 26) ((y3 * (20 : Int32)) + x.1).toNatClampNeg (2 : Int32))).bind fun S21 =>
      some (.inr ((x.1 + (1 : Int32)), S21)) else none
    else
      if q_inb ((y2 * (12 : Int32)) + x.1) 576 = true then if q_inb ((y3 * (20 : Int32)) + x.1) 20480 = true then (some (q_sI x.2 (q + 26) ((y3 * (20 : Int32)) + x.1).toNatClampNeg (x.2.2.1 (q + 9) ((y2 * (12 : Int32)) + x.1).toNatClampNeg))).bind fun S26 =>
      some (.inr ((x.1 + (1 : Int32)), S26)) else none else none else none
noncomputable def fX12_types_47 (S : QS) (q : Nat) (y2 : Int32) (y3 : Int32) (y4 : Int32) : Option (Bool × QS) := q_run (tX12_types_47 q y2 y3) (y4, S)
noncomputable def tX12_types_7 (q : Nat) (y2 : Int32) (x : Int32 × QS) : Option ((Bool × QS) ⊕ (Int32 × QS)) :=
  if q_inb y2 48 = true then if (x.2.2.1 (q + 13) y2.toNatClampNeg) ≤ x.1 then
    if q_inb y2 48 = true then if q_inb (x.2.2.1 (q + 12) y2.toNatClampNeg) 1024 = true then (some (q_sI x.2 (q + 27) (x.2.2.1 (q + 12) y2.toNatClampNeg).toNatClampNeg (vp_nar .boolean (1 : Int32)))).bind fun S32 =>
    (fX12_types_47 S32 q y2 ((x.2.2.1 (q + 12) y2.toNatClampNeg)) ((0 : Int32))).bind fun r35 => some (.inl (r35)) else none else none
  else
    if q_inb x.1 1024 = true then (some (q_sI x.2 (q + 27) x.1.toNatClampNeg (vp_nar .boolean (0 : Int32)))).bind fun S38 =>
    some (.inr ((x.1 + (1 : Int32)), S38)) else none else none
noncomputable def fX12_types_7 (S : QS) (q : Nat) (y2 : Int32) (y3 : Int32) : Option (Bool × QS) := q_run (tX12_types_7 q y2) (y3, S)
noncomputable def fX12_types (S : QS) (q : Nat) (x2 : Int32) : Option (Bool × QS) :=
  if q_inb x2 48 = true then fX12_types_7 S q x2 ((S.2.1 (q + 12) x2.toNatClampNeg)) else none
noncomputable def tX12_fault_70 (q : Nat) (x : Int32 × QS) : Option ((Int32 × QS) ⊕ (Int32 × QS)) :=
  if (x.2.2.1 q 2) ≤ x.1 then
    (some (q_sI x.2 102 12 (-1 : Int32))).bind fun S1 =>
    some (.inl ((((0 : Int32), S1))))
  else
    (fX12_heights x.2 q x.1).bind fun r4 =>
    if r4.1 = true then
      (fX12_types r4.2 q x.1).bind fun r7 =>
      if r7.1 = true then
        some (.inr ((x.1 + (1 : Int32)), r7.2))
      else
        some (.inl ((((4 : Int32), r7.2))))
    else
      some (.inl ((((4 : Int32), r4.2))))
noncomputable def fX12_fault_70 (S : QS) (q : Nat) (y2 : Int32) : Option (Int32 × QS) := q_run (tX12_fault_70 q) (y2, S)
noncomputable def fX12_fault (S : QS) (q : Nat) : Option (Int32 × QS) :=
  (fX12_cut S).bind fun r10 =>
  if r10.1 = true then
    (fX12_isProgram r10.2).bind fun r13 =>
    if r13.1 = true then
      (fX12_classNames r13.2 q).bind fun r16 =>
      if r16.1 = true then
        (fX12_members r16.2 q).bind fun r19 =>
        if r19.1 = true then
          (fX12_lines r19.2 q).bind fun r22 =>
          if r22.1 = true then
            (fX12_settled r22.2 q).bind fun r25 =>
            if r25.1 = true then
              fX12_fault_70 r25.2 q ((0 : Int32))
            else
              some (((3 : Int32), r25.2))
          else
            some (((3 : Int32), r22.2))
        else
          some (((3 : Int32), r19.2))
      else
        some (((3 : Int32), r16.2))
    else
      (some (q_sI r13.2 102 12 (r13.2.2.1 102 11))).bind fun S28 =>
      some (((2 : Int32), S28))
  else
    (some (q_sI r10.2 102 12 (r10.2.2.1 102 10))).bind fun S31 =>
    some (((1 : Int32), S31))
noncomputable def fX12_load (S : QS) (q : Nat) (qs : Nat) : Option (Int32 × QS) :=
  (fX12_fault S qs).bind fun r1 =>
  (some (q_sI r1.2 102 7 (0 : Int32))).bind fun S4 =>
  if r1.1 ≤ 0 then
    (some (q_sR S4 102 0 qs)).bind fun S7 =>
    (some (q_sR S7 102 1 q)).bind fun S11 =>
    (some (q_sI S11 102 2 (1 : Int32))).bind fun S15 =>
    some (((0 : Int32), S15))
  else
    some ((r1.1, S4))
noncomputable def fX12_faultAt (S : QS) : Option (Int32) :=
  some ((S.2.1 102 12))
noncomputable def fX12_size (S : QS) (q : Nat) (x1 : Int32) : Option (Int32) :=
  if (S.2.1 102 2) = 0 then
    some ((-1 : Int32))
  else
    if x1 = 0 then
      some ((S.2.1 q 3))
    else
      if x1 = (1 : Int32) then
        some ((S.2.1 q 4))
      else
        if x1 = (2 : Int32) then
          some ((S.2.1 q 2))
        else
          if x1 = (3 : Int32) then
            some ((S.2.1 q 1))
          else
            if x1 = (4 : Int32) then
              some ((S.2.1 q 0))
            else
              if x1 = (5 : Int32) then
                some ((S.2.1 q 5))
              else
                some ((-1 : Int32))
noncomputable def fX12_height (S : QS) (q : Nat) (x1 : Int32) : Option (Int32) :=
  if (S.2.1 102 2) = 0 then
    some ((-1 : Int32))
  else
    if x1 < 0 then
      some ((-1 : Int32))
    else
      if (S.2.1 q 3) ≤ x1 then
        some ((-1 : Int32))
      else
        if q_inb x1 1024 = true then some ((S.2.1 (q + 19) x1.toNatClampNeg)) else none
noncomputable def fX12_input (S : QS) (x1 : Int32) : Option (Bool × QS) :=
  if (S.2.1 102 38) = (256 : Int32) then
    some ((false, S))
  else
    if q_inb (S.2.1 102 38) 256 = true then (some (q_sI S 181 (S.2.1 102 38).toNatClampNeg x1)).bind fun S2 =>
    (some (q_sI S2 102 38 ((S2.2.1 102 38) + (1 : Int32)))).bind fun S5 =>
    some ((true, S5)) else none
noncomputable def tX12_enter_2 (q : Nat) (y1 : Int32) (x : Int32 × QS) : Option ((QS) ⊕ (Int32 × QS)) :=
  if (12 : Int32) ≤ x.1 then
    if q_inb (x.2.2.1 102 35) 64 = true then (some (q_sI x.2 174 (x.2.2.1 102 35).toNatClampNeg (0 : Int32))).bind fun S2 =>
    if q_inb y1 48 = true then if q_inb (S2.2.1 102 35) 64 = true then (some (q_sI S2 175 (S2.2.1 102 35).toNatClampNeg (S2.2.1 (q + 12) y1.toNatClampNeg))).bind fun S7 =>
    (some (q_sI S7 102 35 ((S7.2.1 102 35) + (1 : Int32)))).bind fun S10 =>
    some (.inl ((S10))) else none else none else none
  else
    if q_inb (((x.2.2.1 102 35) * (12 : Int32)) + x.1) 768 = true then (some (q_sJ x.2 172 (((x.2.2.1 102 35) * (12 : Int32)) + x.1).toNatClampNeg (1125899906842624 : Int64))).bind fun S14 =>
    some (.inr ((x.1 + (1 : Int32)), S14)) else none
noncomputable def fX12_enter_2 (S : QS) (q : Nat) (y1 : Int32) (y2 : Int32) : Option (QS) := q_run (tX12_enter_2 q y1) (y2, S)
noncomputable def fX12_enter (S : QS) (q : Nat) (x1 : Int32) : Option (QS) :=
  fX12_enter_2 S q x1 ((0 : Int32))
noncomputable def fX12_local (S : QS) (x1 : Int32) : Option (Int64) :=
  if q_inb ((((S.2.1 102 35) - (1 : Int32)) * (12 : Int32)) + x1) 768 = true then some ((S.2.2.1 172 ((((S.2.1 102 35) - (1 : Int32)) * (12 : Int32)) + x1).toNatClampNeg)) else none
noncomputable def fX12_isInt (S : QS) (x0 : Int64) : Option (Bool) :=
  if 0 ≤ (lg_cmp x0 (1099511627776 : Int64)) then
    some (false)
  else
    if (lg_cmp x0 (1125899906842624 : Int64)) = 0 then
      some (false)
    else
      some (true)
noncomputable def fX12_objectOf (S : QS) (x0 : Int64) : Option (Int32) :=
  some (((x0 - (1099511627776 : Int64)) - (1 : Int64)).toInt32)
noncomputable def fX12_isOf (S : QS) (q : Nat) (x1 : Int64) (x3 : Int32) : Option (Bool) :=
  if x3 = (2 : Int32) then
    some (true)
  else
    if x3 = 0 then
      (fX12_isInt S x1).bind fun r8 =>
      some (r8)
    else
      (fX12_isInt S x1).bind fun r1 =>
      if r1 = true then
        some (false)
      else
        if (lg_cmp x1 (1125899906842624 : Int64)) = 0 then
          some (false)
        else
          if (lg_cmp x1 (1099511627776 : Int64)) = 0 then
            some (true)
          else
            if x3 = (1 : Int32) then
              some (false)
            else
              (fX12_objectOf S x1).bind fun r3 =>
              if q_inb r3 2000 = true then (fX12_isBelow S q ((S.2.1 176 r3.toNatClampNeg)) x3).bind fun r6 =>
              if r6 = true then
                some (true)
              else
                some (false) else none
noncomputable def tX12_holds_38 (S : QS) (q : Nat) (y1 : Int32) (x : Int32) : Option ((Bool) ⊕ (Int32)) :=
  if q_inb y1 1024 = true then if ((12 : Int32) + (S.2.1 (q + 19) y1.toNatClampNeg)) ≤ x then
    if q_inb y1 1024 = true then if (S.2.1 (q + 15) y1.toNatClampNeg) = (2 : Int32) then
      if q_inb y1 1024 = true then (fX12_local S ((S.2.1 (q + 16) y1.toNatClampNeg))).bind fun r4 =>
      if (lg_cmp r4 (1125899906842624 : Int64)) = 0 then
        some (.inl ((false)))
      else
        some (.inl ((true))) else none
    else
      some (.inl ((true))) else none
  else
    (Option.bind (α := Int64) (if (12 : Int32) ≤ x then
        if q_inb (((((S.2.1 102 35) - (1 : Int32)) * (8 : Int32)) + x) - (12 : Int32)) 512 = true then some ((S.2.2.1 173 (((((S.2.1 102 35) - (1 : Int32)) * (8 : Int32)) + x) - (12 : Int32)).toNatClampNeg)) else none
      else
        (fX12_local S x).bind fun r7 =>
        some (r7)) fun v9 =>
      if q_inb ((y1 * (20 : Int32)) + x) 20480 = true then (fX12_isOf S q v9 ((S.2.1 (q + 26) ((y1 * (20 : Int32)) + x).toNatClampNeg))).bind fun r11 =>
      if r11 = true then
        some (.inr (x + (1 : Int32)))
      else
        some (.inl ((false))) else none) else none
noncomputable def fX12_holds_38 (S : QS) (q : Nat) (y1 : Int32) (y3 : Int32) : Option (Bool) := q_run (tX12_holds_38 S q y1) y3
noncomputable def fX12_holds (S : QS) (q : Nat) (x1 : Int32) : Option (Bool) :=
  if q_inb x1 1024 = true then if (S.2.1 (q + 27) x1.toNatClampNeg) = 0 then
    some (false)
  else
    if q_inb x1 1024 = true then if q_inb ((S.2.1 102 35) - (1 : Int32)) 64 = true then if (S.2.1 (q + 19) x1.toNatClampNeg) = (S.2.1 174 ((S.2.1 102 35) - (1 : Int32)).toNatClampNeg) then
      fX12_holds_38 S q x1 ((0 : Int32))
    else
      some (false) else none else none else none
noncomputable def fX12_push (S : QS) (x1 : Int64) : Option (QS) :=
  if q_inb ((S.2.1 102 35) - (1 : Int32)) 64 = true then if q_inb ((((S.2.1 102 35) - (1 : Int32)) * (8 : Int32)) + (S.2.1 174 ((S.2.1 102 35) - (1 : Int32)).toNatClampNeg)) 512 = true then (some (q_sJ S 173 ((((S.2.1 102 35) - (1 : Int32)) * (8 : Int32)) + (S.2.1 174 ((S.2.1 102 35) - (1 : Int32)).toNatClampNeg)).toNatClampNeg x1)).bind fun S3 =>
  if q_inb ((S3.2.1 102 35) - (1 : Int32)) 64 = true then if q_inb ((S3.2.1 102 35) - (1 : Int32)) 64 = true then (some (q_sI S3 174 ((S3.2.1 102 35) - (1 : Int32)).toNatClampNeg ((S3.2.1 174 ((S3.2.1 102 35) - (1 : Int32)).toNatClampNeg) + (1 : Int32)))).bind fun S8 =>
  some (S8) else none else none else none else none
noncomputable def fX12_pop (S : QS) : Option (Int64 × QS) :=
  if q_inb ((S.2.1 102 35) - (1 : Int32)) 64 = true then if q_inb ((S.2.1 102 35) - (1 : Int32)) 64 = true then (some (q_sI S 174 ((S.2.1 102 35) - (1 : Int32)).toNatClampNeg ((S.2.1 174 ((S.2.1 102 35) - (1 : Int32)).toNatClampNeg) - (1 : Int32)))).bind fun S3 =>
  if q_inb ((S3.2.1 102 35) - (1 : Int32)) 64 = true then if q_inb ((((S3.2.1 102 35) - (1 : Int32)) * (8 : Int32)) + (S3.2.1 174 ((S3.2.1 102 35) - (1 : Int32)).toNatClampNeg)) 512 = true then some (((S3.2.2.1 173 ((((S3.2.1 102 35) - (1 : Int32)) * (8 : Int32)) + (S3.2.1 174 ((S3.2.1 102 35) - (1 : Int32)).toNatClampNeg)).toNatClampNeg), S3)) else none else none else none else none
noncomputable def fX12_ended (S : QS) (x1 : Int32) (x2 : Int32) : Option (QS) :=
  (some (q_sI S 102 44 x1)).bind fun S1 =>
  (some (q_sI S1 102 42 x2)).bind fun S4 =>
  some (S4)
noncomputable def fX12_object (S : QS) (x1 : Int32) (x2 : Int32) (x3 : Int32) (x4 : Int32) : Option (Int64 × QS) :=
  if (S.2.1 102 36) = (2000 : Int32) then
    (fX12_ended S ((3 : Int32)) x4).bind fun r1 =>
    some (((0 : Int64), r1))
  else
    if ((S.2.1 102 37) + x3) ≤ (12000 : Int32) then
      if q_inb (S.2.1 102 36) 2000 = true then (some (q_sI S 176 (S.2.1 102 36).toNatClampNeg x1)).bind fun S5 =>
      if q_inb (S5.2.1 102 36) 2000 = true then (some (q_sI S5 177 (S5.2.1 102 36).toNatClampNeg x2)).bind fun S9 =>
      if q_inb (S9.2.1 102 36) 2000 = true then (some (q_sI S9 178 (S9.2.1 102 36).toNatClampNeg (S9.2.1 102 37))).bind fun S13 =>
      if q_inb (S13.2.1 102 36) 2000 = true then (some (q_sI S13 179 (S13.2.1 102 36).toNatClampNeg x3)).bind fun S17 =>
      (some (q_sI S17 102 37 ((S17.2.1 102 37) + x3))).bind fun S20 =>
      (some (q_sI S20 102 36 ((S20.2.1 102 36) + (1 : Int32)))).bind fun S23 =>
      some ((((1099511627776 : Int64) + (S23.2.1 102 36).toInt64), S23)) else none else none else none else none
    else
      (fX12_ended S ((3 : Int32)) x4).bind fun r26 =>
      some (((0 : Int64), r26))
noncomputable def tX12_toss_34 (q : Nat) (y1 : Int64) (y3 : Int32) (y4 : Int32) (y5 : Int32) (x : Int32 × QS) : Option (((QS) ⊕ (QS)) ⊕ (Int32 × QS)) :=
  if (x.2.2.1 q 5) ≤ x.1 then
    (some (q_sI x.2 102 35 ((x.2.2.1 102 35) - (1 : Int32)))).bind fun S1 =>
    some (.inl (.inr S1))
  else
    (fX12_covers x.2 q x.1 y5).bind fun r4 =>
    if r4 = true then
      if q_inb x.1 64 = true then (fX12_isBelow x.2 q y4 (((8 : Int32) + (x.2.2.1 (q + 25) x.1.toNatClampNeg)))).bind fun r7 =>
      if r7 = true then
        if q_inb ((x.2.2.1 102 35) - (1 : Int32)) 64 = true then (some (q_sI x.2 174 ((x.2.2.1 102 35) - (1 : Int32)).toNatClampNeg (0 : Int32))).bind fun S10 =>
        (fX12_push S10 y1).bind fun r13 =>
        if q_inb x.1 64 = true then if q_inb ((r13.2.1 102 35) - (1 : Int32)) 64 = true then (some (q_sI r13 175 ((r13.2.1 102 35) - (1 : Int32)).toNatClampNeg (r13.2.1 (q + 24) x.1.toNatClampNeg))).bind fun S18 =>
        some (.inl (.inl ((S18)))) else none else none else none
      else
        some (.inr ((x.1 + (1 : Int32)), x.2)) else none
    else
      some (.inr ((x.1 + (1 : Int32)), x.2))
noncomputable def uX12_toss_34 (S : QS) (q : Nat) (y1 : Int64) (y3 : Int32) (y4 : Int32) (y5 : Int32) (y6 : Int32) : Option ((QS) ⊕ (QS)) := q_run (tX12_toss_34 q y1 y3 y4 y5) (y6, S)
noncomputable def tX12_toss_11 (q : Nat) (y1 : Int64) (y3 : Int32) (y4 : Int32) (x : QS) : Option ((QS) ⊕ (QS)) :=
  if (x.2.1 102 35) ≤ 0 then
    (fX12_objectOf x y1).bind fun r21 =>
    if q_inb r21 2000 = true then (some (q_sI x 102 43 (x.2.1 177 r21.toNatClampNeg))).bind fun S24 =>
    (fX12_ended S24 ((1 : Int32)) y3).bind fun r27 =>
    some (.inl ((r27))) else none
  else
    if q_inb ((x.2.1 102 35) - (1 : Int32)) 64 = true then uX12_toss_34 x q y1 y3 y4 ((x.2.1 175 ((x.2.1 102 35) - (1 : Int32)).toNatClampNeg)) ((0 : Int32)) else none
noncomputable def fX12_toss_11 (S : QS) (q : Nat) (y1 : Int64) (y3 : Int32) (y4 : Int32) : Option (QS) := q_run (tX12_toss_11 q y1 y3 y4) S
noncomputable def fX12_toss (S : QS) (q : Nat) (x1 : Int64) (x3 : Int32) : Option (QS) :=
  (fX12_objectOf S x1).bind fun r31 =>
  if q_inb r31 2000 = true then fX12_toss_11 S q x1 x3 ((S.2.1 176 r31.toNatClampNeg)) else none
noncomputable def fX12_raise (S : QS) (q : Nat) (x1 : Int32) (x2 : Int32) : Option (QS) :=
  (fX12_object S (((10 : Int32) + x1)) (((48 : Int32) + x1)) ((0 : Int32)) x2).bind fun r1 =>
  if (lg_cmp r1.1 (0 : Int64)) = 0 then
    some (r1.2)
  else
    (fX12_toss r1.2 q r1.1 x2).bind fun r4 =>
    some (r4)
noncomputable def fX12_next (S : QS) : Option (QS) :=
  if q_inb ((S.2.1 102 35) - (1 : Int32)) 64 = true then if q_inb ((S.2.1 102 35) - (1 : Int32)) 64 = true then (some (q_sI S 175 ((S.2.1 102 35) - (1 : Int32)).toNatClampNeg ((S.2.1 175 ((S.2.1 102 35) - (1 : Int32)).toNatClampNeg) + (1 : Int32)))).bind fun S3 =>
  some (S3) else none else none
noncomputable def fX12_reckon_36 (S : QS) (q : Nat) (y1 : Int32) (y3 : Int32) (y4 : Int32) : Option (QS) :=
  (Option.bind (α := Int64) (if y1 = (8 : Int32) then
      some ((y4 + y3).toInt64)
    else
      if y1 = (9 : Int32) then
        some ((y4 - y3).toInt64)
      else
        if y1 = (10 : Int32) then
          some ((y4 * y3).toInt64)
        else
          if y1 = (11 : Int32) then
            if ¬ y3 = 0 then some ((y4 / y3).toInt64) else none
          else
            if y1 = (12 : Int32) then
              if ¬ y3 = 0 then some ((y4 - y4 / y3 * y3).toInt64) else none
            else
              if y1 = (13 : Int32) then
                some ((y4 &&& y3).toInt64)
              else
                if y1 = (14 : Int32) then
                  some ((y4 ||| y3).toInt64)
                else
                  if y1 = (15 : Int32) then
                    some ((y4 ^^^ y3).toInt64)
                  else
                    if y1 = (16 : Int32) then
                      some ((y4 <<< ((y3 &&& (31 : Int32)) &&& 31)).toInt64)
                    else
                      some ((y4 >>> ((y3 &&& (31 : Int32)) &&& 31)).toInt64)) fun v3 =>
    (fX12_push S v3).bind fun r4 =>
    (fX12_next r4).bind fun r7 =>
    some (r7))
noncomputable def fX12_reckon_25 (S : QS) (q : Nat) (y1 : Int32) (y2 : Int32) (y3 : Int32) (y4 : Int32) : Option (QS) :=
  if y3 = 0 then
    (fX12_raise S q ((3 : Int32)) y2).bind fun r10 =>
    some (r10)
  else
    fX12_reckon_36 S q y1 y3 y4
noncomputable def fX12_reckon (S : QS) (q : Nat) (x1 : Int32) (x2 : Int32) : Option (QS) :=
  (fX12_pop S).bind fun r13 =>
  (fX12_pop r13.2).bind fun r16 =>
  if x1 = (11 : Int32) then
    fX12_reckon_25 r16.2 q x1 x2 r13.1.toInt32 r16.1.toInt32
  else
    if x1 = (12 : Int32) then
      fX12_reckon_25 r16.2 q x1 x2 r13.1.toInt32 r16.1.toInt32
    else
      fX12_reckon_36 r16.2 q x1 r13.1.toInt32 r16.1.toInt32
noncomputable def fX12_branch (S : QS) (x1 : Int32) (x2 : Int32) : Option (QS) :=
  (fX12_pop S).bind fun r1 =>
  (Option.bind (α := Bool × QS) (if x1 = (26 : Int32) then
      (Option.bind (α := Bool) (if (lg_cmp r1.1 (1099511627776 : Int64)) = 0 then
          some (true)
        else
          some (false)) fun v4 =>
        (Option.bind (α := Bool) (if x1 = (26 : Int32) then
            some (true)
          else
            some (false)) fun v5 =>
          (Option.bind (α := Bool) (if (q_b v4) = (q_b v5) then
              some (true)
            else
              some (false)) fun v6 =>
            some ((v6, r1.2)))))
    else
      if x1 = (27 : Int32) then
        if (lg_cmp r1.1 (1099511627776 : Int64)) = 0 then
          if x1 = (26 : Int32) then
            if (1 : Int32) = (1 : Int32) then
              some ((true, r1.2))
            else
              some ((false, r1.2))
          else
            if (1 : Int32) = (0 : Int32) then
              some ((true, r1.2))
            else
              some ((false, r1.2))
        else
          if x1 = (26 : Int32) then
            if (0 : Int32) = (1 : Int32) then
              some ((true, r1.2))
            else
              some ((false, r1.2))
          else
            if (0 : Int32) = (0 : Int32) then
              some ((true, r1.2))
            else
              some ((false, r1.2))
      else
        (fX12_pop r1.2).bind fun r7 =>
        (Option.bind (α := Bool) (if x1 = (20 : Int32) then
            if (lg_cmp r7.1 r1.1) = 0 then
              some (true)
            else
              some (false)
          else
            if x1 = (28 : Int32) then
              if (lg_cmp r7.1 r1.1) = 0 then
                some (true)
              else
                some (false)
            else
              if x1 = (21 : Int32) then
                if (lg_cmp r7.1 r1.1) = 0 then
                  some (false)
                else
                  some (true)
              else
                if x1 = (29 : Int32) then
                  if (lg_cmp r7.1 r1.1) = 0 then
                    some (false)
                  else
                    some (true)
                else
                  if x1 = (22 : Int32) then
                    if 0 ≤ (lg_cmp r7.1 r1.1) then
                      some (false)
                    else
                      some (true)
                  else
                    if x1 = (23 : Int32) then
                      if 0 < (lg_cmp r7.1 r1.1) then
                        some (false)
                      else
                        some (true)
                    else
                      if x1 = (24 : Int32) then
                        if (lg_cmp r7.1 r1.1) ≤ 0 then
                          some (false)
                        else
                          some (true)
                      else
                        if (lg_cmp r7.1 r1.1) < 0 then
                          some (false)
                        else
                          some (true)) fun v10 =>
          some ((v10, r7.2)))) fun v11 =>
    if v11.1 = true then
      if q_inb ((v11.2.2.1 102 35) - (1 : Int32)) 64 = true then (some (q_sI v11.2 175 ((v11.2.2.1 102 35) - (1 : Int32)).toNatClampNeg x2)).bind fun S17 =>
      some (S17) else none
    else
      (fX12_next v11.2).bind fun r13 =>
      some (r13))
noncomputable def tX12_make_145 (q : Nat) (y4 : Int32) (y6 : Int64) (y8 : Int32) (x : Int32 × QS) : Option ((QS) ⊕ (Int32 × QS)) :=
  if (x.2.2.1 q 1) ≤ x.1 then
    (fX12_push x.2 y6).bind fun r1 =>
    (fX12_next r1).bind fun r4 =>
    some (.inl ((r4)))
  else
    if q_inb x.1 48 = true then if (x.2.2.1 (q + 4) x.1.toNatClampNeg) = 0 then
      if q_inb x.1 48 = true then (fX12_isAtOrBelow x.2 q ((y4 - (8 : Int32))) ((x.2.2.1 (q + 3) x.1.toNatClampNeg))).bind fun r9 =>
      if r9 = true then
        if q_inb x.1 48 = true then if q_inb (y8 + (x.2.2.1 (q + 5) x.1.toNatClampNeg)) 12000 = true then (some (q_sJ x.2 180 (y8 + (x.2.2.1 (q + 5) x.1.toNatClampNeg)).toNatClampNeg (0 : Int64))).bind fun S13 =>
        some (.inr ((x.1 + (1 : Int32)), S13)) else none else none
      else
        some (.inr ((x.1 + (1 : Int32)), x.2)) else none
    else
      some (.inr ((x.1 + (1 : Int32)), x.2)) else none
noncomputable def fX12_make_145 (S : QS) (q : Nat) (y4 : Int32) (y6 : Int64) (y8 : Int32) (y9 : Int32) : Option (QS) := q_run (tX12_make_145 q y4 y6 y8) (y9, S)
noncomputable def tX12_make_93 (q : Nat) (y1 : Int32) (y4 : Int32) (y5 : Int32) (y6 : Int64) (y8 : Int32) (x : Int32 × QS) : Option ((QS) ⊕ (Int32 × QS)) :=
  if y5 ≤ x.1 then
    if y1 = (30 : Int32) then
      (fX12_make_145 x.2 q y4 y6 y8 ((0 : Int32))).bind fun r22 => some (.inl (r22))
    else
      (fX12_push x.2 y6).bind fun r16 =>
      (fX12_next r16).bind fun r19 =>
      some (.inl ((r19)))
  else
    if y1 = (31 : Int32) then
      if y4 = (40 : Int32) then
        if q_inb (y8 + x.1) 12000 = true then (some (q_sJ x.2 180 (y8 + x.1).toNatClampNeg (0 : Int64))).bind fun S33 =>
        some (.inr ((x.1 + (1 : Int32)), S33)) else none
      else
        if q_inb (y8 + x.1) 12000 = true then (some (q_sJ x.2 180 (y8 + x.1).toNatClampNeg (1099511627776 : Int64))).bind fun S29 =>
        some (.inr ((x.1 + (1 : Int32)), S29)) else none
    else
      if q_inb (y8 + x.1) 12000 = true then (some (q_sJ x.2 180 (y8 + x.1).toNatClampNeg (1099511627776 : Int64))).bind fun S25 =>
      some (.inr ((x.1 + (1 : Int32)), S25)) else none
noncomputable def fX12_make_93 (S : QS) (q : Nat) (y1 : Int32) (y4 : Int32) (y5 : Int32) (y6 : Int64) (y8 : Int32) (y9 : Int32) : Option (QS) := q_run (tX12_make_93 q y1 y4 y5 y6 y8) (y9, S)
noncomputable def fX12_make (S : QS) (q : Nat) (x1 : Int32) (x2 : Int32) (x3 : Int32) : Option (QS) :=
  if q_inb x2 54 = true then (Option.bind (α := Int32 × QS) (if x1 = (31 : Int32) then
      (fX12_pop S).bind fun r38 =>
      some ((r38.1.toInt32, r38.2))
    else
      if q_inb ((S.2.1 (q + 20) x2.toNatClampNeg) - (8 : Int32)) 32 = true then some (((S.2.1 (q + 2) ((S.2.1 (q + 20) x2.toNatClampNeg) - (8 : Int32)).toNatClampNeg), S)) else none) fun v41 =>
    if 0 ≤ v41.1 then
      (fX12_object v41.2 ((S.2.1 (q + 20) x2.toNatClampNeg)) x2 ((if (12001 : Int32) < v41.1 then (12001 : Int32) else v41.1)) x3).bind fun r43 =>
      if (lg_cmp r43.1 (0 : Int64)) = 0 then
        some (r43.2)
      else
        (fX12_objectOf r43.2 r43.1).bind fun r46 =>
        if q_inb r46 2000 = true then fX12_make_93 r43.2 q x1 ((S.2.1 (q + 20) x2.toNatClampNeg)) v41.1 r43.1 ((r43.2.2.1 178 r46.toNatClampNeg)) ((0 : Int32)) else none
    else
      (fX12_raise v41.2 q ((2 : Int32)) x3).bind fun r49 =>
      some (r49)) else none
noncomputable def fX12_isObject (S : QS) (x0 : Int64) : Option (Bool) :=
  if (lg_cmp x0 (1099511627776 : Int64)) ≤ 0 then
    some (false)
  else
    if (lg_cmp x0 (1125899906842624 : Int64)) = 0 then
      some (false)
    else
      some (true)
noncomputable def fX12_elementStep (S : QS) (q : Nat) (x1 : Int32) (x2 : Int32) : Option (QS) :=
  (Option.bind (α := Int64 × QS) (if x1 = (34 : Int32) then
      (fX12_pop S).bind fun r1 =>
      some ((r1.1, r1.2))
    else
      some (((0 : Int64), S))) fun v4 =>
    (fX12_pop v4.2).bind fun r6 =>
    (fX12_pop r6.2).bind fun r9 =>
    if (lg_cmp r9.1 (1099511627776 : Int64)) = 0 then
      (fX12_raise r9.2 q ((0 : Int32)) x2).bind fun r56 =>
      some (r56)
    else
      (fX12_objectOf r9.2 r9.1).bind fun r12 =>
      if (lg_cmp r6.1 (0 : Int64)) < 0 then
        (fX12_raise r9.2 q ((1 : Int32)) x2).bind fun r14 =>
        some (r14)
      else
        if q_inb r12 2000 = true then if (lg_cmp r6.1 (r9.2.2.1 179 r12.toNatClampNeg).toInt64) < 0 then
          if q_inb r12 2000 = true then if x1 = (33 : Int32) then
            if q_inb ((r9.2.2.1 178 r12.toNatClampNeg) + r6.1.toInt32) 12000 = true then (fX12_push r9.2 ((r9.2.2.2.1 180 ((r9.2.2.1 178 r12.toNatClampNeg) + r6.1.toInt32).toNatClampNeg))).bind fun r47 =>
            (fX12_next r47).bind fun r50 =>
            some (r50) else none
          else
            (fX12_isObject r9.2 v4.1).bind fun r19 =>
            if r19 = true then
              (fX12_objectOf r9.2 v4.1).bind fun r28 =>
              if q_inb r28 2000 = true then if q_inb r12 2000 = true then (fX12_elementOf r9.2 ((r9.2.2.1 176 r12.toNatClampNeg))).bind fun r32 =>
              (fX12_isBelow r9.2 q ((r9.2.2.1 176 r28.toNatClampNeg)) r32).bind fun r34 =>
              if r34 = true then
                if q_inb ((r9.2.2.1 178 r12.toNatClampNeg) + r6.1.toInt32) 12000 = true then (some (q_sJ r9.2 180 ((r9.2.2.1 178 r12.toNatClampNeg) + r6.1.toInt32).toNatClampNeg v4.1)).bind fun S37 =>
                (fX12_next S37).bind fun r40 =>
                some (r40) else none
              else
                (fX12_raise r9.2 q ((5 : Int32)) x2).bind fun r43 =>
                some (r43) else none else none
            else
              if q_inb ((r9.2.2.1 178 r12.toNatClampNeg) + r6.1.toInt32) 12000 = true then (some (q_sJ r9.2 180 ((r9.2.2.1 178 r12.toNatClampNeg) + r6.1.toInt32).toNatClampNeg v4.1)).bind fun S22 =>
              (fX12_next S22).bind fun r25 =>
              some (r25) else none else none
        else
          (fX12_raise r9.2 q ((1 : Int32)) x2).bind fun r53 =>
          some (r53) else none)
noncomputable def tX12_callStep_141 (q : Nat) (y4 : Int32) (y5 : Int32) (x : Int32 × QS) : Option ((QS) ⊕ (Int32 × QS)) :=
  if y4 ≤ x.1 then
    some (.inl ((x.2)))
  else
    if q_inb (y5 + x.1) 512 = true then if q_inb ((((x.2.2.1 102 35) - (1 : Int32)) * (12 : Int32)) + x.1) 768 = true then (some (q_sJ x.2 172 ((((x.2.2.1 102 35) - (1 : Int32)) * (12 : Int32)) + x.1).toNatClampNeg (x.2.2.2.1 173 (y5 + x.1).toNatClampNeg))).bind fun S3 =>
    some (.inr ((x.1 + (1 : Int32)), S3)) else none else none
noncomputable def fX12_callStep_141 (S : QS) (q : Nat) (y4 : Int32) (y5 : Int32) (y7 : Int32) : Option (QS) := q_run (tX12_callStep_141 q y4 y5) (y7, S)
noncomputable def fX12_callStep_100 (S : QS) (q : Nat) (y3 : Int32) (y4 : Int32) (y5 : Int32) (y6 : Int32) : Option (QS) :=
  if (S.2.1 102 35) = (64 : Int32) then
    (fX12_ended S ((4 : Int32)) y3).bind fun r14 =>
    some (r14)
  else
    if q_inb ((S.2.1 102 35) - (1 : Int32)) 64 = true then if q_inb ((S.2.1 102 35) - (1 : Int32)) 64 = true then (some (q_sI S 174 ((S.2.1 102 35) - (1 : Int32)).toNatClampNeg ((S.2.1 174 ((S.2.1 102 35) - (1 : Int32)).toNatClampNeg) - y4))).bind fun S8 =>
    (fX12_enter S8 q y6).bind fun r11 =>
    fX12_callStep_141 r11 q y4 y5 ((0 : Int32)) else none else none
noncomputable def fX12_callStep (S : QS) (q : Nat) (x1 : Int32) (x2 : Int32) (x3 : Int32) : Option (QS) :=
  if q_inb x2 48 = true then if q_inb ((S.2.1 102 35) - (1 : Int32)) 64 = true then if x1 = (40 : Int32) then
    if q_inb (((((S.2.1 102 35) - (1 : Int32)) * (8 : Int32)) + (S.2.1 174 ((S.2.1 102 35) - (1 : Int32)).toNatClampNeg)) - (S.2.1 (q + 8) x2.toNatClampNeg)) 512 = true then if (lg_cmp (S.2.2.1 173 (((((S.2.1 102 35) - (1 : Int32)) * (8 : Int32)) + (S.2.1 174 ((S.2.1 102 35) - (1 : Int32)).toNatClampNeg)) - (S.2.1 (q + 8) x2.toNatClampNeg)).toNatClampNeg) (1099511627776 : Int64)) = 0 then
      (fX12_raise S q ((0 : Int32)) x3).bind fun r25 =>
      some (r25)
    else
      if q_inb (((((S.2.1 102 35) - (1 : Int32)) * (8 : Int32)) + (S.2.1 174 ((S.2.1 102 35) - (1 : Int32)).toNatClampNeg)) - (S.2.1 (q + 8) x2.toNatClampNeg)) 512 = true then (fX12_objectOf S ((S.2.2.1 173 (((((S.2.1 102 35) - (1 : Int32)) * (8 : Int32)) + (S.2.1 174 ((S.2.1 102 35) - (1 : Int32)).toNatClampNeg)) - (S.2.1 (q + 8) x2.toNatClampNeg)).toNatClampNeg))).bind fun r21 =>
      if q_inb r21 2000 = true then if q_inb ((((S.2.1 176 r21.toNatClampNeg) - (8 : Int32)) * (48 : Int32)) + x2) 1536 = true then fX12_callStep_100 S q x3 ((S.2.1 (q + 8) x2.toNatClampNeg)) ((((((S.2.1 102 35) - (1 : Int32)) * (8 : Int32)) + (S.2.1 174 ((S.2.1 102 35) - (1 : Int32)).toNatClampNeg)) - (S.2.1 (q + 8) x2.toNatClampNeg))) ((S.2.1 (q + 14) ((((S.2.1 176 r21.toNatClampNeg) - (8 : Int32)) * (48 : Int32)) + x2).toNatClampNeg)) else none else none else none else none
  else
    fX12_callStep_100 S q x3 ((S.2.1 (q + 8) x2.toNatClampNeg)) ((((((S.2.1 102 35) - (1 : Int32)) * (8 : Int32)) + (S.2.1 174 ((S.2.1 102 35) - (1 : Int32)).toNatClampNeg)) - (S.2.1 (q + 8) x2.toNatClampNeg))) x2 else none else none
noncomputable def fX12_objectStep_287 (S : QS) (q : Nat) (y1 : Int32) (y11 : Int64) (y13 : Int32) : Option (QS) :=
  (Option.bind (α := Int64) (if y1 = (37 : Int32) then
      some (y11)
    else
      if y13 = 0 then
        some ((0 : Int64))
      else
        some ((1 : Int64))) fun v1 =>
    (fX12_push S v1).bind fun r2 =>
    (fX12_next r2).bind fun r5 =>
    some (r5))
noncomputable def fX12_objectStep (S : QS) (q : Nat) (x1 : Int32) (x2 : Int32) (x3 : Int32) : Option (QS) :=
  if x1 = (30 : Int32) ∨ x1 = (31 : Int32) then
      (fX12_make S q x1 x2 x3).bind fun r9 =>
      some (r9)
  else if x1 = (32 : Int32) then
      (fX12_pop S).bind fun r13 =>
      if (lg_cmp r13.1 (1099511627776 : Int64)) = 0 then
        (fX12_raise r13.2 q ((0 : Int32)) x3).bind fun r25 =>
        some (r25)
      else
        (fX12_objectOf r13.2 r13.1).bind fun r16 =>
        if q_inb r16 2000 = true then (fX12_push r13.2 ((r13.2.2.1 179 r16.toNatClampNeg).toInt64)).bind fun r19 =>
        (fX12_next r19).bind fun r22 =>
        some (r22) else none
  else if x1 = (33 : Int32) ∨ x1 = (34 : Int32) then
      (fX12_elementStep S q x1 x3).bind fun r29 =>
      some (r29)
  else if x1 = (35 : Int32) ∨ x1 = (36 : Int32) then
      (Option.bind (α := Int64 × QS) (if x1 = (36 : Int32) then
          (fX12_pop S).bind fun r33 =>
          some ((r33.1, r33.2))
        else
          some (((0 : Int64), S))) fun v36 =>
        (fX12_pop v36.2).bind fun r38 =>
        if (lg_cmp r38.1 (1099511627776 : Int64)) = 0 then
          (fX12_raise r38.2 q ((0 : Int32)) x3).bind fun r59 =>
          some (r59)
        else
          (fX12_objectOf r38.2 r38.1).bind fun r41 =>
          if q_inb r41 2000 = true then if q_inb x2 48 = true then if x1 = (36 : Int32) then
            if q_inb ((r38.2.2.1 178 r41.toNatClampNeg) + (r38.2.2.1 (q + 5) x2.toNatClampNeg)) 12000 = true then (some (q_sJ r38.2 180 ((r38.2.2.1 178 r41.toNatClampNeg) + (r38.2.2.1 (q + 5) x2.toNatClampNeg)).toNatClampNeg v36.1)).bind fun S53 =>
            (fX12_next S53).bind fun r56 =>
            some (r56) else none
          else
            if q_inb ((r38.2.2.1 178 r41.toNatClampNeg) + (r38.2.2.1 (q + 5) x2.toNatClampNeg)) 12000 = true then (fX12_push r38.2 ((r38.2.2.2.1 180 ((r38.2.2.1 178 r41.toNatClampNeg) + (r38.2.2.1 (q + 5) x2.toNatClampNeg)).toNatClampNeg))).bind fun r46 =>
            (fX12_next r46).bind fun r49 =>
            some (r49) else none else none else none)
  else if x1 = (37 : Int32) ∨ x1 = (38 : Int32) then
      (fX12_pop S).bind fun r63 =>
      (Option.bind (α := Bool) (if (lg_cmp r63.1 (1099511627776 : Int64)) = 0 then
          some (false)
        else
          (fX12_objectOf r63.2 r63.1).bind fun r66 =>
          if q_inb r66 2000 = true then (fX12_isBelow r63.2 q ((r63.2.2.1 176 r66.toNatClampNeg)) x2).bind fun r69 =>
          if r69 = true then
            some (true)
          else
            some (false) else none) fun v71 =>
        if x1 = (37 : Int32) then
          if (lg_cmp r63.1 (1099511627776 : Int64)) = 0 then
            fX12_objectStep_287 r63.2 q x1 r63.1 ((q_b v71))
          else
            if v71 = true then
              fX12_objectStep_287 r63.2 q x1 r63.1 ((q_b v71))
            else
              (fX12_raise r63.2 q ((4 : Int32)) x3).bind fun r72 =>
              some (r72)
        else
          fX12_objectStep_287 r63.2 q x1 r63.1 ((q_b v71)))
  else if x1 = (39 : Int32) ∨ x1 = (40 : Int32) then
      (fX12_callStep S q x1 x2 x3).bind fun r76 =>
      some (r76)
  else if x1 = (41 : Int32) then
      (fX12_pop S).bind fun r80 =>
      if (lg_cmp r80.1 (1099511627776 : Int64)) = 0 then
        (fX12_raise r80.2 q ((0 : Int32)) x3).bind fun r86 =>
        some (r86)
      else
        (fX12_toss r80.2 q r80.1 x3).bind fun r83 =>
        some (r83)
  else (Option.bind (α := Int64 × QS) (if x1 = (42 : Int32) then
        (fX12_pop S).bind fun r89 =>
        some ((r89.1, r89.2))
      else
        some (((0 : Int64), S))) fun v92 =>
      if (v92.2.2.1 102 35) = (1 : Int32) then
        (fX12_ended v92.2 ((0 : Int32)) x3).bind fun r106 =>
        some (r106)
      else
        (some (q_sI v92.2 102 35 ((v92.2.2.1 102 35) - (1 : Int32)))).bind fun S94 =>
        if x1 = (42 : Int32) then
          (fX12_push S94 v92.1).bind fun r100 =>
          (fX12_next r100).bind fun r103 =>
          some (r103)
        else
          (fX12_next S94).bind fun r97 =>
          some (r97))
noncomputable def fX12_step (S : QS) (q : Nat) (x1 : Int32) : Option (QS) :=
  if q_inb x1 1024 = true then if q_inb x1 1024 = true then if (S.2.1 (q + 15) x1.toNatClampNeg) = (0 : Int32) then
      (fX12_push S ((S.2.1 (q + 16) x1.toNatClampNeg).toInt64)).bind fun r4 =>
      (fX12_next r4).bind fun r7 =>
      some (r7)
  else if (S.2.1 (q + 15) x1.toNatClampNeg) = (1 : Int32) then
      (fX12_push S ((1099511627776 : Int64))).bind fun r11 =>
      (fX12_next r11).bind fun r14 =>
      some (r14)
  else if (S.2.1 (q + 15) x1.toNatClampNeg) = (2 : Int32) then
      (fX12_local S ((S.2.1 (q + 16) x1.toNatClampNeg))).bind fun r18 =>
      (fX12_push S r18).bind fun r20 =>
      (fX12_next r20).bind fun r23 =>
      some (r23)
  else if (S.2.1 (q + 15) x1.toNatClampNeg) = (3 : Int32) then
      (fX12_pop S).bind fun r27 =>
      if q_inb ((((S.2.1 102 35) - (1 : Int32)) * (12 : Int32)) + (S.2.1 (q + 16) x1.toNatClampNeg)) 768 = true then (some (q_sJ r27.2 172 ((((S.2.1 102 35) - (1 : Int32)) * (12 : Int32)) + (S.2.1 (q + 16) x1.toNatClampNeg)).toNatClampNeg r27.1)).bind fun S31 =>
      (fX12_next S31).bind fun r34 =>
      some (r34) else none
  else if (S.2.1 (q + 15) x1.toNatClampNeg) = (4 : Int32) then
      (fX12_local S ((S.2.1 (q + 16) x1.toNatClampNeg))).bind fun r38 =>
      if q_inb x1 1024 = true then if q_inb ((((S.2.1 102 35) - (1 : Int32)) * (12 : Int32)) + (S.2.1 (q + 16) x1.toNatClampNeg)) 768 = true then (some (q_sJ S 172 ((((S.2.1 102 35) - (1 : Int32)) * (12 : Int32)) + (S.2.1 (q + 16) x1.toNatClampNeg)).toNatClampNeg (r38.toInt32 + (S.2.1 (q + 17) x1.toNatClampNeg)).toInt64)).bind fun S42 =>
      (fX12_next S42).bind fun r45 =>
      some (r45) else none else none
  else if (S.2.1 (q + 15) x1.toNatClampNeg) = (5 : Int32) then
      (fX12_pop S).bind fun r49 =>
      (fX12_push r49.2 r49.1).bind fun r52 =>
      (fX12_push r52 r49.1).bind fun r55 =>
      (fX12_next r55).bind fun r58 =>
      some (r58)
  else if (S.2.1 (q + 15) x1.toNatClampNeg) = (6 : Int32) then
      (fX12_pop S).bind fun r62 =>
      (fX12_next r62.2).bind fun r65 =>
      some (r65)
  else if (S.2.1 (q + 15) x1.toNatClampNeg) = (7 : Int32) then
      (fX12_pop S).bind fun r69 =>
      (fX12_pop r69.2).bind fun r72 =>
      (fX12_push r72.2 r69.1).bind fun r75 =>
      (fX12_push r75 r72.1).bind fun r78 =>
      (fX12_next r78).bind fun r81 =>
      some (r81)
  else if (S.2.1 (q + 15) x1.toNatClampNeg) = (18 : Int32) then
      (fX12_pop S).bind fun r85 =>
      (fX12_push r85.2 ((-r85.1.toInt32).toInt64)).bind fun r88 =>
      (fX12_next r88).bind fun r91 =>
      some (r91)
  else if (S.2.1 (q + 15) x1.toNatClampNeg) = (19 : Int32) then
      if q_inb ((S.2.1 102 35) - (1 : Int32)) 64 = true then (some (q_sI S 175 ((S.2.1 102 35) - (1 : Int32)).toNatClampNeg (S.2.1 (q + 16) x1.toNatClampNeg))).bind fun S96 =>
      some (S96) else none
  else if (S.2.1 (q + 15) x1.toNatClampNeg) = (44 : Int32) then
      (Option.bind (α := Int64) (if (S.2.1 102 38) ≤ (S.2.1 102 39) then
          some ((0 : Int64))
        else
          if q_inb (S.2.1 102 39) 256 = true then some ((S.2.1 181 (S.2.1 102 39).toNatClampNeg).toInt64) else none) fun v101 =>
        (fX12_push S v101).bind fun r102 =>
        if (r102.2.1 102 38) ≤ (r102.2.1 102 39) then
          (fX12_next r102).bind fun r105 =>
          some (r105)
        else
          (some (q_sI r102 102 39 ((r102.2.1 102 39) + (1 : Int32)))).bind fun S108 =>
          (fX12_next S108).bind fun r111 =>
          some (r111))
  else if (S.2.1 (q + 15) x1.toNatClampNeg) = (45 : Int32) then
      (fX12_pop S).bind fun r115 =>
      (Option.bind (α := QS) (if (256 : Int32) ≤ (r115.2.2.1 102 40) then
          some (r115.2)
        else
          if q_inb (r115.2.2.1 102 40) 256 = true then (some (q_sI r115.2 182 (r115.2.2.1 102 40).toNatClampNeg r115.1.toInt32)).bind fun S119 =>
          some (S119) else none) fun v122 =>
        (some (q_sI v122 102 40 ((v122.2.1 102 40) + (1 : Int32)))).bind fun S124 =>
        (fX12_next S124).bind fun r127 =>
        some (r127))
  else if (S.2.1 (q + 15) x1.toNatClampNeg) < (8 : Int32) then
      if (S.2.1 (q + 15) x1.toNatClampNeg) < (20 : Int32) then
        (fX12_objectStep S q ((S.2.1 (q + 15) x1.toNatClampNeg)) ((S.2.1 (q + 16) x1.toNatClampNeg)) x1).bind fun r130 =>
        some (r130)
      else
        if (29 : Int32) < (S.2.1 (q + 15) x1.toNatClampNeg) then
          (fX12_objectStep S q ((S.2.1 (q + 15) x1.toNatClampNeg)) ((S.2.1 (q + 16) x1.toNatClampNeg)) x1).bind fun r133 =>
          some (r133)
        else
          (fX12_branch S ((S.2.1 (q + 15) x1.toNatClampNeg)) ((S.2.1 (q + 16) x1.toNatClampNeg))).bind fun r136 =>
          some (r136)
    else
      if (17 : Int32) < (S.2.1 (q + 15) x1.toNatClampNeg) then
        if (S.2.1 (q + 15) x1.toNatClampNeg) < (20 : Int32) then
          (fX12_objectStep S q ((S.2.1 (q + 15) x1.toNatClampNeg)) ((S.2.1 (q + 16) x1.toNatClampNeg)) x1).bind fun r139 =>
          some (r139)
        else
          if (29 : Int32) < (S.2.1 (q + 15) x1.toNatClampNeg) then
            (fX12_objectStep S q ((S.2.1 (q + 15) x1.toNatClampNeg)) ((S.2.1 (q + 16) x1.toNatClampNeg)) x1).bind fun r142 =>
            some (r142)
          else
            (fX12_branch S ((S.2.1 (q + 15) x1.toNatClampNeg)) ((S.2.1 (q + 16) x1.toNatClampNeg))).bind fun r145 =>
            some (r145)
      else
        (fX12_reckon S q ((S.2.1 (q + 15) x1.toNatClampNeg)) x1).bind fun r148 =>
        some (r148) else none else none
noncomputable def tX12_run_71 (q : Nat) (y1 : Int32) (x : QS) : Option ((Int32 × QS) ⊕ (QS)) :=
  if 0 ≤ (x.2.1 102 44) then
    (some (q_sI x 102 38 (0 : Int32))).bind fun S1 =>
    some (.inl ((((S1.2.1 102 44), S1))))
  else
    if q_inb ((x.2.1 102 35) - (1 : Int32)) 64 = true then if (x.2.1 102 41) = y1 then
      (some (q_sI x 102 44 (2 : Int32))).bind fun S18 =>
      (some (q_sI S18 102 42 (x.2.1 175 ((x.2.1 102 35) - (1 : Int32)).toNatClampNeg))).bind fun S21 =>
      some (.inr S21)
    else
      (some (q_sI x 102 41 ((x.2.1 102 41) + (1 : Int32)))).bind fun S5 =>
      (fX12_holds S5 q ((x.2.1 175 ((x.2.1 102 35) - (1 : Int32)).toNatClampNeg))).bind fun r8 =>
      (Option.bind (α := QS) (if r8 = true then
          some (S5)
        else
          (some (q_sI S5 102 45 ((S5.2.1 102 45) + (1 : Int32)))).bind fun S10 =>
          some (S10)) fun v13 =>
        (fX12_step v13 q ((x.2.1 175 ((x.2.1 102 35) - (1 : Int32)).toNatClampNeg))).bind fun r15 =>
        some (.inr r15)) else none
noncomputable def fX12_run_71 (S : QS) (q : Nat) (y1 : Int32) : Option (Int32 × QS) := q_run (tX12_run_71 q y1) S
noncomputable def fX12_run (S : QS) (q : Nat) (x1 : Int32) : Option (Int32 × QS) :=
  if (S.2.1 102 2) = 0 then
    some (((-1 : Int32), S))
  else
    if x1 < 0 then
      some (((-1 : Int32), S))
    else
      if x1 ≤ (20000 : Int32) then
        (some (q_sI S 102 36 (0 : Int32))).bind fun S24 =>
        (some (q_sI S24 102 37 (0 : Int32))).bind fun S27 =>
        (some (q_sI S27 102 39 (0 : Int32))).bind fun S30 =>
        (some (q_sI S30 102 40 (0 : Int32))).bind fun S33 =>
        (some (q_sI S33 102 41 (0 : Int32))).bind fun S36 =>
        (some (q_sI S36 102 43 (-1 : Int32))).bind fun S39 =>
        (some (q_sI S39 102 35 (0 : Int32))).bind fun S42 =>
        (some (q_sI S42 102 44 (-1 : Int32))).bind fun S45 =>
        (fX12_enter S45 q ((S45.2.1 q 6))).bind fun r48 =>
        fX12_run_71 r48 q x1
      else
        some (((-1 : Int32), S))
noncomputable def fX12_steps (S : QS) : Option (Int32) :=
  some ((S.2.1 102 41))
noncomputable def fX12_place (S : QS) : Option (Int32) :=
  some ((S.2.1 102 42))
noncomputable def fX12_thrown (S : QS) : Option (Int32) :=
  some ((S.2.1 102 43))
noncomputable def fX12_made (S : QS) (x1 : Int32) : Option (Int32) :=
  if x1 = 0 then
    some ((S.2.1 102 36))
  else
    if x1 = (1 : Int32) then
      some ((S.2.1 102 37))
    else
      some ((-1 : Int32))
noncomputable def fX12_written (S : QS) : Option (Int32) :=
  some ((S.2.1 102 40))
noncomputable def fX12_out (S : QS) (x1 : Int32) : Option (Int32) :=
  if x1 < 0 then
    some ((0 : Int32))
  else
    if (S.2.1 102 40) ≤ x1 then
      some ((0 : Int32))
    else
      if (256 : Int32) ≤ x1 then
        some ((0 : Int32))
      else
        if q_inb x1 256 = true then some ((S.2.1 182 x1.toNatClampNeg)) else none
noncomputable def fX12_strays (S : QS) : Option (Int32) :=
  some ((S.2.1 102 45))
noncomputable def tL_law_18 (L : Nat) (xs : Nat → Int32) (x : Int32 × QS) : Option ((Bool × QS) ⊕ (Int32 × QS)) :=
  (some (x.2.2.2.2 0 9)).bind fun pp => (some (x.2.2.2.2 0 10)).bind fun ps => (some (x.2.2.2.2 102 0)).bind fun q => (some (x.2.2.2.2 102 1)).bind fun qs => if q_okL x.2 pp ps q qs = true then
  if ((nI L) - (6 : Int32)) < x.1 then
    some (.inl (((true, x.2))))
  else
    if q_inb x.1 L = true then if ((xs x.1.toNatClampNeg) &&& (15 : Int32)) = (0 : Int32) then
        if q_inb (x.1 + (1 : Int32)) L = true then if q_inb (x.1 + (2 : Int32)) L = true then if q_inb (x.1 + (3 : Int32)) L = true then if q_inb (x.1 + (4 : Int32)) L = true then if q_inb (x.1 + (5 : Int32)) L = true then (fX10_feed x.2 ((xs (x.1 + (1 : Int32)).toNatClampNeg)) ((xs (x.1 + (2 : Int32)).toNatClampNeg)) ((xs (x.1 + (3 : Int32)).toNatClampNeg)) ((xs (x.1 + (4 : Int32)).toNatClampNeg)) ((xs (x.1 + (5 : Int32)).toNatClampNeg))).bind fun r9 =>
        if q_inb (x.1 + (1 : Int32)) L = true then if q_inb (x.1 + (2 : Int32)) L = true then if q_inb (x.1 + (3 : Int32)) L = true then if q_inb (x.1 + (4 : Int32)) L = true then if q_inb (x.1 + (5 : Int32)) L = true then (fX12_feed r9.2 ((xs (x.1 + (1 : Int32)).toNatClampNeg)) ((xs (x.1 + (2 : Int32)).toNatClampNeg)) ((xs (x.1 + (3 : Int32)).toNatClampNeg)) ((xs (x.1 + (4 : Int32)).toNatClampNeg)) ((xs (x.1 + (5 : Int32)).toNatClampNeg))).bind fun r17 =>
        if r9.1 = r17.1 then
          some (.inr ((x.1 + (6 : Int32)), r17.2))
        else
          some (.inl (((false, r17.2)))) else none else none else none else none else none else none else none else none else none else none
    else if ((xs x.1.toNatClampNeg) &&& (15 : Int32)) = (1 : Int32) then
        if q_inb (x.1 + (1 : Int32)) L = true then (fX10_end x.2 ((xs (x.1 + (1 : Int32)).toNatClampNeg))).bind fun r22 =>
        if q_inb (x.1 + (1 : Int32)) L = true then (fX12_end r22.2 ((xs (x.1 + (1 : Int32)).toNatClampNeg))).bind fun r26 =>
        if (q_b r22.1) = (q_b r26.1) then
          some (.inr ((x.1 + (6 : Int32)), r26.2))
        else
          some (.inl (((false, r26.2)))) else none else none
    else if ((xs x.1.toNatClampNeg) &&& (15 : Int32)) = (2 : Int32) then
        (fX10_load x.2 pp ps).bind fun r30 =>
        (some (r30.2.2.2.2 0 9)).bind fun pp => (some (r30.2.2.2.2 0 10)).bind fun ps => (some (r30.2.2.2.2 102 0)).bind fun q => (some (r30.2.2.2.2 102 1)).bind fun qs => if q_okL r30.2 pp ps q qs = true then
        (fX12_load r30.2 q qs).bind fun r33 =>
        (some (r33.2.2.2.2 0 9)).bind fun pp => (some (r33.2.2.2.2 0 10)).bind fun ps => (some (r33.2.2.2.2 102 0)).bind fun q => (some (r33.2.2.2.2 102 1)).bind fun qs => if q_okL r33.2 pp ps q qs = true then
        if r30.1 = r33.1 then
          some (.inr ((x.1 + (6 : Int32)), r33.2))
        else
          some (.inl (((false, r33.2)))) else none else none
    else if ((xs x.1.toNatClampNeg) &&& (15 : Int32)) = (3 : Int32) then
        (fX10_faultAt x.2).bind fun r37 =>
        (fX12_faultAt x.2).bind fun r39 =>
        if r37 = r39 then
          some (.inr ((x.1 + (6 : Int32)), x.2))
        else
          some (.inl (((false, x.2))))
    else if ((xs x.1.toNatClampNeg) &&& (15 : Int32)) = (4 : Int32) then
        if q_inb (x.1 + (1 : Int32)) L = true then (fX10_size x.2 pp ps ((xs (x.1 + (1 : Int32)).toNatClampNeg))).bind fun r43 =>
        if q_inb (x.1 + (1 : Int32)) L = true then (fX12_size x.2 q ((xs (x.1 + (1 : Int32)).toNatClampNeg))).bind fun r46 =>
        if r43 = r46 then
          some (.inr ((x.1 + (6 : Int32)), x.2))
        else
          some (.inl (((false, x.2)))) else none else none
    else if ((xs x.1.toNatClampNeg) &&& (15 : Int32)) = (5 : Int32) then
        if q_inb (x.1 + (1 : Int32)) L = true then (fX10_height x.2 pp ps ((xs (x.1 + (1 : Int32)).toNatClampNeg))).bind fun r50 =>
        if q_inb (x.1 + (1 : Int32)) L = true then (fX12_height x.2 q ((xs (x.1 + (1 : Int32)).toNatClampNeg))).bind fun r53 =>
        if r50 = r53 then
          some (.inr ((x.1 + (6 : Int32)), x.2))
        else
          some (.inl (((false, x.2)))) else none else none
    else if ((xs x.1.toNatClampNeg) &&& (15 : Int32)) = (6 : Int32) then
        if q_inb (x.1 + (1 : Int32)) L = true then (fX10_input x.2 ((xs (x.1 + (1 : Int32)).toNatClampNeg))).bind fun r57 =>
        if q_inb (x.1 + (1 : Int32)) L = true then (fX12_input r57.2 ((xs (x.1 + (1 : Int32)).toNatClampNeg))).bind fun r61 =>
        if (q_b r57.1) = (q_b r61.1) then
          some (.inr ((x.1 + (6 : Int32)), r61.2))
        else
          some (.inl (((false, r61.2)))) else none else none
    else if ((xs x.1.toNatClampNeg) &&& (15 : Int32)) = (7 : Int32) then
        if q_inb (x.1 + (1 : Int32)) L = true then (fX10_run x.2 pp ps ((xs (x.1 + (1 : Int32)).toNatClampNeg))).bind fun r66 =>
        (some (r66.2.2.2.2 0 9)).bind fun pp => (some (r66.2.2.2.2 0 10)).bind fun ps => (some (r66.2.2.2.2 102 0)).bind fun q => (some (r66.2.2.2.2 102 1)).bind fun qs => if q_okL r66.2 pp ps q qs = true then
        if q_inb (x.1 + (1 : Int32)) L = true then (fX12_run r66.2 q ((xs (x.1 + (1 : Int32)).toNatClampNeg))).bind fun r70 =>
        if r66.1 = r70.1 then
          some (.inr ((x.1 + (6 : Int32)), r70.2))
        else
          some (.inl (((false, r70.2)))) else none else none else none
    else if ((xs x.1.toNatClampNeg) &&& (15 : Int32)) = (8 : Int32) then
        (fX10_steps x.2).bind fun r74 =>
        (fX12_steps x.2).bind fun r76 =>
        if r74 = r76 then
          some (.inr ((x.1 + (6 : Int32)), x.2))
        else
          some (.inl (((false, x.2))))
    else if ((xs x.1.toNatClampNeg) &&& (15 : Int32)) = (9 : Int32) then
        (fX10_place x.2).bind fun r79 =>
        (fX12_place x.2).bind fun r81 =>
        if r79 = r81 then
          some (.inr ((x.1 + (6 : Int32)), x.2))
        else
          some (.inl (((false, x.2))))
    else if ((xs x.1.toNatClampNeg) &&& (15 : Int32)) = (10 : Int32) then
        (fX10_thrown x.2).bind fun r84 =>
        (fX12_thrown x.2).bind fun r86 =>
        if r84 = r86 then
          some (.inr ((x.1 + (6 : Int32)), x.2))
        else
          some (.inl (((false, x.2))))
    else if ((xs x.1.toNatClampNeg) &&& (15 : Int32)) = (11 : Int32) then
        if q_inb (x.1 + (1 : Int32)) L = true then (fX10_made x.2 ((xs (x.1 + (1 : Int32)).toNatClampNeg))).bind fun r90 =>
        if q_inb (x.1 + (1 : Int32)) L = true then (fX12_made x.2 ((xs (x.1 + (1 : Int32)).toNatClampNeg))).bind fun r93 =>
        if r90 = r93 then
          some (.inr ((x.1 + (6 : Int32)), x.2))
        else
          some (.inl (((false, x.2)))) else none else none
    else if ((xs x.1.toNatClampNeg) &&& (15 : Int32)) = (12 : Int32) then
        (fX10_written x.2).bind fun r96 =>
        (fX12_written x.2).bind fun r98 =>
        if r96 = r98 then
          some (.inr ((x.1 + (6 : Int32)), x.2))
        else
          some (.inl (((false, x.2))))
    else if ((xs x.1.toNatClampNeg) &&& (15 : Int32)) = (13 : Int32) then
        if q_inb (x.1 + (1 : Int32)) L = true then (fX10_out x.2 ((xs (x.1 + (1 : Int32)).toNatClampNeg))).bind fun r102 =>
        if q_inb (x.1 + (1 : Int32)) L = true then (fX12_out x.2 ((xs (x.1 + (1 : Int32)).toNatClampNeg))).bind fun r105 =>
        if r102 = r105 then
          some (.inr ((x.1 + (6 : Int32)), x.2))
        else
          some (.inl (((false, x.2)))) else none else none
    else if ((xs x.1.toNatClampNeg) &&& (15 : Int32)) = (14 : Int32) then
        (fX10_strays x.2).bind fun r108 =>
        (fX12_strays x.2).bind fun r110 =>
        if r108 = r110 then
          some (.inr ((x.1 + (6 : Int32)), x.2))
        else
          some (.inl (((false, x.2))))
    else some (.inr ((x.1 + (6 : Int32)), x.2)) else none else none
noncomputable def fL_law_18 (S : QS) (L : Nat) (xs : Nat → Int32) (y3 : Int32) : Option (Bool × QS) := q_run (tL_law_18 L xs) (y3, S)
