/-! ===== instructions: the frame of each ===== -/
theorem c_W_new {K : ZK} {M : ZM} {P : ZP} {k t b d x : Nat} {u v z : Int32} (hk : k < 46) (hb : b < M.bc) (hlo : P.fi b ≤ P.n) (hhi : P.n < P.en b) (o0 : (k < 19 ∨ 32 ≤ k) → k ≠ 2 → k ≠ 3 → k ≠ 4 → k ≠ 35 → k ≠ 36 → k ≠ 37 → k ≠ 38 → k ≠ 39 → k ≠ 40 → u = v) (oK : (k = 2 ∨ k = 3 ∨ k = 4) → u = v ∧ ∃ j, u = nI j ∧ j < M.bl b) (oL : 19 ≤ k → k ≤ 29 → u = v ∧ ∃ j, u = nI j ∧ P.fi b ≤ j ∧ j < P.en b) (oN : k = 30 → u = nI x ∧ x < K.cc ∧ v = nI P.ns ∧ d = 1) (oA : k = 31 → u = nI x ∧ ((32 ≤ x ∧ x < 32 + K.cc) ∨ x = 64) ∧ v = nI P.ns ∧ d = 1) (oF : (k = 35 ∨ k = 36) → ∃ f c, u = nI f ∧ v = nI f ∧ z = nI c ∧ f < M.fc ∧ c < K.cc ∧ k_anc K.cp (M.fo f) c = true) (oT : (k = 37 ∨ k = 38) → ∃ x, u = nI x ∧ v = k_y x ∧ k_tok K x ∧ x ≠ 66) (oB : (k = 39 ∨ k = 40) → ∃ f c, v = nI f ∧ u = nI (M.bt f) ∧ z = nI c ∧ f < M.bc ∧ c < K.cc ∧ k_anc K.cp (M.bo f) c = true ∧ M.bm f = decide (k = 40)) : c_W K M (P.addI k t b u v z d x) P.n := by
  rw [c_W]
  simp only [addI_op, addI_xa, addI_ya, addI_xb, addI_bd, addI_si, addI_ns, addI_st, addI_fi, addI_en, k_up_eq]
  refine ⟨hk, hb, hlo, hhi, o0, oK, oL, fun h => ?_, fun h => ?_, oF, oT, oB⟩
  · obtain ⟨x1, x2, x3, x4⟩ := oN h
    exact ⟨x, x1, x2, x3, by omega, rfl⟩
  · obtain ⟨x1, x2, x3, x4⟩ := oA h
    exact ⟨x, x1, x2, x3, by omega, rfl⟩
/-- what both make of an instruction -/
def z_res (p q : Nat) (K : ZK) (M : ZM) (P : ZP) (C D : QS) (t k b : Nat) (X Y : Option (Bool × QS)) : Prop := ∃ C' D', z_offC p C C' ∧ z_offD q D D' ∧ ((X = some (false, C') ∧ Y = some (false, D') ∧ D'.2.1 102 12 = nI (t + 1)) ∨ (X = some (true, C') ∧ Y = some (true, D') ∧ ∃ u v z d x, C' = z_C1 C p P.n P.ns t k b d u z ∧ D' = z_D1 D q P.n P.ns t k b x v z d ∧ d ≤ 1 ∧ P.ns + d ≤ 48 ∧ c_W K M (P.addI k t b u v z d x) P.n))
section ZINS
variable {C D : QS} {n p q : Nat} {g : ZT} {K : ZK} {M : ZM} {P : ZP}
theorem z_C1_0 {i s t k b d : Nat} {u : Int32} : z_C1 C p i s t k b d u 0 = q_sI (z_C0 C p i s t k b d) (p + 12) i u := by
  rw [z_C1]
  refine z_sI_same _ ?_
  simp only [z_C0, q_sI_I]
  simp (disch := omega) only [if_neg, and_self, if_true]
theorem z_D1_0 {i s t k b x : Nat} {v : Int32} : z_D1 D q i s t k b x v 0 0 = q_sI (z_D0 D q i t k b) (q + 16) i v := by
  rw [z_D1, if_neg (by decide)]
  refine z_sI_same _ ?_
  simp only [z_D0, q_sI_I]
  simp (disch := omega) only [if_neg, and_self, if_true]
theorem z_D1_z {i s t k b x : Nat} {v z : Int32} : z_D1 D q i s t k b x v z 0 = q_sI (q_sI (z_D0 D q i t k b) (q + 16) i v) (q + 17) i z := by
  rw [z_D1, if_neg (by decide)]
theorem z_D1_00 {i s t k b x : Nat} : z_D1 D q i s t k b x 0 0 0 = z_D0 D q i t k b := by
  rw [z_D1_0]
  refine z_sI_same _ ?_
  simp only [z_D0, q_sI_I]
  simp (disch := omega) only [if_neg, and_self, if_true]
theorem z_D1_1 {i s t k b x : Nat} {v : Int32} (hq : z_qq q) : z_D1 D q i s t k b x v 0 1 = q_sI (q_sI (q_sI (z_D0 D q i t k b) (q + 20) s (k_y x)) (q + 16) i v) q 4 (nI (s + 1)) := by
  rw [z_D1, if_pos rfl, z_sI_comm _ (o := q + 16) (o' := q) _ _ (by omega)]
  refine z_sI_same _ ?_
  simp only [z_D0, q_sI_I]
  simp (disch := omega) only [if_neg, and_self, if_true]
theorem z_C0_I (i s t k b d y j : Nat) : (z_C0 C p i s t k b d).2.1 y j = if y = p + 10 ∧ j = 0 then nI (i + 1) else if y = p + 10 ∧ j = 8 then nI (s + d) else if y = p + 16 ∧ j = i then nI s else if y = p + 17 ∧ j = i then -1 else if y = p + 15 ∧ j = i then nI b else if y = p + 14 ∧ j = i then nI t else if y = p + 13 ∧ j = i then 0 else if y = p + 12 ∧ j = i then 0 else if y = p + 11 ∧ j = i then nI k else C.2.1 y j := by
  simp only [z_C0, q_sI_I]
theorem z_D0_I (i t k b y j : Nat) : (z_D0 D q i t k b).2.1 y j = if y = q ∧ j = 3 then nI (i + 1) else if y = q + 17 ∧ j = i then 0 else if y = q + 16 ∧ j = i then 0 else if y = q + 18 ∧ j = i then nI b else if y = q + 15 ∧ j = i then nI k else if y = 169 ∧ j = i then nI t else D.2.1 y j := by
  simp only [z_D0, q_sI_I]
theorem z_C0_fr {i s t k b d y j : Nat} (h : ¬ (p + 10 ≤ y ∧ y ≤ p + 17)) : (z_C0 C p i s t k b d).2.1 y j = C.2.1 y j := by
  rw [z_C0_I]; simp (disch := omega) only [if_neg]
theorem z_D0_fr {i t k b y j : Nat} (h : ¬ (y = q ∧ j = 3)) (h2 : ¬ (q + 15 ≤ y ∧ y ≤ q + 18)) (h3 : y ≠ 169) : (z_D0 D q i t k b).2.1 y j = D.2.1 y j := by
  rw [z_D0_I]; simp (disch := omega) only [if_neg]
theorem z_C0_off {i s t k b d : Nat} : z_offC p C (z_C0 C p i s t k b d) := by
  rw [z_C0]
  refine z_offC.sI (z_offC.sI (z_offC.sI (z_offC.sI (z_offC.sI (z_offC.sI (z_offC.sI (z_offC.sI (z_offC.sI (z_offC.refl p C) ?_) ?_) ?_) ?_) ?_) ?_) ?_) ?_) ?_ <;> omega
theorem z_D0_off {i t k b : Nat} : z_offD q D (z_D0 D q i t k b) := by
  rw [z_D0]
  refine z_offD.sI (z_offD.sI (z_offD.sI (z_offD.sI (z_offD.sI (z_offD.sI (z_offD.refl q D) ?_) ?_) ?_) ?_) ?_) ?_ <;> omega
/-- a making instruction -/
def k_mk (k : Nat) : Nat := if k = 30 ∨ k = 31 then 1 else 0
theorem z_isMaking {k : Nat} (hk : k < 46) (S : QS) : fX1_isMaking S (nI k) = some (decide (k = 30 ∨ k = 31)) := by
  simp only [fX1_isMaking, show (30 : Int32) = nI 30 from rfl, show (31 : Int32) = nI 31 from rfl, z_eqN (show k < 2147483648 by omega) (show 30 < 2147483648 by decide), z_eqN (show k < 2147483648 by omega) (show 31 < 2147483648 by decide)]
  by_cases c : k = 30
  · simp [c]
  · by_cases c2 : k = 31 <;> simp [c, c2]
theorem z_addInstruction {k t b : Nat} (S : c_S p q n g K M P C D) (hk : k < 46) (hN : P.n < 1024) : fX1_addInstruction C p (nI k) (nI t) (nI b) = some (z_C0 C p P.n P.ns t k b (k_mk k)) := by
  have i1 := z_inbN hN (by decide)
  have c1 := z_cl (show P.n < 2147483648 by omega)
  have g1 : ¬ (1024 : Int32) ≤ nI P.n := by rw [show (1024 : Int32) = nI 1024 from rfl, z_leN (by decide) (by omega)]; omega
  have r : ∀ S' : QS, (∀ j, S'.2.1 (p + 10) j = C.2.1 (p + 10) j) → ∀ (y : Nat) (v : Int32), y ≠ p + 10 → ∀ j, (q_sI S' y P.n v).2.1 (p + 10) j = C.2.1 (p + 10) j := fun S' h y v hy j => by rw [q_sI_I, if_neg (by omega)]; exact h j
  have q1 := r C (fun _ => rfl) (p + 11) (nI k) (by omega)
  have q2 := r _ q1 (p + 12) 0 (by omega)
  have q3 := r _ q2 (p + 13) 0 (by omega)
  have q4 := r _ q3 (p + 14) (nI t) (by omega)
  have q5 := r _ q4 (p + 15) (nI b) (by omega)
  have q6 := r _ q5 (p + 17) (-1) (by omega)
  have q7 := r _ q6 (p + 16) (nI P.ns) (by omega)
  have q8 : ∀ (S' : QS) (v : Int32), (∀ j, S'.2.1 (p + 10) j = C.2.1 (p + 10) j) → (q_sI S' (p + 10) 8 v).2.1 (p + 10) 0 = nI P.n := fun S' v h => by rw [q_sI_I, if_neg (by omega), h]; exact S.nC
  simp only [fX1_addInstruction, S.nC, if_neg g1, i1, if_true, c1, Option.bind_some, q1, q2, q3, q4, q5, q6, S.sC, z_isMaking hk]
  have ev : ((if decide (k = 30 ∨ k = 31) = true then some true else some false) : Option Bool) = some (decide (k = 30 ∨ k = 31)) := by
    cases decide (k = 30 ∨ k = 31) <;> rfl
  rw [ev, Option.bind_some, q7, S.sC, q8 _ _ q7, nI_1]
  have eb : q_b (decide (k = 30 ∨ k = 31)) = nI (k_mk k) := by
    rw [k_mk]
    by_cases c : k = 30 ∨ k = 31
    · rw [decide_eq_true c, if_pos c]; rfl
    · rw [decide_eq_false c, if_neg c]; rfl
  rw [eb, nI_add]
  rfl
theorem z_hasRoomFor {k : Nat} (S : c_S p q n g K M P C D) (hk : k < 46) : fX4_hasRoomFor C p (nI k) = some (decide (P.n < 1024) && (decide (P.ns < 48) || !decide (k = 30 ∨ k = 31))) := by
  have bn := S.bn
  have bs := S.bs
  simp only [fX4_hasRoomFor, S.nC, S.sC, show (1024 : Int32) = nI 1024 from rfl, show (48 : Int32) = nI 48 from rfl, z_leN (show 1024 < 2147483648 by decide) (show P.n < 2147483648 by omega), z_ltN (show P.ns < 2147483648 by omega) (show 48 < 2147483648 by decide), z_isMaking hk, Option.bind_some]
  by_cases c : P.n < 1024
  · rw [if_neg (by omega), decide_eq_true c, Bool.true_and]
    by_cases c2 : P.ns < 48
    · rw [if_pos c2, decide_eq_true c2]; rfl
    · rw [if_neg c2, decide_eq_false c2]
      cases decide (k = 30 ∨ k = 31) <;> rfl
  · rw [if_pos (by omega), decide_eq_false c]; rfl
/-- the reference's code line, once there is room -/
theorem z_code46 {k t b E : Nat} (S : c_S p q n g K M P C D) (hq : z_qq q) (hk : k < 46) (hN : P.n < 1024) : fX12_code_46 D q (nI b) (nI t) (nI E) (nI k) = (some (z_opL.getD k 0)).bind fun r24 =>
  if r24 = (67 : Int32) ∨ r24 = (69 : Int32) then
      (fX12_makes (z_D0 D q P.n t k b) q (nI P.n) (nI k) (nI (t + 1))).bind fun r28 =>
      some ((r28.1, r28.2))
  else if r24 = (70 : Int32) then
      (fX12_reference (z_D0 D q P.n t k b) q (nI P.n) (nI k) (nI (t + 1))).bind fun r32 =>
      some ((r32.1, r32.2))
  else if r24 = (73 : Int32) then
      (fX12_localStep (z_D0 D q P.n t k b) q (nI b) (nI P.n) (nI (t + 1))).bind fun r36 =>
      if r36.1 = true then
        (fX12_number r36.2 (nI (t + 2))).bind fun r39 =>
        (some (q_sI r36.2 (q + 17) P.n r39.toInt32)).bind fun S42 =>
        some ((true, S42))
      else
        some ((false, r36.2))
  else if r24 = (75 : Int32) then
      (fX12_localStep (z_D0 D q P.n t k b) q (nI b) (nI P.n) (nI (t + 1))).bind fun r46 =>
      some ((r46.1, r46.2))
  else if r24 = (76 : Int32) then
      (fX12_labelAt (z_D0 D q P.n t k b) (nI (t + 1))).bind fun r50 =>
      if r50 < 0 then some (false, q_sI (q_sI (z_D0 D q P.n t k b) (q + 16) P.n r50) 102 12 (nI (t + 1))) else if r50 < nI E then some (true, q_sI (z_D0 D q P.n t k b) (q + 16) P.n r50) else some (false, q_sI (q_sI (z_D0 D q P.n t k b) (q + 16) P.n r50) 102 12 (nI (t + 1)))
  else if r24 = (78 : Int32) then
      (fX12_number (z_D0 D q P.n t k b) (nI (t + 1))).bind fun r65 =>
      some (true, q_sI (z_D0 D q P.n t k b) (q + 16) P.n r65.toInt32)
  else if r24 = (84 : Int32) then
      (fX12_typeOf (z_D0 D q P.n t k b) q (nI (t + 1))).bind fun r72 =>
      if 0 ≤ r72 then some (true, q_sI (z_D0 D q P.n t k b) (q + 16) P.n r72) else some (false, q_sI (q_sI (z_D0 D q P.n t k b) (q + 16) P.n r72) 102 12 (nI (t + 1)))
  else some ((true, z_D0 D q P.n t k b)) := by
  have i1 := z_inbN hN (by decide)
  have c1 := z_cl (show P.n < 2147483648 by omega)
  have r3 : (q_sI (q_sI (q_sI (q_sI (q_sI D 169 P.n (nI t)) (q + 15) P.n (nI k)) (q + 18) P.n (nI b)) (q + 16) P.n 0) (q + 17) P.n 0).2.1 q 3 = nI P.n := by
    simp only [q_sI_I]
    rcases hq with rfl | rfl <;> (simp (disch := omega) only [if_neg]; exact S.nD)
  have e2 : (nI t + 2 : Int32) = nI (t + 2) := by rw [show (2 : Int32) = nI 2 from rfl, nI_add]
  have rr : ∀ (S' : QS) (v : Int32), (q_sI S' (q + 16) P.n v).2.1 (q + 16) P.n = v := fun S' v => by rw [q_sI_I, if_pos ⟨rfl, rfl⟩]
  simp only [fX12_code_46, S.nD, i1, if_true, c1, Option.bind_some, r3, nI_1, e2, z_opChr hk, fX12_wrong, rr, Bool.false_eq_true, if_false]
  rfl
end ZINS
