/-! ===== load: heights and types; the class's tails ===== -/
section ZL2
variable {C D : QS} {n p q m : Nat} {g : ZT} {K : ZK} {M : ZM} {P : ZP}
theorem z_typeFault {pp : Nat} (hp : z_pp p) (hq : z_qq q) (hG : z_G n g) (hK : k_K g K) (N : s_N p q n g K M P m C D) (h1 : h_cln C) (h2 : ty_cln C) (ok : q_okO C pp p = true) : ∃ r r', fX10_typeFault C pp p = some r ∧ fX12_fault_70 D q 0 = some r' ∧ h_cln r.2 ∧ ty_cln r.2 ∧ l_fC p C r.2 ∧ z_rx C r.2 ∧ t_fD q D r'.2 ∧ s_N p q n g K M P m r.2 r'.2 ∧ ((∃ i, i < P.n ∧ r.1 = nI (P.tk i) ∧ r'.1 = 4 ∧ r'.2.2.1 102 12 = nI (P.tk i)) ∨ (r.1 = -1 ∧ r'.1 = 0 ∧ r'.2.2.1 102 12 = -1 ∧ ∀ b', b' < M.bc → t_B p q K M P r.2 r'.2 b')) := by
  let C1 : QS := q_sR (q_sR C 81 0 p) 81 1 (p + 10)
  let C2 : QS := q_sR (q_sR (q_sR C1 84 0 p) 84 1 (p + 1)) 84 2 (p + 10)
  have x1 : z_rx C C1 := (z_rx.sR (by decide)).trans (z_rx.sR (by decide))
  have x2 : z_rx C1 C2 := ((z_rx.sR (by decide)).trans (z_rx.sR (by decide))).trans (z_rx.sR (by decide))
  have aH : q_aHb C2 p = true := by
    rw [q_aHb, decide_eq_true_eq]
    simp only [C2, C1, z_sR_R]
    simp
  have aF : q_aFb C2 p = true := by
    rw [q_aFb, decide_eq_true_eq]
    simp only [C2, C1, z_sR_R]
    simp
  have N2 : s_N p q n g K M P m C2 D := N.hx hp hq (fun _ _ _ _ => rfl) (fun _ _ _ _ _ _ _ _ => rfl)
  obtain ⟨r, r', z1, z2, z3, z4, z5, z6, z7, z8⟩ := z_tyLoop (pp := pp) hp hq hG hK M.bc 0 C2 D (by omega) N2 h1 h2 aH aF (fun b' h => by omega)
  refine ⟨r, r', ?_, z2, z3, z4, (show l_fC p C C2 from fun _ _ _ => ⟨rfl, rfl⟩).trans (l_fC.tf hp z5), (x1.trans x2).trans ⟨z5.2.1, fun o j _ => by rw [z5.2.2]⟩, z6, z7, z8⟩
  have o1 := q_okO_rx x1 ok
  have o2 := q_okO_rx x2 o1
  simp only [fX10_typeFault, fX3_begin, fX9_begin, Option.bind_some]
  rw [if_pos o1, if_pos o2]
  exact z1
end ZL2
noncomputable def z_tc (pp ps : Nat) (v38 : Int32 × QS) : Option (Int32 × QS) :=
  if q_okO v38.2 pp ps = true then (fX8_useUp v38.2).bind fun r42 =>
          if (r42.2.1 0 12) = (-1 : Int32) then
            (fX10_takeSpare r42 pp ps).bind fun r45 =>
            some (((0 : Int32), r45))
          else
            some ((v38.1, r42)) else none
noncomputable def z_tb2 (pp ps : Nat) (v26 : Int32 × QS) : Option (Int32 × QS) :=
  if q_okO v26.2 pp ps = true then (Option.bind (α := Int32 × QS) (if (v26.2.2.1 0 12) = (-1 : Int32) then
            (fX10_typeFault v26.2 pp ps).bind fun r30 =>
            if q_okO r30.2 pp ps = true then (some (q_sI r30.2 0 12 r30.1)).bind fun S35 =>
            some (((4 : Int32), S35)) else none
          else
            some ((v26.1, v26.2))) (z_tc pp ps)) else none
noncomputable def z_ta (pp ps : Nat) (v14 : Int32 × QS) : Option (Int32 × QS) :=
  if q_okO v14.2 pp ps = true then (Option.bind (α := Int32 × QS) (if (v14.2.2.1 0 12) = (-1 : Int32) then
          (fX10_nameFault v14.2 pp ps).bind fun r18 =>
          if q_okO r18.2 pp ps = true then (some (q_sI r18.2 0 12 r18.1)).bind fun S23 =>
          some (((3 : Int32), S23)) else none
        else
          some ((v14.1, v14.2))) (z_tb2 pp ps)) else none
theorem z_load_eq (S : QS) (pp ps : Nat) : fX10_load S pp ps = (fX8_split S).bind fun r1 =>
  (Option.bind (α := Int32) (if r1.1 = true then
      some ((-1 : Int32))
    else
      some ((r1.2.2.1 2 5))) fun v4 =>
    (some (q_sI r1.2 0 12 v4)).bind fun S5 =>
    (Option.bind (α := Int32 × QS) (if (S5.2.1 0 12) = (-1 : Int32) then
        (fX7_firstFault S5).bind fun r8 =>
        (some (q_sI r8.2 0 12 r8.1)).bind fun S11 =>
        some (((2 : Int32), S11))
      else
        some (((1 : Int32), S5))) (z_ta pp ps))) := rfl
section ZL3
variable {pp ps f : Nat} {v : Int32 × QS}
theorem z_tc_f (ok : q_okO v.2 pp ps = true) (h : v.2.2.1 0 12 = nI f) (hf : f < 2147483648) : z_tc pp ps v = some (v.1, q_sI v.2 2 1 0) := by
  have e : (q_sI v.2 2 1 0).2.1 0 12 = nI f := by rw [q_sI_I, if_neg (by omega)]; exact h
  have nm : ¬ nI f = -1 := by rw [z_m1N hf]; exact id
  simp only [z_tc, ok, if_true, fX8_useUp, Option.bind_some, e, if_neg nm]
theorem z_tb_f (ok : q_okO v.2 pp ps = true) (h : v.2.2.1 0 12 = nI f) (hf : f < 2147483648) : z_tb2 pp ps v = some (v.1, q_sI v.2 2 1 0) := by
  have nm : ¬ nI f = -1 := by rw [z_m1N hf]; exact id
  simp only [z_tb2, ok, if_true, h, if_neg nm, Option.bind_some]
  exact z_tc_f (v := (v.1, v.2)) ok h hf
theorem z_ta_f (ok : q_okO v.2 pp ps = true) (h : v.2.2.1 0 12 = nI f) (hf : f < 2147483648) : z_ta pp ps v = some (v.1, q_sI v.2 2 1 0) := by
  have nm : ¬ nI f = -1 := by rw [z_m1N hf]; exact id
  simp only [z_ta, ok, if_true, h, if_neg nm, Option.bind_some]
  exact z_tb_f (v := (v.1, v.2)) ok h hf
end ZL3
