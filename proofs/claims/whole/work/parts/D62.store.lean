/-! ===== the run: array cells are written ===== -/
section ZRE3
variable {p q n m : Nat} {g : ZT} {K : ZK} {M : ZM} {P : ZP} {hh : Nat → Nat → Int32} {R : Nat → Nat → Bool} {T : Nat → Nat → Nat → Nat} {Cx Dx C D : QS} {d i k : Nat} {h h' : Nat → Nat} {V : Nat → Nat → Nat × Int32} {pa pd : Nat → Nat} {H H' : ZH} {X : ZX} {to pl : Nat}
theorem r_M.el34 (Z : r_M p q n g K M P m hh R T Cx Dx d h V pa pd H X pl i C D) (hop : P.op i = 34) {j o : Nat} (hj : h d = j + 1 + 1 + 1) (o1 : 1 ≤ o) (o2 : o ≤ H.n) (ov : V d (12 + j) = (r_th H o, nI o)) (o32 : 32 ≤ H.th o) : (H.th o = 64 → (V d (12 + (j + 1 + 1))).1 = 66) ∧ (H.th o < 64 → (V d (12 + (j + 1 + 1))).1 ≤ 65) := by
  have k1 : k_tk M P i = 3 := (k_tk_at (M := M) 34 hop (by decide) (by decide)).1
  have h32 := Z.W.hK.2.1
  have t64 := (Z.B.2 o o1 o2).2
  have ft := Z.W.fit Z.t.1 Z.t.2.1
  rw [k_ft, if_neg (by omega), if_neg (by omega), if_neg (by omega)] at ft
  have ew : k_wd (hh (P.bd i)) i = 12 + h d := by rw [k_wd, Z.t.2.2.1]
  have f1 := ft.1 0 (by omega)
  have f2 := ft.2 hop
  rw [k1, ew, show k_told M P i 0 = 69 by simp [k_told, hop], k_fit, if_pos rfl, k_ar_iff, show 12 + h d - 3 + 0 = 12 + j by omega] at f1
  rw [ew, show 12 + h d - 1 = 12 + (j + 1 + 1) by omega, show 12 + h d - 3 = 12 + j by omega] at f2
  have ta := (Z.t.2.2.2 (12 + j) (by omega)).2
  rw [ov] at ta
  have ta : k_blw K (r_th H o) (T (P.bd i) i (12 + j)) = true := ta
  rw [r_th_p o1] at ta
  have tx := (Z.t.2.2.2 (12 + (j + 1 + 1)) (by omega)).2
  generalize T (P.bd i) i (12 + j) = a at *
  have ane : a ≠ 65 := fun e => by
    rw [e] at ta
    have := r_blwn h32 ta
    omega
  rw [k_elm, if_neg ane] at f2
  have f3 := k_blw_trans Z.W.hK tx f2
  constructor
  · intro e
    have : a = 64 := by
      rcases k_blw_iff.mp ta with z | z | ⟨z1, z2, z3⟩
      · omega
      · omega
      · rcases z3 with z | z | z | z <;> omega
    rw [this] at f3
    exact r_blw66 f3
  · intro e
    have : a < 64 := by
      rcases k_blw_iff.mp ta with z | z | ⟨z1, z2, z3⟩
      · omega
      · omega
      · rcases z3 with z | z | z | z <;> omega
    rw [k_el, if_neg (by omega), if_neg ane, if_pos (by omega)] at f3
    exact r_blw65 f3 (by omega)
theorem r_op34 (Z : r_M p q n g K M P m hh R T Cx Dx d h V pa pd H X pl i C D) (hop : P.op i = 34) : r_res p q K M P hh R T Cx Dx X.sp ((fX6_useArray C p (nI i)).bind (r_pu p)) (fX12_step D q (nI i)) := by
  obtain ⟨i1, c1, d1, d2, d3⟩ := Z.rdD
  obtain ⟨p11, p12, p13, p16⟩ := Z.rdC
  obtain ⟨k1, k2⟩ := k_tk_at (M := M) 34 hop (by decide) (by decide)
  have k1 : k_tk M P i = 3 := k1
  have k2 : k_lv M P i = 0 := k2
  have hC : C.2.1 (p + 11) i = 34 := by rw [p11, hop]; rfl
  have h8 := Z.t.h8 Z.W
  have hn := Z.B.1
  have h32 := Z.W.hK.2.1
  obtain ⟨j, hj⟩ : ∃ j, h d = j + 1 + 1 + 1 := ⟨h d - 3, by omega⟩
  obtain ⟨HC, HD⟩ := Z.hk
  rw [hj] at HC HD
  obtain ⟨o, o1, o2, o3⟩ := Z.arr (j := 0) (by omega) (by omega) (by omega) (by omega) (by simp [k_told, hop])
  rw [k1, show 12 + h d - 3 + 0 = 12 + j by omega] at o2
  have v66 := Z.int (j := 1) (by omega) (by omega) (by omega) (by omega) (by simp [k_told, hop])
  rw [k1, show 12 + h d - 3 + 1 = 12 + (j + 1) by omega] at v66
  have tho := r_th_le Z.B o1
  obtain ⟨Cv, c, ev0, ec, ICv, -⟩ := HC.popN Z.W.hp
  obtain ⟨C0, v, e0, ev, IC0, -⟩ := ICv.popN Z.W.hp
  have ev := ev (by omega)
  obtain ⟨C1, a', e1, ea, IC1, -⟩ := IC0.popN Z.W.hp
  rw [o2] at ea
  have ea : a' = nI o := ea (show r_th H o ≠ 67 by omega)
  subst ea
  obtain ⟨Dv, fv, IDv⟩ := HD.popN Z.W.hq
  obtain ⟨D0, f0, ID0⟩ := IDv.popN Z.W.hq
  rw [r_e_i v66, ← ev] at f0
  obtain ⟨D1, f1, ID1⟩ := ID0.popN Z.W.hq
  rw [o2] at f1
  have cmp := r_e_null Z.B o1
  have o0 : (nI o = 0) = (o = 0) := by rw [show (0 : Int32) = nI 0 from rfl, z_eqN (by omega) (by decide)]
  have vneg : (lg_cmp v.toInt64 (0 : Int64) < 0) = (v < 0) := by rw [lg_lt, i64_int, i64_big.2.2, Int32.lt_iff_toInt_lt]; rfl
  rw [r_stepOb Z (by omega) (by omega), hop]
  show r_res p q K M P hh R T Cx Dx X.sp _ (fX12_objectStep D q 34 (P.ya i) (nI i))
  have eD : fX12_objectStep D q 34 (P.ya i) (nI i) = fX12_elementStep D q 34 (nI i) := by
    simp (decide := true) only [fX12_objectStep, if_true, if_false, o_bs]
  rw [eD]
  by_cases cz : o = 0
  · have x := Z.raise (x := 2) (by decide) (by decide) IC1 ID1
    have a1 : fX6_useArray C p (nI i) = fX6_raise C1 (nI 2) := by
      simp (decide := true) only [fX6_useArray, i1, if_true, if_false, c1, hC, Option.bind_some, ev0, e0, e1, o0, cz, o_bs]; rfl
    have a2 : fX12_elementStep D q 34 (nI i) = fX12_raise D1 q (nI (2 - 2)) (nI i) := by
      simp (decide := true) only [fX12_elementStep, if_true, if_false, fv, f0, f1, Option.bind_some, cmp]
      rw [if_pos cz, o_bs]; rfl
    rw [a1, a2]; exact x
  have o3 := o3 (by omega)
  obtain ⟨tok, t64⟩ := Z.B.2 o (by omega) o1
  obtain ⟨c91, -⟩ := IC1.H.o o (by omega) o1
  obtain ⟨d176, d178, d179, -⟩ := ID1.H.o o (by omega) o1
  have hst := (Z.hc o (by omega) o1).1
  have u2 := Z.C.H.u2
  have od := r_e_obj (S := D1) Z.B o1 (show 1 ≤ o by omega)
  have i2000 := z_inbN (show o - 1 < 2000 by omega) (by decide)
  have c2000 := z_cl (show o - 1 < 2147483648 by omega)
  have i2001 := z_inbN (show o < 2001 by omega) (by decide)
  have c2001 := z_cl (show o < 2147483648 by omega)
  have bad : fX2_hasCell C1 (nI o) v = some false → (v < 0 ∨ ¬ lg_cmp v.toInt64 (nI (H.ln o)).toInt64 < 0) → r_res p q K M P hh R T Cx Dx X.sp ((fX6_useArray C p (nI i)).bind (r_pu p)) (fX12_elementStep D q 34 (nI i)) := by
    intro hh1 hh2
    have x := Z.raise (x := 3) (by decide) (by decide) IC1 ID1
    have a1 : fX6_useArray C p (nI i) = fX6_raise C1 (nI 3) := by
      simp (decide := true) only [fX6_useArray, i1, if_true, if_false, c1, hC, Option.bind_some, ev0, e0, e1, o0, cz, hh1, o_bs]; rfl
    have a2 : fX12_elementStep D q 34 (nI i) = fX12_raise D1 q (nI (3 - 2)) (nI i) := by
      simp (decide := true) only [fX12_elementStep, if_true, if_false, fv, f0, f1, Option.bind_some, cmp]
      simp (decide := true) only [cz, if_false, od, Option.bind_some, vneg]
      by_cases cn : v < 0
      · rw [if_pos cn, o_bs]; rfl
      · rw [if_neg cn, if_pos i2000, c2000, d179, if_neg (by rcases hh2 with z | z; exact absurd z cn; exact z), o_bs]; rfl
    rw [a1, a2]; exact x
  by_cases cn : v < 0
  · exact bad (IC1.hasN (by omega) o1 cn) (Or.inl cn)
  have cn' : 0 ≤ v.toInt := by
    rw [Int32.lt_iff_toInt_lt] at cn
    have : (0 : Int32).toInt = 0 := rfl
    omega
  have ej := z_toN cn'
  have jb := (i32_rng v).2
  generalize hjj : v.toInt.toNat = jj at ej
  have jjb : jj < 2147483648 := by omega
  have lcmp : (lg_cmp v.toInt64 (nI (H.ln o)).toInt64 < 0) = (jj < H.ln o) := by
    rw [lg_lt, i64_int, i64_int, nI_toInt (by omega)]
    apply propext; omega
  have hhas := IC1.has Z.hc (by omega) o1 jjb
  by_cases cl : jj < H.ln o
  · rw [decide_eq_true cl] at hhas
    obtain ⟨-, e2⟩ := IC1.cell Z.hc (by omega) o1 cl
    obtain ⟨el1, el2⟩ := Z.el34 hop hj (by omega) o1 o2 o3
    have vvo := (Z.t.2.2.2 (12 + (j + 1 + 1)) (by omega)).1
    have v67 : (V d (12 + (j + 1 + 1))).1 ≠ 67 := by
      by_cases c64 : H.th o = 64
      · have := el1 c64; omega
      · have := el2 (by omega); omega
    have ec := ec v67
    have ev32 : v.toInt64.toInt32 = nI jj := by rw [i64_back]; exact ej
    have elC := z_elementOf (C := C1) (p := p) (show H.th o ≤ 67 by omega)
    rw [if_neg (by omega)] at elC
    have elD := z_elem12 (show H.th o ≤ 67 by omega) (by omega) D1
    rw [ej] at e0
    have good : fX6_mayHold C1 p (nI o) c = some true → ∀ ob : Bool, fX12_isObject D1 (r_e (V d (12 + (j + 1 + 1)))) = some ob → (ob = true → ∃ z, fX12_objectOf D1 (r_e (V d (12 + (j + 1 + 1)))) = some (nI z) ∧ z < 2000 ∧ fX12_isBelow D1 q (D1.2.1 176 z) (k_y (k_el (H.th o))) = some true) → k_blw K (V d (12 + (j + 1 + 1))).1 (k_el (H.th o)) = true → r_res p q K M P hh R T Cx Dx X.sp ((fX6_useArray C p (nI i)).bind (r_pu p)) (fX12_elementStep D q 34 (nI i)) := by
      intro m1 ob m2 m3 m4
      refine Z.fin0H (Or.inl hop) k2 (by omega) sc_up (sc_ob Z.B) (sc_hc Z.W Z.B Z.hc (by omega) o1 cl vvo (fun _ => m4) (fun a => by omega)) (IC1.setc Z.W.hp (V d (12 + (j + 1 + 1)))) (ID1.setc (V d (12 + (j + 1 + 1)))) ?_ ?_
      · simp (decide := true) only [fX6_useArray, i1, if_true, if_false, c1, hC, Option.bind_some, ev0, e0, e1, o0, cz, hhas, m1, e2]
        exact congrArg (fun z => some (q_sI C1 95 (H.st o + jj) z)) ec
      · simp (decide := true) only [fX12_elementStep, if_true, if_false, fv, f0, f1, Option.bind_some, cmp]
        simp (decide := true) only [cz, if_false, od, Option.bind_some, vneg, if_neg cn, i2000, if_true, c2000, d179, lcmp, cl, d178, ev32, nI_add, z_inbN (show H.st o + jj < 12000 by omega) (show 12000 < 2147483648 by decide), z_cl (show H.st o + jj < 2147483648 by omega), m2, d176, elD]
        cases ob with
        | false => rw [if_neg (by decide)]
        | true =>
          obtain ⟨z, z1, z2, z3⟩ := m3 rfl
          simp only [if_true, z1, Option.bind_some, z_inbN z2 (show 2000 < 2147483648 by decide), z_cl (show z < 2147483648 by omega), z3]
    by_cases c64 : H.th o = 64
    · have x66 := el1 c64
      have m1 : fX6_mayHold C1 p (nI o) c = some true := by
        simp only [fX6_mayHold, i2001, if_true, c2001, c91, elC, Option.bind_some, c64]; rfl
      refine good m1 false ?_ (fun z => by cases z) (by rw [c64, x66]; exact k_blw_refl _)
      have rg := i32_rng (V d (12 + (j + 1 + 1))).2
      rw [fX12_isObject, r_e_i x66, if_pos]
      rw [lg_le, i64_int, i64_big.2.1]; omega
    · have el : k_el (H.th o) = H.th o - 32 := by rw [k_el, if_neg c64, if_neg (by omega), if_pos (by omega)]
      have ne66 : ¬ (nI (k_el (H.th o)) = 66) := by rw [el, show (66 : Int32) = nI 66 from rfl, z_eqN (by omega) (by decide)]; omega
      obtain ⟨b, b1, b2⟩ := vvo.ref (el2 (by omega))
      rw [b2] at ec good
      have ec : c = nI b := ec
      have tb := r_th_le Z.B b1
      have eb : C1.2.1 91 b = nI (r_th H b) := by
        by_cases zb : b = 0
        · rw [zb, r_th_0]; exact IC1.H.z
        · rw [r_th_p (by omega)]; exact (IC1.H.o b (by omega) b1).1
      have may : fX6_mayHold C1 p (nI o) c = some (k_blw K (r_th H b) (k_el (H.th o))) := by
        have hbl := z_isBelow Z.W.hK (r_kC Z.W IC1.g) (show r_th H b ≤ 68 by omega) (show k_el (H.th o) ≤ 68 by omega)
        simp only [fX6_mayHold, i2001, if_true, c2001, c91, elC, Option.bind_some, if_neg ne66, ec, z_inbN (show b < 2001 by omega) (by decide), z_cl (show b < 2147483648 by omega), eb, hbl]
        cases k_blw K (r_th H b) (k_el (H.th o)) <;> rfl
      by_cases zb : b = 0
      · have hb65 : k_blw K (r_th H b) (k_el (H.th o)) = true := by
          rw [zb, r_th_0]
          exact k_blw_iff.mpr (Or.inr (Or.inr ⟨by decide, by omega, Or.inl rfl⟩))
        rw [hb65] at may
        refine good may false ?_ (fun z => by cases z) hb65
        rw [fX12_isObject, if_pos]
        rw [lg_le, r_e_ri Z.B b1, i64_big.2.1]; omega
      · have isob : fX12_isObject D1 (r_e (r_th H b, nI b)) = some true := by
          rw [fX12_isObject, if_neg (by rw [lg_le, r_e_ri Z.B b1, i64_big.2.1]; omega), if_neg (by rw [lg_eq, r_e_ri Z.B b1, i64_big.1]; omega)]
        have ob2 := r_e_obj (S := D1) Z.B b1 (show 1 ≤ b by omega)
        have tokb := (Z.B.2 b (by omega) b1).1
        have elvt : k_vt K (k_el (H.th o)) := k_el_vt Z.W.hK (Or.inl tok) (by omega)
        have bD : fX12_isBelow D1 q (D1.2.1 176 (b - 1)) (k_y (k_el (H.th o))) = some (k_blw K (H.th b) (k_el (H.th o))) := by
          rw [(ID1.H.o b (by omega) b1).1, r_isBelow ID1.g]
          exact z_isBelow12 Z.W.hK Z.W.N.S.mJ.kD (Or.inl tokb) elvt
        rw [r_th_p (show 1 ≤ b by omega)] at may
        cases hbl : k_blw K (H.th b) (k_el (H.th o)) with
        | true =>
          rw [hbl] at may bD
          exact good may true isob (fun _ => ⟨b - 1, ob2, by omega, bD⟩) (by show k_blw K (r_th H b) _ = true; rw [r_th_p (by omega)]; exact hbl)
        | false =>
          rw [hbl] at may bD
          have x := Z.raise (x := 7) (by decide) (by decide) IC1 ID1
          have a1 : fX6_useArray C p (nI i) = fX6_raise C1 (nI 7) := by
            simp (decide := true) only [fX6_useArray, i1, if_true, if_false, c1, hC, Option.bind_some, ev0, e0, e1, o0, cz, hhas, may, o_bs]; rfl
          have a2 : fX12_elementStep D q 34 (nI i) = fX12_raise D1 q (nI (7 - 2)) (nI i) := by
            rw [b2] at fv
            simp (decide := true) only [fX12_elementStep, if_true, if_false, fv, f0, f1, Option.bind_some, cmp]
            simp (decide := true) only [cz, if_false, od, Option.bind_some, vneg, if_neg cn, i2000, if_true, c2000, d179, lcmp, cl, isob, ob2, z_inbN (show b - 1 < 2000 by omega) (show 2000 < 2147483648 by decide), z_cl (show b - 1 < 2147483648 by omega), d176, elD, bD, o_bs]; rfl
          rw [a1, a2]; exact x
  · rw [decide_eq_false cl] at hhas
    exact bad (by rw [ej]; exact hhas) (Or.inr (by rw [lcmp]; exact cl))
end ZRE3
