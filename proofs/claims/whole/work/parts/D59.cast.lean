/-! ===== the run: lengths, casts ===== -/
section ZRA
variable {p q n m : Nat} {g : ZT} {K : ZK} {M : ZM} {P : ZP} {hh : Nat → Nat → Int32} {R : Nat → Nat → Bool} {T : Nat → Nat → Nat → Nat} {Cx Dx C D : QS} {d i k : Nat} {h h' : Nat → Nat} {V : Nat → Nat → Nat × Int32} {pa pd : Nat → Nat} {H H' : ZH} {X : ZX} {to pl : Nat}
theorem r_M.arr (Z : r_M p q n g K M P m hh R T Cx Dx d h V pa pd H X pl i C D) (h2 : P.op i ≠ 2) (h4 : P.op i ≠ 4) (h43 : P.op i ≠ 43) {j : Nat} (hj : j < k_tk M P i) (e : k_told M P i j = 69) : ∃ o, o ≤ H.n ∧ V d (12 + h d - k_tk M P i + j) = (r_th H o, nI o) ∧ (1 ≤ o → 32 ≤ H.th o) := by
  obtain ⟨t1, -, -, t⟩ := Z.t.told Z.W Z.B h2 h4 h43
  have := t j hj
  rw [e, k_fit, if_pos rfl, k_ar_iff] at this
  obtain ⟨v1, -⟩ := Z.t.2.2.2 (12 + h d - k_tk M P i + j) (by omega)
  obtain ⟨o, o1, o2⟩ := v1.ref (by omega)
  rw [o2] at this
  refine ⟨o, o1, o2, fun h1 => ?_⟩
  have th : r_th H o = 65 ∨ 32 ≤ r_th H o ∧ r_th H o ≤ 64 := this
  rw [r_th_p h1] at th
  have := (Z.B.2 o h1 o1).2
  omega
/-- one value is taken, one is left -/
theorem r_M.fin11 {C2 D2 : QS} {j : Nat} {x : Nat × Int32} {c c' : Option QS} (Z : r_M p q n g K M P m hh R T Cx Dx d h V pa pd H X pl i C D) (hop : 30 ≤ P.op i) (hop2 : P.op i ≤ 38) (h33 : P.op i ≠ 33) (k2 : k_lv M P i = 1) (ej : j = h d - k_tk M P i) (hx : r_vo H x ∧ k_blw K x.1 (k_lf M P i) = true) (IC : rC p Cx d (k_up h d (j + 1)) (r_uv V d (12 + j) x) pa H X 0 i C2) (ID : rD q Dx d (k_up h d (j + 1)) (r_uv V d (12 + j) x) pd H X pl D2) (ec : c = some C2) (ed : c' = (fX12_next D2).bind fun y => some y) : r_res p q K M P hh R T Cx Dx X.sp (c.bind (r_pu p)) c' := by
  obtain ⟨r, r1, r2⟩ := Z.ty1 (v := r_uv V d (12 + j) x d) (by omega) (by omega) (by omega) (by omega) h33 k2 (r_up.refl H) (fun s hs => r_uv_s (by omega)) (by rw [← ej, r_uv_eq]; exact hx)
  have h8 := Z.t.h8 Z.W
  exact Z.fin1 (by rw [k_nx]; simp only [Bool.not_eq_true', decide_eq_false_iff_not]; omega) ec ed IC ID (fun f hf => ⟨k_up_ne (by omega), r_uv_F (by omega)⟩) r1 (by rw [k_up_eq]; omega) (by rw [k_up_eq, show j + 1 = h d - k_tk M P i + k_lv M P i by omega]; exact r2)
theorem r_op32 (Z : r_M p q n g K M P m hh R T Cx Dx d h V pa pd H X pl i C D) (hop : P.op i = 32) : r_res p q K M P hh R T Cx Dx X.sp ((fX6_useArray C p (nI i)).bind (r_pu p)) (fX12_step D q (nI i)) := by
  obtain ⟨i1, c1, d1, d2, d3⟩ := Z.rdD
  obtain ⟨p11, p12, p13, p16⟩ := Z.rdC
  obtain ⟨k1, k2⟩ := k_tk_at (M := M) 32 hop (by decide) (by decide)
  have k1 : k_tk M P i = 1 := k1
  have k2 : k_lv M P i = 1 := k2
  have hC : C.2.1 (p + 11) i = 32 := by rw [p11, hop]; rfl
  have h8 := Z.t.h8 Z.W
  have hn := Z.B.1
  obtain ⟨j, hj⟩ : ∃ j, h d = j + 1 := ⟨h d - 1, by omega⟩
  obtain ⟨HC, HD⟩ := Z.hk
  rw [hj] at HC HD
  obtain ⟨o, o1, o2, o3⟩ := Z.arr (j := 0) (by omega) (by omega) (by omega) (by omega) (by simp [k_told, hop])
  rw [k1, show 12 + h d - 1 + 0 = 12 + j by omega] at o2
  have tho := r_th_le Z.B o1
  obtain ⟨C1, a', e1, ea, IC1, -⟩ := HC.popN Z.W.hp
  rw [o2] at ea
  have ea : a' = nI o := ea (show r_th H o ≠ 67 by omega)
  subst ea
  obtain ⟨D1, f1, ID1⟩ := HD.popN Z.W.hq
  rw [o2] at f1
  have cmp := r_e_null Z.B o1
  have o0 : (nI o = 0) = (o = 0) := by rw [show (0 : Int32) = nI 0 from rfl, z_eqN (by omega) (by decide)]
  rw [r_stepOb Z (by omega) (by omega), hop]
  show r_res p q K M P hh R T Cx Dx X.sp _ (fX12_objectStep D q 32 (P.ya i) (nI i))
  by_cases c : o = 0
  · have x := Z.raise (x := 2) (by decide) (by decide) IC1 ID1
    have a1 : fX6_useArray C p (nI i) = fX6_raise C1 (nI 2) := by
      simp (decide := true) only [fX6_useArray, i1, if_true, if_false, c1, hC, Option.bind_some, e1, o0, c, o_bs]; rfl
    have a2 : fX12_objectStep D q 32 (P.ya i) (nI i) = fX12_raise D1 q (nI (2 - 2)) (nI i) := by
      simp (decide := true) only [fX12_objectStep, if_true, if_false, f1, Option.bind_some, cmp]
      rw [if_pos c, o_bs]; rfl
    rw [a1, a2]; exact x
  · obtain ⟨-, -, c93, -⟩ := IC1.H.o o (by omega) o1
    obtain ⟨-, -, d179, -⟩ := ID1.H.o o (by omega) o1
    obtain ⟨C2, e2, IC2⟩ := IC1.pushIntN Z.W.hp (by omega) (nI (H.ln o))
    obtain ⟨D2, f2, ID2⟩ := ID1.pushN Z.W.hq (by omega) (x := (66, nI (H.ln o))) (w := (nI (H.ln o)).toInt64) rfl
    refine Z.fin11 (by omega) (by omega) (by omega) k2 (by omega) ⟨Or.inl rfl, by simp only [k_lf, hop]; exact k_blw_refl _⟩ IC2 ID2 ?_ ?_
    · simp (decide := true) only [fX6_useArray, i1, if_true, if_false, c1, hC, Option.bind_some, e1, o0, c, z_inbN (show o < 2001 by omega) (by decide), z_cl (show o < 2147483648 by omega), c93, e2]
    · simp (decide := true) only [fX12_objectStep, if_true, if_false, f1, Option.bind_some, cmp]
      rw [if_neg c, r_e_obj Z.B o1 (by omega), Option.bind_some, if_pos (z_inbN (show o - 1 < 2000 by omega) (by decide)), z_cl (show o - 1 < 2147483648 by omega), d179, f2, Option.bind_some]
theorem r_op37 (Z : r_M p q n g K M P m hh R T Cx Dx d h V pa pd H X pl i C D) (hop : P.op i = 37 ∨ P.op i = 38) : r_res p q K M P hh R T Cx Dx X.sp ((fX6_useObject C p (nI i)).bind (r_pu p)) (fX12_step D q (nI i)) := by
  obtain ⟨i1, c1, d1, d2, d3⟩ := Z.rdD
  obtain ⟨p11, p12, p13, p16⟩ := Z.rdC
  obtain ⟨k1, k2⟩ : k_tk M P i = 1 ∧ k_lv M P i = 1 := by
    rcases hop with hop | hop
    · exact k_tk_at (M := M) 37 hop (by decide) (by decide)
    · exact k_tk_at (M := M) 38 hop (by decide) (by decide)
  have h8 := Z.t.h8 Z.W
  have hn := Z.B.1
  obtain ⟨j, hj⟩ : ∃ j, h d = j + 1 := ⟨h d - 1, by omega⟩
  obtain ⟨HC, HD⟩ := Z.hk
  rw [hj] at HC HD
  have t0 : k_told M P i 0 = 0 := k_told0 (by omega)
  obtain ⟨o, o1, o2, o3⟩ := Z.ref (j := 0) (by omega) (by omega) (by omega) (by omega) (by rw [t0]; decide)
  rw [k1, show 12 + h d - 1 + 0 = 12 + j by omega] at o2
  have tho := r_th_le Z.B o1
  obtain ⟨C1, a', e1, ea, IC1, -⟩ := HC.popN Z.W.hp
  rw [o2] at ea
  have ea : a' = nI o := ea (show r_th H o ≠ 67 by omega)
  subst ea
  obtain ⟨D1, f1, ID1⟩ := HD.popN Z.W.hq
  rw [o2] at f1
  have cmp := r_e_null Z.B o1
  have o0 : (nI o = 0) = (o = 0) := by rw [show (0 : Int32) = nI 0 from rfl, z_eqN (by omega) (by decide)]
  obtain ⟨x, x1, x2, x3, x4⟩ := (Z.W.N.S.wI i Z.t.1).oT hop
  have x64 : x ≤ 64 := by
    have := Z.W.hK.2.1
    rcases x3 with x3 | x3 | x3 | x3 <;> omega
  have bC : 1 ≤ o → fX0_isBelow C1 p (C1.2.1 91 o) (nI x) = some (k_blw K (H.th o) x) := fun h1 => by
    rw [(IC1.H.o o h1 o1).1]
    have := (Z.B.2 o h1 o1).2
    exact z_isBelow Z.W.hK (r_kC Z.W IC1.g) (by omega) (by omega)
  have bD : 1 ≤ o → fX12_isBelow D1 q (D1.2.1 176 (o - 1)) (k_y x) = some (k_blw K (H.th o) x) := fun h1 => by
    rw [(ID1.H.o o h1 o1).1, r_isBelow ID1.g]
    exact z_isBelow12 Z.W.hK Z.W.N.S.mJ.kD (Or.inl (Z.B.2 o h1 o1).1) (Or.inl x3)
  have i2001 := z_inbN (show o < 2001 by omega) (by decide)
  have c2001 := z_cl (show o < 2147483648 by omega)
  rw [r_stepOb Z (by omega) (by omega)]
  obtain ⟨C2, e2, IC2⟩ := IC1.pushObjN Z.W.hp Z.B (by omega) o1
  obtain ⟨D2, f2, ID2⟩ := ID1.pushN Z.W.hq (by omega) (x := (r_th H o, nI o)) rfl
  obtain ⟨C3, e3, IC3⟩ := IC1.pushIntN Z.W.hp (by omega) 0
  obtain ⟨D3, f3, ID3⟩ := ID1.pushN Z.W.hq (by omega) (x := (66, 0)) (w := 0) rfl
  obtain ⟨C4, e4, IC4⟩ := IC1.pushIntN Z.W.hp (by omega) 1
  obtain ⟨D4, f4, ID4⟩ := ID1.pushN Z.W.hq (by omega) (x := (66, 1)) (w := 1) rfl
  by_cases c : o = 0
  · rcases hop with hop | hop
    · have hC : C.2.1 (p + 11) i = 37 := by rw [p11, hop]; rfl
      rw [hop]
      show r_res p q K M P hh R T Cx Dx X.sp _ (fX12_objectStep D q 37 (P.ya i) (nI i))
      refine Z.fin11 (by omega) (by omega) (by omega) k2 (by omega) ⟨Or.inr (Or.inr ⟨o, o1, rfl⟩), ?_⟩ IC2 ID2 ?_ ?_
      · rw [k_lf, if_neg (by omega), if_pos (Or.inr (Or.inr hop)), k_xa, x1, z_cl (by omega), c, r_th_0]
        exact k_blw_iff.mpr (Or.inr (Or.inr ⟨by decide, by omega, Or.inl rfl⟩))
      · simp (decide := true) only [fX6_useObject, i1, if_true, if_false, c1, hC, Option.bind_some, e1, o0]
        simp (decide := true) only [c, if_true, if_false, Option.bind_some]
        rw [← c, e2]; rfl
      · simp (decide := true) only [fX12_objectStep, if_true, if_false, f1, Option.bind_some, cmp]
        simp (decide := true) only [c, if_true, if_false, Option.bind_some, fX12_objectStep_287]
        rw [← c, f2, Option.bind_some]
    · have hC : C.2.1 (p + 11) i = 38 := by rw [p11, hop]; rfl
      rw [hop]
      show r_res p q K M P hh R T Cx Dx X.sp _ (fX12_objectStep D q 38 (P.ya i) (nI i))
      refine Z.fin11 (by omega) (by omega) (by omega) k2 (by omega) ⟨Or.inl rfl, by simp only [k_lf, hop]; exact k_blw_refl _⟩ IC3 ID3 ?_ ?_
      · simp (decide := true) only [fX6_useObject, i1, if_true, if_false, c1, hC, Option.bind_some, e1, o0]
        simp (decide := true) only [c, if_true, if_false, Option.bind_some, e3]
      · simp (decide := true) only [fX12_objectStep, if_true, if_false, f1, Option.bind_some, cmp]
        simp (decide := true) only [c, if_true, if_false, Option.bind_some, fX12_objectStep_287, q_b, f3]
  · have bC := bC (by omega)
    have bD := bD (by omega)
    have od := r_e_obj (S := D1) Z.B o1 (show 1 ≤ o by omega)
    have i2000 := z_inbN (show o - 1 < 2000 by omega) (by decide)
    have c2000 := z_cl (show o - 1 < 2147483648 by omega)
    cases hb : k_blw K (H.th o) x with
    | true =>
      rw [hb] at bC bD
      rcases hop with hop | hop
      · have hC : C.2.1 (p + 11) i = 37 := by rw [p11, hop]; rfl
        rw [hop]
        show r_res p q K M P hh R T Cx Dx X.sp _ (fX12_objectStep D q 37 (P.ya i) (nI i))
        refine Z.fin11 (by omega) (by omega) (by omega) k2 (by omega) ⟨Or.inr (Or.inr ⟨o, o1, rfl⟩), ?_⟩ IC2 ID2 ?_ ?_
        · simp only [k_lf, hop]
          rw [k_xa, x1, z_cl (by omega), r_th_p (by omega)]
          exact hb
        · simp (decide := true) only [fX6_useObject, i1, if_true, if_false, c1, hC, p12, x1, Option.bind_some, e1, o0, c, i2001, c2001, bC, e2]
        · simp (decide := true) only [fX12_objectStep, if_true, if_false, f1, Option.bind_some, cmp, x2]
          simp (decide := true) only [c, if_true, if_false, Option.bind_some, od, i2000, c2000, bD, fX12_objectStep_287, f2]
      · have hC : C.2.1 (p + 11) i = 38 := by rw [p11, hop]; rfl
        rw [hop]
        show r_res p q K M P hh R T Cx Dx X.sp _ (fX12_objectStep D q 38 (P.ya i) (nI i))
        refine Z.fin11 (by omega) (by omega) (by omega) k2 (by omega) ⟨Or.inl rfl, by simp only [k_lf, hop]; exact k_blw_refl _⟩ IC4 ID4 ?_ ?_
        · simp (decide := true) only [fX6_useObject, i1, if_true, if_false, c1, hC, p12, x1, Option.bind_some, e1, o0, c, i2001, c2001, bC, e4]
        · simp (decide := true) only [fX12_objectStep, if_true, if_false, f1, Option.bind_some, cmp, x2]
          simp (decide := true) only [c, if_true, if_false, Option.bind_some, od, i2000, c2000, bD, fX12_objectStep_287, q_b, f4]
    | false =>
      rw [hb] at bC bD
      rcases hop with hop | hop
      · have hC : C.2.1 (p + 11) i = 37 := by rw [p11, hop]; rfl
        rw [hop]
        show r_res p q K M P hh R T Cx Dx X.sp _ (fX12_objectStep D q 37 (P.ya i) (nI i))
        have y := Z.raise (x := 6) (by decide) (by decide) IC1 ID1
        have a1 : fX6_useObject C p (nI i) = fX6_raise C1 (nI 6) := by
          simp (decide := true) only [fX6_useObject, i1, if_true, if_false, c1, hC, p12, x1, Option.bind_some, e1, o0, c, i2001, c2001, bC, o_bs]; rfl
        have a2 : fX12_objectStep D q 37 (P.ya i) (nI i) = fX12_raise D1 q (nI (6 - 2)) (nI i) := by
          simp (decide := true) only [fX12_objectStep, if_true, if_false, f1, Option.bind_some, cmp, x2]
          simp (decide := true) only [c, if_true, if_false, Option.bind_some, od, i2000, c2000, bD, o_bs]; rfl
        rw [a1, a2]; exact y
      · have hC : C.2.1 (p + 11) i = 38 := by rw [p11, hop]; rfl
        rw [hop]
        show r_res p q K M P hh R T Cx Dx X.sp _ (fX12_objectStep D q 38 (P.ya i) (nI i))
        refine Z.fin11 (by omega) (by omega) (by omega) k2 (by omega) ⟨Or.inl rfl, by simp only [k_lf, hop]; exact k_blw_refl _⟩ IC3 ID3 ?_ ?_
        · simp (decide := true) only [fX6_useObject, i1, if_true, if_false, c1, hC, p12, x1, Option.bind_some, e1, o0, c, i2001, c2001, bC, e3]
        · simp (decide := true) only [fX12_objectStep, if_true, if_false, f1, Option.bind_some, cmp, x2]
          simp (decide := true) only [c, if_true, if_false, Option.bind_some, od, i2000, c2000, bD, fX12_objectStep_287, q_b, f3]
end ZRA
