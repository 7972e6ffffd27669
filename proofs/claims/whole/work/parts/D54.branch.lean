/-! ===== the run: branches ===== -/
section ZRB
variable {p q n m : Nat} {g : ZT} {K : ZK} {M : ZM} {P : ZP} {hh : Nat → Nat → Int32} {R : Nat → Nat → Bool} {T : Nat → Nat → Nat → Nat} {Cx Dx C D : QS} {d i k : Nat} {h : Nat → Nat} {V : Nat → Nat → Nat × Int32} {pa pd : Nat → Nat} {H H' : ZH} {X : ZX} {to pl : Nat}
theorem r_op19 (Z : r_M p q n g K M P m hh R T Cx Dx d h V pa pd H X pl i C D) (hop : P.op i = 19) : r_res p q K M P hh R T Cx Dx X.sp ((fX6_decide C 19 (P.xa i)).bind (r_pu p)) (fX12_step D q (nI i)) := by
  obtain ⟨i1, c1, d1, d2, d3⟩ := Z.rdD
  obtain ⟨k1, k2⟩ := k_tk_at (M := M) 19 hop (by decide) (by decide)
  have k1 : k_tk M P i = 0 := k1
  have k2 : k_lv M P i = 0 := k2
  have hd := Z.C.F.lt
  obtain ⟨hb, h1, h2⟩ := Z.W.in Z.t.1
  obtain ⟨r, r1, r2⟩ := Z.ty0 (v := V d) (by omega) (by omega) (by omega) (by omega) (by omega) k2 (r_up.refl H) (fun s hs => rfl)
  have lb : k_lb (P.op i) = true := by rw [k_lb, decide_eq_true_eq]; omega
  obtain ⟨t1, t2, t3, t4⟩ := k_lb_in Z.W.N hb h1 h2 lb
  have e0 : h d - k_tk M P i + k_lv M P i = h d := by omega
  have t' := r_tf.go (H := H) (v := V d) (hf := h d) Z.W Z.t.1 Z.t.2.1 (j := k_tg P i) (Or.inr ⟨lb, rfl⟩) r1 (by rw [k1, k2, Z.t.2.2.1]; rfl) (by rw [← e0]; exact r2)
  refine Z.fin (C' := q_sI C 98 d (nI (k_tg P i))) (D' := q_sI D 175 d (nI (k_tg P i))) ?_ ?_ (Z.C.jump Z.W.hp _) (Z.D.jump Z.W.hq _) t' (by rw [k_up_eq]) (by rw [k_up_eq]) (fun f hf => ⟨rfl, rfl, k_up_ne (by omega), k_up_ne (by omega)⟩) ((Z.W.N.B _ hb).bd _ t1 t2) (r_up.refl H) Z.B Z.hc Z.oc rfl
  · simp (decide := true) only [fX6_decide, if_true, if_false, Option.bind_some, Z.C.F.d, z_inbN hd (by decide), z_cl (show d < 2147483648 by omega), t3]
  · have hD : D.2.1 (q + 15) i = 19 := by rw [d1, hop]; rfl
    simp (decide := true) only [fX12_step, i1, if_true, if_false, c1, hD, d2, t4, Z.D.dm, z_inbN hd (by decide), z_cl (show d < 2147483648 by omega), Option.bind_some]
theorem r_stepBr (Z : r_M p q n g K M P m hh R T Cx Dx d h V pa pd H X pl i C D) (h1 : 20 ≤ P.op i) (h2 : P.op i ≤ 29) : fX12_step D q (nI i) = fX12_branch D (nI (P.op i)) (P.ya i) := by
  obtain ⟨i1, c1, d1, d2, d3⟩ := Z.rdD
  have hop46 : P.op i < 46 := by omega
  have ex : ∀ m, m < 100 → (nI (P.op i) = nI m) = (P.op i = m) := fun m hm => z_nk46 hop46 hm
  have l8 : (nI (P.op i) < 8) = (P.op i < 8) := by rw [show (8 : Int32) = nI 8 from rfl, z_ltN (by omega) (by decide)]
  have l20 : (nI (P.op i) < 20) = (P.op i < 20) := by rw [show (20 : Int32) = nI 20 from rfl, z_ltN (by omega) (by decide)]
  have l17 : ((17 : Int32) < nI (P.op i)) = (17 < P.op i) := by rw [show (17 : Int32) = nI 17 from rfl, z_ltN (by decide) (by omega)]
  have l29 : ((29 : Int32) < nI (P.op i)) = (29 < P.op i) := by rw [show (29 : Int32) = nI 29 from rfl, z_ltN (by decide) (by omega)]
  simp only [fX12_step, i1, if_true, c1, d1, d2, show (nI (P.op i) = 0) = (P.op i = 0) from ex 0 (by decide), show (nI (P.op i) = 1) = (P.op i = 1) from ex 1 (by decide), show (nI (P.op i) = 2) = (P.op i = 2) from ex 2 (by decide), show (nI (P.op i) = 3) = (P.op i = 3) from ex 3 (by decide), show (nI (P.op i) = 4) = (P.op i = 4) from ex 4 (by decide), show (nI (P.op i) = 5) = (P.op i = 5) from ex 5 (by decide), show (nI (P.op i) = 6) = (P.op i = 6) from ex 6 (by decide), show (nI (P.op i) = 7) = (P.op i = 7) from ex 7 (by decide), show (nI (P.op i) = 18) = (P.op i = 18) from ex 18 (by decide), show (nI (P.op i) = 19) = (P.op i = 19) from ex 19 (by decide), show (nI (P.op i) = 44) = (P.op i = 44) from ex 44 (by decide), show (nI (P.op i) = 45) = (P.op i = 45) from ex 45 (by decide), l8, l17, l20, l29]
  simp (disch := omega) only [if_neg, if_pos, o_bs]
theorem i32_ti {a b : Int32} : (a.toInt = b.toInt) = (a = b) := propext Int32.toInt_inj
theorem i32_tl {a b : Int32} : (a.toInt < b.toInt) = (a < b) := propext Int32.lt_iff_toInt_lt.symm
theorem i32_te {a b : Int32} : (a.toInt ≤ b.toInt) = (a ≤ b) := propext Int32.le_iff_toInt_le.symm
theorem r_opBi (Z : r_M p q n g K M P m hh R T Cx Dx d h V pa pd H X pl i C D) (h1 : 20 ≤ P.op i) (h2 : P.op i ≤ 25) : r_res p q K M P hh R T Cx Dx X.sp ((fX6_decide C (nI (P.op i)) (P.xa i)).bind (r_pu p)) (fX12_step D q (nI i)) := by
  obtain ⟨k1, k2⟩ : k_tk M P i = 2 ∧ k_lv M P i = 0 := by
    obtain ⟨a, b⟩ := k_tk_at (M := M) (P.op i) rfl (by omega) (by omega)
    have : ∀ x : Fin 26, 20 ≤ x.1 → tb_T.getD x 0 = 2 ∧ tb_L.getD x 0 = 0 := by decide
    have := this ⟨P.op i, by omega⟩ h1
    exact ⟨a.trans this.1, b.trans this.2⟩
  have h8 := Z.t.h8 Z.W
  have hd := Z.C.F.lt
  obtain ⟨j, hj⟩ : ∃ j, h d = j + 1 + 1 := ⟨h d - 2, by omega⟩
  obtain ⟨HC, HD⟩ := Z.hk
  rw [hj] at HC HD
  have va := Z.int (j := 0) (by omega) (by omega) (by omega) (by omega) (k_told66 (by omega))
  have vb := Z.int (j := 1) (by omega) (by omega) (by omega) (by omega) (k_told66 (by omega))
  rw [k1, show 12 + h d - 2 + 0 = 12 + j by omega] at va
  rw [k1, show 12 + h d - 2 + 1 = 12 + (j + 1) by omega] at vb
  obtain ⟨C1, b, e1, eb, IC1, -⟩ := HC.popN Z.W.hp
  have eb := eb (by omega)
  obtain ⟨C2, a, e2, ea, IC2, -⟩ := IC1.popN Z.W.hp
  have ea := ea (by omega)
  obtain ⟨D1, f1, ID1⟩ := HD.popN Z.W.hq
  obtain ⟨D2, f2, ID2⟩ := ID1.popN Z.W.hq
  rw [r_e_i vb, ← eb] at f1
  rw [r_e_i va, ← ea] at f2
  have c89 := IC2.F.d
  have dm := ID2.dm
  have i64 := z_inbN hd (show 64 < 2147483648 by decide)
  have c64 := z_cl (show d < 2147483648 by omega)
  have ek : j = h d - k_tk M P i := by omega
  rw [r_stepBr Z h1 (by omega)]
  have hops : P.op i = 20 ∨ P.op i = 21 ∨ P.op i = 22 ∨ P.op i = 23 ∨ P.op i = 24 ∨ P.op i = 25 := by omega
  rcases hops with hop | hop | hop | hop | hop | hop
  · by_cases c : a = b
    · refine Z.fin2 (z := true) h1 (by omega) k2 IC2 ID2 ek ?_ ?_
      · rw [hop]
        show fX6_decide C 20 (P.xa i) = _
        simp (decide := true) only [fX6_decide, if_true, if_false, e1, e2, Option.bind_some, c, c89, i64, c64]
      · rw [hop]
        show fX12_branch D 20 (P.ya i) = _
        simp (decide := true) only [fX12_branch, if_true, if_false, f1, f2, Option.bind_some, lg_eq, lg_lt, lg_gt, lg_le, lg_ge, i64_int, i32_ti, i32_tl, i32_te, c, dm, i64, c64]
    · refine Z.fin2 (z := false) h1 (by omega) k2 IC2 ID2 ek ?_ ?_
      · rw [hop]
        show fX6_decide C 20 (P.xa i) = _
        simp (decide := true) only [fX6_decide, if_true, if_false, e1, e2, Option.bind_some, c, c89, i64, c64]
      · rw [hop]
        show fX12_branch D 20 (P.ya i) = _
        simp (decide := true) only [fX12_branch, if_true, if_false, f1, f2, Option.bind_some, lg_eq, lg_lt, lg_gt, lg_le, lg_ge, i64_int, i32_ti, i32_tl, i32_te, c, dm, i64, c64]
  · by_cases c : a = b
    · refine Z.fin2 (z := false) h1 (by omega) k2 IC2 ID2 ek ?_ ?_
      · rw [hop]
        show fX6_decide C 21 (P.xa i) = _
        simp (decide := true) only [fX6_decide, if_true, if_false, e1, e2, Option.bind_some, c, c89, i64, c64]
      · rw [hop]
        show fX12_branch D 21 (P.ya i) = _
        simp (decide := true) only [fX12_branch, if_true, if_false, f1, f2, Option.bind_some, lg_eq, lg_lt, lg_gt, lg_le, lg_ge, i64_int, i32_ti, i32_tl, i32_te, c, dm, i64, c64]
    · refine Z.fin2 (z := true) h1 (by omega) k2 IC2 ID2 ek ?_ ?_
      · rw [hop]
        show fX6_decide C 21 (P.xa i) = _
        simp (decide := true) only [fX6_decide, if_true, if_false, e1, e2, Option.bind_some, c, c89, i64, c64]
      · rw [hop]
        show fX12_branch D 21 (P.ya i) = _
        simp (decide := true) only [fX12_branch, if_true, if_false, f1, f2, Option.bind_some, lg_eq, lg_lt, lg_gt, lg_le, lg_ge, i64_int, i32_ti, i32_tl, i32_te, c, dm, i64, c64]
  · by_cases c : b ≤ a
    · refine Z.fin2 (z := false) h1 (by omega) k2 IC2 ID2 ek ?_ ?_
      · rw [hop]
        show fX6_decide C 22 (P.xa i) = _
        simp (decide := true) only [fX6_decide, if_true, if_false, e1, e2, Option.bind_some, c, c89, i64, c64]
      · rw [hop]
        show fX12_branch D 22 (P.ya i) = _
        simp (decide := true) only [fX12_branch, if_true, if_false, f1, f2, Option.bind_some, lg_eq, lg_lt, lg_gt, lg_le, lg_ge, i64_int, i32_ti, i32_tl, i32_te, c, dm, i64, c64]
    · refine Z.fin2 (z := true) h1 (by omega) k2 IC2 ID2 ek ?_ ?_
      · rw [hop]
        show fX6_decide C 22 (P.xa i) = _
        simp (decide := true) only [fX6_decide, if_true, if_false, e1, e2, Option.bind_some, c, c89, i64, c64]
      · rw [hop]
        show fX12_branch D 22 (P.ya i) = _
        simp (decide := true) only [fX12_branch, if_true, if_false, f1, f2, Option.bind_some, lg_eq, lg_lt, lg_gt, lg_le, lg_ge, i64_int, i32_ti, i32_tl, i32_te, c, dm, i64, c64]
  · by_cases c : b < a
    · refine Z.fin2 (z := false) h1 (by omega) k2 IC2 ID2 ek ?_ ?_
      · rw [hop]
        show fX6_decide C 23 (P.xa i) = _
        simp (decide := true) only [fX6_decide, if_true, if_false, e1, e2, Option.bind_some, c, c89, i64, c64]
      · rw [hop]
        show fX12_branch D 23 (P.ya i) = _
        simp (decide := true) only [fX12_branch, if_true, if_false, f1, f2, Option.bind_some, lg_eq, lg_lt, lg_gt, lg_le, lg_ge, i64_int, i32_ti, i32_tl, i32_te, c, dm, i64, c64]
    · refine Z.fin2 (z := true) h1 (by omega) k2 IC2 ID2 ek ?_ ?_
      · rw [hop]
        show fX6_decide C 23 (P.xa i) = _
        simp (decide := true) only [fX6_decide, if_true, if_false, e1, e2, Option.bind_some, c, c89, i64, c64]
      · rw [hop]
        show fX12_branch D 23 (P.ya i) = _
        simp (decide := true) only [fX12_branch, if_true, if_false, f1, f2, Option.bind_some, lg_eq, lg_lt, lg_gt, lg_le, lg_ge, i64_int, i32_ti, i32_tl, i32_te, c, dm, i64, c64]
  · by_cases c : a ≤ b
    · refine Z.fin2 (z := false) h1 (by omega) k2 IC2 ID2 ek ?_ ?_
      · rw [hop]
        show fX6_decide C 24 (P.xa i) = _
        simp (decide := true) only [fX6_decide, if_true, if_false, e1, e2, Option.bind_some, c, c89, i64, c64]
      · rw [hop]
        show fX12_branch D 24 (P.ya i) = _
        simp (decide := true) only [fX12_branch, if_true, if_false, f1, f2, Option.bind_some, lg_eq, lg_lt, lg_gt, lg_le, lg_ge, i64_int, i32_ti, i32_tl, i32_te, c, dm, i64, c64]
    · refine Z.fin2 (z := true) h1 (by omega) k2 IC2 ID2 ek ?_ ?_
      · rw [hop]
        show fX6_decide C 24 (P.xa i) = _
        simp (decide := true) only [fX6_decide, if_true, if_false, e1, e2, Option.bind_some, c, c89, i64, c64]
      · rw [hop]
        show fX12_branch D 24 (P.ya i) = _
        simp (decide := true) only [fX12_branch, if_true, if_false, f1, f2, Option.bind_some, lg_eq, lg_lt, lg_gt, lg_le, lg_ge, i64_int, i32_ti, i32_tl, i32_te, c, dm, i64, c64]
  · by_cases c : a < b
    · refine Z.fin2 (z := false) h1 (by omega) k2 IC2 ID2 ek ?_ ?_
      · rw [hop]
        show fX6_decide C 25 (P.xa i) = _
        simp (decide := true) only [fX6_decide, if_true, if_false, e1, e2, Option.bind_some, c, c89, i64, c64]
      · rw [hop]
        show fX12_branch D 25 (P.ya i) = _
        simp (decide := true) only [fX12_branch, if_true, if_false, f1, f2, Option.bind_some, lg_eq, lg_lt, lg_gt, lg_le, lg_ge, i64_int, i32_ti, i32_tl, i32_te, c, dm, i64, c64]
    · refine Z.fin2 (z := true) h1 (by omega) k2 IC2 ID2 ek ?_ ?_
      · rw [hop]
        show fX6_decide C 25 (P.xa i) = _
        simp (decide := true) only [fX6_decide, if_true, if_false, e1, e2, Option.bind_some, c, c89, i64, c64]
      · rw [hop]
        show fX12_branch D 25 (P.ya i) = _
        simp (decide := true) only [fX12_branch, if_true, if_false, f1, f2, Option.bind_some, lg_eq, lg_lt, lg_gt, lg_le, lg_ge, i64_int, i32_ti, i32_tl, i32_te, c, dm, i64, c64]
theorem r_opBs (Z : r_M p q n g K M P m hh R T Cx Dx d h V pa pd H X pl i C D) (h1 : 28 ≤ P.op i) (h2 : P.op i ≤ 29) : r_res p q K M P hh R T Cx Dx X.sp ((fX6_decide C (nI (P.op i)) (P.xa i)).bind (r_pu p)) (fX12_step D q (nI i)) := by
  obtain ⟨k1, k2⟩ : k_tk M P i = 2 ∧ k_lv M P i = 0 := by
    obtain ⟨a, b⟩ := k_tk_at (M := M) (P.op i) rfl (by omega) (by omega)
    have : ∀ x : Fin 30, 28 ≤ x.1 → tb_T.getD x 0 = 2 ∧ tb_L.getD x 0 = 0 := by decide
    have := this ⟨P.op i, by omega⟩ h1
    exact ⟨a.trans this.1, b.trans this.2⟩
  have h8 := Z.t.h8 Z.W
  have hd := Z.C.F.lt
  have hn := Z.B.1
  obtain ⟨j, hj⟩ : ∃ j, h d = j + 1 + 1 := ⟨h d - 2, by omega⟩
  obtain ⟨HC, HD⟩ := Z.hk
  rw [hj] at HC HD
  have t0 : ∀ x, k_told M P i x = 0 := fun x => k_told0 (by omega)
  obtain ⟨a, a1, a2, -⟩ := Z.ref (j := 0) (by omega) (by omega) (by omega) (by omega) (by rw [t0]; decide)
  obtain ⟨b, b1, b2, -⟩ := Z.ref (j := 1) (by omega) (by omega) (by omega) (by omega) (by rw [t0]; decide)
  rw [k1, show 12 + h d - 2 + 0 = 12 + j by omega] at a2
  rw [k1, show 12 + h d - 2 + 1 = 12 + (j + 1) by omega] at b2
  have la := r_th_le Z.B a1
  have lb := r_th_le Z.B b1
  obtain ⟨C1, b', e1, eb, IC1, -⟩ := HC.popN Z.W.hp
  rw [b2] at eb
  have eb : b' = nI b := eb (show r_th H b ≠ 67 by omega)
  obtain ⟨C2, a', e2, ea, IC2, -⟩ := IC1.popN Z.W.hp
  rw [a2] at ea
  have ea : a' = nI a := ea (show r_th H a ≠ 67 by omega)
  obtain ⟨D1, f1, ID1⟩ := HD.popN Z.W.hq
  obtain ⟨D2, f2, ID2⟩ := ID1.popN Z.W.hq
  rw [b2] at f1
  rw [a2] at f2
  have cmp : (lg_cmp (r_e (r_th H a, nI a)) (r_e (r_th H b, nI b)) = 0) = (a = b) := by
    rw [lg_eq, r_e_ri Z.B a1, r_e_ri Z.B b1]
    apply propext; omega
  have cmp2 : (a' = b') = (a = b) := by rw [ea, eb, z_eqN (by omega) (by omega)]
  have c89 := IC2.F.d
  have dm := ID2.dm
  have i64 := z_inbN hd (show 64 < 2147483648 by decide)
  have c64 := z_cl (show d < 2147483648 by omega)
  have ek : j = h d - k_tk M P i := by omega
  rw [r_stepBr Z (by omega) (by omega)]
  have hops : P.op i = 28 ∨ P.op i = 29 := by omega
  rcases hops with hop | hop
  · by_cases c : a = b
    · refine Z.fin2 (z := true) (by omega) (by omega) k2 IC2 ID2 ek ?_ ?_
      · rw [hop]
        show fX6_decide C 28 (P.xa i) = _
        simp (decide := true) only [fX6_decide, if_true, if_false, e1, e2, Option.bind_some, cmp2, c, c89, i64, c64]
      · rw [hop]
        show fX12_branch D 28 (P.ya i) = _
        simp (decide := true) only [fX12_branch, if_true, if_false, f1, f2, Option.bind_some, cmp]
        simp (decide := true) only [c, if_true, if_false, Option.bind_some, dm, i64, c64]
    · refine Z.fin2 (z := false) (by omega) (by omega) k2 IC2 ID2 ek ?_ ?_
      · rw [hop]
        show fX6_decide C 28 (P.xa i) = _
        simp (decide := true) only [fX6_decide, if_true, if_false, e1, e2, Option.bind_some, cmp2, c, c89, i64, c64]
      · rw [hop]
        show fX12_branch D 28 (P.ya i) = _
        simp (decide := true) only [fX12_branch, if_true, if_false, f1, f2, Option.bind_some, cmp]
        simp (decide := true) only [c, if_true, if_false, Option.bind_some, dm, i64, c64]
  · by_cases c : a = b
    · refine Z.fin2 (z := false) (by omega) (by omega) k2 IC2 ID2 ek ?_ ?_
      · rw [hop]
        show fX6_decide C 29 (P.xa i) = _
        simp (decide := true) only [fX6_decide, if_true, if_false, e1, e2, Option.bind_some, cmp2, c, c89, i64, c64]
      · rw [hop]
        show fX12_branch D 29 (P.ya i) = _
        simp (decide := true) only [fX12_branch, if_true, if_false, f1, f2, Option.bind_some, cmp]
        simp (decide := true) only [c, if_true, if_false, Option.bind_some, dm, i64, c64]
    · refine Z.fin2 (z := true) (by omega) (by omega) k2 IC2 ID2 ek ?_ ?_
      · rw [hop]
        show fX6_decide C 29 (P.xa i) = _
        simp (decide := true) only [fX6_decide, if_true, if_false, e1, e2, Option.bind_some, cmp2, c, c89, i64, c64]
      · rw [hop]
        show fX12_branch D 29 (P.ya i) = _
        simp (decide := true) only [fX12_branch, if_true, if_false, f1, f2, Option.bind_some, cmp]
        simp (decide := true) only [c, if_true, if_false, Option.bind_some, dm, i64, c64]
theorem r_opBn (Z : r_M p q n g K M P m hh R T Cx Dx d h V pa pd H X pl i C D) (h1 : 26 ≤ P.op i) (h2 : P.op i ≤ 27) : r_res p q K M P hh R T Cx Dx X.sp ((fX6_decide C (nI (P.op i)) (P.xa i)).bind (r_pu p)) (fX12_step D q (nI i)) := by
  obtain ⟨k1, k2⟩ : k_tk M P i = 1 ∧ k_lv M P i = 0 := by
    obtain ⟨a, b⟩ := k_tk_at (M := M) (P.op i) rfl (by omega) (by omega)
    have : ∀ x : Fin 28, 26 ≤ x.1 → tb_T.getD x 0 = 1 ∧ tb_L.getD x 0 = 0 := by decide
    have := this ⟨P.op i, by omega⟩ h1
    exact ⟨a.trans this.1, b.trans this.2⟩
  have h8 := Z.t.h8 Z.W
  have hd := Z.C.F.lt
  have hn := Z.B.1
  obtain ⟨j, hj⟩ : ∃ j, h d = j + 1 := ⟨h d - 1, by omega⟩
  obtain ⟨HC, HD⟩ := Z.hk
  rw [hj] at HC HD
  have t0 : ∀ x, k_told M P i x = 0 := fun x => k_told0 (by omega)
  obtain ⟨a, a1, a2, -⟩ := Z.ref (j := 0) (by omega) (by omega) (by omega) (by omega) (by rw [t0]; decide)
  rw [k1, show 12 + h d - 1 + 0 = 12 + j by omega] at a2
  have la := r_th_le Z.B a1
  obtain ⟨C1, a', e1, ea, IC1, -⟩ := HC.popN Z.W.hp
  rw [a2] at ea
  have ea : a' = nI a := ea (show r_th H a ≠ 67 by omega)
  obtain ⟨D1, f1, ID1⟩ := HD.popN Z.W.hq
  rw [a2] at f1
  have cmp := r_e_null Z.B a1
  have cmp2 : (a' = 0) = (a = 0) := by rw [ea, show (0 : Int32) = nI 0 from rfl, z_eqN (by omega) (by decide)]
  have c89 := IC1.F.d
  have dm := ID1.dm
  have i64 := z_inbN hd (show 64 < 2147483648 by decide)
  have c64 := z_cl (show d < 2147483648 by omega)
  have ek : j = h d - k_tk M P i := by omega
  rw [r_stepBr Z (by omega) (by omega)]
  have hops : P.op i = 26 ∨ P.op i = 27 := by omega
  rcases hops with hop | hop
  · by_cases c : a = 0
    · refine Z.fin2 (z := true) (by omega) (by omega) k2 IC1 ID1 ek ?_ ?_
      · rw [hop]
        show fX6_decide C 26 (P.xa i) = _
        simp (decide := true) only [fX6_decide, if_true, if_false, e1, Option.bind_some, cmp2, c, c89, i64, c64]
      · rw [hop]
        show fX12_branch D 26 (P.ya i) = _
        simp (decide := true) only [fX12_branch, if_true, if_false, f1, Option.bind_some, cmp]
        simp (decide := true) only [c, if_true, if_false, Option.bind_some, dm, i64, c64, q_b]
    · refine Z.fin2 (z := false) (by omega) (by omega) k2 IC1 ID1 ek ?_ ?_
      · rw [hop]
        show fX6_decide C 26 (P.xa i) = _
        simp (decide := true) only [fX6_decide, if_true, if_false, e1, Option.bind_some, cmp2, c, c89, i64, c64]
      · rw [hop]
        show fX12_branch D 26 (P.ya i) = _
        simp (decide := true) only [fX12_branch, if_true, if_false, f1, Option.bind_some, cmp]
        simp (decide := true) only [c, if_true, if_false, Option.bind_some, dm, i64, c64, q_b]
  · by_cases c : a = 0
    · refine Z.fin2 (z := false) (by omega) (by omega) k2 IC1 ID1 ek ?_ ?_
      · rw [hop]
        show fX6_decide C 27 (P.xa i) = _
        simp (decide := true) only [fX6_decide, if_true, if_false, e1, Option.bind_some, cmp2, c, c89, i64, c64]
      · rw [hop]
        show fX12_branch D 27 (P.ya i) = _
        simp (decide := true) only [fX12_branch, if_true, if_false, f1, Option.bind_some, cmp]
        simp (decide := true) only [c, if_true, if_false, Option.bind_some, dm, i64, c64, q_b]
    · refine Z.fin2 (z := true) (by omega) (by omega) k2 IC1 ID1 ek ?_ ?_
      · rw [hop]
        show fX6_decide C 27 (P.xa i) = _
        simp (decide := true) only [fX6_decide, if_true, if_false, e1, Option.bind_some, cmp2, c, c89, i64, c64]
      · rw [hop]
        show fX12_branch D 27 (P.ya i) = _
        simp (decide := true) only [fX12_branch, if_true, if_false, f1, Option.bind_some, cmp]
        simp (decide := true) only [c, if_true, if_false, Option.bind_some, dm, i64, c64, q_b]
end ZRB
