/-! ===== the run: input, output, return, throw ===== -/
def ZX.sn : ZX → Nat → ZX := fun (X : ZX0) a => ((X.1, X.2.1, a, X.2.2.2) : ZX0)
def ZX.sw : ZX → Nat → (Nat → Int32) → ZX := fun (X : ZX0) a b => ((X.1, X.2.1, X.2.2.1, a, b, X.2.2.2.2.2) : ZX0)
section ZRF
variable {p q n m : Nat} {g : ZT} {K : ZK} {M : ZM} {P : ZP} {hh : Nat → Nat → Int32} {R : Nat → Nat → Bool} {T : Nat → Nat → Nat → Nat} {Cx Dx C D : QS} {d i k : Nat} {h : Nat → Nat} {V : Nat → Nat → Nat × Int32} {pa pd : Nat → Nat} {H H' : ZH} {X : ZX} {to pl : Nat}
theorem r_M.rdC (Z : r_M p q n g K M P m hh R T Cx Dx d h V pa pd H X pl i C D) : C.2.1 (p + 11) i = nI (P.op i) ∧ C.2.1 (p + 12) i = P.xa i ∧ C.2.1 (p + 13) i = P.xb i ∧ C.2.1 (p + 16) i = nI (P.si i) := by
  obtain ⟨y1, y2, y3, -, -, y6⟩ := Z.W.N.S.iC i Z.t.1
  exact ⟨by rw [Z.C.g 11 (by decide)]; exact y1, by rw [Z.C.g 12 (by decide)]; exact y2, by rw [Z.C.g 13 (by decide)]; exact y3, by rw [Z.C.g 16 (by decide)]; exact y6⟩
theorem r_stepOb (Z : r_M p q n g K M P m hh R T Cx Dx d h V pa pd H X pl i C D) (h1 : 30 ≤ P.op i) (h2 : P.op i ≤ 43) : fX12_step D q (nI i) = fX12_objectStep D q (nI (P.op i)) (P.ya i) (nI i) := by
  obtain ⟨i1, c1, d1, d2, d3⟩ := Z.rdD
  have hop46 : P.op i < 46 := by omega
  have ex : ∀ m, m < 100 → (nI (P.op i) = nI m) = (P.op i = m) := fun m hm => z_nk46 hop46 hm
  have l8 : (nI (P.op i) < 8) = (P.op i < 8) := by rw [show (8 : Int32) = nI 8 from rfl, z_ltN (by omega) (by decide)]
  have l20 : (nI (P.op i) < 20) = (P.op i < 20) := by rw [show (20 : Int32) = nI 20 from rfl, z_ltN (by omega) (by decide)]
  have l17 : ((17 : Int32) < nI (P.op i)) = (17 < P.op i) := by rw [show (17 : Int32) = nI 17 from rfl, z_ltN (by decide) (by omega)]
  have l29 : ((29 : Int32) < nI (P.op i)) = (29 < P.op i) := by rw [show (29 : Int32) = nI 29 from rfl, z_ltN (by decide) (by omega)]
  simp only [fX12_step, i1, if_true, c1, d1, d2, show (nI (P.op i) = 0) = (P.op i = 0) from ex 0 (by decide), show (nI (P.op i) = 1) = (P.op i = 1) from ex 1 (by decide), show (nI (P.op i) = 2) = (P.op i = 2) from ex 2 (by decide), show (nI (P.op i) = 3) = (P.op i = 3) from ex 3 (by decide), show (nI (P.op i) = 4) = (P.op i = 4) from ex 4 (by decide), show (nI (P.op i) = 5) = (P.op i = 5) from ex 5 (by decide), show (nI (P.op i) = 6) = (P.op i = 6) from ex 6 (by decide), show (nI (P.op i) = 7) = (P.op i = 7) from ex 7 (by decide), show (nI (P.op i) = 18) = (P.op i = 18) from ex 18 (by decide), show (nI (P.op i) = 19) = (P.op i = 19) from ex 19 (by decide), show (nI (P.op i) = 44) = (P.op i = 44) from ex 44 (by decide), show (nI (P.op i) = 45) = (P.op i = 45) from ex 45 (by decide), l8, l17, l20, l29]
  simp (disch := omega) only [if_neg, if_pos, o_bs]
theorem r_op44 (Z : r_M p q n g K M P m hh R T Cx Dx d h V pa pd H X pl i C D) (hop : P.op i = 44) : r_res p q K M P hh R T Cx Dx X.sp ((fX6_transfer C p (nI i)).bind (r_pu p)) (fX12_step D q (nI i)) := by
  obtain ⟨i1, c1, d1, d2, d3⟩ := Z.rdD
  obtain ⟨p11, p12, p13, p16⟩ := Z.rdC
  obtain ⟨k1, k2⟩ := k_tk_at (M := M) 44 hop (by decide) (by decide)
  have k1 : k_tk M P i = 0 := k1
  have k2 : k_lv M P i = 1 := k2
  have h8 := Z.t.h8 Z.W
  have n2 := Z.C.X.ni2
  have nx1 := Z.nx
  have sp2 := Z.C.X.sp2
  have hC : C.2.1 (p + 11) i = 44 := by rw [p11, hop]; rfl
  have hD : D.2.1 (q + 15) i = 44 := by rw [d1, hop]; rfl
  have le1 : (nI X.ni ≤ nI X.nx) = (X.ni ≤ X.nx) := z_leN (by omega) (by omega)
  have le2 : (nI X.ni ≤ nI (min X.nx X.ni)) = (X.ni ≤ X.nx) := by rw [z_leN (by omega) (by omega)]; apply propext; omega
  have fin : ∀ c C1 D1, fX6_pushInt C c = some C1 → rC p Cx d (k_up h d (h d + 1)) (r_uv V d (12 + h d) (66, c)) pa H X 0 i C1 → rD q Dx d (k_up h d (h d + 1)) (r_uv V d (12 + h d) (66, c)) pd H (X.sn (X.nx + 1)) pl D1 → fX12_step D q (nI i) = ((fX12_next D1).bind fun y => some y) → fX6_transfer C p (nI i) = some (q_sI C1 89 12 (nI (X.nx + 1))) → r_res p q K M P hh R T Cx Dx X.sp ((fX6_transfer C p (nI i)).bind (r_pu p)) (fX12_step D q (nI i)) := by
    intro c C1 D1 e1 IC ID eD eC
    obtain ⟨r, r1, r2⟩ := Z.ty1 (v := r_uv V d (12 + h d) (66, c) d) (by omega) (by omega) (by omega) (by omega) (by omega) k2 (r_up.refl H) (fun s hs => r_uv_s (by omega)) (by
      rw [k1, Nat.sub_zero, r_uv_eq, k_lf]
      simp only [hop]
      exact ⟨Or.inl rfl, k_blw_refl _⟩)
    obtain ⟨D2, e2, ID2⟩ := ID.next Z.W.hq
    rw [Z.ei] at ID2
    have IC2 : rC p Cx d (k_up h d (h d + 1)) (r_uv V d (12 + h d) (66, c)) pa H (X.sn (X.nx + 1)) 0 i (q_sI C1 89 12 (nI (X.nx + 1))) := ⟨IC.g.sI Z.W.hp (by decide), IC.F, IC.P, IC.H, ⟨IC.X.ni, IC.X.ni2, IC.X.inp, by rw [q_sI_I, if_pos ⟨rfl, rfl⟩]; rfl, nx1, IC.X.w, IC.X.w2, IC.X.out, IC.X.sp, IC.X.sp2, IC.X.oc, IC.X.ts, IC.X.sy, IC.X.to, IC.X.pl⟩⟩
    have hn : k_nx (P.op i) = true := by rw [hop]; rfl
    have e0 : h d - k_tk M P i + k_lv M P i = h d + 1 := by omega
    have t' := r_tf.go (H := H) (v := r_uv V d (12 + h d) (66, c) d) (hf := h d + 1) Z.W Z.t.1 Z.t.2.1 (j := i + 1) (Or.inl ⟨hn, rfl⟩) r1 (by rw [← Z.t.2.2.1]; omega) (by rw [← e0]; exact r2)
    exact Z.fin eC (by rw [eD, e2]; rfl) IC2 ID2 (by rw [k_up_eq]; exact t') Z.ea (by rw [k_up_eq]) (fun f hf => ⟨k_up_ne (by omega), r_uv_F (by omega), rfl, k_up_ne (by omega)⟩) (Z.nx' hn) (r_up.refl H) Z.B Z.hc Z.oc rfl
  by_cases c : X.ni ≤ X.nx
  · obtain ⟨C1, e1, IC1⟩ := Z.hk.1.pushIntN Z.W.hp (by omega) 0
    obtain ⟨D1, e2, ID1⟩ := Z.hk.2.pushN Z.W.hq (by omega) (x := (66, 0)) (w := 0) rfl
    refine fin 0 C1 D1 e1 IC1 ⟨ID1.g, ID1.F, ID1.P, ID1.H, ⟨ID1.X.ni, ID1.X.inp, ?_, ID1.X.w, ID1.X.out, ID1.X.sp, ID1.X.oc, ID1.X.ts, ID1.X.sy, ID1.X.pl⟩⟩ ?_ ?_
    · rw [ID1.X.nx]
      show nI (min X.nx X.ni) = nI (min (X.nx + 1) X.ni)
      congr 1; omega
    · simp (decide := true) only [fX12_step, i1, if_true, if_false, c1, hD, Z.D.X.ni, Z.D.X.nx, le2, c, Option.bind_some, e2, ID1.X.ni, ID1.X.nx]
    · simp (decide := true) only [fX6_transfer, i1, if_true, if_false, c1, hC, Z.C.X.ni, Z.C.X.nx, le1, c, Option.bind_some, e1, IC1.X.nx, nI_1]
  · have ein := Z.C.X.inp X.nx (by omega)
    have ein2 := Z.D.X.inp X.nx (by omega)
    have emin : min X.nx X.ni = X.nx := by omega
    have ix := z_inbN (show X.nx < 256 by omega) (by decide)
    have cx := z_cl (show X.nx < 2147483648 by omega)
    obtain ⟨C1, e1, IC1⟩ := Z.hk.1.pushIntN Z.W.hp (by omega) (X.inp X.nx)
    obtain ⟨D1, e2, ID1⟩ := Z.hk.2.pushN Z.W.hq (by omega) (x := (66, X.inp X.nx)) (w := (X.inp X.nx).toInt64) rfl
    refine fin (X.inp X.nx) C1 (q_sI D1 102 39 (nI (X.nx + 1))) e1 IC1 ⟨ID1.g.sI Z.W.hq (by decide), ID1.F, ID1.P, ID1.H, ⟨ID1.X.ni, ID1.X.inp, ?_, ID1.X.w, ID1.X.out, ID1.X.sp, ID1.X.oc, ID1.X.ts, ID1.X.sy, ID1.X.pl⟩⟩ ?_ ?_
    · rw [q_sI_I, if_pos ⟨rfl, rfl⟩]
      show nI (X.nx + 1) = nI (min (X.nx + 1) X.ni)
      congr 1; omega
    · have nD := Z.D.X.nx
      have nD1 := ID1.X.nx
      rw [emin] at nD nD1
      simp (decide := true) only [fX12_step, i1, if_true, if_false, c1, hD, Z.D.X.ni, nD, le1, c, Option.bind_some, ix, cx, ein2, e2, ID1.X.ni, nD1, nI_1]
    · simp (decide := true) only [fX6_transfer, i1, if_true, if_false, c1, hC, Z.C.X.ni, Z.C.X.nx, le1, c, Option.bind_some, ix, cx, ein, e1, IC1.X.nx, nI_1]
theorem r_op45 (Z : r_M p q n g K M P m hh R T Cx Dx d h V pa pd H X pl i C D) (hop : P.op i = 45) : r_res p q K M P hh R T Cx Dx X.sp ((fX6_transfer C p (nI i)).bind (r_pu p)) (fX12_step D q (nI i)) := by
  obtain ⟨i1, c1, d1, d2, d3⟩ := Z.rdD
  obtain ⟨p11, p12, p13, p16⟩ := Z.rdC
  obtain ⟨k1, k2⟩ := k_tk_at (M := M) 45 hop (by decide) (by decide)
  have k1 : k_tk M P i = 1 := k1
  have k2 : k_lv M P i = 0 := k2
  have h8 := Z.t.h8 Z.W
  have w1 := Z.w
  have sp2 := Z.C.X.sp2
  have hC : C.2.1 (p + 11) i = 45 := by rw [p11, hop]; rfl
  have hD : D.2.1 (q + 15) i = 45 := by rw [d1, hop]; rfl
  obtain ⟨j, hj⟩ : ∃ j, h d = j + 1 := ⟨h d - 1, by omega⟩
  obtain ⟨HC, HD⟩ := Z.hk
  rw [hj] at HC HD
  have v66 := Z.int (j := 0) (by omega) (by omega) (by omega) (by omega) (k_told66 (by omega))
  rw [k1, show 12 + h d - 1 + 0 = 12 + j by omega] at v66
  obtain ⟨C1, c, e1, ec, IC1, -⟩ := HC.popN Z.W.hp
  have ec := ec (by omega)
  obtain ⟨D1, e2, ID1⟩ := HD.popN Z.W.hq
  rw [r_e_i v66, ← ec] at e2
  have lw : ((256 : Int32) ≤ nI X.w) = (256 ≤ X.w) := by rw [show (256 : Int32) = nI 256 from rfl, z_leN (by decide) (by omega)]
  have fin : ∀ C2 D2 out, rC p Cx d (k_up h d j) V pa H (X.sw (X.w + 1) out) 0 i C2 → rD q Dx d (k_up h d j) V pd H (X.sw (X.w + 1) out) pl D2 → fX12_step D q (nI i) = ((fX12_next D2).bind fun y => some y) → fX6_transfer C p (nI i) = some C2 → r_res p q K M P hh R T Cx Dx X.sp ((fX6_transfer C p (nI i)).bind (r_pu p)) (fX12_step D q (nI i)) := by
    intro C2 D2 out IC ID eD eC
    obtain ⟨r, r1, r2⟩ := Z.ty0 (v := V d) (by omega) (by omega) (by omega) (by omega) (by omega) k2 (r_up.refl H) (fun s hs => rfl)
    obtain ⟨D3, e2, ID2⟩ := ID.next Z.W.hq
    rw [Z.ei] at ID2
    have hn : k_nx (P.op i) = true := by rw [hop]; rfl
    have e0 : h d - k_tk M P i + k_lv M P i = j := by omega
    have t' := r_tf.go (H := H) (v := V d) (hf := j) Z.W Z.t.1 Z.t.2.1 (j := i + 1) (Or.inl ⟨hn, rfl⟩) r1 (by rw [← Z.t.2.2.1]; omega) (by rw [← e0]; exact r2)
    exact Z.fin eC (by rw [eD, e2]; rfl) IC ID2 (by rw [k_up_eq]; exact t') Z.ea (by rw [k_up_eq]) (fun f hf => ⟨k_up_ne (by omega), rfl, rfl, k_up_ne (by omega)⟩) (Z.nx' hn) (r_up.refl H) Z.B Z.hc Z.oc rfl
  by_cases cw : 256 ≤ X.w
  · refine fin (q_sI C1 89 14 (nI (X.w + 1))) (q_sI D1 102 40 (nI (X.w + 1))) X.out ⟨IC1.g.sI Z.W.hp (by decide), IC1.F, IC1.P, IC1.H, ⟨IC1.X.ni, IC1.X.ni2, IC1.X.inp, IC1.X.nx, IC1.X.nx2, by rw [q_sI_I, if_pos ⟨rfl, rfl⟩]; rfl, w1, fun a b c => IC1.X.out a (by omega) c, IC1.X.sp, IC1.X.sp2, IC1.X.oc, IC1.X.ts, IC1.X.sy, IC1.X.to, IC1.X.pl⟩⟩ ⟨ID1.g.sI Z.W.hq (by decide), ID1.F, ID1.P, ID1.H, ⟨ID1.X.ni, ID1.X.inp, ID1.X.nx, by rw [q_sI_I, if_pos ⟨rfl, rfl⟩]; rfl, fun a b c => ID1.X.out a (by omega) c, ID1.X.sp, ID1.X.oc, ID1.X.ts, ID1.X.sy, ID1.X.pl⟩⟩ ?_ ?_
    · simp (decide := true) only [fX12_step, i1, if_true, if_false, c1, hD, e2, Option.bind_some, ID1.X.w, lw, cw, nI_1]
    · simp (decide := true) only [fX6_transfer, i1, if_true, if_false, c1, hC, e1, Option.bind_some, fX6_write, IC1.X.w, lw, cw, nI_1]
  · have ix := z_inbN (show X.w < 256 by omega) (by decide)
    have cx := z_cl (show X.w < 2147483648 by omega)
    refine fin (q_sI (q_sI C1 101 X.w c) 89 14 (nI (X.w + 1))) (q_sI (q_sI D1 182 X.w c) 102 40 (nI (X.w + 1))) (k_up X.out X.w c) ⟨(IC1.g.sI Z.W.hp (by decide)).sI Z.W.hp (by decide), IC1.F, IC1.P, IC1.H, ⟨IC1.X.ni, IC1.X.ni2, IC1.X.inp, IC1.X.nx, IC1.X.nx2, by rw [q_sI_I, if_pos ⟨rfl, rfl⟩]; rfl, w1, fun a b c' => ?_, IC1.X.sp, IC1.X.sp2, IC1.X.oc, IC1.X.ts, IC1.X.sy, IC1.X.to, IC1.X.pl⟩⟩ ⟨r_gD.sI Z.W.hq (ID1.g.sI Z.W.hq (by decide)) (by decide), ID1.F, ID1.P, ID1.H, ⟨ID1.X.ni, ID1.X.inp, ID1.X.nx, by rw [q_sI_I, if_pos ⟨rfl, rfl⟩]; rfl, fun a b c' => ?_, ID1.X.sp, ID1.X.oc, ID1.X.ts, ID1.X.sy, ID1.X.pl⟩⟩ ?_ ?_
    · show (q_sI C1 101 X.w c).2.1 101 a = k_up X.out X.w c a
      have b : a < X.w + 1 := b
      rw [q_sI_I]
      by_cases e : a = X.w
      · rw [if_pos ⟨rfl, e⟩, e, k_up_eq]
      · rw [if_neg (by omega), k_up_ne e]; exact IC1.X.out a (by omega) c'
    · show (q_sI D1 182 X.w c).2.1 182 a = k_up X.out X.w c a
      have b : a < X.w + 1 := b
      rw [q_sI_I]
      by_cases e : a = X.w
      · rw [if_pos ⟨rfl, e⟩, e, k_up_eq]
      · rw [if_neg (by omega), k_up_ne e]; exact ID1.X.out a (by omega) c'
    · have s1 : (q_sI D1 182 X.w c).2.1 102 40 = nI X.w := ID1.X.w
      simp (decide := true) only [fX12_step, i1, if_true, if_false, c1, hD, e2, Option.bind_some, ID1.X.w, lw, cw, i64_back, ix, cx, s1, nI_1]
    · have s1 : (q_sI C1 101 X.w c).2.1 89 14 = nI X.w := IC1.X.w
      simp (decide := true) only [fX6_transfer, i1, if_true, if_false, c1, hC, e1, Option.bind_some, fX6_write, IC1.X.w, lw, cw, ix, cx, s1, nI_1]
theorem r_op41 (Z : r_M p q n g K M P m hh R T Cx Dx d h V pa pd H X pl i C D) (hop : P.op i = 41) : r_res p q K M P hh R T Cx Dx X.sp ((fX6_transfer C p (nI i)).bind (r_pu p)) (fX12_step D q (nI i)) := by
  obtain ⟨i1, c1, d1, d2, d3⟩ := Z.rdD
  obtain ⟨p11, p12, p13, p16⟩ := Z.rdC
  obtain ⟨k1, k2⟩ := k_tk_at (M := M) 41 hop (by decide) (by decide)
  have k1 : k_tk M P i = 1 := k1
  have h8 := Z.t.h8 Z.W
  have hn := Z.B.1
  have hC : C.2.1 (p + 11) i = 41 := by rw [p11, hop]; rfl
  obtain ⟨j, hj⟩ : ∃ j, h d = j + 1 := ⟨h d - 1, by omega⟩
  obtain ⟨HC, HD⟩ := Z.hk
  rw [hj] at HC HD
  obtain ⟨a, a1, a2, -⟩ := Z.ref (j := 0) (by omega) (by omega) (by omega) (by omega) (by simp [k_told, hop])
  rw [k1, show 12 + h d - 1 + 0 = 12 + j by omega] at a2
  have la := r_th_le Z.B a1
  obtain ⟨C1, a', e1, ea, IC1, -⟩ := HC.popN Z.W.hp
  rw [a2] at ea
  have ea : a' = nI a := ea (show r_th H a ≠ 67 by omega)
  obtain ⟨D1, f1, ID1⟩ := HD.popN Z.W.hq
  rw [a2] at f1
  have cmp := r_e_null Z.B a1
  have cmp2 : (a' = 0) = (a = 0) := by rw [ea, show (0 : Int32) = nI 0 from rfl, z_eqN (by omega) (by decide)]
  rw [r_stepOb Z (by omega) (by omega), hop]
  show r_res p q K M P hh R T Cx Dx X.sp _ (fX12_objectStep D q 41 (P.ya i) (nI i))
  by_cases c : a = 0
  · have x := Z.raise (x := 2) (by decide) (by decide) IC1 ID1
    have eC : fX6_transfer C p (nI i) = fX6_raise C1 (nI 2) := by
      simp (decide := true) only [fX6_transfer, i1, if_true, if_false, c1, hC, e1, Option.bind_some, fX6_raiseObject, cmp2, c, o_bs]; rfl
    have eD : fX12_objectStep D q 41 (P.ya i) (nI i) = fX12_raise D1 q (nI (2 - 2)) (nI i) := by
      simp (decide := true) only [fX12_objectStep, if_true, if_false, f1, Option.bind_some, cmp]
      simp (decide := true) only [c, if_true, o_bs]; rfl
    rw [eC, eD]; exact x
  · have IC2 := IC1.sto Z.W.hp a
    have x := r_throw Z.W Z.B Z.hc (by omega) a1 IC2 ID1 Z.t.1 Z.t.2.1 (fun s hs => Z.t.2.2.2 s (by omega)) (fun f hf => by rw [k_up_ne (by omega)]; exact Z.lo f hf) Z.ei Z.el Z.oc
    have eC : (fX6_transfer C p (nI i)).bind (r_pu p) = fX6_passUp (q_sI C1 89 9 (nI a)) p := by
      simp (decide := true) only [fX6_transfer, i1, if_true, if_false, c1, hC, e1, Option.bind_some, fX6_raiseObject, cmp2, c]
      rw [← ea] at IC2 ⊢
      rw [r_pu, if_neg]
      have := IC2.X.to
      rw [q_sI_I, if_pos ⟨rfl, rfl⟩, cmp2]; exact c
    have eD : fX12_objectStep D q 41 (P.ya i) (nI i) = fX12_toss D1 q (r_e (r_th H a, nI a)) (nI i) := by
      simp (decide := true) only [fX12_objectStep, if_true, if_false, f1, Option.bind_some, cmp]
      simp (decide := true) only [c, if_false, o_bs]
    rw [eC, eD]; exact x
end ZRF
