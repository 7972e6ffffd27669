/-! ===== the run: cells are written, arrays ===== -/
section ZRE2
variable {p q n m : Nat} {g : ZT} {K : ZK} {M : ZM} {P : ZP} {hh : Nat → Nat → Int32} {R : Nat → Nat → Bool} {T : Nat → Nat → Nat → Nat} {Cx Dx C D : QS} {d i k : Nat} {h h' : Nat → Nat} {V : Nat → Nat → Nat × Int32} {pa pd : Nat → Nat} {H H' : ZH} {X : ZX} {to pl : Nat}
theorem r_M.fin0H {C2 D2 : QS} {j : Nat} {c c' : Option QS} (Z : r_M p q n g K M P m hh R T Cx Dx d h V pa pd H X pl i C D) (hop : P.op i = 34 ∨ P.op i = 36) (k2 : k_lv M P i = 0) (ej : j = h d - k_tk M P i) (u : r_up H H') (B' : r_ob K H') (hc' : r_hc K M H') (IC : rC p Cx d (k_up h d j) V pa H' X 0 i C2) (ID : rD q Dx d (k_up h d j) V pd H' X pl D2) (ec : c = some C2) (ed : c' = (fX12_next D2).bind fun y => some y) : r_res p q K M P hh R T Cx Dx X.sp (c.bind (r_pu p)) c' := by
  obtain ⟨r, r1, r2⟩ := Z.ty0 (v := V d) (by omega) (by omega) (by omega) (by omega) (by omega) k2 u (fun s hs => rfl)
  have hn : k_nx (P.op i) = true := by rcases hop with hop | hop <;> rw [hop] <;> rfl
  obtain ⟨D3, e2, ID2⟩ := ID.next Z.W.hq
  rw [Z.ei] at ID2
  have e0 : h d - k_tk M P i + k_lv M P i = j := by omega
  have t' := r_tf.go (H := H') (v := V d) (hf := j) Z.W Z.t.1 Z.t.2.1 (j := i + 1) (Or.inl ⟨hn, rfl⟩) r1 (by rw [← Z.t.2.2.1]; omega) (by rw [← e0]; exact r2)
  exact Z.fin ec (by rw [ed, e2]; rfl) IC ID2 (by rw [k_up_eq]; exact t') Z.ea (by rw [k_up_eq]) (fun f hf => ⟨k_up_ne (by omega), rfl, rfl, k_up_ne (by omega)⟩) (Z.nx' hn) u B' hc' Z.oc rfl
theorem r_op36 (Z : r_M p q n g K M P m hh R T Cx Dx d h V pa pd H X pl i C D) (hop : P.op i = 36) : r_res p q K M P hh R T Cx Dx X.sp ((fX6_useObject C p (nI i)).bind (r_pu p)) (fX12_step D q (nI i)) := by
  obtain ⟨i1, c1, d1, d2, d3⟩ := Z.rdD
  obtain ⟨p11, p12, p13, p16⟩ := Z.rdC
  obtain ⟨k1, k2⟩ := k_tk_at (M := M) 36 hop (by decide) (by decide)
  have k1 : k_tk M P i = 2 := k1
  have k2 : k_lv M P i = 0 := k2
  have hC : C.2.1 (p + 11) i = 36 := by rw [p11, hop]; rfl
  have h8 := Z.t.h8 Z.W
  have hn := Z.B.1
  have h32 := Z.W.hK.2.1
  obtain ⟨j, hj⟩ : ∃ j, h d = j + 1 + 1 := ⟨h d - 2, by omega⟩
  obtain ⟨HC, HD⟩ := Z.hk
  rw [hj] at HC HD
  obtain ⟨f, cc, x1, x2, x3, x4, x5, x6⟩ := (Z.W.N.S.wI i Z.t.1).oF (Or.inr hop)
  have f48 := Z.W.N.S.mJ.mF.1
  have fo8 := (Z.W.N.S.mJ.mF.2 f x4).2.2
  have hx := k_anc_le _ x6
  have kxb : k_xb P i = cc := by rw [k_xb, x3, z_cl (by omega)]
  have kxa : k_xa P i = f := by rw [k_xa, x1, z_cl (by omega)]
  have t0 : k_told M P i 0 = cc := by simp [k_told, hop, kxb]
  have t1 : k_told M P i 1 = M.ft f := by simp [k_told, hop, kxa]
  have ft66 : M.ft f ≤ 66 := by rcases Z.W.N.S.mJ.ft f x4 with t | t | t | t <;> omega
  obtain ⟨o, o1, o2, o3⟩ := Z.ref (j := 0) (by omega) (by omega) (by omega) (by omega) (by rw [t0]; omega)
  rw [t0] at o3
  rw [k1, show 12 + h d - 2 + 0 = 12 + j by omega] at o2
  have vfit : k_blw K (V d (12 + (j + 1))).1 (M.ft f) = true := by
    obtain ⟨-, -, -, tt⟩ := Z.t.told Z.W Z.B (by omega) (by omega) (by omega)
    have tt := tt 1 (by omega)
    rw [t1, k_fit, if_neg (by omega), k1, show 12 + h d - 2 + 1 = 12 + (j + 1) by omega] at tt
    exact tt
  have v67 : (V d (12 + (j + 1))).1 ≠ 67 := fun e => by
    rw [e] at vfit
    rcases k_blw_iff.mp vfit with x | x | x <;> omega
  have vvo := (Z.t.2.2.2 (12 + (j + 1)) (by omega)).1
  have tho := r_th_le Z.B o1
  obtain ⟨C0, v, e0, ev, IC0, -⟩ := HC.popN Z.W.hp
  have ev := ev v67
  obtain ⟨C1, a', e1, ea, IC1, -⟩ := IC0.popN Z.W.hp
  rw [o2] at ea
  have ea : a' = nI o := ea (show r_th H o ≠ 67 by omega)
  subst ea
  obtain ⟨D0, f0, ID0⟩ := HD.popN Z.W.hq
  obtain ⟨D1, f1, ID1⟩ := ID0.popN Z.W.hq
  rw [o2] at f1
  have cmp := r_e_null Z.B o1
  have o0 : (nI o = 0) = (o = 0) := by rw [show (0 : Int32) = nI 0 from rfl, z_eqN (by omega) (by decide)]
  rw [r_stepOb Z (by omega) (by omega), hop]
  show r_res p q K M P hh R T Cx Dx X.sp _ (fX12_objectStep D q 36 (P.ya i) (nI i))
  by_cases c : o = 0
  · have x := Z.raise (x := 2) (by decide) (by decide) IC1 ID1
    have a1 : fX6_useObject C p (nI i) = fX6_raise C1 (nI 2) := by
      simp (decide := true) only [fX6_useObject, i1, if_true, if_false, c1, hC, Option.bind_some, e0, e1, o0, c, o_bs]; rfl
    have a2 : fX12_objectStep D q 36 (P.ya i) (nI i) = fX12_raise D1 q (nI (2 - 2)) (nI i) := by
      simp (decide := true) only [fX12_objectStep, if_true, if_false, f0, f1, Option.bind_some, cmp]
      rw [if_pos c, o_bs]; rfl
    rw [a1, a2]; exact x
  · rw [r_th_p (by omega)] at o3
    obtain ⟨t1, t2⟩ := Z.cls (by omega) o1 (by omega) x5 o3
    have anc := k_anc_trans Z.W.hK _ t1 x6 t2
    obtain ⟨g1, g2, g3⟩ := (Z.hc o (by omega) o1).2.2.2 (by omega) f x4 anc
    have hst := (Z.hc o (by omega) o1).1
    obtain ⟨-, e2⟩ := IC1.cell Z.hc (by omega) o1 g1
    obtain ⟨-, d178, -, -⟩ := ID1.H.o o (by omega) o1
    have u2 := Z.C.H.u2
    have bC : ∃ b, fX0_isBelow C1 p (C1.2.1 91 o) (nI f) = some b := by
      rw [(IC1.H.o o (by omega) o1).1]
      exact ⟨_, z_isBelow Z.W.hK (r_kC Z.W IC1.g) (by omega) (by omega)⟩
    obtain ⟨b, bC⟩ := bC
    have cF := (Z.W.N.S.mJ.cF.2 f x4).2.2
    have cD := Z.W.N.sI.2.1 f x4 (Z.W.N.S.mJ.mF.2 f x4).2.1
    refine Z.fin0H (Or.inr hop) k2 (by omega) sc_up (sc_ob Z.B) (sc_hc Z.W Z.B Z.hc (by omega) o1 g1 vvo (fun a => by omega) (fun _ => ⟨f, x4, anc, rfl, vfit⟩)) (IC1.setc Z.W.hp (V d (12 + (j + 1)))) (ID1.setc (V d (12 + (j + 1)))) ?_ ?_
    · have red : ∀ (Y : Option QS), (Option.bind (α := Bool) (if b = true then some true else some false) fun _ => Y) = Y := fun Y => by cases b <;> rfl
      simp (decide := true) only [fX6_useObject, i1, if_true, if_false, c1, hC, p12, x1, Option.bind_some, e0, e1, o0, c, z_inbN (show o < 2001 by omega) (by decide), z_cl (show o < 2147483648 by omega), bC, z_inbN (show f < 48 by omega) (by decide), z_cl (show f < 2147483648 by omega), IC1.g 9 (by decide), cF.2, e2, red, ev]
    · simp (decide := true) only [fX12_objectStep, if_true, if_false, f0, f1, Option.bind_some, cmp]
      rw [if_neg c, r_e_obj Z.B o1 (by omega), Option.bind_some, if_pos (z_inbN (show o - 1 < 2000 by omega) (by decide)), z_cl (show o - 1 < 2147483648 by omega), x2, if_pos (z_inbN (show f < 48 by omega) (by decide)), z_cl (show f < 2147483648 by omega), d178, ID1.g 5 (by decide), cD, nI_add, if_pos (z_inbN (show H.st o + M.fs f < 12000 by omega) (by decide)), z_cl (show H.st o + M.fs f < 2147483648 by omega)]
theorem r_op33 (Z : r_M p q n g K M P m hh R T Cx Dx d h V pa pd H X pl i C D) (hop : P.op i = 33) : r_res p q K M P hh R T Cx Dx X.sp ((fX6_useArray C p (nI i)).bind (r_pu p)) (fX12_step D q (nI i)) := by
  obtain ⟨i1, c1, d1, d2, d3⟩ := Z.rdD
  obtain ⟨p11, p12, p13, p16⟩ := Z.rdC
  obtain ⟨k1, k2⟩ := k_tk_at (M := M) 33 hop (by decide) (by decide)
  have k1 : k_tk M P i = 2 := k1
  have k2 : k_lv M P i = 1 := k2
  have hC : C.2.1 (p + 11) i = 33 := by rw [p11, hop]; rfl
  have h8 := Z.t.h8 Z.W
  have hn := Z.B.1
  have h32 := Z.W.hK.2.1
  obtain ⟨j, hj⟩ : ∃ j, h d = j + 1 + 1 := ⟨h d - 2, by omega⟩
  obtain ⟨HC, HD⟩ := Z.hk
  rw [hj] at HC HD
  obtain ⟨o, o1, o2, o3⟩ := Z.arr (j := 0) (by omega) (by omega) (by omega) (by omega) (by simp [k_told, hop])
  rw [k1, show 12 + h d - 2 + 0 = 12 + j by omega] at o2
  have v66 := Z.int (j := 1) (by omega) (by omega) (by omega) (by omega) (by simp [k_told, hop])
  rw [k1, show 12 + h d - 2 + 1 = 12 + (j + 1) by omega] at v66
  have tho := r_th_le Z.B o1
  obtain ⟨C0, v, e0, ev, IC0, -⟩ := HC.popN Z.W.hp
  have ev := ev (by omega)
  obtain ⟨C1, a', e1, ea, IC1, -⟩ := IC0.popN Z.W.hp
  rw [o2] at ea
  have ea : a' = nI o := ea (show r_th H o ≠ 67 by omega)
  subst ea
  obtain ⟨D0, f0, ID0⟩ := HD.popN Z.W.hq
  rw [r_e_i v66, ← ev] at f0
  obtain ⟨D1, f1, ID1⟩ := ID0.popN Z.W.hq
  rw [o2] at f1
  have cmp := r_e_null Z.B o1
  have o0 : (nI o = 0) = (o = 0) := by rw [show (0 : Int32) = nI 0 from rfl, z_eqN (by omega) (by decide)]
  have vneg : (lg_cmp v.toInt64 (0 : Int64) < 0) = (v < 0) := by rw [lg_lt, i64_int, i64_big.2.2, Int32.lt_iff_toInt_lt]; rfl
  rw [r_stepOb Z (by omega) (by omega), hop]
  show r_res p q K M P hh R T Cx Dx X.sp _ (fX12_objectStep D q 33 (P.ya i) (nI i))
  have eD : fX12_objectStep D q 33 (P.ya i) (nI i) = fX12_elementStep D q 33 (nI i) := by
    simp (decide := true) only [fX12_objectStep, if_true, if_false, o_bs]
  rw [eD]
  by_cases c : o = 0
  · have x := Z.raise (x := 2) (by decide) (by decide) IC1 ID1
    have a1 : fX6_useArray C p (nI i) = fX6_raise C1 (nI 2) := by
      simp (decide := true) only [fX6_useArray, i1, if_true, if_false, c1, hC, Option.bind_some, e0, e1, o0, c, o_bs]; rfl
    have a2 : fX12_elementStep D q 33 (nI i) = fX12_raise D1 q (nI (2 - 2)) (nI i) := by
      simp (decide := true) only [fX12_elementStep, if_true, if_false, f0, f1, Option.bind_some, cmp]
      rw [if_pos c, o_bs]; rfl
    rw [a1, a2]; exact x
  have o3 := o3 (by omega)
  obtain ⟨tok, t64⟩ := Z.B.2 o (by omega) o1
  obtain ⟨c91, -⟩ := IC1.H.o o (by omega) o1
  obtain ⟨-, d178, d179, -⟩ := ID1.H.o o (by omega) o1
  have hst := (Z.hc o (by omega) o1).1
  have u2 := Z.C.H.u2
  have od := r_e_obj (S := D1) Z.B o1 (show 1 ≤ o by omega)
  have i2000 := z_inbN (show o - 1 < 2000 by omega) (by decide)
  have c2000 := z_cl (show o - 1 < 2147483648 by omega)
  have bad : fX2_hasCell C1 (nI o) v = some false → (v < 0 ∨ ¬ lg_cmp v.toInt64 (nI (H.ln o)).toInt64 < 0) → r_res p q K M P hh R T Cx Dx X.sp ((fX6_useArray C p (nI i)).bind (r_pu p)) (fX12_elementStep D q 33 (nI i)) := by
    intro hh1 hh2
    have x := Z.raise (x := 3) (by decide) (by decide) IC1 ID1
    have a1 : fX6_useArray C p (nI i) = fX6_raise C1 (nI 3) := by
      simp (decide := true) only [fX6_useArray, i1, if_true, if_false, c1, hC, Option.bind_some, e0, e1, o0, c, hh1, o_bs]; rfl
    have a2 : fX12_elementStep D q 33 (nI i) = fX12_raise D1 q (nI (3 - 2)) (nI i) := by
      simp (decide := true) only [fX12_elementStep, if_true, if_false, f0, f1, Option.bind_some, cmp]
      simp (decide := true) only [c, if_false, od, Option.bind_some, vneg]
      by_cases cn : v < 0
      · rw [if_pos cn, o_bs]; rfl
      · rw [if_neg cn, if_pos i2000, c2000, d179, if_neg (by rcases hh2 with z | z; exact absurd z cn; exact z), o_bs]; rfl
    rw [a1, a2]; exact x
  by_cases cn : v < 0
  · exact bad (IC1.hasN (by omega) o1 cn) (Or.inl cn)
  have cn' : 0 ≤ v.toInt := by
    rw [Int32.lt_iff_toInt_lt] at cn
    have : (0 : Int32).toInt = 0 := rfl
    omega
  have ej := z_toN cn'
  have jb := (i32_rng v).2
  generalize hjj : v.toInt.toNat = jj at ej
  have jjb : jj < 2147483648 := by omega
  have lcmp : (lg_cmp v.toInt64 (nI (H.ln o)).toInt64 < 0) = (jj < H.ln o) := by
    rw [lg_lt, i64_int, i64_int, nI_toInt (by omega)]
    apply propext; omega
  have hhas := IC1.has Z.hc (by omega) o1 jjb
  by_cases cl : jj < H.ln o
  · rw [decide_eq_true cl] at hhas
    obtain ⟨g2, g3⟩ := (Z.hc o (by omega) o1).2.2.1 o3 jj cl
    have elle : k_el (H.th o) ≤ 66 ∧ (k_el (H.th o) = 66 ↔ H.th o = 64) := by
      rw [k_el]
      by_cases e : H.th o = 64
      · rw [if_pos e]; exact ⟨by decide, by simp [e]⟩
      · rw [if_neg e, if_neg (by omega), if_pos (by omega)]; exact ⟨by omega, by omega⟩
    obtain ⟨C2, e2, IC2⟩ := IC1.pushCell Z.W.hp Z.B (by omega) Z.hc (by omega) o1 cl g2 g3 elle.1
    obtain ⟨D2, f2, ID2⟩ := ID1.pushN Z.W.hq (by omega) (x := H.hp (H.st o + jj)) rfl
    have ew : k_wd (hh (P.bd i)) i = 12 + h d := by rw [k_wd, Z.t.2.2.1]
    have ta := (Z.t.2.2.2 (12 + j) (by omega)).2
    rw [o2] at ta
    have ta : k_blw K (r_th H o) (T (P.bd i) i (12 + j)) = true := ta
    rw [r_th_p (by omega)] at ta
    have tvt := (Z.W.hi Z.t.1 Z.t.2.1).2 (12 + j) (by rw [ew]; omega)
    have tne : T (P.bd i) i (12 + j) ≠ 65 := fun e => by
      rw [e] at ta
      have := r_blwn h32 ta
      omega
    have e12 : k_wd (hh (P.bd i)) i - 2 = 12 + j := by omega
    refine Z.fin1 (by rw [hop]; rfl) (r := k_up (T (P.bd i) i) (12 + j) (k_el (T (P.bd i) i (12 + j)))) ?_ ?_ IC2 ID2 (fun f hf => ⟨k_up_ne (by omega), r_uv_F (by omega)⟩) (by rw [k_tr, if_neg (by omega), if_neg (by omega), if_neg (by omega), if_neg (by omega), if_pos hop, e12, if_neg tne]) (by rw [k_up_eq]; omega) (fun s hs => ?_)
    · have e64 : (nI (H.th o) = 64) = (H.th o = 64) := by rw [show (64 : Int32) = nI 64 from rfl, z_eqN (by omega) (by decide)]
      rw [ej] at e0
      simp (decide := true) only [fX6_useArray, i1, if_true, if_false, c1, hC, Option.bind_some, e0, e1, o0, c, hhas, z_inbN (show o < 2001 by omega) (by decide), z_cl (show o < 2147483648 by omega), c91, e64]
      by_cases c64 : H.th o = 64
      · rw [decide_eq_true (elle.2.mpr c64)] at e2
        rw [if_pos c64, e2]; rfl
      · rw [decide_eq_false (fun z => c64 (elle.2.mp z))] at e2
        rw [if_neg c64, e2]; rfl
    · have ev32 : v.toInt64.toInt32 = nI jj := by rw [i64_back]; exact ej
      simp (decide := true) only [fX12_elementStep, if_true, if_false, f0, f1, Option.bind_some, cmp]
      simp (decide := true) only [c, if_false, od, Option.bind_some, vneg, if_neg cn, i2000, if_true, c2000, d179, lcmp, cl, d178, ev32, nI_add, z_inbN (show H.st o + jj < 12000 by omega) (show 12000 < 2147483648 by decide), z_cl (show H.st o + jj < 2147483648 by omega), ID1.H.c _ (show H.st o + jj < H.u by omega), f2]
    · rw [k_up_eq] at hs
      by_cases e : s = 12 + j
      · rw [e, r_uv_eq, k_up_eq]
        exact ⟨g2, k_blw_trans Z.W.hK g3 (k_el_mono Z.W.hK ta (by omega) tvt)⟩
      · rw [r_uv_s e, k_up_ne e]; exact Z.t.2.2.2 _ (by omega)
  · rw [decide_eq_false cl] at hhas
    exact bad (by rw [ej]; exact hhas) (Or.inr (by rw [lcmp]; exact cl))
end ZRE2
