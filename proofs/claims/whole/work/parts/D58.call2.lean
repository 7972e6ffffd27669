/-! ===== the run: calls and sends ===== -/
section ZRL2
variable {p q n m : Nat} {g : ZT} {K : ZK} {M : ZM} {P : ZP} {hh : Nat → Nat → Int32} {R : Nat → Nat → Bool} {T : Nat → Nat → Nat → Nat} {Cx Dx C D : QS} {d i k : Nat} {h h' : Nat → Nat} {V : Nat → Nat → Nat × Int32} {pa pd : Nat → Nat} {H H' : ZH} {X : ZX} {to pl : Nat}
theorem r_M.call {b : Nat} (Z : r_M p q n g K M P m hh R T Cx Dx d h V pa pd H X pl i C D) (hop : P.op i = 39 ∨ P.op i = 40) (hb : b < M.bc) (ea : M.ba b = k_tk M P i) (er : M.br b = M.br (k_fb P i)) (hv : ∀ s, s < k_tk M P i → k_blw K (V d (12 + (h d - k_tk M P i) + s)).1 (M.bp b s) = true) : r_res p q K M P hh R T Cx Dx X.sp ((fX6_enter C p (nI b) (nI (k_tk M P i))).bind (r_pu p)) (fX12_callStep_100 D q (nI i) (nI (k_tk M P i)) (nI (d * 8 + (h d - k_tk M P i))) (nI b)) := by
  have h8 := Z.t.h8 Z.W
  have hd := Z.C.F.lt
  have h48 := Z.W.N.S.mJ.mB.1
  by_cases c : d + 1 = 64
  · refine ⟨q_sI C 89 8 4, _, ?_, ?_, Or.inr (r_end1 Z.W.hp Z.W.hq Z.C Z.D 4 (by decide))⟩
    · have e64 : nI d + (1 : Int32) = 64 := by rw [nI_1, c]; rfl
      rw [fX6_enter, Z.C.F.d, if_pos e64]
      simp only [Option.bind_some, r_pu]
      rw [if_pos (show (q_sI C 89 8 4).2.1 89 9 = 0 from Z.C.X.to)]
    · have e64 : nI (d + 1) = 64 := by rw [c]; rfl
      rw [fX12_callStep_100, Z.D.F.d, if_pos e64]; rfl
  · have Bb := Z.W.N.B b hb
    have hle := Bb.le
    have hlt := Bb.lt
    obtain ⟨C1, e1, IC⟩ := Z.C.enter Z.W.hp (a := k_tk M P i) (b := b) (F := P.fi b) (by omega) (by omega) (by omega) (by rw [Z.C.g 29 (by decide)]; exact Bb.C1)
    obtain ⟨D1, e2, ID⟩ := Z.D.enter Z.W.hq (a := k_tk M P i) (b := b) (F := P.fi b) (y3 := nI i) (by omega) (by omega) (by omega) (by rw [Z.D.g 12 (by decide)]; exact Bb.D1)
    have hbF := Bb.bd (P.fi b) (Nat.le_refl _) hlt
    obtain ⟨cR, cT⟩ := (Z.W.cl b hb).1
    have h0 : k_hN (hh b) (P.fi b) = 0 := k_hN_of (Z.W.ok b hb).1 (by omega)
    have t' : r_tf K P hh R T H (P.fi b) (r_eh h d (k_tk M P i) (d + 1)) (r_eV V h d (k_tk M P i) (d + 1)) := by
      rw [r_tf, hbF]
      refine ⟨by omega, cR, by rw [r_eh, k_up_eq, h0], fun s hs => ?_⟩
      rw [r_eh, k_up_eq] at hs
      have ct := cT s (by omega)
      rw [k_ent] at ct
      rw [r_eV, k_up_eq]
      by_cases cs : s < k_tk M P i
      · rw [if_pos (by omega)] at ct
        rw [if_pos cs]
        exact ⟨(Z.t.2.2.2 _ (by omega)).1, k_blw_trans Z.W.hK (hv s cs) ct⟩
      · rw [if_neg (by omega)] at ct
        rw [if_neg cs]
        exact ⟨Or.inr (Or.inl rfl), ct⟩
    refine ⟨C1, D1, ?_, e2, Or.inl ⟨d + 1, _, _, _, _, H, X, pl, i, IC, ID, by rw [k_up_eq]; exact t', fun f hf => ?_, Z.B, Z.hc, by rw [k_up_eq, k_up_eq], fun f hf => ?_, Z.oc, rfl⟩⟩
    · rw [e1, Option.bind_some, r_pu_0 IC]
    · rw [r_eh, r_eV, k_up_ne (show f ≠ d + 1 by omega), k_up_ne (show f ≠ d + 1 by omega), k_up_ne (show f ≠ d + 1 by omega)]
      by_cases cf : f = d
      · rw [cf, k_up_eq, k_up_eq, hbF, Z.ei]
        have hi := Z.t.1
        refine ⟨hi, Z.t.2.1, hop, ?_, er, fun s hs => Z.t.2.2.2 s (by omega)⟩
        rw [← Z.t.2.2.1]; omega
      · rw [k_up_ne (show f ≠ d from cf), k_up_ne (show f + 1 ≠ d + 1 by omega)]
        exact Z.lo f (by omega)
    · rw [k_up_ne (show f ≠ d + 1 by omega), k_up_ne (show f ≠ d + 1 by omega)]
      by_cases cf : f = d
      · rw [cf, Z.ea, Z.ei]
      · exact Z.el f (by omega)
theorem r_op39 (Z : r_M p q n g K M P m hh R T Cx Dx d h V pa pd H X pl i C D) (hop : P.op i = 39) : r_res p q K M P hh R T Cx Dx X.sp ((fX6_transfer C p (nI i)).bind (r_pu p)) (fX12_step D q (nI i)) := by
  obtain ⟨i1, c1, d1, d2, d3⟩ := Z.rdD
  obtain ⟨p11, p12, p13, p16⟩ := Z.rdC
  have hC : C.2.1 (p + 11) i = 39 := by rw [p11, hop]; rfl
  have h8 := Z.t.h8 Z.W
  have hd := Z.C.F.lt
  have h48 := Z.W.N.S.mJ.mB.1
  obtain ⟨f, cc, x1, x2, x3, x4, x5, x6, x7⟩ := (Z.W.N.S.wI i Z.t.1).oB (Or.inl hop)
  obtain ⟨r1, r2, r3, r4, r5, r6, -⟩ := m_root Z.W.hG Z.W.N.S.mJ f x4
  have hbt : M.bt f = f := r6 (by rw [x7, hop]; rfl)
  rw [hbt] at x2
  have hfb : k_fb P i = f := k_fb_of (by omega) x1
  have ht : k_tk M P i = M.ba f := by rw [k_tk, if_pos (Or.inl hop), hfb]
  have ba := (Z.W.N.S.mJ.cB.2 f x4).2.2.2.1
  have baD := (Z.W.N.S.mJ.dB.2 f x4).2.2.2.1
  rw [← ht] at ba baD
  have x := Z.call (b := f) (Or.inl hop) x4 ht.symm (by rw [hfb]) (fun s hs => by
    obtain ⟨-, -, -, tt⟩ := Z.t.told Z.W Z.B (by omega) (by omega) (by omega)
    have tt := tt s hs
    have bt := k_tok_lt Z.W.hK (k_bp_tok Z.W.hK Z.W.N.S.mJ x4 (show s < M.ba f by omega))
    rw [show k_told M P i s = M.bp f s by simp [k_told, hop, hfb], k_fit, if_neg (by omega), show 12 + h d - k_tk M P i + s = 12 + (h d - k_tk M P i) + s by omega] at tt
    exact tt)
  have if48 := z_inbN (show f < 48 by omega) (by decide)
  have cf48 := z_cl (show f < 2147483648 by omega)
  have eC : fX6_transfer C p (nI i) = fX6_enter C p (nI f) (nI (k_tk M P i)) := by
    simp (decide := true) only [fX6_transfer, i1, if_true, if_false, c1, hC, p12, x2, if48, cf48, Z.C.g 25 (by decide), ba, o_bs]
  have e8 : nI d * (8 : Int32) + nI (h d) - nI (k_tk M P i) = nI (d * 8 + (h d - k_tk M P i)) := by
    rw [show nI d * (8 : Int32) = nI (d * 8) from nI_mulN d 8, nI_add, z_subN (by omega)]; congr 1; omega
  have eD : fX12_objectStep D q 39 (P.ya i) (nI i) = fX12_callStep_100 D q (nI i) (nI (k_tk M P i)) (nI (d * 8 + (h d - k_tk M P i))) (nI f) := by
    simp (decide := true) only [fX12_objectStep, if_true, if_false, fX12_callStep, x1, if48, cf48, Z.D.dm, z_inbN hd (show 64 < 2147483648 by decide), z_cl (show d < 2147483648 by omega), (Z.D.F.h d (Nat.le_refl _)).2, Z.D.g 8 (by decide), baD, e8, o_bs]
  rw [r_stepOb Z (by omega) (by omega), hop, eC]
  show r_res p q K M P hh R T Cx Dx X.sp _ (fX12_objectStep D q 39 (P.ya i) (nI i))
  rw [eD]; exact x
theorem r_op40 (Z : r_M p q n g K M P m hh R T Cx Dx d h V pa pd H X pl i C D) (hop : P.op i = 40) : r_res p q K M P hh R T Cx Dx X.sp ((fX6_transfer C p (nI i)).bind (r_pu p)) (fX12_step D q (nI i)) := by
  obtain ⟨i1, c1, d1, d2, d3⟩ := Z.rdD
  obtain ⟨p11, p12, p13, p16⟩ := Z.rdC
  have hC : C.2.1 (p + 11) i = 40 := by rw [p11, hop]; rfl
  have h8 := Z.t.h8 Z.W
  have hd := Z.C.F.lt
  have hn := Z.B.1
  have h32 := Z.W.hK.2.1
  have J := Z.W.N.S.mJ
  have h48 := J.mB.1
  obtain ⟨f, cc, x1, x2, x3, x4, x5, x6, x7⟩ := (Z.W.N.S.wI i Z.t.1).oB (Or.inr hop)
  have hbm : M.bm f = true := by rw [x7, hop]; rfl
  obtain ⟨r1, r2, r3, r4, r5, r6, -⟩ := m_root Z.W.hG J f x4
  have hfb : k_fb P i = f := k_fb_of (by omega) x1
  have ht : k_tk M P i = M.ba f := by rw [k_tk, if_pos (Or.inr hop), hfb]
  have ba1 : 1 ≤ M.ba f := by
    obtain ⟨e, he⟩ := J.hd f x4
    have := he.ba
    rw [m_n0, if_pos hbm] at this
    omega
  have ba := (J.cB.2 (M.bt f) (by omega)).2.2.2.1
  have baD := (J.dB.2 f x4).2.2.2.1
  rw [r2, ← ht] at ba
  rw [← ht] at baD
  have kxb : k_xb P i = cc := by rw [k_xb, x3, z_cl (by omega)]
  have t0 : k_told M P i 0 = cc := by simp [k_told, hop, kxb]
  obtain ⟨o, o1, o2, o3⟩ := Z.ref (j := 0) (by omega) (by omega) (by omega) (by omega) (by rw [t0]; omega)
  rw [t0] at o3
  rw [show 12 + h d - k_tk M P i + 0 = 12 + (h d - k_tk M P i) by omega] at o2
  have tho := r_th_le Z.B o1
  obtain ⟨w1, w2, w3⟩ := Z.C.tv (s := 12 + (h d - k_tk M P i)) (by omega)
  rw [o2] at w3
  have w3 : C.2.1 96 (d * 20 + (12 + (h d - k_tk M P i))) = nI o := w3 (show r_th H o ≠ 67 by omega)
  have ib48 := z_inbN (show M.bt f < 48 by omega) (by decide)
  have cb48 := z_cl (show M.bt f < 2147483648 by omega)
  have if48 := z_inbN (show f < 48 by omega) (by decide)
  have cf48 := z_cl (show f < 2147483648 by omega)
  have et : nI (d * 20 + (12 + h d)) - nI (k_tk M P i) = nI (d * 20 + (12 + (h d - k_tk M P i))) := by
    rw [z_subN (by omega)]; congr 1; omega
  have e8 : nI d * (8 : Int32) + nI (h d) - nI (k_tk M P i) = nI (d * 8 + (h d - k_tk M P i)) := by
    rw [show nI d * (8 : Int32) = nI (d * 8) from nI_mulN d 8, nI_add, z_subN (by omega)]; congr 1; omega
  have ev := Z.D.F.s d (h d - k_tk M P i) (Nat.le_refl _) (by omega)
  rw [o2] at ev
  have cmp := r_e_null Z.B o1
  have eC : fX6_transfer C p (nI i) = fX6_send C p (nI (M.bt f)) (nI o) := by
    simp (decide := true) only [fX6_transfer, i1, if_true, if_false, c1, hC, p12, x2, Z.C.top, Option.bind_some, ib48, cb48, Z.C.g 25 (by decide), ba, et, z_inbN (show d * 20 + (12 + (h d - k_tk M P i)) < 1280 by omega) (by decide), z_cl (show d * 20 + (12 + (h d - k_tk M P i)) < 2147483648 by omega), w3, o_bs]
  have o0 : (nI o = 0) = (o = 0) := by rw [show (0 : Int32) = nI 0 from rfl, z_eqN (by omega) (by decide)]
  have eD : fX12_objectStep D q 40 (P.ya i) (nI i) = fX12_callStep D q 40 (nI f) (nI i) := by
    simp (decide := true) only [fX12_objectStep, if_true, if_false, x1, o_bs]
  rw [r_stepOb Z (by omega) (by omega), hop, eC]
  show r_res p q K M P hh R T Cx Dx X.sp _ (fX12_objectStep D q 40 (P.ya i) (nI i))
  rw [eD]
  by_cases c : o = 0
  · have x := Z.raise (x := 2) (by decide) (by decide) Z.hk.1 Z.hk.2
    have a1 : fX6_send C p (nI (M.bt f)) (nI o) = fX6_raise C (nI 2) := by
      simp only [fX6_send, o0, c, if_true, o_bs]; rfl
    have a2 : fX12_callStep D q 40 (nI f) (nI i) = fX12_raise D q (nI (2 - 2)) (nI i) := by
      simp (decide := true) only [fX12_callStep, if48, if_true, Z.D.dm, z_inbN hd (show 64 < 2147483648 by decide), z_cl (show d < 2147483648 by omega), (Z.D.F.h d (Nat.le_refl _)).2, cf48, Z.D.g 8 (by decide), baD, e8, z_inbN (show d * 8 + (h d - k_tk M P i) < 512 by omega) (show 512 < 2147483648 by decide), z_cl (show d * 8 + (h d - k_tk M P i) < 2147483648 by omega), ev, cmp]
      rw [if_pos c, o_bs]; rfl
    rw [a1, a2]; exact x
  · obtain ⟨c91, -⟩ := Z.C.H.o o (by omega) o1
    obtain ⟨d176, -⟩ := Z.D.H.o o (by omega) o1
    rw [r_th_p (by omega)] at o3
    have b8 := J.o8 f x4
    have hx := k_anc_le _ x6
    obtain ⟨tok, t64⟩ := Z.B.2 o (by omega) o1
    have cl : H.th o < K.cc ∧ k_anc K.cp cc (H.th o) = true := by
      rcases k_blw_iff.mp o3 with e | e | ⟨e1, e2, e3⟩
      · rw [e]; exact ⟨x5, k_anc_self _ _⟩
      · omega
      · rcases e3 with e3 | e3 | e3 | e3
        · omega
        · omega
        · exact ⟨e3.2.1, e3.2.2⟩
        · omega
    have anc := k_anc_trans Z.W.hK _ cl.1 x6 cl.2
    obtain ⟨b, b1, b2, b3, b4, b5, b6⟩ := r_chosen Z.W x4 cl.1 anc hbm
    obtain ⟨s1, s2, s3, s4, s5, s6, -⟩ := m_root Z.W.hG J b b1
    rw [b5] at s2 s3 s4
    have x := Z.call (b := b) (Or.inr hop) b1 (by rw [ht, ← r2, s2]) (by rw [hfb, ← r3, s3]) (fun s hs => by
      by_cases z : s = 0
      · rw [z, Nat.add_zero, o2]
        obtain ⟨e, he⟩ := J.hd b b1
        have hbp := he.bp 0 (by omega)
        rw [k_pi, m_n0, if_pos b4, if_pos (by omega)] at hbp
        rw [hbp]
        show k_blw K (r_th H o) (M.bo b) = true
        rw [r_th_p (by omega)]
        have := k_anc_le _ b6
        exact k_blw_iff.mpr (Or.inr (Or.inr ⟨by omega, by omega, Or.inr (Or.inr (Or.inl ⟨by omega, cl.1, b6⟩))⟩))
      · obtain ⟨-, -, -, tt⟩ := Z.t.told Z.W Z.B (by omega) (by omega) (by omega)
        have tt := tt s hs
        have bt := k_tok_lt Z.W.hK (k_bp_tok Z.W.hK J x4 (show s < M.ba f by omega))
        rw [show k_told M P i s = M.bp f s by simp [k_told, hop, hfb, z], k_fit, if_neg (by omega), show 12 + h d - k_tk M P i + s = 12 + (h d - k_tk M P i) + s by omega] at tt
        rw [← s4 s (by omega) (by omega), r4 s (by omega) (by omega)]
        exact tt)
    have hch := J.ch (H.th o) cl.1 (M.bt f) (by omega)
    rw [b3] at hch
    have hch : Cx.2.1 (p + 34) (H.th o * 48 + M.bt f) = nI b := hch
    have hmt := Z.W.N.sI.2.2 (H.th o) cl.1 f x4
    rw [b2] at hmt
    have hmt : Dx.2.1 (q + 14) (H.th o * 48 + f) = nI b := hmt
    have e48 : ∀ z, nI (H.th o) * (48 : Int32) + nI z = nI (H.th o * 48 + z) := fun z => by rw [show nI (H.th o) * (48 : Int32) = nI (H.th o * 48) from nI_mulN _ 48, nI_add]
    have a1 : fX6_send C p (nI (M.bt f)) (nI o) = fX6_enter C p (nI b) (nI (k_tk M P i)) := by
      have hcls := z_isClassN Z.W.hK (r_kC Z.W Z.C.g) (show H.th o < 100 by omega)
      simp only [fX6_send, o0, if_neg c, z_inbN (show o < 2001 by omega) (by decide), if_true, z_cl (show o < 2147483648 by omega), c91, fX5_bodyOf, hcls, decide_eq_true cl.1, Option.bind_some, e48, z_inbN (show H.th o * 48 + M.bt f < 1536 by omega) (by decide), z_cl (show H.th o * 48 + M.bt f < 2147483648 by omega), Z.C.g 34 (by decide), hch, z_m1N (show b < 2147483648 by omega), if_false, ib48, cb48, Z.C.g 25 (by decide), ba, o_bs]
    have ey : k_y (H.th o) - (8 : Int32) = nI (H.th o) := by
      rw [k_y_c (by omega), show (8 : Int32) = nI 8 from rfl, z_subN (by omega)]; congr 1
    have a2 : fX12_callStep D q 40 (nI f) (nI i) = fX12_callStep_100 D q (nI i) (nI (k_tk M P i)) (nI (d * 8 + (h d - k_tk M P i))) (nI b) := by
      simp (decide := true) only [fX12_callStep, if48, if_true, Z.D.dm, z_inbN hd (show 64 < 2147483648 by decide), z_cl (show d < 2147483648 by omega), (Z.D.F.h d (Nat.le_refl _)).2, cf48, Z.D.g 8 (by decide), baD, e8, z_inbN (show d * 8 + (h d - k_tk M P i) < 512 by omega) (show 512 < 2147483648 by decide), z_cl (show d * 8 + (h d - k_tk M P i) < 2147483648 by omega), ev, cmp]
      rw [if_neg c, r_e_obj Z.B o1 (by omega), Option.bind_some, if_pos (z_inbN (show o - 1 < 2000 by omega) (by decide)), z_cl (show o - 1 < 2147483648 by omega), d176, ey, e48, if_pos (z_inbN (show H.th o * 48 + f < 1536 by omega) (by decide)), z_cl (show H.th o * 48 + f < 2147483648 by omega), Z.D.g 14 (by decide), hmt]
    rw [a1, a2]; exact x
end ZRL2
