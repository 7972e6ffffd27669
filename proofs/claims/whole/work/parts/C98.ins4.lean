/-! ===== instructions with references ===== -/
section ZINS4
variable {C D : QS} {n p q : Nat} {g : ZT} {K : ZK} {M : ZM} {P : ZP}
theorem z_insF {t k b E nl F : Nat} {lw lp : Nat → Nat} (hk : k = 35 ∨ k = 36 ∨ k = 39 ∨ k = 40) (hp : z_pp p) (hq : z_qq q) (hG : z_G n g) (hK : k_K g K) (S : c_S p q n g K M P C D) (hL : c_L g nl lw lp F E C D) (hI : e_insT g t k) (ht : t + 1 < g.1) (hb : b < M.bc) (h8 : C.2.1 78 8 = nI b) (hF : P.fi b = F) (hE : P.en b = E) (hn1 : F ≤ P.n) (hn2 : P.n < E) (hN : P.n < 1024) : z_res p q K M P C D t k b (fX4_addsInstruction C p (nI t)) (fX12_code_46 D q (nI b) (nI t) (nI E) (nI k)) := by
  have b1 := hG.1
  have b2 := hG.2.1
  have bs := S.bs
  have h32 := hK.2.1
  have hbc := S.mJ.mB.1
  have hfc := S.mJ.mF.1
  have k46 : k < 46 := by omega
  have mk0 : k_mk k = 0 := by rw [k_mk, if_neg (by omega)]
  obtain ⟨B1, B2⟩ := z_base (t := t) (k := k) (b := b) (d := k_mk k) hp hq S hL
  rw [mk0] at B1 B2
  have o1 : e_ref g (t + 1) = true := by
    have eo : e_ops (nI k) = [70] := by rcases hk with rfl | rfl | rfl | rfl <;> decide
    exact e_opd hI eo 0 (by decide)
  have gt := hG.2.2.2 (t + 1) ht
  have kdl := k_dot_le hG ht
  generalize hdot : k_dot g.2.1 g.2.2.1 g.2.2.2 (t + 1) = dot at kdl
  have o2 : dot + 1 < g.2.2.2 (t + 1) := by
    simp only [e_ref, k_ref, Bool.and_eq_true, hdot] at o1
    exact (z_nam_nc o1.2.2).1
  have i1 := z_inbN hN (by decide)
  have c1 := z_cl (show P.n < 2147483648 by omega)
  have kd : e_kind g t = nI k := hI.2.2.2.1
  have nk := z_nk k46
  have e0 : ¬ nI k = 0 := nk 0 (by omega) (by omega)
  have e2 : ¬ (nI k = 2 ∨ nI k = 3 ∨ nI k = 4) := by
    rintro (h | h | h)
    · exact nk 2 (by omega) (by omega) h
    · exact nk 3 (by omega) (by omega) h
    · exact nk 4 (by omega) (by omega) h
  have e3 : ¬ (nI k = 30 ∨ nI k = 37 ∨ nI k = 38) := by
    rintro (h | h | h)
    · exact nk 30 (by omega) (by omega) h
    · exact nk 37 (by omega) (by omega) h
    · exact nk 38 (by omega) (by omega) h
  have e4 : ¬ nI k = 31 := nk 31 (by omega) (by omega)
  have e5 : nI k = 35 ∨ nI k = 36 ∨ nI k = 39 ∨ nI k = 40 := by
    rcases hk with rfl | rfl | rfl | rfl
    · exact Or.inl rfl
    · exact Or.inr (Or.inl rfl)
    · exact Or.inr (Or.inr (Or.inl rfl))
    · exact Or.inr (Or.inr (Or.inr rfl))
  have hch : z_opL.getD k 0 = 70 := by rcases hk with rfl | rfl | rfl | rfl <;> rfl
  have q35 : (nI k = 35) = (k = 35) := by rw [show (35 : Int32) = nI 35 from rfl, z_eqN (by omega) (by decide)]
  have q36 : (nI k = 36) = (k = 36) := by rw [show (36 : Int32) = nI 36 from rfl, z_eqN (by omega) (by decide)]
  have q39 : (nI k = 39) = (k = 39) := by rw [show (39 : Int32) = nI 39 from rfl, z_eqN (by omega) (by decide)]
  have q40 : (nI k = 40) = (k = 40) := by rw [show (40 : Int32) = nI 40 from rfl, z_eqN (by omega) (by decide)]
  have hc0 : fX4_addsInstruction C p (nI t) = (fX4_setsReference (z_C0 C p P.n P.ns t k b 0) p (nI P.n) (nI k) (nI (t + 1))).bind fun r48 => some (r48.1, r48.2) := by
    simp only [fX4_addsInstruction, z_inbN (show t < 16000 by omega) (by decide), if_true, z_cl (show t < 2147483648 by omega), S.mJ.kd t (by omega), kd, h8, z_addInstruction S k46 hN, mk0, Option.bind_some, nI_1, if_neg e0, if_neg e2, if_neg e3, if_neg e4, if_pos e5, S.nC]
  have hd0 : fX12_code_46 D q (nI b) (nI t) (nI E) (nI k) = (fX12_reference (z_D0 D q P.n t k b) q (nI P.n) (nI k) (nI (t + 1))).bind fun r32 => some (r32.1, r32.2) := by
    rw [z_code46 S hq k46 hN, hch]
    rfl
  have w1 := z_dotOf B1.hC hG ht
  have w2 := z_stop B1.hC hG ht
  have w3 := z_start B1.hC hG ht
  have w4 := z_classIn (u := g.2.2.1 (t + 1)) (v := dot) B1.hC hG hK B1.kC (by omega) (by omega)
  have v1 := z_point B1.hD hG ht
  have v4 := z_classOf (u := g.2.2.1 (t + 1)) (v := dot) B1.hD hG hK B1.kD (by omega) (by omega)
  have tD := B1.hD.2.2.2 (t + 1) ht
  rw [hdot] at w1 v1
  rw [if_neg (by omega)] at w1
  have rfl12 : (q_sI (z_D0 D q P.n t k b) 102 12 (nI (t + 1))).2.1 102 12 = nI (t + 1) := by rw [q_sI_I, if_pos ⟨rfl, rfl⟩]
  have r13 : ∀ v, (q_sI (z_C0 C p P.n P.ns t k b 0) (p + 13) P.n v).2.1 (p + 13) P.n = v := fun v => by rw [q_sI_I, if_pos ⟨rfl, rfl⟩]
  have r12 : ∀ v v', (q_sI (q_sI (z_C0 C p P.n P.ns t k b 0) (p + 13) P.n v) (p + 12) P.n v').2.1 (p + 12) P.n = v' := fun v v' => by rw [q_sI_I, if_pos ⟨rfl, rfl⟩]
  have j1 := z_inbN (show t + 1 < 16002 by omega) (by decide)
  have j2 := z_cl (show t + 1 < 2147483648 by omega)
  rw [hc0, hd0]
  cases hcl : k_cls g K (g.2.2.1 (t + 1)) dot with
  | none =>
    have w4' : fX4_classIn (z_C0 C p P.n P.ns t k b 0) p (nI (g.2.2.1 (t + 1))) (nI dot) = some (-1) := by rw [w4, hcl]; rfl
    have v4' : fX12_classOf (z_D0 D q P.n t k b) q (nI (g.2.2.1 (t + 1))) (nI dot) = some (-1) := by rw [v4, hcl]; rfl
    refine ⟨q_sI (z_C0 C p P.n P.ns t k b 0) (p + 13) P.n (-1), q_sI (z_D0 D q P.n t k b) 102 12 (nI (t + 1)), (z_C0_off (d := 0)).sI (by omega), z_D0_off.sI (by omega), Or.inl ⟨?_, ?_, rfl12⟩⟩
    · simp only [fX4_setsReference, w1, w2, w3, w4', Option.bind_some, i1, if_true, c1, r13]
    · simp only [fX12_reference, v1, Option.bind_some, j1, if_true, j2, tD, v4', fX12_wrong]
      rw [if_neg (by decide)]
      rfl
  | some c =>
    have hc := k_cls_lt hK.1 hcl
    have pc : (0 : Int32) ≤ nI c := nI_pos' (by omega)
    have w4' : fX4_classIn (z_C0 C p P.n P.ns t k b 0) p (nI (g.2.2.1 (t + 1))) (nI dot) = some (nI c) := by rw [w4, hcl]; rfl
    have v4' : fX12_classOf (z_D0 D q P.n t k b) q (nI (g.2.2.1 (t + 1))) (nI dot) = some (nI c) := by rw [v4, hcl]; rfl
    have cm1 : ¬ nI c = -1 := by rw [z_m1N (by omega)]; exact fun x => x
    have hS18 : m_J p q n g K M (q_sI (z_C0 C p P.n P.ns t k b 0) (p + 13) P.n (nI c)) (z_D0 D q P.n t k b) := B1.fr hp hq (fun y j h => by rw [q_sI_I, if_neg (by rw [z_rC] at h; rcases hp with rfl | rfl <;> omega)]) (fun _ _ _ => rfl)
    have oC18 : z_offC p C (q_sI (z_C0 C p P.n P.ns t k b 0) (p + 13) P.n (nI c)) := (z_C0_off (d := 0)).sI (by omega)
    have x1 := z_fieldNamed (u := dot + 1) (v := g.2.2.2 (t + 1)) hS18.hC hG hK hS18.kC hS18.cF S.mJ.mF hc (by omega) gt.2.1
    have x2 := z_fieldOf (u := dot + 1) (v := g.2.2.2 (t + 1)) B1.hD hG hK B1.kD B1.dF S.mJ.mF hc (by omega) gt.2.1
    have x3 := z_bodyNamed (u := dot + 1) (v := g.2.2.2 (t + 1)) hS18.hC hG hK hS18.kC hS18.cB S.mJ.mB hc (by omega) gt.2.1
    have x4 := z_bodyOf (u := dot + 1) (v := g.2.2.2 (t + 1)) B1.hD hG hK B1.kD B1.dB S.mJ.mB (by omega) gt.2.1 c hc
    by_cases hf : k = 35 ∨ k = 36
    · have hcF : fX4_setsReference (z_C0 C p P.n P.ns t k b 0) p (nI P.n) (nI k) (nI (t + 1)) = fX4_setsReference_70 (q_sI (z_C0 C p P.n P.ns t k b 0) (p + 13) P.n (nI c)) p (nI P.n) (nI dot) (nI (g.2.2.2 (t + 1))) := by
        simp only [fX4_setsReference, w1, w2, w3, w4', Option.bind_some, i1, if_true, c1, r13, if_neg cm1, q35, q36]
        by_cases c35 : k = 35
        · rw [if_pos c35]
        · rw [if_neg c35, if_pos (by omega)]
      have hdF : ∀ y, fX12_fieldOf (z_D0 D q P.n t k b) q (nI c) (nI (dot + 1)) (nI (g.2.2.2 (t + 1))) = some y → fX12_reference (z_D0 D q P.n t k b) q (nI P.n) (nI k) (nI (t + 1)) = if y < 0 then some (false, q_sI (z_D0 D q P.n t k b) 102 12 (nI (t + 1))) else some (true, q_sI (q_sI (z_D0 D q P.n t k b) (q + 16) P.n y) (q + 17) P.n (nI c)) := by
        intro y hy
        simp only [fX12_reference, v1, Option.bind_some, j1, if_true, j2, tD, v4', if_pos pc, nI_1, hy, q35, q36, q39, if_neg (show ¬ k = 39 by omega), fX12_reference_110, q40, if_neg (show ¬ k = 40 by omega), fX12_reference_133, i1, c1, fX12_wrong]
        by_cases c35 : k = 35
        · rw [if_pos c35]; rfl
        · rw [if_neg c35, if_pos (show k = 36 by omega)]; rfl
      rw [hcF]
      cases hfl : k_fld g K M c (dot + 1) (g.2.2.2 (t + 1)) with
      | none =>
        rw [hfl] at x1 x2
        rw [hdF (-1) x2]
        refine ⟨q_sI (q_sI (z_C0 C p P.n P.ns t k b 0) (p + 13) P.n (nI c)) (p + 12) P.n (-1), _, oC18.sI (by omega), z_D0_off.sI (by omega), Or.inl ⟨?_, ?_, rfl12⟩⟩
        · simp only [fX4_setsReference_70, i1, if_true, c1, r13, nI_1, x1, Option.bind_some, r12, k_oI]
        · rw [if_pos (by decide)]; rfl
      | some f =>
        obtain ⟨y1, y2, y3⟩ := z_ff_some (P := fun f => k_anc K.cp (M.fo f) c && e_at g (dot + 1) (g.2.2.2 (t + 1)) (M.fw f)) _ _ hfl
        rw [Bool.and_eq_true] at y3
        rw [hfl] at x1 x2
        rw [hdF (nI f) x2]
        have fm1 : ¬ nI f = -1 := by rw [z_m1N (by omega)]; exact fun x => x
        refine ⟨q_sI (q_sI (z_C0 C p P.n P.ns t k b 0) (p + 13) P.n (nI c)) (p + 12) P.n (nI f), _, oC18.sI (by omega), (z_D0_off.sI (by omega)).sI (by omega), Or.inr ⟨?_, ?_, nI f, nI f, nI c, 0, 0, z_sI_comm _ _ _ (by omega), z_D1_z.symm, by omega, by omega, c_W_new k46 hb (by omega) (by omega) (fun _ _ _ _ _ _ _ _ _ _ => rfl) (fun h => by omega) (fun h => by omega) (fun h => by omega) (fun h => by omega) (fun _ => ⟨f, c, rfl, rfl, rfl, by omega, hc, y3.1⟩) (fun h => by omega) (fun h => by omega)⟩⟩
        · have x1' : fX4_fieldNamed (q_sI (z_C0 C p P.n P.ns t k b 0) (p + 13) P.n (nI c)) p (nI c) (nI (dot + 1)) (nI (g.2.2.2 (t + 1))) = some (nI f) := x1
          simp only [fX4_setsReference_70, i1, if_true, c1, r13, nI_1, x1', Option.bind_some, r12, if_neg fm1]
        · rw [if_neg (by rw [z_negN (by omega)]; exact fun x => x)]; rfl
    · have hcF : ∀ y, fX4_bodyNamed (q_sI (z_C0 C p P.n P.ns t k b 0) (p + 13) P.n (nI c)) p (nI c) (nI (dot + 1)) (nI (g.2.2.2 (t + 1))) = some y → fX4_setsReference (z_C0 C p P.n P.ns t k b 0) p (nI P.n) (nI k) (nI (t + 1)) = if y = -1 then some (false, q_sI (z_C0 C p P.n P.ns t k b 0) (p + 13) P.n (nI c)) else if q_inb y 48 = true then if (q_sI (z_C0 C p P.n P.ns t k b 0) (p + 13) P.n (nI c)).2.1 (p + 24) y.toNatClampNeg = q_b (decide (k = 40)) then some (true, q_sI (q_sI (z_C0 C p P.n P.ns t k b 0) (p + 13) P.n (nI c)) (p + 12) P.n ((q_sI (z_C0 C p P.n P.ns t k b 0) (p + 13) P.n (nI c)).2.1 (p + 33) y.toNatClampNeg)) else some (false, q_sI (z_C0 C p P.n P.ns t k b 0) (p + 13) P.n (nI c)) else none := by
        intro y hy
        have ev : ((if k = 40 then some true else some false) : Option Bool) = some (decide (k = 40)) := by
          by_cases c40 : k = 40
          · rw [if_pos c40, decide_eq_true c40]
          · rw [if_neg c40, decide_eq_false c40]
        simp only [fX4_setsReference, w1, w2, w3, w4', Option.bind_some, i1, if_true, c1, r13, if_neg cm1, q35, q36, if_neg (show ¬ k = 35 by omega), if_neg (show ¬ k = 36 by omega), nI_1, hy, q40]
        rw [ev]
        by_cases cy : q_inb y 48 = true
        · simp only [if_pos cy, Option.bind_some]
        · simp only [if_neg cy]
      have hdF : ∀ y, fX12_bodyOf (z_D0 D q P.n t k b) q (nI c) (nI (dot + 1)) (nI (g.2.2.2 (t + 1))) = some y → fX12_reference (z_D0 D q P.n t k b) q (nI P.n) (nI k) (nI (t + 1)) = if y < 0 then some (false, q_sI (z_D0 D q P.n t k b) 102 12 (nI (t + 1))) else if q_inb y 48 = true then if (z_D0 D q P.n t k b).2.1 (q + 7) y.toNatClampNeg = q_b (decide (k = 40)) then some (true, q_sI (q_sI (z_D0 D q P.n t k b) (q + 16) P.n y) (q + 17) P.n (nI c)) else if (z_D0 D q P.n t k b).2.1 (q + 7) y.toNatClampNeg = q_b (!decide (k = 40)) then some (false, q_sI (z_D0 D q P.n t k b) 102 12 (nI (t + 1))) else fX12_reference (z_D0 D q P.n t k b) q (nI P.n) (nI k) (nI (t + 1)) else fX12_reference (z_D0 D q P.n t k b) q (nI P.n) (nI k) (nI (t + 1)) := by
        intro y hy
        have base : fX12_reference (z_D0 D q P.n t k b) q (nI P.n) (nI k) (nI (t + 1)) = if y < 0 then some (false, q_sI (z_D0 D q P.n t k b) 102 12 (nI (t + 1))) else if k = 39 then if q_inb y 48 = true then if (z_D0 D q P.n t k b).2.1 (q + 7) y.toNatClampNeg = 0 then fX12_reference_110 (z_D0 D q P.n t k b) q (nI P.n) (nI k) (nI (t + 1)) (nI c) y else some (false, q_sI (z_D0 D q P.n t k b) 102 12 (nI (t + 1))) else none else fX12_reference_110 (z_D0 D q P.n t k b) q (nI P.n) (nI k) (nI (t + 1)) (nI c) y := by
          simp only [fX12_reference, v1, Option.bind_some, j1, if_true, j2, tD, v4', if_pos pc, nI_1, hy, q35, q36, q39, if_neg (show ¬ k = 35 by omega), if_neg (show ¬ k = 36 by omega), fX12_wrong]
        by_cases cy : y < 0
        · rw [base, if_pos cy, if_pos cy]
        · rw [if_neg cy]
          by_cases ci : q_inb y 48 = true
          · rw [if_pos ci]
            by_cases c40 : k = 40
            · have f110 : fX12_reference_110 (z_D0 D q P.n t k b) q (nI P.n) (nI k) (nI (t + 1)) (nI c) y = if (z_D0 D q P.n t k b).2.1 (q + 7) y.toNatClampNeg = 0 then some (false, q_sI (z_D0 D q P.n t k b) 102 12 (nI (t + 1))) else some (true, q_sI (q_sI (z_D0 D q P.n t k b) (q + 16) P.n y) (q + 17) P.n (nI c)) := by
                simp only [fX12_reference_110, q40, if_pos c40, if_pos ci, fX12_wrong, fX12_reference_133, i1, if_true, c1, Option.bind_some]
              rw [base, if_neg cy, if_neg (by omega), f110, decide_eq_true c40]
              by_cases c0 : (z_D0 D q P.n t k b).2.1 (q + 7) y.toNatClampNeg = 0
              · rw [if_pos c0, c0, if_neg (by decide), if_pos (show (0 : Int32) = q_b (!true) from rfl)]
              · rw [if_neg c0]
                by_cases c1' : (z_D0 D q P.n t k b).2.1 (q + 7) y.toNatClampNeg = q_b true
                · rw [if_pos c1']
                · rw [if_neg c1', if_neg (show ¬ (z_D0 D q P.n t k b).2.1 (q + 7) y.toNatClampNeg = q_b (!true) from c0)]
            · have f110 : fX12_reference_110 (z_D0 D q P.n t k b) q (nI P.n) (nI k) (nI (t + 1)) (nI c) y = some (true, q_sI (q_sI (z_D0 D q P.n t k b) (q + 16) P.n y) (q + 17) P.n (nI c)) := by
                simp only [fX12_reference_110, q40, if_neg c40, fX12_reference_133, i1, if_true, c1, Option.bind_some]
              rw [base, if_neg cy, if_pos (show k = 39 by omega), if_pos ci, f110, decide_eq_false c40]
              by_cases c0 : (z_D0 D q P.n t k b).2.1 (q + 7) y.toNatClampNeg = 0
              · rw [if_pos c0, if_pos (show (z_D0 D q P.n t k b).2.1 (q + 7) y.toNatClampNeg = q_b false from c0)]
              · rw [if_neg c0, if_neg (show ¬ (z_D0 D q P.n t k b).2.1 (q + 7) y.toNatClampNeg = q_b false from c0)]
                by_cases c1' : (z_D0 D q P.n t k b).2.1 (q + 7) y.toNatClampNeg = q_b (!false)
                · rw [if_pos c1']
                · rw [if_neg c1']
          · rw [if_neg ci]
      cases hbd : k_bod g K M c (dot + 1) (g.2.2.2 (t + 1)) with
      | none =>
        rw [hbd] at x3 x4
        rw [hcF (-1) x3, hdF (-1) x4, if_pos rfl, if_pos (by decide)]
        exact ⟨_, _, oC18, z_D0_off.sI (by omega), Or.inl ⟨rfl, rfl, rfl12⟩⟩
      | some f =>
        obtain ⟨y1, y2, y3⟩ := k_lst_some _ hbd
        rw [k_bP, Bool.and_eq_true] at y2
        have bC := hS18.cB.2 f y1
        have bD := B1.dB.2 f y1
        have if48 := z_inbN (show f < 48 by omega) (by decide)
        have cf := z_cl (show f < 2147483648 by omega)
        have hbt := S.mJ.bt f y1
        have fm1 : ¬ nI f = -1 := by rw [z_m1N (by omega)]; exact fun x => x
        have f0 : ¬ nI f < 0 := nI_pos (by omega)
        rw [hbd] at x3 x4
        rw [hcF (nI f) x3, hdF (nI f) x4, if_neg fm1, if_pos if48, if_neg f0, if_pos if48, cf, bC.2.2.1, bD.2.2.1, bC.2.2.2.2.2.2.1]
        by_cases hm : M.bm f = decide (k = 40)
        · rw [if_pos (by rw [hm]), if_pos (by rw [hm])]
          exact ⟨_, _, oC18.sI (by omega), (z_D0_off.sI (by omega)).sI (by omega), Or.inr ⟨rfl, rfl, nI (M.bt f), nI f, nI c, 0, 0, z_sI_comm _ _ _ (by omega), z_D1_z.symm, by omega, by omega, c_W_new k46 hb (by omega) (by omega) (fun _ _ _ _ _ _ _ _ h h' => by omega) (fun h => by omega) (fun h => by omega) (fun h => by omega) (fun h => by omega) (fun h => by omega) (fun h => by omega) (fun _ => ⟨f, c, rfl, rfl, rfl, y1, hc, y2.1, hm⟩)⟩⟩
        · have hm2 : M.bm f = !decide (k = 40) := by
            cases h1 : M.bm f with
            | true =>
              cases h2 : decide (k = 40) with
              | true => exact absurd (h1.trans h2.symm) hm
              | false => rfl
            | false =>
              cases h2 : decide (k = 40) with
              | true => rfl
              | false => exact absurd (h1.trans h2.symm) hm
          have nq : ¬ q_b (M.bm f) = q_b (decide (k = 40)) := by rw [hm2]; cases decide (k = 40) <;> decide
          rw [if_neg nq, if_neg nq, if_pos (by rw [hm2])]
          exact ⟨_, _, oC18, z_D0_off.sI (by omega), Or.inl ⟨rfl, rfl, rfl12⟩⟩
end ZINS4
