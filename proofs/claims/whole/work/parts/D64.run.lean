/-! ===== the run: step by step ===== -/
def ZX.ss : ZX → Nat → ZX := fun (X : ZX0) a => ((X.1, X.2.1, X.2.2.1, X.2.2.2.1, X.2.2.2.2.1, a, X.2.2.2.2.2.2) : ZX0)
section ZRZ
variable {p q n m : Nat} {g : ZT} {K : ZK} {M : ZM} {P : ZP} {hh : Nat → Nat → Int32} {R : Nat → Nat → Bool} {T : Nat → Nat → Nat → Nat} {Cx Dx C D : QS} {d i k : Nat} {h h' : Nat → Nat} {V : Nat → Nat → Nat × Int32} {pa pd : Nat → Nat} {H H' : ZH} {X : ZX} {to pl : Nat}
theorem r_disp (Z : r_M p q n g K M P m hh R T Cx Dx d h V pa pd H X pl i C D) : r_res p q K M P hh R T Cx Dx X.sp ((if 7 < P.op i then if 18 < P.op i then if 29 < P.op i then if 34 < P.op i then if 38 < P.op i then fX6_transfer C p (nI i) else fX6_useObject C p (nI i) else fX6_useArray C p (nI i) else fX6_decide C (nI (P.op i)) (P.xa i) else fX6_calculate C (nI (P.op i)) else fX6_move C (nI (P.op i)) (P.xa i) (P.xb i)).bind (r_pu p)) (fX12_step D q (nI i)) := by
  have hop := (Z.W.N.S.wI i Z.t.1).op
  by_cases c7 : 7 < P.op i
  · rw [if_pos c7]
    by_cases c18 : 18 < P.op i
    · rw [if_pos c18]
      by_cases c29 : 29 < P.op i
      · rw [if_pos c29]
        by_cases c34 : 34 < P.op i
        · rw [if_pos c34]
          by_cases c38 : 38 < P.op i
          · rw [if_pos c38]
            have : P.op i = 39 ∨ P.op i = 40 ∨ P.op i = 41 ∨ P.op i = 42 ∨ P.op i = 43 ∨ P.op i = 44 ∨ P.op i = 45 := by omega
            rcases this with e | e | e | e | e | e | e
            · exact r_op39 Z e
            · exact r_op40 Z e
            · exact r_op41 Z e
            · exact r_op42 Z e
            · exact r_op43 Z e
            · exact r_op44 Z e
            · exact r_op45 Z e
          · rw [if_neg c38]
            have : P.op i = 35 ∨ P.op i = 36 ∨ P.op i = 37 ∨ P.op i = 38 := by omega
            rcases this with e | e | e | e
            · exact r_op35 Z e
            · exact r_op36 Z e
            · exact r_op37 Z (Or.inl e)
            · exact r_op37 Z (Or.inr e)
        · rw [if_neg c34]
          have : P.op i = 30 ∨ P.op i = 31 ∨ P.op i = 32 ∨ P.op i = 33 ∨ P.op i = 34 := by omega
          rcases this with e | e | e | e | e
          · exact r_op30 Z e
          · exact r_op31 Z e
          · exact r_op32 Z e
          · exact r_op33 Z e
          · exact r_op34 Z e
      · rw [if_neg c29]
        by_cases c19 : P.op i = 19
        · have x := r_op19 Z c19
          rw [c19]; exact x
        · by_cases c25 : P.op i ≤ 25
          · exact r_opBi Z (by omega) c25
          · by_cases c27 : P.op i ≤ 27
            · exact r_opBn Z (by omega) c27
            · exact r_opBs Z (by omega) (by omega)
    · rw [if_neg c18]
      by_cases e : P.op i = 18
      · have x := r_op18 Z e
        rw [e]; exact x
      · exact r_op8 Z (by omega) (by omega)
  · rw [if_neg c7]
    have : P.op i = 0 ∨ P.op i = 1 ∨ P.op i = 2 ∨ P.op i = 3 ∨ P.op i = 4 ∨ P.op i = 5 ∨ P.op i = 6 ∨ P.op i = 7 := by omega
    rcases this with e | e | e | e | e | e | e | e
    · have x := r_op0 Z e
      rw [e]; exact x
    · have x := r_op1 Z e
      rw [e]; exact x
    · have x := r_op2 Z e
      rw [e]; exact x
    · have x := r_op3 Z e
      rw [e]; exact x
    · have x := r_op4 Z e
      rw [e]; exact x
    · have x := r_op5 Z e
      rw [e]; exact x
    · have x := r_op6 Z e
      rw [e]; exact x
    · have x := r_op7 Z e
      rw [e]; exact x
/-- one step of both sides -/
theorem r_one {sp lim : Nat} (W : r_W p q n g K M P m hh R T Cx Dx) (hs : sp < lim) (hl : lim ≤ 20000) (G : r_GG p q K M P hh R T Cx Dx sp C D) : ∃ C' D', tX6_outcomeOf_97 p (nI lim) (nI sp, C) = some (.inr (nI (sp + 1), C')) ∧ tX12_run_71 q (nI lim) D = some (.inr D') ∧ (r_GG p q K M P hh R T Cx Dx (sp + 1) C' D' ∨ r_EE p q Cx Dx (sp + 1) C' D') := by
  obtain ⟨d, h, V, pa, pd, H, X, pl, pl', IC, ID, t, lo, B, hc, ep, el, oc, esp⟩ := G
  subst esp
  have hd := IC.F.lt
  have bn := W.N.S.bn
  have hi := t.1
  have IC1 : rC p Cx d h V pa H (X.ss (X.sp + 1)) 0 pl' (q_sI C 89 15 (nI (X.sp + 1))) := ⟨IC.g.sI W.hp (by decide), IC.F, IC.P, IC.H, ⟨IC.X.ni, IC.X.ni2, IC.X.inp, IC.X.nx, Nat.le_succ_of_le IC.X.nx2, IC.X.w, Nat.le_succ_of_le IC.X.w2, IC.X.out, by rw [q_sI_I, if_pos ⟨rfl, rfl⟩]; rfl, by show X.sp + 1 ≤ 20000; omega, IC.X.oc, IC.X.ts, IC.X.sy, IC.X.to, IC.X.pl⟩⟩
  have IC2 : rC p Cx d h V pa H (X.ss (X.sp + 1)) 0 (pd d) (q_sI (q_sI C 89 15 (nI (X.sp + 1))) 89 16 (nI (pd d))) := ⟨IC1.g.sI W.hp (by decide), IC1.F, IC1.P, IC1.H, ⟨IC1.X.ni, IC1.X.ni2, IC1.X.inp, IC1.X.nx, IC1.X.nx2, IC1.X.w, IC1.X.w2, IC1.X.out, IC1.X.sp, IC1.X.sp2, IC1.X.oc, IC1.X.ts, IC1.X.sy, IC1.X.to, by rw [q_sI_I, if_pos ⟨rfl, rfl⟩]⟩⟩
  have IC3 := IC2.jump W.hp (pd d + 1)
  have ID1 : rD q Dx d h V pd H (X.ss (X.sp + 1)) pl (q_sI D 102 41 (nI (X.sp + 1))) := ⟨ID.g.sI W.hq (by decide), ID.F, ID.P, ID.H, ⟨ID.X.ni, ID.X.inp, ID.X.nx, ID.X.w, ID.X.out, by rw [q_sI_I, if_pos ⟨rfl, rfl⟩]; rfl, ID.X.oc, ID.X.ts, ID.X.sy, ID.X.pl⟩⟩
  have Z : r_M p q n g K M P m hh R T Cx Dx d h V (k_up pa d (pd d + 1)) pd H (X.ss (X.sp + 1)) pl (pd d) (q_sI (q_sI (q_sI C 89 15 (nI (X.sp + 1))) 89 16 (nI (pd d))) 98 d (nI (pd d + 1))) (q_sI D 102 41 (nI (X.sp + 1))) := ⟨W, IC3, ID1, t, lo, B, hc, rfl, by rw [k_up_eq], fun f hf => by rw [k_up_ne (by omega)]; exact el f hf, oc, Nat.lt_succ_of_le IC.X.nx2, Nat.lt_succ_of_le IC.X.w2⟩
  obtain ⟨C', D', e1, e2, e3⟩ := r_disp Z
  have hop := (W.N.S.wI (pd d) hi).op
  obtain ⟨p11, p12, p13, -⟩ := Z.rdC
  have i1 := z_inbN (show pd d < 1024 by omega) (by decide)
  have c1 := z_cl (show pd d < 2147483648 by omega)
  have i64 := z_inbN hd (show 64 < 2147483648 by decide)
  have c64 := z_cl (show d < 2147483648 by omega)
  have e98 : (q_sI C 89 15 (nI (X.sp + 1))).2.1 98 d = nI (pd d) := by
    rw [← ep]; exact IC.P d (Nat.le_refl _)
  have d7 : (q_sI C 89 15 (nI (X.sp + 1))).2.1 89 7 = nI d := IC1.F.d
  have d7' : (q_sI (q_sI C 89 15 (nI (X.sp + 1))) 89 16 (nI (pd d))).2.1 89 7 = nI d := IC2.F.d
  have st := IC2.noStray W B t
  have lt : ∀ z, z < 100 → (nI z < nI (P.op (pd d))) = (z < P.op (pd d)) := fun z hz => z_ltN (by omega) (by omega)
  have l7 : ((7 : Int32) < nI (P.op (pd d))) = (7 < P.op (pd d)) := lt 7 (by decide)
  have l18 : ((18 : Int32) < nI (P.op (pd d))) = (18 < P.op (pd d)) := lt 18 (by decide)
  have l29 : ((29 : Int32) < nI (P.op (pd d))) = (29 < P.op (pd d)) := lt 29 (by decide)
  have l34 : ((34 : Int32) < nI (P.op (pd d))) = (34 < P.op (pd d)) := lt 34 (by decide)
  have l38 : ((38 : Int32) < nI (P.op (pd d))) = (38 < P.op (pd d)) := lt 38 (by decide)
  have stp : (fX6_step (q_sI C 89 15 (nI (X.sp + 1))) p).bind (r_pu p) = some C' := by
    rw [← e1]
    congr 1
    simp only [fX6_step, d7, i64, if_true, c64, e98, Option.bind_some, st, d7', nI_1, i1, c1, p11, p12, p13, l7, l18, l29, l34, l38, o_bs, Bool.false_eq_true, if_false]
  refine ⟨C', D', ?_, ?_, e3⟩
  · have g1 : ¬ (nI lim ≤ nI X.sp) := by rw [z_leN (by omega) (by omega)]; omega
    have o8 : C.2.1 89 8 = -1 := by rw [IC.X.oc]; exact oc
    simp only [tX6_outcomeOf_97, if_neg g1, o8, if_true, IC.X.sp, nI_1, Option.bind_some]
    cases hstep : fX6_step (q_sI C 89 15 (nI (X.sp + 1))) p with
    | none => rw [hstep] at stp; cases stp
    | some r20 =>
      rw [hstep, Option.bind_some, r_pu] at stp
      rw [Option.bind_some]
      by_cases c : r20.2.1 89 9 = 0
      · rw [if_pos c] at stp ⊢
        rw [Option.some.inj stp]
      · rw [if_neg c] at stp ⊢
        rw [stp]; rfl
  · have g1 : ¬ ((0 : Int32) ≤ -1) := by decide
    have o8 : D.2.1 102 44 = -1 := by rw [ID.X.oc]; exact oc
    have ne : ¬ (nI X.sp = nI lim) := by rw [z_eqN (by omega) (by omega)]; omega
    have ho := ID1.holds W B t
    simp only [tX12_run_71, o8, if_neg g1, ID.dm, i64, if_true, ID.X.sp, if_neg ne, nI_1, c64, ID.P d (Nat.le_refl _), Option.bind_some, ho, e2]
/-- all that the later calls read of a run -/
def w_R (C D : QS) : Prop := C.2.1 89 15 = D.2.1 102 41 ∧ C.2.1 89 16 = D.2.1 102 42 ∧ C.2.1 89 17 = D.2.1 102 43 ∧ C.2.1 90 5 = D.2.1 102 36 ∧ C.2.1 90 6 = D.2.1 102 37 ∧ C.2.1 89 14 = D.2.1 102 40 ∧ C.2.1 89 18 = D.2.1 102 45 ∧ ∃ w, C.2.1 89 14 = nI w ∧ w ≤ 20000 ∧ ∀ i, i < w → i < 256 → C.2.1 101 i = D.2.1 182 i
def r_ret (p q : Nat) (Cx Dx : QS) (r r' : Int32 × QS) : Prop := r.1 = r'.1 ∧ w_R r.2 r'.2 ∧ w_I r.2 r'.2 0 ∧ r_gC p Cx r.2 ∧ r_gD q Dx r'.2
theorem r_fin {sp lim : Nat} (W : r_W p q n g K M P m hh R T Cx Dx) (hs : sp ≤ lim) (hl : lim ≤ 20000) (E : r_EE p q Cx Dx sp C D) : ∃ r r', q_run (tX6_outcomeOf_97 p (nI lim)) (nI sp, C) = some r ∧ q_run (tX12_run_71 q (nI lim)) D = some r' ∧ r_ret p q Cx Dx r r' := by
  obtain ⟨H, X, pl, gC, gD, HC, HD, XC, XD, oc, esp⟩ := E
  have ne : X.oc ≠ -1 := fun e => by rw [e] at oc; exact absurd oc (by decide)
  have o8 : ¬ (C.2.1 89 8 = -1) := by rw [XC.oc]; exact ne
  have o8' : ¬ ((q_sI C 89 11 0).2.1 89 8 = -1) := o8
  have end141 : fX6_outcomeOf_141 C p = some (X.oc, q_sI C 89 11 0) := by
    simp only [fX6_outcomeOf_141, if_neg o8, Option.bind_some]
    rw [show (q_sI C 89 11 0).2.1 89 8 = X.oc from XC.oc]
  refine ⟨(X.oc, q_sI C 89 11 0), (X.oc, q_sI D 102 38 0), q_run_ret ?_, q_run_ret ?_, rfl, ⟨?_, ?_, ?_, ?_, ?_, ?_, ?_, X.w, ?_, ?_, fun i a b => ?_⟩, ⟨?_, ?_, by decide, fun k hk => by omega⟩, gC.sI W.hp (by decide), gD.sI W.hq (by decide)⟩
  · simp only [tX6_outcomeOf_97, end141, Option.bind_some]
    by_cases c : nI lim ≤ nI sp
    · rw [if_pos c]
    · rw [if_neg c, if_neg o8]
  · have g1 : (0 : Int32) ≤ D.2.1 102 44 := by rw [XD.oc]; exact oc
    simp only [tX12_run_71, if_pos g1, Option.bind_some]
    rw [show (q_sI D 102 38 0).2.1 102 44 = X.oc from XD.oc]
  · exact XC.sp.trans XD.sp.symm
  · exact XC.pl.trans (XD.pl ne).symm
  · exact XC.ts.trans XD.ts.symm
  · exact HC.n.trans HD.n.symm
  · exact HC.u.trans HD.u.symm
  · exact XC.w.trans XD.w.symm
  · exact XC.sy.trans XD.sy.symm
  · exact XC.w
  · have := XC.w2
    have := XC.sp2
    omega
  · exact (XC.out i a b).trans (XD.out i a b).symm
  · rw [q_sI_I, if_pos ⟨rfl, rfl⟩]; rfl
  · rw [q_sI_I, if_pos ⟨rfl, rfl⟩]; rfl
theorem r_lim {sp : Nat} (W : r_W p q n g K M P m hh R T Cx Dx) (hl : sp ≤ 20000) (G : r_GG p q K M P hh R T Cx Dx sp C D) : ∃ r r', q_run (tX6_outcomeOf_97 p (nI sp)) (nI sp, C) = some r ∧ q_run (tX12_run_71 q (nI sp)) D = some r' ∧ r_ret p q Cx Dx r r' := by
  obtain ⟨d, h, V, pa, pd, H, X, pl, pl', IC, ID, t, lo, B, hc, ep, el, oc, esp⟩ := G
  have hd := IC.F.lt
  have i64 := z_inbN hd (show 64 < 2147483648 by decide)
  have c64 := z_cl (show d < 2147483648 by omega)
  have o8 : C.2.1 89 8 = -1 := by rw [IC.X.oc]; exact oc
  have o8D : D.2.1 102 44 = -1 := by rw [ID.X.oc]; exact oc
  have XC := IC.X.so1 2
  have s7 : (q_sI C 89 8 2).2.1 89 7 = nI d := IC.F.d
  have s98 : (q_sI C 89 8 2).2.1 98 d = nI (pa d) := IC.P d (Nat.le_refl _)
  have end141 : fX6_outcomeOf_141 C p = some (2, q_sI (q_sI (q_sI C 89 8 2) 89 16 (nI (pa d))) 89 11 0) := by
    simp only [fX6_outcomeOf_141, o8, if_true, Option.bind_some, s7, i64, c64, s98]
    rw [show (q_sI (q_sI (q_sI C 89 8 2) 89 16 (nI (pa d))) 89 11 0).2.1 89 8 = 2 by rw [q_sI_I, if_neg (by decide), q_sI_I, if_neg (by decide), q_sI_I, if_pos ⟨rfl, rfl⟩]]
  refine ⟨(2, q_sI (q_sI (q_sI C 89 8 2) 89 16 (nI (pa d))) 89 11 0), (2, q_sI (q_sI (q_sI D 102 44 2) 102 42 (nI (pd d))) 102 38 0), q_run_ret ?_, (q_run_go (y := q_sI (q_sI D 102 44 2) 102 42 (nI (pd d))) ?_).trans (q_run_ret ?_), rfl, ⟨?_, ?_, ?_, ?_, ?_, ?_, ?_, X.w, ?_, ?_, fun i a b => ?_⟩, ⟨?_, ?_, by decide, fun k hk => by omega⟩, r_gC.sI W.hp (r_gC.sI W.hp (IC.g.sI W.hp (by decide)) (by decide)) (by decide), r_gD.sI W.hq (r_gD.sI W.hq (ID.g.sI W.hq (by decide)) (by decide)) (by decide)⟩
  · simp only [tX6_outcomeOf_97, end141, Option.bind_some]
    rw [if_pos (by rw [z_leN (by omega) (by omega)]; exact Nat.le_refl _)]
  · have g1 : ¬ ((0 : Int32) ≤ -1) := by decide
    have e41 : D.2.1 102 41 = nI sp := by rw [ID.X.sp, esp]
    simp only [tX12_run_71, o8D, if_neg g1, ID.dm, i64, if_true, e41, c64, ID.P d (Nat.le_refl _), Option.bind_some]
  · have g1 : (q_sI (q_sI D 102 44 2) 102 42 (nI (pd d))).2.1 102 44 = 2 := by rw [q_sI_I, if_neg (by decide), q_sI_I, if_pos ⟨rfl, rfl⟩]
    have g2 : (q_sI (q_sI (q_sI D 102 44 2) 102 42 (nI (pd d))) 102 38 0).2.1 102 44 = 2 := g1
    have g3 : (0 : Int32) ≤ 2 := by decide
    simp only [tX12_run_71, g1, if_pos g3, Option.bind_some, g2]
  · exact IC.X.sp.trans ID.X.sp.symm
  · show (q_sI (q_sI (q_sI C 89 8 2) 89 16 (nI (pa d))) 89 11 0).2.1 89 16 = (q_sI (q_sI (q_sI D 102 44 2) 102 42 (nI (pd d))) 102 38 0).2.1 102 42
    rw [q_sI_I, if_neg (by decide), q_sI_I, if_pos ⟨rfl, rfl⟩, q_sI_I, if_neg (by decide), q_sI_I, if_pos ⟨rfl, rfl⟩, ep]
  · exact IC.X.ts.trans ID.X.ts.symm
  · exact IC.H.n.trans ID.H.n.symm
  · exact IC.H.u.trans ID.H.u.symm
  · exact IC.X.w.trans ID.X.w.symm
  · exact IC.X.sy.trans ID.X.sy.symm
  · exact IC.X.w
  · have := IC.X.w2
    have := IC.X.sp2
    omega
  · exact (IC.X.out i a b).trans (ID.X.out i a b).symm
  · rw [q_sI_I, if_pos ⟨rfl, rfl⟩]; rfl
  · rw [q_sI_I, if_pos ⟨rfl, rfl⟩]; rfl
theorem r_all {lim : Nat} (W : r_W p q n g K M P m hh R T Cx Dx) (hl : lim ≤ 20000) : ∀ e sp C D, sp + e = lim → (r_GG p q K M P hh R T Cx Dx sp C D ∨ r_EE p q Cx Dx sp C D) → ∃ r r', q_run (tX6_outcomeOf_97 p (nI lim)) (nI sp, C) = some r ∧ q_run (tX12_run_71 q (nI lim)) D = some r' ∧ r_ret p q Cx Dx r r' := by
  intro e
  induction e with
  | zero =>
    intro sp C D hs hG
    have : sp = lim := by omega
    subst this
    rcases hG with G | E
    · exact r_lim W hl G
    · exact r_fin W (Nat.le_refl _) hl E
  | succ e ih =>
    intro sp C D hs hG
    rcases hG with G | E
    · obtain ⟨C', D', e1, e2, e3⟩ := r_one W (show sp < lim by omega) hl G
      obtain ⟨r, r', f1, f2, f3⟩ := ih (sp + 1) C' D' (by omega) e3
      exact ⟨r, r', (q_run_go e1).trans f1, (q_run_go e2).trans f2, f3⟩
    · exact r_fin W (by omega) hl E
end ZRZ
