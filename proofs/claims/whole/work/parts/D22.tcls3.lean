/-! ===== types: the class spreads them ===== -/
/-- the class on its way through the types of a body -/
def ty_I (p : Nat) (q : Nat) (n : Nat) (g : ZT) (K : ZK) (M : ZM) (P : ZP) (m : Nat) (b : Nat) (hh : Nat → Int32) (D : QS) (C : QS) (R : Nat → Bool) (T : Nat → Nat → Nat) (W : Nat → Bool) (s : Bool) : Prop := (s_N p q n g K M P m C D) ∧ (∀ i, P.fi b ≤ i → i < P.en b → C.2.1 (p + 17) i = hh i) ∧ (ty_S C hh (P.fi b) (P.en b) R T W s) ∧ (ty_snd K M P hh b R T) ∧ (ty_v K M P hh b R T) ∧ (∀ i, W i = true → R i = true)
theorem ty_I.N {p : Nat} {q : Nat} {n : Nat} {g : ZT} {K : ZK} {M : ZM} {P : ZP} {m : Nat} {b : Nat} {hh : Nat → Int32} {D : QS} {C : QS} {R : Nat → Bool} {T : Nat → Nat → Nat} {W : Nat → Bool} {s : Bool} (I : ty_I p q n g K M P m b hh D C R T W s) : s_N p q n g K M P m C D := I.1
theorem ty_I.hc {p : Nat} {q : Nat} {n : Nat} {g : ZT} {K : ZK} {M : ZM} {P : ZP} {m : Nat} {b : Nat} {hh : Nat → Int32} {D : QS} {C : QS} {R : Nat → Bool} {T : Nat → Nat → Nat} {W : Nat → Bool} {s : Bool} (I : ty_I p q n g K M P m b hh D C R T W s) : ∀ i, P.fi b ≤ i → i < P.en b → C.2.1 (p + 17) i = hh i := I.2.1
theorem ty_I.S {p : Nat} {q : Nat} {n : Nat} {g : ZT} {K : ZK} {M : ZM} {P : ZP} {m : Nat} {b : Nat} {hh : Nat → Int32} {D : QS} {C : QS} {R : Nat → Bool} {T : Nat → Nat → Nat} {W : Nat → Bool} {s : Bool} (I : ty_I p q n g K M P m b hh D C R T W s) : ty_S C hh (P.fi b) (P.en b) R T W s := I.2.2.1
theorem ty_I.sd {p : Nat} {q : Nat} {n : Nat} {g : ZT} {K : ZK} {M : ZM} {P : ZP} {m : Nat} {b : Nat} {hh : Nat → Int32} {D : QS} {C : QS} {R : Nat → Bool} {T : Nat → Nat → Nat} {W : Nat → Bool} {s : Bool} (I : ty_I p q n g K M P m b hh D C R T W s) : ty_snd K M P hh b R T := I.2.2.2.1
theorem ty_I.v {p : Nat} {q : Nat} {n : Nat} {g : ZT} {K : ZK} {M : ZM} {P : ZP} {m : Nat} {b : Nat} {hh : Nat → Int32} {D : QS} {C : QS} {R : Nat → Bool} {T : Nat → Nat → Nat} {W : Nat → Bool} {s : Bool} (I : ty_I p q n g K M P m b hh D C R T W s) : ty_v K M P hh b R T := I.2.2.2.2.1
theorem ty_I.w {p : Nat} {q : Nat} {n : Nat} {g : ZT} {K : ZK} {M : ZM} {P : ZP} {m : Nat} {b : Nat} {hh : Nat → Int32} {D : QS} {C : QS} {R : Nat → Bool} {T : Nat → Nat → Nat} {W : Nat → Bool} {s : Bool} (I : ty_I p q n g K M P m b hh D C R T W s) : ∀ i, W i = true → R i = true := I.2.2.2.2.2
section ZTC3
variable {C D : QS} {n p q m b : Nat} {g : ZT} {K : ZK} {M : ZM} {P : ZP} {hh : Nat → Int32} {R : Nat → Bool} {T : Nat → Nat → Nat} {W : Nat → Bool} {s : Bool}
theorem z_tyArr {j : Nat} {r : Nat → Nat} (hp : z_pp p) (hq : z_qq q) (hK : k_K g K) (ok : h_ok M P b hh) (hb : b < M.bc) (I : ty_I p q n g K M P m b hh D C R T W s) (j1 : P.fi b ≤ j) (j2 : j < P.en b) (hj : k_hi M P hh j) (hR : ty_RW C (k_wd hh j) r) (hr : k_rvt K (k_wd hh j) r) (hs : ∀ R' T', ty_cld K M P hh b R' T' → R' j = true ∧ k_rle K (k_wd hh j) r (T' j)) : ∃ C' R' T' W' s', fX9_arrive C p (nI j) = some C' ∧ ty_I p q n g K M P m b hh D C' R' T' W' s' ∧ ty_G K hh (P.fi b) (P.en b) R T W s R' T' W' s' ∧ R' j = true ∧ k_rle K (k_wd hh j) r (T' j) ∧ ty_f (P.fi b) (P.en b) C C' ∧ ∀ k, C'.2.1 88 k = C.2.1 88 k := by
  have hle := (I.N.B b hb).le
  have hv : R j = true → k_rvt K (k_wd hh j) (T j) := fun h => (I.v j j1 j2 h).2
  obtain ⟨C', y1, y2, y3, y4⟩ := z_tyArrive hp hq hK I.N hle j1 j2 ((I.hc j j1 j2).trans hj.2.1) (fun i a c => ok.h8 a c) I.S hR hv hr
  refine ⟨C', _, _, _, _, y1, ⟨I.N.tf hp hq y3, fun i a c => (y3.1 _ _ ?_ ?_ ?_ ?_ ?_).trans (I.hc i a c), y2, I.sd.add hK j1 j2 hv hr hs, I.v.add hK hj hv hr, fun i hi => ?_⟩, ty_G.add hK j1 j2 hv hr, k_up_eq, ty_a_up hK hv hr, y3, y4⟩
  all_goals (first | (rcases hp with rfl | rfl <;> omega) | skip)
  rw [ty_aR]
  by_cases e : i = j
  · subst e; exact k_up_eq
  · rw [k_up_ne e]
    refine I.w i ?_
    split at hi
    · rw [k_up_ne e] at hi; exact hi
    · exact hi
/-- the row of an instruction is laid open -/
theorem z_tyRow {i : Nat} (hi : i < 1024) (hy : ty_by C) (hS : ∀ s, s < k_wd hh i → C.2.1 85 (i * 20 + s) = nI (T i s)) (h8 : k_hN hh i ≤ 8) : q_cpok C 1 85 20480 (nI i * (20 : Int32)) (0 : Int32) (20 : Int32) 88 20 = true ∧ ∃ C', q_cpI C 85 (nI i * (20 : Int32)).toNatClampNeg 88 (0 : Int32).toNatClampNeg (20 : Int32).toNatClampNeg = C' ∧ (∀ y j, y ≠ 88 → C'.2.1 y j = C.2.1 y j) ∧ C'.1 = C.1 ∧ C'.2.2 = C.2.2 ∧ (∀ j, q_byt (C'.2.1 88 j)) ∧ ty_RW C' (k_wd hh i) (T i) := by
  have e20 : nI i * (20 : Int32) = nI (i * 20) := nI_mulN i 20
  have o0 : (0 : Int32) = nI 0 := rfl
  have o20 : (20 : Int32) = nI 20 := rfl
  have hw : k_wd hh i = 12 + k_hN hh i := rfl
  rw [e20, z_cl (show i * 20 < 2147483648 by omega), o0, o20, z_cl (show 0 < 2147483648 by omega), z_cl (show 20 < 2147483648 by omega)]
  refine ⟨?_, _, rfl, fun y j h => ?_, rfl, rfl, fun j => ?_, fun s hs => ?_⟩
  · simp only [q_cpok, z_cl (show 0 < 2147483648 by decide), z_cl (show i * 20 < 2147483648 by omega), z_cl (show 20 < 2147483648 by omega), z_negN (show 0 < 2147483648 by decide), z_negN (show i * 20 < 2147483648 by omega), z_negN (show 20 < 2147483648 by omega), decide_false, Bool.not_false, Bool.true_and, Bool.and_eq_true, decide_eq_true_eq, List.all_eq_true, List.mem_range]
    exact ⟨by omega, by omega, fun i hi => z_fitB (hy _).1⟩
  · rw [q_cpI_I, if_neg (by omega)]
  · rw [q_cpI_I]
    by_cases c : 88 = 88 ∧ 0 ≤ j ∧ j < 0 + 20
    · rw [if_pos c]; exact (hy _).1
    · rw [if_neg c]; exact (hy _).2
  · rw [q_cpI_I, if_pos (by omega), show i * 20 + (s - 0) = i * 20 + s by omega]
    exact hS s hs
/-- only the row has changed -/
theorem ty_I.row {C' : QS} (hp : z_pp p) (hq : z_qq q) (I : ty_I p q n g K M P m b hh D C R T W s) (h1 : ∀ y j, y ≠ 88 → C'.2.1 y j = C.2.1 y j) (h2 : C'.1 = C.1) (h3 : C'.2.2 = C.2.2) (h4 : ∀ j, q_byt (C'.2.1 88 j)) : ty_I p q n g K M P m b hh D C' R T W s ∧ ty_f (P.fi b) (P.en b) C C' := by
  have f : ty_f (P.fi b) (P.en b) C C' := ⟨fun y j _ _ c _ _ => h1 y j c, h2, h3⟩
  refine ⟨⟨I.N.tf hp hq f, fun i a c => (h1 _ _ ?_).trans (I.hc i a c), ⟨fun i a c => ?_, ?_, fun j => ⟨?_, h4 j⟩⟩, I.sd, I.v, I.w⟩, f⟩
  · rcases hp with rfl | rfl <;> omega
  · rw [h1 _ _ (by decide), h1 _ _ (by decide)]
    obtain ⟨x1, x2, x3⟩ := I.S.1 i a c
    exact ⟨x1, x2, fun h s hs => by rw [h1 _ _ (by decide)]; exact x3 h s hs⟩
  · rw [h1 _ _ (by decide)]; exact I.S.2.1
  · rw [h1 _ _ (by decide)]; exact (I.S.2.2 j).1
theorem z_tySpC {i : Nat} (hp : z_pp p) (hq : z_qq q) (hK : k_K g K) (ok : h_ok M P b hh) (hb : b < M.bc) (h1 : P.fi b ≤ i) (h2 : i < P.en b) : ∀ d k C R T W s, k + d = P.sk b → P.fk b ≤ k → ty_I p q n g K M P m b hh D C R T W s → R i = true → ∃ C' R' T' W' s', q_run (tX9_spread_86 p (nI i) (nI b)) (nI k, C) = some C' ∧ ty_I p q n g K M P m b hh D C' R' T' W' s' ∧ ty_G K hh (P.fi b) (P.en b) R T W s R' T' W' s' ∧ (W' i = false → ∀ k', k ≤ k' → k' < P.sk b → k_cov P k' i = true → R' (P.ca k') = true ∧ k_rle K (k_wd hh (P.ca k')) (k_up (T' i) 12 (P.cl k')) (T' (P.ca k'))) ∧ ty_f (P.fi b) (P.en b) C C' := by
  intro d
  induction d with
  | zero =>
    intro k C R T W s hk hfk I hR
    have B := I.N.B b hb
    have h48 := I.N.S.mJ.mB.1
    have bk := I.N.S.bk
    have hsk := B.sk
    refine ⟨C, R, T, W, s, q_run_ret ?_, I, ty_G.refl _ _ _ _ _ _ _ _, fun _ k' a b => by omega, ty_f.refl _ _ _⟩
    simp only [tX9_spread_86, z_inbN (show b < 48 by omega) (by decide), if_true, z_cl (show b < 2147483648 by omega), B.C4]
    rw [if_pos (by rw [z_leN (by omega) (by omega)]; omega)]
  | succ d ih =>
    intro k C R T W s hk hfk I hR
    have N := I.N
    have B := N.B b hb
    have h48 := N.S.mJ.mB.1
    have bk := N.S.bk
    have bn := N.S.bn
    have hsk := B.sk
    have hle := B.le
    have hkn : k < P.nc := by omega
    have hbd := B.bd i h1 h2
    have hcb : P.cb k = b := (B.cb k hkn).mpr ⟨hfk, by omega⟩
    have ic := z_isCaught N (show i < P.n by omega) hkn
    have hcov : k_cov P k i = (decide (P.cf k ≤ i) && decide (i < P.ct k)) := by rw [k_cov, hcb, hbd, decide_eq_true rfl, Bool.true_and]
    rw [← hcov] at ic
    have g1 : ¬ nI (P.sk b) ≤ nI k := by rw [z_leN (by omega) (by omega)]; omega
    by_cases c : k_cov P k i = true
    · obtain ⟨a1, a2, a3, a4, a5, a6⟩ := ty_e_ca hK N ok hb h1 h2 I.sd I.v hR hkn c
      obtain ⟨r1, C0, r2, r3, r4, r5, r6, r7⟩ := z_tyRow (C := C) (T := T) (hh := hh) (show i < 1024 by omega) I.S.2.2 ((I.S.1 i h1 h2).2.2 hR) (ok.h8 h1 h2)
      have hcl := (N.S.wK k hkn).cl
      have h32 := hK.2.1
      have hcb2 := z_bytN (show P.cl k ≤ 127 by omega)
      have hcl0 : C0.2.1 (p + 21) k = nI (P.cl k) := (r3 _ _ (by rcases hp with rfl | rfl <;> omega)).trans (N.S.aC k hkn).2.2.2
      obtain ⟨I0, f0⟩ := I.row hp hq r3 r4 r5 r6
      have q1 := ty_p.set (k := 12) r6 hcb2
      obtain ⟨I1, f1⟩ := I0.row hp hq q1.1 q1.2.1 q1.2.2.1 q1.2.2.2
      have hca1 : (q_sI C0 88 12 (nI (P.cl k))).2.1 (p + 20) k = nI (P.ca k) := (q1.1 _ _ (by rcases hp with rfl | rfl <;> omega)).trans ((r3 _ _ (by rcases hp with rfl | rfl <;> omega)).trans (N.S.aC k hkn).2.2.1)
      obtain ⟨C1, R1, T1, W1, s1, y1, y2, y3, y4, y5, y6, y7⟩ := z_tyArr hp hq hK ok hb I1 a1 a2 a3 (r := k_up (T i) 12 (P.cl k)) (r7.set (fun s hs => by rw [a4] at hs; have hw : k_wd hh i = 12 + k_hN hh i := rfl; omega)) a5 a6
      have st : tX9_spread_86 p (nI i) (nI b) (nI k, C) = some (.inr (nI (k + 1), C1)) := by
        have o12 : (12 : Int32).toNatClampNeg = 12 := rfl
        have i12 : q_inb (12 : Int32) 20 = true := by decide
        simp only [tX9_spread_86, z_inbN (show b < 48 by omega) (by decide), if_true, z_cl (show b < 2147483648 by omega), B.C4, if_neg g1, ic, c, Option.bind_some, r1, r2, z_inbN (show k < 64 by omega) (by decide), z_cl (show k < 2147483648 by omega), i12, o12, hcl0, z_bytv hcb2, z_bytn hcb2, hca1, y1, nI_1]
      obtain ⟨C', R', T', W', s', z1, z2, z3, z4, z5⟩ := ih (k + 1) C1 R1 T1 W1 s1 (by omega) (by omega) y2 (y3.g1 i hR).1
      refine ⟨C', R', T', W', s', (q_run_go st).trans z1, z2, y3.trans hK z3, fun hw k' k1 k2 k3 => ?_, ((f0.trans f1).trans y6).trans z5⟩
      by_cases e : k' = k
      · subst e
        obtain ⟨u1, u2⟩ := z3.g1 _ y4
        refine ⟨u1, k_rle.trans hK (k_rle.trans hK ?_ y5) u2⟩
        rw [a4]
        refine k_up_le (w := k_wd hh i) (fun s hs => ?_) (by rw [k_wd]; omega)
        obtain ⟨⟨-, v1⟩, v2⟩ := z3.g2 i hw
        obtain ⟨⟨-, v3⟩, -⟩ := y3.g2 i v2
        rw [v1 s hs, v3 s hs]; exact k_blw_refl _
      · exact z4 hw k' (by omega) k2 k3
    · have st : tX9_spread_86 p (nI i) (nI b) (nI k, C) = some (.inr (nI (k + 1), C)) := by
        simp only [tX9_spread_86, z_inbN (show b < 48 by omega) (by decide), if_true, z_cl (show b < 2147483648 by omega), B.C4, if_neg g1, ic, Bool.eq_false_iff.mpr c, Option.bind_some, Bool.false_eq_true, if_false, nI_1]
      obtain ⟨C', R', T', W', s', z1, z2, z3, z4, z5⟩ := ih (k + 1) C R T W s (by omega) (by omega) I hR
      refine ⟨C', R', T', W', s', (q_run_go st).trans z1, z2, z3, fun hw k' k1 k2 k3 => ?_, z5⟩
      by_cases e : k' = k
      · subst e; exact absurd k3 c
      · exact z4 hw k' (by omega) k2 k3
theorem z_bindS {X : Option QS} {Y : QS} (k : QS → Option QS) (h : Option.bind X some = some Y) : Option.bind X k = k Y := by
  cases X with
  | none => cases h
  | some x => cases h; rfl
theorem z_tySpread {i : Nat} (hp : z_pp p) (hq : z_qq q) (hG : z_G n g) (hK : k_K g K) (ok : h_ok M P b hh) (hb : b < M.bc) (I : ty_I p q n g K M P m b hh D C R T W s) (h1 : P.fi b ≤ i) (h2 : i < P.en b) (hR : R i = true) : ∃ C' R' T' W' s', fX9_spread C p (nI i) (nI b) = some C' ∧ ty_I p q n g K M P m b hh D C' R' T' W' s' ∧ ty_G K hh (P.fi b) (P.en b) R T W s R' T' W' s' ∧ (W' i = false → ty_cl K M P hh R' T' i) ∧ ty_f (P.fi b) (P.en b) C C' := by
  have N := I.N
  have B := N.B b hb
  have hle := B.le
  have bn := N.S.bn
  have h48 := N.S.mJ.mB.1
  have bk := N.S.bk
  have hsk := B.sk
  have hfk := B.fk
  have hi : i < P.n := by omega
  have hop := (N.S.wI i hi).op
  have i1 := z_inbN (show i < 1024 by omega) (by decide)
  have c1 := z_cl (show i < 2147483648 by omega)
  have ib := z_inbN (show b < 48 by omega) (by decide)
  have cb := z_cl (show b < 2147483648 by omega)
  obtain ⟨r1, C0, r2, r3, r4, r5, r6, r7⟩ := z_tyRow (C := C) (T := T) (hh := hh) (show i < 1024 by omega) I.S.2.2 ((I.S.1 i h1 h2).2.2 hR) (ok.h8 h1 h2)
  obtain ⟨I0, f0⟩ := I.row hp hq r3 r4 r5 r6
  obtain ⟨hH, hvi⟩ := I.v i h1 h2 hR
  obtain ⟨x, C1, p1, p2, p3, p4⟩ := z_perform hG hK I0.N hi ((I0.hc i h1 h2).trans hH.2.1) hH r7 hvi r6
  obtain ⟨I1, f1⟩ := I0.row hp hq p2.1 p2.2.1 p2.2.2.1 p2.2.2.2
  obtain ⟨C3, R3, T3, W3, s3, e3, I3, G3, A3, F3⟩ : ∃ C3 R3 T3 W3 s3, (Option.bind (α := QS) (if x = true then
      if q_inb (nI i) 1024 = true then (fX1_goesOn C1 ((C1.2.1 (p + 11) i))).bind fun r25 =>
      (Option.bind (α := QS) (if r25 = true then
          (fX9_arrive C1 p (nI (i + 1))).bind fun r27 =>
          some (r27)
        else
          some (C1)) fun v30 =>
        if q_inb (nI i) 1024 = true then (fX1_goesToLabel v30 ((v30.2.1 (p + 11) i))).bind fun r33 =>
        if r33 = true then
          if q_inb (nI i) 1024 = true then (fX9_arrive v30 p ((v30.2.1 (p + 12) i))).bind fun r36 =>
          some (r36) else none
        else
          some (v30) else none) else none
    else
      some (C1)) some) = some C3 ∧ ty_I p q n g K M P m b hh D C3 R3 T3 W3 s3 ∧ ty_G K hh (P.fi b) (P.en b) R T W s R3 T3 W3 s3 ∧ (∀ r, k_tr M P hh i (T i) = some r → (k_nx (P.op i) = true → R3 (i + 1) = true ∧ k_rle K (k_wd hh (i + 1)) r (T3 (i + 1))) ∧ (k_lb (P.op i) = true → R3 (k_tg P i) = true ∧ k_rle K (k_wd hh (k_tg P i)) r (T3 (k_tg P i)))) ∧ ty_f (P.fi b) (P.en b) C1 C3 := by
    cases hx : x with
    | false =>
      refine ⟨C1, R, T, W, s, rfl, I1, ty_G.refl _ _ _ _ _ _ _ _, fun r hr => ?_, ty_f.refl _ _ _⟩
      rw [p3 hx] at hr; cases hr
    | true =>
      obtain ⟨r, t1, t2⟩ := p4 hx
      -- next
      obtain ⟨C2, R2, T2, W2, s2, e2, I2, G2, A2, F2, Q2⟩ : ∃ C2 R2 T2 W2 s2, (Option.bind (α := QS) (if k_nx (P.op i) = true then (fX9_arrive C1 p (nI (i + 1))).bind fun r27 => some (r27) else some C1) some) = some C2 ∧ ty_I p q n g K M P m b hh D C2 R2 T2 W2 s2 ∧ ty_G K hh (P.fi b) (P.en b) R T W s R2 T2 W2 s2 ∧ (k_nx (P.op i) = true → R2 (i + 1) = true ∧ k_rle K (k_wd hh (i + 1)) r (T2 (i + 1))) ∧ ty_f (P.fi b) (P.en b) C1 C2 ∧ ∀ k, C2.2.1 88 k = C1.2.1 88 k := by
        by_cases cn : k_nx (P.op i) = true
        · obtain ⟨j1, j2, j3, j4, j5, j6⟩ := ty_e_to hK N ok hb h1 h2 I.sd I.v hR t1 (Or.inl ⟨cn, rfl⟩)
          obtain ⟨C2, R2, T2, W2, s2, y1, y2, y3, y4, y5, y6, y7⟩ := z_tyArr hp hq hK ok hb I1 j1 j2 j3 (r := r) (by rw [j4]; exact t2) j5 j6
          exact ⟨C2, R2, T2, W2, s2, by rw [if_pos cn, y1]; rfl, y2, y3, fun _ => ⟨y4, y5⟩, y6, y7⟩
        · exact ⟨C1, R, T, W, s, by rw [if_neg cn]; rfl, I1, ty_G.refl _ _ _ _ _ _ _ _, fun h => absurd h cn, ty_f.refl _ _ _, fun _ => rfl⟩
      obtain ⟨C3, R3, T3, W3, s3, e3, I3, G3, A3, F3⟩ : ∃ C3 R3 T3 W3 s3, (Option.bind (α := QS) (if k_lb (P.op i) = true then (fX9_arrive C2 p (P.xa i)).bind fun r27 => some (r27) else some C2) some) = some C3 ∧ ty_I p q n g K M P m b hh D C3 R3 T3 W3 s3 ∧ ty_G K hh (P.fi b) (P.en b) R2 T2 W2 s2 R3 T3 W3 s3 ∧ (k_lb (P.op i) = true → R3 (k_tg P i) = true ∧ k_rle K (k_wd hh (k_tg P i)) r (T3 (k_tg P i))) ∧ ty_f (P.fi b) (P.en b) C2 C3 := by
        by_cases cl : k_lb (P.op i) = true
        · obtain ⟨j1, j2, j3, j4, j5, j6⟩ := ty_e_to hK N ok hb h1 h2 I.sd I.v hR t1 (Or.inr ⟨cl, rfl⟩)
          obtain ⟨-, -, k3, -⟩ := k_lb_in N hb h1 h2 cl
          obtain ⟨C3, R3, T3, W3, s3, y1, y2, y3, y4, y5, y6, y7⟩ := z_tyArr hp hq hK ok hb I2 j1 j2 j3 (r := r) (fun s hs => by rw [Q2]; rw [j4] at hs; exact t2 s hs) j5 j6
          exact ⟨C3, R3, T3, W3, s3, by rw [if_pos cl, k3, y1]; rfl, y2, y3, fun _ => ⟨y4, y5⟩, y6⟩
        · exact ⟨C2, R2, T2, W2, s2, by rw [if_neg cl]; rfl, I2, ty_G.refl _ _ _ _ _ _ _ _, fun h => absurd h cl, ty_f.refl _ _ _⟩
      refine ⟨C3, R3, T3, W3, s3, ?_, I3, G2.trans hK G3, fun r' hr => ?_, F2.trans F3⟩
      · simp only [if_true, i1, (I1.N.S.iC i hi).1, (z_goesOn hop C1).1, Option.bind_some]
        rw [z_bindS _ e2]
        simp only [(I2.N.S.iC i hi).1, (I2.N.S.iC i hi).2.1, (z_hasLabel hop C2).1, Option.bind_some]
        exact e3
      · rw [t1] at hr
        cases hr
        refine ⟨fun c => ?_, A3⟩
        obtain ⟨u1, u2⟩ := A2 c
        obtain ⟨v1, v2⟩ := G3.g1 _ u1
        exact ⟨v1, u2.trans hK v2⟩
  obtain ⟨C', R', T', W', s', z1, z2, z3, z4, z5⟩ := z_tySpC hp hq hK ok hb h1 h2 (P.sk b - P.fk b) (P.fk b) C3 R3 T3 W3 s3 (by omega) (Nat.le_refl _) I3 (G3.g1 i hR).1
  have G := G3.trans hK z3
  refine ⟨C', R', T', W', s', ?_, z2, G, fun hw hRi => ⟨fun r hr => ?_, fun k hk hc => ?_⟩, ((f0.trans f1).trans F3).trans z5⟩
  · simp only [fX9_spread, r1, if_true, r2, Option.bind_some, p1, nI_1, c1]
    rw [z_bindS _ e3]
    simp only [ib, if_true, cb, (I3.N.B b hb).C3]
    exact z1
  · obtain ⟨⟨v0, v1⟩, -⟩ := G.g2 i hw
    have he : k_rle K (k_wd hh i) (T' i) (T i) := fun s hs => by rw [v1 s hs]; exact k_blw_refl _
    obtain ⟨q2, x1, x2⟩ := k_tr_mono hK N hi hH hvi he hr
    obtain ⟨y1, y2⟩ := A3 q2 x1
    refine ⟨fun c => ?_, fun c => ?_⟩
    · obtain ⟨j1, j2, j3, j4, j5, j6⟩ := ty_e_to hK N ok hb h1 h2 I.sd I.v hR x1 (Or.inl ⟨c, rfl⟩)
      obtain ⟨u1, u2⟩ := y1 c
      obtain ⟨v1, v2⟩ := z3.g1 _ u1
      exact ⟨v1, (k_rle.trans hK (by rw [j4]; exact x2) u2).trans hK v2⟩
    · obtain ⟨j1, j2, j3, j4, j5, j6⟩ := ty_e_to hK N ok hb h1 h2 I.sd I.v hR x1 (Or.inr ⟨c, rfl⟩)
      obtain ⟨u1, u2⟩ := y2 c
      obtain ⟨v1, v2⟩ := z3.g1 _ u1
      exact ⟨v1, (k_rle.trans hK (by rw [j4]; exact x2) u2).trans hK v2⟩
  · have hin := k_cov_in N hb h1 h2 hk hc
    have := (B.cb k hk).mp hin.2.2
    exact z4 hw k this.1 this.2 hc
end ZTC3
