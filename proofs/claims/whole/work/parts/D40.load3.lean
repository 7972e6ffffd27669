/-! ===== load ===== -/
/-- what a load leaves -/
def l_R (pp : Nat) (ps : Nat) (q : Nat) (qs : Nat) (n : Nat) (C : QS) (D : QS) (r : Int32 × QS) (r' : Int32 × QS) : Prop := (r.1 = r'.1) ∧ (r.2.2.1 0 12 = r'.2.2.1 102 12) ∧ (r.2.2.1 2 1 = 0) ∧ (r'.2.2.1 102 7 = 0) ∧ (h_cln r.2) ∧ (ty_cln r.2) ∧ (∀ o j, l_C ps o j = false → ¬ (o = 0 ∧ j = 11) → r.2.2.1 o j = C.2.1 o j ∧ r.2.2.2.1 o j = C.2.2.1 o j) ∧ (∀ o j, l_D qs o j = false → ¬ (o = 102 ∧ j = 2) → r'.2.2.1 o j = D.2.1 o j ∧ r'.2.2.2.1 o j = D.2.2.1 o j) ∧ ((r.1 ≠ 0 ∧ z_rx C r.2 ∧ z_rx D r'.2 ∧ r.2.2.1 0 11 = C.2.1 0 11 ∧ r'.2.2.1 102 2 = D.2.1 102 2) ∨ (r.1 = 0 ∧ (r.2.1 = C.1 ∧ ∀ o j, z_ex o j = false → ¬ (o = 0 ∧ (j = 9 ∨ j = 10)) → r.2.2.2.2 o j = C.2.2.2 o j) ∧ (r.2.2.2.2 0 9 = ps ∧ r.2.2.2.2 0 10 = pp) ∧ (r'.2.1 = D.1 ∧ ∀ o j, z_ex o j = false → ¬ (o = 102 ∧ (j = 0 ∨ j = 1)) → r'.2.2.2.2 o j = D.2.2.2 o j) ∧ (r'.2.2.2.2 102 0 = qs ∧ r'.2.2.2.2 102 1 = q) ∧ r.2.2.1 0 11 = 1 ∧ r'.2.2.1 102 2 = 1 ∧ ∃ g K M P m Cx Dx, z_G n g ∧ k_K g K ∧ k_KD g K ∧ s_N ps qs n g K M P m Cx Dx ∧ (∀ b, b < M.bc → t_B ps qs K M P Cx Dx b) ∧ (∀ o j, o ≠ 0 → ¬ (o = 2 ∧ j = 1) → r.2.2.1 o j = Cx.2.1 o j) ∧ ∀ o j, o ≠ 102 → r'.2.2.1 o j = Dx.2.1 o j))
theorem l_R.cd {pp : Nat} {ps : Nat} {q : Nat} {qs : Nat} {n : Nat} {C : QS} {D : QS} {r : Int32 × QS} {r' : Int32 × QS} (I : l_R pp ps q qs n C D r r') : r.1 = r'.1 := I.1
theorem l_R.pl {pp : Nat} {ps : Nat} {q : Nat} {qs : Nat} {n : Nat} {C : QS} {D : QS} {r : Int32 × QS} {r' : Int32 × QS} (I : l_R pp ps q qs n C D r r') : r.2.2.1 0 12 = r'.2.2.1 102 12 := I.2.1
theorem l_R.uC {pp : Nat} {ps : Nat} {q : Nat} {qs : Nat} {n : Nat} {C : QS} {D : QS} {r : Int32 × QS} {r' : Int32 × QS} (I : l_R pp ps q qs n C D r r') : r.2.2.1 2 1 = 0 := I.2.2.1
theorem l_R.uD {pp : Nat} {ps : Nat} {q : Nat} {qs : Nat} {n : Nat} {C : QS} {D : QS} {r : Int32 × QS} {r' : Int32 × QS} (I : l_R pp ps q qs n C D r r') : r'.2.2.1 102 7 = 0 := I.2.2.2.1
theorem l_R.hc {pp : Nat} {ps : Nat} {q : Nat} {qs : Nat} {n : Nat} {C : QS} {D : QS} {r : Int32 × QS} {r' : Int32 × QS} (I : l_R pp ps q qs n C D r r') : h_cln r.2 := I.2.2.2.2.1
theorem l_R.tc {pp : Nat} {ps : Nat} {q : Nat} {qs : Nat} {n : Nat} {C : QS} {D : QS} {r : Int32 × QS} {r' : Int32 × QS} (I : l_R pp ps q qs n C D r r') : ty_cln r.2 := I.2.2.2.2.2.1
theorem l_R.fC {pp : Nat} {ps : Nat} {q : Nat} {qs : Nat} {n : Nat} {C : QS} {D : QS} {r : Int32 × QS} {r' : Int32 × QS} (I : l_R pp ps q qs n C D r r') : ∀ o j, l_C ps o j = false → ¬ (o = 0 ∧ j = 11) → r.2.2.1 o j = C.2.1 o j ∧ r.2.2.2.1 o j = C.2.2.1 o j := I.2.2.2.2.2.2.1
theorem l_R.fD {pp : Nat} {ps : Nat} {q : Nat} {qs : Nat} {n : Nat} {C : QS} {D : QS} {r : Int32 × QS} {r' : Int32 × QS} (I : l_R pp ps q qs n C D r r') : ∀ o j, l_D qs o j = false → ¬ (o = 102 ∧ j = 2) → r'.2.2.1 o j = D.2.1 o j ∧ r'.2.2.2.1 o j = D.2.2.1 o j := I.2.2.2.2.2.2.2.1
theorem l_R.rs {pp : Nat} {ps : Nat} {q : Nat} {qs : Nat} {n : Nat} {C : QS} {D : QS} {r : Int32 × QS} {r' : Int32 × QS} (I : l_R pp ps q qs n C D r r') : (r.1 ≠ 0 ∧ z_rx C r.2 ∧ z_rx D r'.2 ∧ r.2.2.1 0 11 = C.2.1 0 11 ∧ r'.2.2.1 102 2 = D.2.1 102 2) ∨ (r.1 = 0 ∧ (r.2.1 = C.1 ∧ ∀ o j, z_ex o j = false → ¬ (o = 0 ∧ (j = 9 ∨ j = 10)) → r.2.2.2.2 o j = C.2.2.2 o j) ∧ (r.2.2.2.2 0 9 = ps ∧ r.2.2.2.2 0 10 = pp) ∧ (r'.2.1 = D.1 ∧ ∀ o j, z_ex o j = false → ¬ (o = 102 ∧ (j = 0 ∨ j = 1)) → r'.2.2.2.2 o j = D.2.2.2 o j) ∧ (r'.2.2.2.2 102 0 = qs ∧ r'.2.2.2.2 102 1 = q) ∧ r.2.2.1 0 11 = 1 ∧ r'.2.2.1 102 2 = 1 ∧ ∃ g K M P m Cx Dx, z_G n g ∧ k_K g K ∧ k_KD g K ∧ s_N ps qs n g K M P m Cx Dx ∧ (∀ b, b < M.bc → t_B ps qs K M P Cx Dx b) ∧ (∀ o j, o ≠ 0 → ¬ (o = 2 ∧ j = 1) → r.2.2.1 o j = Cx.2.1 o j) ∧ ∀ o j, o ≠ 102 → r'.2.2.1 o j = Dx.2.1 o j) := I.2.2.2.2.2.2.2.2
section ZLD
variable {C D Cx Dx : QS} {n pp ps q qs : Nat} {B : Nat → Int32}
theorem z_refFail {k : Int32} (h : fX12_fault D qs = some (k, Dx)) (hk : ¬ k ≤ 0) : fX12_load D q qs = some (k, q_sI Dx 102 7 0) := by
  simp only [fX12_load, h, Option.bind_some, if_neg hk]
theorem l_R.fail {k : Int32} {f : Nat} (hp : z_pp ps) (hq : z_qq qs) (hk : ¬ k = 0) (e1 : Cx.2.1 0 12 = nI f) (e2 : Dx.2.1 102 12 = nI f) (fC : l_fC ps C Cx) (fD : l_fD qs D Dx) (rC : z_rx C Cx) (rD : z_rx D Dx) (h1 : h_cln Cx) (h2 : ty_cln Cx) : l_R pp ps q qs n C D (k, q_sI Cx 2 1 0) (k, q_sI Dx 102 7 0) := by
  have gC : l_fC ps C (q_sI Cx 2 1 0) := fC.trans (l_fC.sI rfl)
  have gD : l_fD qs D (q_sI Dx 102 7 0) := fD.trans (l_fD.sI rfl)
  have cl := l_cln (C := Cx) (C' := q_sI Cx 2 1 0) (fun y j a b => by rw [q_sI_I, if_neg (by omega)]) h1 h2
  refine ⟨rfl, ?_, ?_, ?_, cl.1, cl.2, fun o j a _ => gC o j a, fun o j a _ => gD o j a, Or.inl ⟨hk, rC.trans (z_rx.sI _ _ _ _), rD.trans (z_rx.sI _ _ _ _), (gC _ _ ?_).1, (gD _ _ ?_).1⟩⟩
  · show (q_sI Cx 2 1 0).2.1 0 12 = (q_sI Dx 102 7 0).2.1 102 12
    rw [q_sI_I, if_neg (by omega), q_sI_I, if_neg (by omega), e1, e2]
  · show (q_sI Cx 2 1 0).2.1 2 1 = 0
    rw [q_sI_I, if_pos ⟨rfl, rfl⟩]
  · show (q_sI Dx 102 7 0).2.1 102 7 = 0
    rw [q_sI_I, if_pos ⟨rfl, rfl⟩]
  · rcases hp with rfl | rfl <;> rfl
  · rcases hq with rfl | rfl <;> rfl
theorem z_load (hp : z_pp ps) (hq : z_qq qs) (tx : z_tx C D n B) (ok : q_okO C pp ps = true) (h1 : h_cln C) (h2 : ty_cln C) : ∃ r r', fX10_load C pp ps = some r ∧ fX12_load D q qs = some r' ∧ l_R pp ps q qs n C D r r' := by
  have hn := tx.2.2.1
  obtain ⟨r1, d1, a1, a2, a3, a4, T, a5⟩ := z_cut tx
  obtain ⟨l1, x1⟩ := l_split (ps := ps) a1
  obtain ⟨l2, x2⟩ := l_cut (qs := qs) a2
  have fw1 := fwX8_split a1
  obtain ⟨rb, C1⟩ := r1
  obtain ⟨db, D1⟩ := d1
  have a3 : rb = db := a3
  subst a3
  have hT := a5.2.2.1
  have far1 : ∀ y j, 77 ≤ y → y ≤ 88 → C1.2.1 y j = C.2.1 y j := fun y j a b => (fw1.1 y j (by simp [q_W, wlX8_split, q_hit, q_base]; omega)).1
  obtain ⟨c1, c2⟩ := l_cln (C' := C1) (fun y j a b => far1 y j (by omega) b) h1 h2
  cases hb : rb with
  | false =>
    -- not cut
    subst hb
    have e5 : C1.2.1 2 5 = nI T := a5.1
    have e6 : D1.2.1 102 10 = nI T := a5.2.1
    let C2 : QS := q_sI C1 0 12 (nI T)
    let D2 : QS := q_sI D1 102 12 (nI T)
    have v1 : C2.2.1 0 12 = nI T := by show (q_sI C1 0 12 (nI T)).2.1 0 12 = _; rw [q_sI_I, if_pos ⟨rfl, rfl⟩]
    have v2 : D2.2.1 102 12 = nI T := by show (q_sI D1 102 12 (nI T)).2.1 102 12 = _; rw [q_sI_I, if_pos ⟨rfl, rfl⟩]
    have okC2 : q_okO C2 pp ps = true := q_okO_rx (x1.trans (z_rx.sI _ _ _ _)) ok
    obtain ⟨c3, c4⟩ := l_cln (C' := C2) (fun y j a b => by show (q_sI C1 0 12 (nI T)).2.1 y j = _; rw [q_sI_I, if_neg (by omega)]) c1 c2
    refine ⟨_, _, ?_, z_refFail (k := 1) (Dx := D2) ?_ (by decide), l_R.fail (Cx := C2) (f := T) hp hq (by decide) v1 v2 (l1.trans (l_fC.sI rfl)) (l2.trans (l_fD.sI rfl)) (x1.trans (z_rx.sI _ _ _ _)) (x2.trans (z_rx.sI _ _ _ _)) c3 c4⟩
    · have nm : ¬ nI T = -1 := by rw [z_m1N (by omega)]; exact id
      have v1' : (q_sI C1 0 12 (nI T)).2.1 0 12 = nI T := v1
      rw [z_load_eq, a1]
      simp only [Option.bind_some, Bool.false_eq_true, if_false, e5, v1', if_neg nm]
      exact z_ta_f (v := (1, C2)) okC2 v1 (by omega)
    · simp only [fX12_fault, a2, Option.bind_some, Bool.false_eq_true, if_false, e6, D2]
  | true =>
    subst hb
    obtain ⟨a, b, g1, g2, g3⟩ := z_ghost a4 a5
    let g : ZT := (T, B, a, b)
    have hG : z_G n g := g3
    have hg2 : g.1 ≤ n := hT
    let C2 : QS := q_sI C1 0 12 (-1)
    have v1 : C2.2.1 0 12 = -1 := by show (q_sI C1 0 12 (-1)).2.1 0 12 = _; rw [q_sI_I, if_pos ⟨rfl, rfl⟩]
    have hC2 : z_C C2 n g := (show z_C C1 n g from g1).sI (by decide)
    have hD1 : z_D D1 n g := g2
    obtain ⟨c3, c4⟩ := l_cln (C' := C2) (fun y j a b => by show (q_sI C1 0 12 (-1)).2.1 y j = _; rw [q_sI_I, if_neg (by omega)]) c1 c2
    obtain ⟨r3, y1, y2, y3⟩ := z_syntax hC2 hG
    obtain ⟨l3, x3⟩ := l_syn (ps := ps) y1
    have fw3 := fwX7_firstFault y1
    obtain ⟨r30, C3⟩ := r3
    have far3 : ∀ y j, 78 ≤ y ∨ y = 0 → C3.2.1 y j = C2.2.1 y j := fun y j a => (fw3.1 y j (by simp [q_W, wlX7_firstFault, q_hit, q_base]; omega)).1
    obtain ⟨c5, c6⟩ := l_cln (C' := C3) (fun y j a b => far3 y j (by omega)) c3 c4
    obtain ⟨sb, t', w1, w2, w3⟩ := z_dSyntax hD1 hG
    have lC3 : l_fC ps C C3 := (l1.trans (l_fC.sI rfl)).trans l3
    have xC3 : z_rx C C3 := (x1.trans (z_rx.sI _ _ _ _)).trans x3
    have lD2 : l_fD qs D (z_A D1 t') := l2.trans (l_fD.sI rfl)
    have xD2 : z_rx D (z_A D1 t') := x2.trans (z_rx.sI _ _ _ _)
    have st : fX10_load C pp ps = z_ta pp ps (2, q_sI C3 0 12 r30) := by
      have v1' : (q_sI C1 0 12 (-1)).2.1 0 12 = -1 := v1
      rw [z_load_eq, a1]
      simp only [Option.bind_some, if_true, v1']
      show Option.bind (Option.bind (fX7_firstFault C2) _) _ = _
      rw [y1]
      rfl
    rcases y3 with ⟨f, f1, f2, f3⟩ | ⟨f2, f3, f4, f5⟩
    · -- no program
      have f2 : r30 = nI f := f2
      subst f2
      obtain ⟨rfl, rfl⟩ : sb = false ∧ t' = f := by
        rcases w3 with ⟨_, q1⟩ | ⟨q0, q1⟩
        · rw [f3] at q1; cases q1
        · rw [f3] at q1; exact ⟨q0, (Option.some.inj q1).symm⟩
      let C4 : QS := q_sI C3 0 12 (nI t')
      let D4 : QS := q_sI (z_A D1 t') 102 12 (nI t')
      have v3 : C4.2.1 0 12 = nI t' := by show (q_sI C3 0 12 (nI t')).2.1 0 12 = _; rw [q_sI_I, if_pos ⟨rfl, rfl⟩]
      have v4 : D4.2.1 102 12 = nI t' := by show (q_sI (z_A D1 t') 102 12 (nI t')).2.1 102 12 = _; rw [q_sI_I, if_pos ⟨rfl, rfl⟩]
      obtain ⟨c7, c8⟩ := l_cln (C' := C4) (fun y j a b => by show (q_sI C3 0 12 (nI t')).2.1 y j = _; rw [q_sI_I, if_neg (by omega)]) c5 c6
      refine ⟨_, _, ?_, z_refFail (k := 2) (Dx := D4) ?_ (by decide), l_R.fail (Cx := C4) (f := t') hp hq (by decide) v3 v4 (lC3.trans (l_fC.sI rfl)) (lD2.trans (l_fD.sI rfl)) (xC3.trans (z_rx.sI _ _ _ _)) (xD2.trans (z_rx.sI _ _ _ _)) c7 c8⟩
      · rw [st]
        exact z_ta_f (v := (2, C4)) (q_okO_rx (xC3.trans (z_rx.sI _ _ _ _)) ok) v3 (by omega)
      · have v5 : (z_A D1 t').2.1 102 11 = nI t' := by rw [z_A, q_sI_I, if_pos ⟨rfl, rfl⟩]
        simp only [fX12_fault, a2, Option.bind_some, if_true, w1, Bool.false_eq_true, if_false, v5, D4]
    · -- a program: its names
      have f2 : r30 = -1 := f2
      subst f2
      obtain rfl : sb = true := by
        rcases w3 with ⟨q0, _⟩ | ⟨_, q1⟩
        · exact q0
        · rw [f3] at q1; cases q1
      have v3 : C3.2.1 0 12 = -1 := (far3 0 12 (by omega)).trans v1
      rw [z_sI_same _ v3] at st
      have okC3 := q_okO_rx xC3 ok
      obtain ⟨r5, D5, u1, u2, u3, u4, u5⟩ := z_allNames (pp := pp) hp hq hG (e_ok_of f3 f5) y2 (z_A_D hD1 t') f4 okC3
      obtain ⟨r50, C5⟩ := r5
      have lC5 := lC3.trans (l_fC.off u2)
      have xC5 := xC3.trans u3
      have lD5 := lD2.trans (l_fD.off u4)
      have xD5 : z_rx D D5 := xD2.trans ⟨u4.2.1, fun o j _ => by rw [u4.2.2]⟩
      have okC5 := q_okO_rx xC5 ok
      have v5 : C5.2.1 0 12 = -1 := (u2.1 0 12 (by rcases hp with rfl | rfl <;> omega) (by omega)).trans v3
      obtain ⟨c7, c8⟩ := l_cln (C' := C5) (fun y j a b => u2.1 y j (by rcases hp with rfl | rfl <;> omega) (by omega)) c5 c6
      have st5 : fX10_load C pp ps = z_tb2 pp ps (3, q_sI C5 0 12 r50) := by
        rw [st]
        simp only [z_ta, okC3, if_true, v3, u1, Option.bind_some, okC5]
      have rf : fX12_fault D qs = z_nmD (z_A D1 t') qs := by
        simp only [fX12_fault, a2, Option.bind_some, if_true, w1]
        rfl
      rcases u5 with ⟨f, f1, f2, f3, f4⟩ | ⟨f2, f3, K, M, P, m, k1, k2, N⟩
      · have f2 : r50 = nI f := f2
        subst f2
        let C6 : QS := q_sI C5 0 12 (nI f)
        have v6 : C6.2.1 0 12 = nI f := by show (q_sI C5 0 12 (nI f)).2.1 0 12 = _; rw [q_sI_I, if_pos ⟨rfl, rfl⟩]
        obtain ⟨c9, c10⟩ := l_cln (C' := C6) (fun y j a b => by show (q_sI C5 0 12 (nI f)).2.1 y j = _; rw [q_sI_I, if_neg (by omega)]) c7 c8
        refine ⟨_, _, ?_, z_refFail (k := 3) (Dx := D5) (rf.trans f3) (by decide), l_R.fail (Cx := C6) (f := f) hp hq (by decide) v6 f4 (lC5.trans (l_fC.sI rfl)) lD5 (xC5.trans (z_rx.sI _ _ _ _)) xD5 c9 c10⟩
        rw [st5]
        exact z_tb_f (v := (3, C6)) (q_okO_rx (z_rx.sI _ _ _ _) okC5) v6 (by omega)
      · have f2 : r50 = -1 := f2
        subst f2
        rw [z_sI_same _ v5] at st5
        obtain ⟨r7, d7, s1, s2, s3, s4, s5, s6, s7, s8, s9⟩ := z_typeFault (pp := pp) hp hq hG k1 N c7 c8 okC5
        obtain ⟨r70, C7⟩ := r7
        obtain ⟨d70, D7⟩ := d7
        have okC7 := q_okO_rx s6 okC5
        have lC7 := lC5.trans s5
        have xC7 := xC5.trans s6
        have lD7 := lD5.trans (l_fD.tf hq s7)
        have xD7 : z_rx D D7 := xD5.trans ⟨s7.2.1, fun o j _ => by rw [s7.2.2]⟩
        have st7 : fX10_load C pp ps = z_tc pp ps (4, q_sI C7 0 12 r70) := by
          rw [st5]
          simp only [z_tb2, okC5, if_true, v5, s1, Option.bind_some, okC7]
        rcases s9 with ⟨i, i1, i2, i3, i4⟩ | ⟨i2, i3, i4, i5⟩
        · have i2 : r70 = nI (P.tk i) := i2
          have i3 : d70 = 4 := i3
          subst i2; subst i3
          have htk := N.S.tk i i1
          let C8 : QS := q_sI C7 0 12 (nI (P.tk i))
          have v8 : C8.2.1 0 12 = nI (P.tk i) := by show (q_sI C7 0 12 (nI (P.tk i))).2.1 0 12 = _; rw [q_sI_I, if_pos ⟨rfl, rfl⟩]
          obtain ⟨c9, c10⟩ := l_cln (C' := C8) (fun y j a b => by show (q_sI C7 0 12 (nI (P.tk i))).2.1 y j = _; rw [q_sI_I, if_neg (by omega)]) s3 s4
          refine ⟨_, _, ?_, z_refFail (k := 4) (Dx := D7) (rf.trans (f3.trans s2)) (by decide), l_R.fail (Cx := C8) (f := P.tk i) hp hq (by decide) v8 i4 (lC7.trans (l_fC.sI rfl)) lD7 (xC7.trans (z_rx.sI _ _ _ _)) xD7 c9 c10⟩
          rw [st7]
          exact z_tc_f (v := (4, C8)) (q_okO_rx (z_rx.sI _ _ _ _) okC7) v8 (by omega)
        · have i2 : r70 = -1 := i2
          have i3 : d70 = 0 := i3
          subst i2; subst i3
          let C8 : QS := q_sI C7 0 12 (-1)
          have v8 : C8.2.1 0 12 = -1 := by show (q_sI C7 0 12 (-1)).2.1 0 12 = _; rw [q_sI_I, if_pos ⟨rfl, rfl⟩]
          obtain ⟨c9, c10⟩ := l_cln (C' := C8) (fun y j a b => by show (q_sI C7 0 12 (-1)).2.1 y j = _; rw [q_sI_I, if_neg (by omega)]) s3 s4
          have okC8 : q_okO C8 pp ps = true := q_okO_rx (z_rx.sI _ _ _ _) okC7
          let C9 : QS := q_sI (q_sR (q_sR (q_sI C8 2 1 0) 0 9 ps) 0 10 pp) 0 11 1
          let D9 : QS := q_sI (q_sR (q_sR (q_sI D7 102 7 0) 102 0 qs) 102 1 q) 102 2 1
          have gC : ∀ y j, C9.2.1 y j = if y = 0 ∧ j = 11 then 1 else if y = 2 ∧ j = 1 then 0 else if y = 0 ∧ j = 12 then -1 else C7.2.1 y j := by
            intro y j
            show (q_sI (q_sR (q_sR (q_sI C8 2 1 0) 0 9 ps) 0 10 pp) 0 11 1).2.1 y j = _
            rw [q_sI_I]
            show (if y = 0 ∧ j = 11 then 1 else (q_sI (q_sI C7 0 12 (-1)) 2 1 0).2.1 y j) = _
            rw [q_sI_I, q_sI_I]
          have gD : ∀ y j, D9.2.1 y j = if y = 102 ∧ j = 2 then 1 else if y = 102 ∧ j = 7 then 0 else D7.2.1 y j := by
            intro y j
            show (q_sI (q_sR (q_sR (q_sI D7 102 7 0) 102 0 qs) 102 1 q) 102 2 1).2.1 y j = _
            rw [q_sI_I]
            show (if y = 102 ∧ j = 2 then 1 else (q_sI D7 102 7 0).2.1 y j) = _
            rw [q_sI_I]
          have rC : ∀ o j, C9.2.2.2 o j = if o = 0 ∧ j = 10 then pp else if o = 0 ∧ j = 9 then ps else C7.2.2.2 o j := by
            intro o j
            show (q_sR (q_sR (q_sI C8 2 1 0) 0 9 ps) 0 10 pp).2.2.2 o j = _
            rw [z_sR_R, z_sR_R]
            rfl
          have rD : ∀ o j, D9.2.2.2 o j = if o = 102 ∧ j = 1 then q else if o = 102 ∧ j = 0 then qs else D7.2.2.2 o j := by
            intro o j
            show (q_sR (q_sR (q_sI D7 102 7 0) 102 0 qs) 102 1 q).2.2.2 o j = _
            rw [z_sR_R, z_sR_R]
            rfl
          refine ⟨(0, C9), (0, D9), ?_, ?_, rfl, ?_, ?_, ?_, (l_cln (C' := C9) (fun y j a b => ?_) s3 s4).1, (l_cln (C' := C9) (fun y j a b => ?_) s3 s4).2, fun o j a b => ⟨?_, (lC7 o j a).2⟩, fun o j a b => ⟨?_, (lD7 o j a).2⟩, Or.inr ⟨rfl, ⟨xC7.1, fun o j a b => ?_⟩, ⟨?_, ?_⟩, ⟨xD7.1, fun o j a b => ?_⟩, ⟨?_, ?_⟩, ?_, ?_, g, K, M, P, m, C7, D7, hG, k1, k2, s8, i5, fun o j a b => ?_, fun o j a => ?_⟩⟩
          · rw [st7]
            have e : (q_sI C8 2 1 0).2.1 0 12 = -1 := by rw [q_sI_I, if_neg (by omega)]; exact v8
            have okC8' : q_okO (q_sI C7 0 12 (-1)) pp ps = true := okC8
            have e' : (q_sI (q_sI C7 0 12 (-1)) 2 1 0).2.1 0 12 = -1 := e
            simp only [z_tc, okC8', if_true, fX8_useUp, Option.bind_some, e', fX10_takeSpare]
            rfl
          · have le : (0 : Int32) ≤ 0 := by decide
            simp only [fX12_load, rf.trans (f3.trans s2), Option.bind_some, if_pos le]
            rfl
          · show C9.2.1 0 12 = D9.2.1 102 12
            rw [gC, if_neg (by omega), if_neg (by omega), if_pos ⟨rfl, rfl⟩, gD, if_neg (by omega), if_neg (by omega)]; exact i4.symm
          · show C9.2.1 2 1 = 0
            rw [gC, if_neg (by omega), if_pos ⟨rfl, rfl⟩]
          · show D9.2.1 102 7 = 0
            rw [gD, if_neg (by omega), if_pos ⟨rfl, rfl⟩]
          · rw [gC, if_neg (by omega), if_neg (by omega), if_neg (by omega)]
          · rw [gC, if_neg (by omega), if_neg (by omega), if_neg (by omega)]
          · show C9.2.1 o j = _
            rw [gC, if_neg b]
            have := (lC7 o j a).1
            simp only [l_C, Bool.or_eq_false_iff, Bool.and_eq_false_iff, beq_eq_false_iff_ne, decide_eq_false_iff_not] at a
            rw [if_neg (by omega), if_neg (by omega)]; exact this
          · show D9.2.1 o j = _
            rw [gD, if_neg b]
            have := (lD7 o j a).1
            simp only [l_D, Bool.or_eq_false_iff, Bool.and_eq_false_iff, beq_eq_false_iff_ne, decide_eq_false_iff_not] at a
            rw [if_neg (by omega)]; exact this
          · show C9.2.2.2 o j = _
            rw [rC, if_neg (by omega), if_neg (by omega)]; exact xC7.2 o j a
          · show C9.2.2.2 0 9 = ps
            rw [rC, if_neg (by omega), if_pos ⟨rfl, rfl⟩]
          · show C9.2.2.2 0 10 = pp
            rw [rC, if_pos ⟨rfl, rfl⟩]
          · show D9.2.2.2 o j = _
            rw [rD, if_neg (by omega), if_neg (by omega)]; exact xD7.2 o j a
          · show D9.2.2.2 102 0 = qs
            rw [rD, if_neg (by omega), if_pos ⟨rfl, rfl⟩]
          · show D9.2.2.2 102 1 = q
            rw [rD, if_pos ⟨rfl, rfl⟩]
          · show C9.2.1 0 11 = 1
            rw [gC, if_pos ⟨rfl, rfl⟩]
          · show D9.2.1 102 2 = 1
            rw [gD, if_pos ⟨rfl, rfl⟩]
          · show C9.2.1 o j = _
            rw [gC, if_neg (by omega), if_neg b, if_neg (by omega)]
          · show D9.2.1 o j = _
            rw [gD, if_neg (by omega), if_neg (by omega)]
end ZLD
