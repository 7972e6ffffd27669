/-! ===== a head is read alike by both ===== -/
section ZHEAD2
variable {C D : QS} {n p q : Nat} {g : ZT} {K : ZK} {M : ZM}
/-- from the body's adding on -/
theorem z_head57 {t e o : Nat} {m : Bool} {rep : Option Nat} {rr : Nat} (hp : z_pp p) (hq : z_qq q) (hG : z_G n g) (hK : k_K g K) (hd : e_hd g t e) (I : m_I p q n g K M o C D) (h8 : 8 ≤ o) (hbc : M.bc < 48) (hm : m = !e_word g t w_static) (hrep : k_bod g K M o (g.2.2.1 (t + 1)) (g.2.2.2 (t + 1)) = rep) (hr : (rep = none ∧ rr = M.bc) ∨ ∃ r, rep = some r ∧ rr = M.bt r ∧ m = true ∧ M.bm r = true ∧ M.bo r ≠ o ∧ k_hd g (t + 1) (M.bw r) e (t + 2) (e - (t + 1)) = true) : ∃ r r', fX4_headFault_57 C p (nI t) (nI o) (k_oI rep) = some r ∧ fX12_body_100 D q (nI o) (nI t) (q_b m) = some r' ∧ z_offC p C r.2 ∧ z_offD q D r'.2 ∧ (z_flt g r r' ∨ (r.1 = -1 ∧ r'.1 = true ∧ ∃ M', m_I p q n g K M' o r.2 r'.2 ∧ M'.bc = M.bc + 1 ∧ M'.bw M.bc = t + 1 ∧ ∀ b, b < M.bc → M'.bw b = M.bw b)) := by
  have b1 := hG.1
  have b2 := hG.2.1
  have h32 := hK.2.1
  have hoc := I.oc
  obtain ⟨d1, d2, d3, d4, d5, d6, d7, d8, d9, d10, d11, d12, d13, d14⟩ := id hd
  have hrl : ∀ r, rep = some r → r < M.bc := fun r e => (k_lst_some _ (hrep.trans e)).1
  have hrr : rr < 48 := by
    rcases hr with ⟨-, h⟩ | ⟨r, h1, h2, -⟩
    · omega
    · have := hrl r h1
      have := I.bt r this
      omega
  obtain ⟨C1, a0, a1, a2, a3, a4, a5, a6, a7, a8, a9⟩ := z_addBody (C := C) (p := p) (o := o) (w := t + 1) (b := M.bc) (rr := rr) (m := m) (rep := rep) I.kC h32 hoc hbc I.cB.1 (by
    rcases hr with h | ⟨r, h1, h2, -⟩
    · exact Or.inl h
    · exact Or.inr ⟨r, h1, hrl r h1, by rw [h2]; exact (I.cB.2 r (hrl r h1)).2.2.2.2.2.2.1⟩) hrr
  have hn0 : (if m = true then 1 else 0 : Nat) ≤ 1 := by split <;> omega
  generalize hn : (if m = true then 1 else 0 : Nat) = n0 at hn0 a5
  have ek : (if (C.2.1 6 t) = (51 : Int32) then some true else some false : Option Bool) = some m := by
    rw [I.kd t (by omega), d11, hm]
    cases e_word g t w_static <;> rfl
  have hCl : fX4_headFault_57 C p (nI t) (nI o) (k_oI rep) = q_run (tX4_headFault_102 p (nI M.bc)) (nI (t + 3), C1) := by
    simp only [fX4_headFault_57, z_inbN (show t < 16000 by omega) (by decide), if_true, z_cl (show t < 2147483648 by omega)]
    rw [ek, Option.bind_some, nI_1, a0, Option.bind_some, I.cB.1, show (nI t + 3 : Int32) = nI (t + 3) by rw [show (3 : Int32) = nI 3 from rfl, nI_add]]
    rfl
  let D1 : QS := if m = true then q_sI D (q + 9) (M.bc * 12) (k_y o) else D
  have hD1 : ∀ y j, ¬ (y = q + 9 ∧ j = M.bc * 12) → D1.2.1 y j = D.2.1 y j := by
    intro y j h
    show (if m = true then _ else _ : QS).2.1 y j = _
    split
    · rw [q_sI_I, if_neg h]
    · rfl
  have oD1 : z_offD q D D1 := by
    show z_offD q D (if m = true then _ else _)
    split
    · exact (z_offD.refl q D).sI (by omega)
    · exact z_offD.refl q D
  have hDl : fX12_body_100 D q (nI o) (nI t) (q_b m) = q_run (tX12_body_159 q (nI o) (nI t) (q_b m) (nI M.bc)) (nI n0, nI (t + 3), D1) := by
    simp only [fX12_body_100, I.dB.1, if_neg (z_ne48 hbc)]
    have e3 : (nI t + 3 : Int32) = nI (t + 3) := by rw [show (3 : Int32) = nI 3 from rfl, nI_add]
    cases m with
    | false =>
      have : n0 = 0 := by rw [← hn]; rfl
      subst this
      rw [e3]
      rfl
    | true =>
      have : n0 = 1 := by rw [← hn]; rfl
      subst this
      rw [if_neg (by decide), Option.bind_some, if_neg (by decide), show (12 : Int32) = nI 12 from rfl, nI_mulN, if_pos (z_inbN (by omega) (by decide)), z_cl (by omega), show (8 : Int32) = nI 8 from rfl, nI_add, e3, show nI (8 + o) = k_y o by rw [k_y_c (by omega), Nat.add_comm]]
      rfl
  have I0 : ZPI p q n g K o n0 (t + 3) M.bc C1 D1 (t + 3) C1 D1 := by
    refine ⟨I.hC.fr (fun y j h => ?_), I.hD.fr (fun y j h => ?_), I.kC.fr (fun y j h => ?_), I.kD.fr (fun y j h => ?_), ?_, fun i h1 h2 => ?_, fun y j _ _ => rfl, fun y j _ => rfl, z_offC.refl p C1, z_offD.refl q D1⟩
    · exact a8 y j (by rcases hp with rfl | rfl <;> omega) (by rcases hp with rfl | rfl <;> omega) (by rcases hp with rfl | rfl <;> omega) (by rcases hp with rfl | rfl <;> omega)
    · exact hD1 y j (by rcases hq with rfl | rfl <;> omega)
    · exact a8 y j (by omega) (by omega) (by omega) (by omega)
    · exact hD1 y j (by rcases hq with rfl | rfl <;> omega)
    · rw [a5]; congr 1; omega
    · have e0 : i = 0 := by omega
      subst e0
      have mt : m = true := by
        cases m with
        | true => rfl
        | false => simp at hn; omega
      subst mt
      have pi0 : k_pi g K o n0 (t + 3) 0 = o := by rw [k_pi, if_pos (by omega)]
      rw [pi0, Nat.add_zero]
      refine ⟨(a7 rfl).1, ?_⟩
      show (q_sI D (q + 9) (M.bc * 12) (k_y o)).2.1 (q + 9) (M.bc * 12) = k_y o
      rw [q_sI_I, if_pos ⟨rfl, rfl⟩]
  have hty : ∀ k, t + 3 ≤ k → k < e → e_typ g k = true ∧ e_mark g k 41 = false := d5
  rcases z_params (y2 := nI o) (y3 := nI t) (y4 := q_b m) hp hq hG hK hn0 hbc (show e < g.1 by omega) hty (e - (t + 3)) (t + 3) C1 D1 (by omega) (by omega) I0 with ⟨f, C', D', f1, f2, f3, f4, f5, f6⟩ | ⟨C', D', f1, f2, f3, f4⟩
  · rw [show n0 + (t + 3 - (t + 3)) = n0 by omega] at f3
    exact ⟨_, _, hCl.trans f2, hDl.trans f3, a9.trans f5, oD1.trans f6, Or.inl ⟨f, f1, rfl, rfl, f4⟩⟩
  · rw [show n0 + (t + 3 - (t + 3)) = n0 by omega] at f2
    have q2 : D'.2.1 q 2 = nI M.bc := by
      rw [f3.fD q 2 (by omega), hD1 q 2 (by omega)]
      exact I.dB.1
    have tc := z_tail_c f3.hC hG hK f3.kC hd hbc f3.ar
    have td := z_tail_d (a := n0 + (e - (t + 3))) (o := o) (m := m) f3.hD hG hq hK f3.kD hd hbc q2
    rw [hCl, f1, tc, hDl, f2, td]
    have oC := a9.trans f3.oC
    have oD := oD1.trans f3.oD
    cases hrs : k_rs g K (e + 1) with
    | none =>
      refine ⟨_, _, rfl, rfl, oC, (oD.sI (by omega)).sI (by omega), Or.inl ⟨e + 1, by omega, rfl, rfl, ?_⟩⟩
      rw [q_sI_I, if_pos ⟨rfl, rfl⟩]
    | some res =>
      simp only
      by_cases x1 : e_val g (e + 2) < nI (n0 + (e - (t + 3)))
      · rw [if_pos x1, if_pos x1]
        refine ⟨_, _, rfl, rfl, oC, ((oD.sI (by omega)).sI (by omega)).sI (by omega), Or.inl ⟨e + 2, by omega, rfl, rfl, ?_⟩⟩
        rw [q_sI_I, if_pos ⟨rfl, rfl⟩]
      · rw [if_neg x1, if_neg x1]
        by_cases x2 : e_val g (e + 2) ≤ 12
        · rw [if_pos x2, if_pos x2]
          obtain ⟨l, hl, hl1, hl2⟩ : ∃ l, e_val g (e + 2) = nI l ∧ n0 + (e - (t + 3)) ≤ l ∧ l ≤ 12 := by
            rw [Int32.lt_iff_toInt_lt, nI_toInt (by omega)] at x1
            rw [Int32.le_iff_toInt_le, show (12 : Int32).toInt = 12 from rfl] at x2
            refine ⟨(e_val g (e + 2)).toInt.toNat, z_toN (by omega), by omega, by omega⟩
          rw [hl]
          have hres : res < 69 := by
            rcases k_rs_rng hK hrs with h | h
            · omega
            · have := k_tok_lt hK h; omega
          have fC : ∀ y j, ¬ (y = p ∧ j = 2) → ¬ (j = M.bc ∧ (y = p + 22 ∨ y = p + 23 ∨ y = p + 24 ∨ y = p + 25 ∨ y = p + 27 ∨ y = p + 28 ∨ y = p + 33)) → ¬ (y = p + 26 ∧ M.bc * 12 ≤ j) → ¬ (m = true ∧ y = p + 34 ∧ j = o * 48 + rr) → (q_sI (q_sI C' (p + 27) M.bc (nI res)) (p + 28) M.bc (nI l)).2.1 y j = C.2.1 y j := by
            intro y j g1 g2 g3 g4
            rw [q_sI_I, if_neg (by omega), q_sI_I, if_neg (by omega), f3.fC y j (by omega) (by omega)]
            exact a8 y j g1 (by omega) (by omega) g4
          let D2 : QS := q_sI (q_sI (q_sI (q_sI (q_sI (q_sI (q_sI (q_sI D' (q + 10) M.bc (k_y res)) 166 M.bc (nI (e + 1))) 165 M.bc (nI (t + 1))) (q + 6) M.bc (nI o)) (q + 7) M.bc (q_b m)) (q + 8) M.bc (nI (n0 + (e - (t + 3))))) (q + 11) M.bc (nI l)) q 2 (nI (M.bc + 1))
          have gD : ∀ y j, D2.2.1 y j = if y = q ∧ j = 2 then nI (M.bc + 1) else if y = q + 11 ∧ j = M.bc then nI l else if y = q + 8 ∧ j = M.bc then nI (n0 + (e - (t + 3))) else if y = q + 7 ∧ j = M.bc then q_b m else if y = q + 6 ∧ j = M.bc then nI o else if y = 165 ∧ j = M.bc then nI (t + 1) else if y = 166 ∧ j = M.bc then nI (e + 1) else if y = q + 10 ∧ j = M.bc then k_y res else D'.2.1 y j := by
            intro y j
            simp only [D2, q_sI_I]
          have fD : ∀ y j, ¬ (y = q ∧ j = 2) → ¬ (j = M.bc ∧ (y = q + 6 ∨ y = q + 7 ∨ y = q + 8 ∨ y = q + 10 ∨ y = q + 11 ∨ y = 165 ∨ y = 166)) → ¬ (y = q + 9 ∧ M.bc * 12 ≤ j) → D2.2.1 y j = D.2.1 y j := by
            intro y j g1 g2 g3
            rw [gD]
            simp (disch := omega) only [if_neg]
            rw [f3.fD y j (by omega)]
            exact hD1 y j (by omega)
          have oC2 : z_offC p C (q_sI (q_sI C' (p + 27) M.bc (nI res)) (p + 28) M.bc (nI l)) := (oC.sI (by omega)).sI (by omega)
          have oD2 : z_offD q D D2 := (((((((oD.sI (by omega)).sI (by omega)).sI (by omega)).sI (by omega)).sI (by omega)).sI (by omega)).sI (by omega)).sI (by omega)
          have b12 : ∀ b, b < M.bc → M.ba b ≤ 12 := fun b hb => by
            obtain ⟨e', H⟩ := I.hd b hb
            exact Nat.le_trans H.bl H.b12
          refine ⟨_, _, rfl, rfl, oC2, oD2, Or.inr ⟨rfl, rfl, M.addB (t + 1) o m (n0 + (e - (t + 3))) (k_pi g K o n0 (t + 3)) res l rr (e + 1), ⟨?_, ?_, ?_, ?_, ?_, ?_, ?_, ?_, ?_, ?_, ?_, ?_, ?_, ?_, ?_, ?_, ?_, ?_, ?_, ?_, ?_, ?_, ?_, ?_, ?_⟩, rfl, ?_, ?_⟩⟩
          · exact I.hC.fr (fun y j h => fC y j (by rcases hp with rfl | rfl <;> omega) (by rcases hp with rfl | rfl <;> omega) (by rcases hp with rfl | rfl <;> omega) (by rcases hp with rfl | rfl <;> omega))
          · exact I.hD.fr (fun y j h => fD y j (by rcases hq with rfl | rfl <;> omega) (by rcases hq with rfl | rfl <;> omega) (by rcases hq with rfl | rfl <;> omega))
          · exact fun i hi => (fC 6 i (by rcases hp with rfl | rfl <;> omega) (by rcases hp with rfl | rfl <;> omega) (by rcases hp with rfl | rfl <;> omega) (by rcases hp with rfl | rfl <;> omega)).trans (I.kd i hi)
          · exact I.kC.fr (fun y j h => fC y j (by omega) (by omega) (by omega) (by omega))
          · exact I.kD.fr (fun y j h => fD y j (by rcases hq with rfl | rfl <;> omega) (by rcases hq with rfl | rfl <;> omega) (by rcases hq with rfl | rfl <;> omega))
          · refine ⟨(fC _ _ (by omega) (by omega) (by omega) (by omega)).trans I.cF.1, fun f hf => ?_⟩
            obtain ⟨x1, x2, x3, x4⟩ := I.cF.2 f hf
            exact ⟨(fC _ _ (by omega) (by omega) (by omega) (by omega)).trans x1, (fC _ _ (by omega) (by omega) (by omega) (by omega)).trans x2, (fC _ _ (by omega) (by omega) (by omega) (by omega)).trans x3, (fC _ _ (by omega) (by omega) (by omega) (by omega)).trans x4⟩
          · refine ⟨?_, fun b hb => ?_⟩
            · rw [q_sI_I, if_neg (by omega), q_sI_I, if_neg (by omega), f3.fC _ _ (by omega) (by omega)]
              exact a1
            · rw [aB_bc] at hb
              simp only [aB_bw, aB_bo, aB_bm, aB_ba, aB_br, aB_bl, aB_bt, aB_bp]
              by_cases eb : b = M.bc
              · subst eb
                simp only [k_up_eq]
                refine ⟨?_, ?_, ?_, ?_, ?_, ?_, ?_, fun k hk => ?_⟩
                · rw [q_sI_I, if_neg (by omega), q_sI_I, if_neg (by omega), f3.fC _ _ (by omega) (by omega)]; exact a2
                · rw [q_sI_I, if_neg (by omega), q_sI_I, if_neg (by omega), f3.fC _ _ (by omega) (by omega)]; exact a3
                · rw [q_sI_I, if_neg (by omega), q_sI_I, if_neg (by omega), f3.fC _ _ (by omega) (by omega)]; exact a4
                · rw [q_sI_I, if_neg (by omega), q_sI_I, if_neg (by omega)]; exact f3.ar
                · rw [q_sI_I, if_neg (by omega), q_sI_I, if_pos ⟨rfl, rfl⟩]
                · rw [q_sI_I, if_pos ⟨rfl, rfl⟩]
                · rw [q_sI_I, if_neg (by omega), q_sI_I, if_neg (by omega), f3.fC _ _ (by omega) (by omega)]; exact a6
                · rw [q_sI_I, if_neg (by omega), q_sI_I, if_neg (by omega)]; exact (f3.ps k hk (by omega)).1
              · simp only [k_up_ne eb]
                obtain ⟨x1, x2, x3, x4, x5, x6, x7, x8⟩ := I.cB.2 b (by omega)
                have := b12 b (by omega)
                exact ⟨(fC _ _ (by omega) (by omega) (by omega) (by omega)).trans x1, (fC _ _ (by omega) (by omega) (by omega) (by omega)).trans x2, (fC _ _ (by omega) (by omega) (by omega) (by omega)).trans x3, (fC _ _ (by omega) (by omega) (by omega) (by omega)).trans x4, (fC _ _ (by omega) (by omega) (by omega) (by omega)).trans x5, (fC _ _ (by omega) (by omega) (by omega) (by omega)).trans x6, (fC _ _ (by omega) (by omega) (by omega) (by omega)).trans x7, fun k hk => (fC _ _ (by omega) (by omega) (by omega) (by omega)).trans (x8 k hk)⟩
          · refine ⟨(fD _ _ (by rcases hq with rfl | rfl <;> omega) (by rcases hq with rfl | rfl <;> omega) (by rcases hq with rfl | rfl <;> omega)).trans I.dF.1, fun f hf => ?_⟩
            obtain ⟨x1, x2, x3⟩ := I.dF.2 f hf
            exact ⟨(fD _ _ (by rcases hq with rfl | rfl <;> omega) (by rcases hq with rfl | rfl <;> omega) (by rcases hq with rfl | rfl <;> omega)).trans x1, (fD _ _ (by rcases hq with rfl | rfl <;> omega) (by rcases hq with rfl | rfl <;> omega) (by rcases hq with rfl | rfl <;> omega)).trans x2, (fD _ _ (by rcases hq with rfl | rfl <;> omega) (by rcases hq with rfl | rfl <;> omega) (by rcases hq with rfl | rfl <;> omega)).trans x3⟩
          · refine ⟨?_, fun b hb => ?_⟩
            · rw [gD, if_pos ⟨rfl, rfl⟩]; rfl
            · rw [aB_bc] at hb
              simp only [aB_bw, aB_bo, aB_bm, aB_ba, aB_br, aB_bl, aB_rt, aB_bp]
              by_cases eb : b = M.bc
              · subst eb
                simp only [k_up_eq]
                refine ⟨?_, ?_, ?_, ?_, ?_, ?_, ?_, fun k hk => ?_⟩
                · rw [gD]; rcases hq with rfl | rfl <;> simp (disch := omega) only [if_neg, and_self, if_true]
                · rw [gD]; rcases hq with rfl | rfl <;> simp (disch := omega) only [if_neg, and_self, if_true]
                · rw [gD]; rcases hq with rfl | rfl <;> simp (disch := omega) only [if_neg, and_self, if_true]
                · rw [gD]; rcases hq with rfl | rfl <;> simp (disch := omega) only [if_neg, and_self, if_true]
                · rw [gD]; rcases hq with rfl | rfl <;> simp (disch := omega) only [if_neg, and_self, if_true]
                · rw [gD]; rcases hq with rfl | rfl <;> simp (disch := omega) only [if_neg, and_self, if_true]
                · rw [gD]; rcases hq with rfl | rfl <;> simp (disch := omega) only [if_neg, and_self, if_true]
                · have y := (f3.ps k hk (by omega)).2
                  rw [gD, ← y]; rcases hq with rfl | rfl <;> simp (disch := omega) only [if_neg]
              · simp only [k_up_ne eb]
                obtain ⟨x1, x2, x3, x4, x5, x6, x7, x8⟩ := I.dB.2 b (by omega)
                have := b12 b (by omega)
                exact ⟨(fD _ _ (by rcases hq with rfl | rfl <;> omega) (by rcases hq with rfl | rfl <;> omega) (by rcases hq with rfl | rfl <;> omega)).trans x1, (fD _ _ (by rcases hq with rfl | rfl <;> omega) (by rcases hq with rfl | rfl <;> omega) (by rcases hq with rfl | rfl <;> omega)).trans x2, (fD _ _ (by rcases hq with rfl | rfl <;> omega) (by rcases hq with rfl | rfl <;> omega) (by rcases hq with rfl | rfl <;> omega)).trans x3, (fD _ _ (by rcases hq with rfl | rfl <;> omega) (by rcases hq with rfl | rfl <;> omega) (by rcases hq with rfl | rfl <;> omega)).trans x4, (fD _ _ (by rcases hq with rfl | rfl <;> omega) (by rcases hq with rfl | rfl <;> omega) (by rcases hq with rfl | rfl <;> omega)).trans x5, (fD _ _ (by rcases hq with rfl | rfl <;> omega) (by rcases hq with rfl | rfl <;> omega) (by rcases hq with rfl | rfl <;> omega)).trans x6, (fD _ _ (by rcases hq with rfl | rfl <;> omega) (by rcases hq with rfl | rfl <;> omega) (by rcases hq with rfl | rfl <;> omega)).trans x7, fun k hk => (fD _ _ (by rcases hq with rfl | rfl <;> omega) (by rcases hq with rfl | rfl <;> omega) (by rcases hq with rfl | rfl <;> omega)).trans (x8 k hk)⟩
          · exact I.mF
          · refine I.mB.up hbc (by omega) hoc I.oB (fun b hb ho => ?_)
            cases hx : e_at g (g.2.2.1 (M.bw b)) (g.2.2.2 (M.bw b)) (t + 1) with
            | false => rfl
            | true =>
              exfalso
              have hP : k_bP g K M o (g.2.2.1 (t + 1)) (g.2.2.2 (t + 1)) b = true := by
                rw [k_bP, ho, k_anc_self, Bool.true_and, e_at, k_same_symm]
                exact hx
              rcases hr with ⟨h1, -⟩ | ⟨r, h1, -, -, -, h5, -⟩
              · rw [h1] at hrep
                have := k_lst_none _ hrep b hb
                rw [this] at hP
                cases hP
              · rw [h1] at hrep
                obtain ⟨y1, y2, y3⟩ := k_lst_some _ hrep
                by_cases c : r < b
                · rw [y3 b c hb] at hP; cases hP
                · by_cases c2 : b = r
                  · subst c2; exact h5 ho
                  · have z1 := I.mB.2.2.1 b r (by omega) y1
                    have z2 := I.oB r y1
                    exact h5 (by omega)
          · intro b hb
            rw [aB_bc] at hb
            rw [aB_bo]
            by_cases eb : b = M.bc
            · subst eb; rw [k_up_eq]; exact Nat.le_refl _
            · rw [k_up_ne eb]; exact I.oB b (by omega)
          · intro b hb
            rw [aB_bc] at hb
            rw [aB_bo]
            by_cases eb : b = M.bc
            · subst eb; rw [k_up_eq]; exact h8
            · rw [k_up_ne eb]; exact I.o8 b (by omega)
          · exact I.oF
          · exact I.mo
          · exact hoc
          · exact I.o7
          · exact fun c hc => (fC _ _ (by omega) (by omega) (by omega) (by omega)).trans (I.sl c hc)
          · intro c hc r hr48
            rw [aB_bc, m_ch_up hc hoc hK]
            by_cases x : m = true ∧ c = o ∧ r = rr
            · obtain ⟨rfl, rfl, rfl⟩ := x
              rw [if_pos ⟨rfl, rfl, rfl⟩, q_sI_I, if_neg (by omega), q_sI_I, if_neg (by omega), f3.fC _ _ (by omega) (by omega)]
              exact (a7 rfl).2
            · rw [if_neg x]
              exact (fC _ _ (by omega) (by omega) (by omega) (fun z => x ⟨z.1, by omega, by omega⟩)).trans (I.ch c hc r hr48)
          · exact I.fs
          · exact I.ft
          · intro b hb
            rw [aB_bc] at hb
            by_cases eb : b = M.bc
            · subst eb
              have hn' : m_n0 (M.addB (t + 1) o m (n0 + (e - (t + 3))) (k_pi g K o n0 (t + 3)) res l rr (e + 1)) M.bc = n0 := by
                rw [m_n0, aB_bm, k_up_eq]; exact hn
              refine ⟨e, ?_⟩
              rw [m_H, hn']
              simp only [aB_bw, aB_bo, aB_bm, aB_ba, aB_bp, aB_br, aB_bl, aB_rt, k_up_eq]
              exact ⟨by omega, hd, trivial, hm, trivial, hl1, hl2, fun i hi => trivial, hrs, fun i i1 i2 => f4 i (by omega) i2⟩
            · obtain ⟨e', H⟩ := I.hd b (by omega)
              exact ⟨e', H.up (by omega)⟩
          · intro b hb
            rw [aB_bc] at hb
            by_cases eb : b = M.bc
            · subst eb
              have hrep' : m_rep g K (M.addB (t + 1) o m (n0 + (e - (t + 3))) (k_pi g K o n0 (t + 3)) res l rr (e + 1)) M.bc = rep := by
                rw [m_rep, aB_bw, aB_bo, k_up_eq, k_up_eq, k_bod_up]
                exact hrep
              rcases hr with ⟨h1, h2⟩ | ⟨r, h1, h2, h3, h4, h5, h6⟩
              · refine Or.inl ⟨hrep'.trans h1, ?_⟩
                rw [aB_bt, k_up_eq]; exact h2
              · have hrb := hrl r h1
                refine Or.inr ⟨r, hrep'.trans h1, ?_⟩
                simp only [aB_bw, aB_bo, aB_bm, aB_bt, aB_rt, k_up_eq, k_up_lt hrb]
                exact ⟨h2, h3, h4, h5, h6⟩
            · exact (I.ov b (by omega)).up (by omega)
          · intro b hb
            rw [aB_bc] at hb
            rw [aB_bt]
            by_cases eb : b = M.bc
            · subst eb
              rw [k_up_eq]
              rcases hr with ⟨-, h⟩ | ⟨r, h1, h2, -⟩
              · omega
              · have := hrl r h1
                have := I.bt r this
                omega
            · rw [k_up_ne eb]; exact I.bt b (by omega)
          · exact ⟨(fC _ _ (by omega) (by omega) (by omega) (by omega)).trans I.z0.1, (fC _ _ (by omega) (by omega) (by omega) (by omega)).trans I.z0.2.1, (fC _ _ (by omega) (by omega) (by omega) (by omega)).trans I.z0.2.2.1, (fC _ _ (by omega) (by omega) (by omega) (by omega)).trans I.z0.2.2.2⟩
          · rw [aB_bw, k_up_eq]
          · intro b hb; rw [aB_bw, k_up_lt hb]
        · rw [if_neg x2, if_neg x2]
          refine ⟨_, _, rfl, rfl, oC, ((oD.sI (by omega)).sI (by omega)).sI (by omega), Or.inl ⟨e + 2, by omega, rfl, rfl, ?_⟩⟩
          rw [q_sI_I, if_pos ⟨rfl, rfl⟩]
end ZHEAD2
