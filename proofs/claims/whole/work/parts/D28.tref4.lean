/-! ===== types: the reference from its start ===== -/
section ZTR5
variable {C D : QS} {n p q m b : Nat} {g : ZT} {K : ZK} {M : ZM} {P : ZP} {hh : Nat → Int32}
theorem z_rtEnt (hp : z_pp p) (hq : z_qq q) (hb : b < M.bc) : ∀ d k D, k + d = 12 → s_N p q n g K M P m C D → (∀ s, s < k → D.2.1 (q + 26) (P.fi b * 20 + s) = k_y (k_ent M b s)) → ∃ D', q_run (tX12_types_47 q (nI b) (nI (P.fi b))) (nI k, D) = (fX12_types_102 D' q (nI b) (nI (P.fi b)) (1 : Int32)).bind some ∧ rt_f q (P.fi b) (P.en b) D D' ∧ (∀ j, D'.2.1 (q + 27) j = D.2.1 (q + 27) j) ∧ ∀ s, s < 12 → D'.2.1 (q + 26) (P.fi b * 20 + s) = k_y (k_ent M b s) := by
  intro d
  induction d with
  | zero =>
    intro k D hk N hc
    have hk12 : k = 12 := by omega
    subst hk12
    refine ⟨D, ?_, rt_f.refl _ _, fun _ => rfl, hc⟩
    rw [q_run_step]
    have g1 : (12 : Int32) ≤ nI 12 := by decide
    simp only [tX12_types_47, if_pos g1]
    cases fX12_types_102 D q (nI b) (nI (P.fi b)) 1 <;> rfl
  | succ d ih =>
    intro k D hk N hc
    have h48 := N.S.mJ.mB.1
    have B := N.B b hb
    have hlt := B.lt
    have hle := B.le
    have bn := N.S.bn
    have g1 : ¬ (12 : Int32) ≤ nI k := by rw [show (12 : Int32) = nI 12 from rfl, z_leN (by omega) (by omega)]; omega
    obtain ⟨e, H⟩ := N.S.mJ.hd b hb
    have ha := H.bl
    have ha2 := H.b12
    obtain ⟨x1, x2, x3, x4, x5, x6, x7, x8⟩ := N.S.mJ.dB.2 b hb
    let D1 : QS := q_sI D (q + 26) (P.fi b * 20 + k) (k_y (k_ent M b k))
    have gD : ∀ y i, D1.2.1 y i = if y = q + 26 ∧ i = P.fi b * 20 + k then k_y (k_ent M b k) else D.2.1 y i := by intro y i; simp only [D1, q_sI_I]
    have st : tX12_types_47 q (nI b) (nI (P.fi b)) (nI k, D) = some (.inr (nI (k + 1), D1)) := by
      have e12 : nI b * (12 : Int32) = nI (b * 12) := nI_mulN b 12
      have e20 : nI (P.fi b) * (20 : Int32) = nI (P.fi b * 20) := nI_mulN _ 20
      have lt : (nI (M.ba b) ≤ nI k) = (M.ba b ≤ k) := z_leN (by omega) (by omega)
      simp only [tX12_types_47, if_neg g1, z_inbN (show b < 48 by omega) (by decide), if_true, z_cl (show b < 2147483648 by omega), x4, e12, e20, nI_add, lt, z_inbN (show b * 12 + k < 576 by omega) (by decide), z_cl (show b * 12 + k < 2147483648 by omega), z_inbN (show P.fi b * 20 + k < 20480 by omega) (by decide), z_cl (show P.fi b * 20 + k < 2147483648 by omega), nI_1, Option.bind_some, D1]
      by_cases c : M.ba b ≤ k
      · rw [if_pos c, k_ent, if_neg (by omega)]; rfl
      · rw [if_neg c, x8 k (by omega), k_ent, if_pos (by omega)]
    have f1 : rt_f q (P.fi b) (P.en b) D D1 := ⟨fun y i _ _ a _ => by rw [gD, if_neg (by omega)], rfl, rfl⟩
    obtain ⟨D', z1, z2, z3, z4⟩ := ih (k + 1) D1 (by omega) (N.rf hp hq f1) (fun s hs => by
      rw [gD]
      by_cases e : s = k
      · rw [if_pos ⟨rfl, by omega⟩, e]
      · rw [if_neg (by omega)]; exact hc s (by omega))
    exact ⟨D', (q_run_go st).trans z1, f1.trans z2, fun j => by rw [z3, gD, if_neg (by omega)], z4⟩
theorem z_rtClear (hp : z_pp p) (hq : z_qq q) (hb : b < M.bc) : ∀ d i D, i + d = P.en b → P.fi b ≤ i → s_N p q n g K M P m C D → (∀ j, P.fi b ≤ j → j < i → D.2.1 (q + 27) j = 0) → ∃ D', q_run (tX12_types_7 q (nI b)) (nI i, D) = (fX12_types_47 (q_sI D' (q + 27) (P.fi b) 1) q (nI b) (nI (P.fi b)) (0 : Int32)).bind some ∧ rt_f q (P.fi b) (P.en b) D D' ∧ ∀ j, P.fi b ≤ j → j < P.en b → D'.2.1 (q + 27) j = 0 := by
  intro d
  induction d with
  | zero =>
    intro i D hi hF N hc
    have h48 := N.S.mJ.mB.1
    have B := N.B b hb
    have hlt := B.lt
    have hle := B.le
    have bn := N.S.bn
    refine ⟨D, ?_, rt_f.refl _ _, fun j a c => hc j a (by omega)⟩
    rw [q_run_step]
    have g1 : nI (P.en b) ≤ nI i := by rw [z_leN (by omega) (by omega)]; omega
    have nb : vp_nar .boolean (1 : Int32) = 1 := rfl
    simp only [tX12_types_7, z_inbN (show b < 48 by omega) (by decide), if_true, z_cl (show b < 2147483648 by omega), B.D2, B.D1, if_pos g1, z_inbN (show P.fi b < 1024 by omega) (by decide), z_cl (show P.fi b < 2147483648 by omega), Option.bind_some, nb]
    cases fX12_types_47 (q_sI D (q + 27) (P.fi b) 1) q (nI b) (nI (P.fi b)) 0 <;> rfl
  | succ d ih =>
    intro i D hi hF N hc
    have h48 := N.S.mJ.mB.1
    have B := N.B b hb
    have hle := B.le
    have bn := N.S.bn
    have g1 : ¬ nI (P.en b) ≤ nI i := by rw [z_leN (by omega) (by omega)]; omega
    have st : tX12_types_7 q (nI b) (nI i, D) = some (.inr (nI (i + 1), q_sI D (q + 27) i 0)) := by
      simp only [tX12_types_7, z_inbN (show b < 48 by omega) (by decide), if_true, z_cl (show b < 2147483648 by omega), B.D2, if_neg g1, z_inbN (show i < 1024 by omega) (by decide), z_cl (show i < 2147483648 by omega), Option.bind_some, nI_1]
      rfl
    have f1 : rt_f q (P.fi b) (P.en b) D (q_sI D (q + 27) i 0) := ⟨fun y j _ _ _ a => by rw [q_sI_I, if_neg (by omega)], rfl, rfl⟩
    obtain ⟨D', z1, z2, z3⟩ := ih (i + 1) _ (by omega) (by omega) (N.rf hp hq f1) (fun j a c => by
      rw [q_sI_I]
      by_cases e : j = i
      · rw [if_pos ⟨rfl, e⟩]
      · rw [if_neg (by omega)]; exact hc j a (by omega))
    exact ⟨D', (q_run_go st).trans z1, f1.trans z2, z3⟩
theorem z_rtRef (hp : z_pp p) (hq : z_qq q) (hK : k_K g K) (ok : h_ok M P b hh) (N : s_N p q n g K M P m C D) (hb : b < M.bc) (hc : ∀ i, P.fi b ≤ i → i < P.en b → D.2.1 (q + 19) i = hh i) : ∃ D' R T, fX12_types D q (nI b) = fX12_types_168 D' q (nI b) (nI (P.fi b)) ∧ rt_I p q n g K M P m b hh C D' R T ∧ ty_cld K M P hh b R T ∧ rt_f q (P.fi b) (P.en b) D D' := by
  have B := N.B b hb
  have hle := B.le
  have hlt := B.lt
  have bn := N.S.bn
  have h48 := N.S.mJ.mB.1
  obtain ⟨D1, z1, z2, z3⟩ := z_rtClear hp hq hb (P.en b - P.fi b) (P.fi b) D (by omega) (Nat.le_refl _) N (fun j a c => by omega)
  let D2 : QS := q_sI D1 (q + 27) (P.fi b) 1
  have gD : ∀ y i, D2.2.1 y i = if y = q + 27 ∧ i = P.fi b then 1 else D1.2.1 y i := by intro y i; simp only [D2, q_sI_I]
  have f2 : rt_f q (P.fi b) (P.en b) D1 D2 := ⟨fun y j _ _ _ a => by rw [gD, if_neg (by omega)], rfl, rfl⟩
  have N2 := (N.rf hp hq z2).rf hp hq f2
  obtain ⟨D3, y1, y2, y3, y4⟩ := z_rtEnt hp hq hb 12 0 D2 (by omega) N2 (fun s hs => by omega)
  have f3 := (z2.trans f2).trans y2
  have hj := ok.hi (Nat.le_refl _) hlt ok.1 (by omega)
  have hw : k_wd hh (P.fi b) = 12 := by rw [k_wd, k_hN_of ok.1 (by omega)]
  let R0 : Nat → Bool := fun i => decide (i = P.fi b)
  let T0 : Nat → Nat → Nat := fun _ => k_ent M b
  have I3 : rt_I p q n g K M P m b hh C D3 R0 T0 := by
    refine ⟨N.rf hp hq f3, fun i a c => (f3.1 _ _ (by rcases hq with rfl | rfl <;> omega) (by rcases hq with rfl | rfl <;> omega) (by omega) (by omega)).trans (hc i a c), fun i a c => ⟨?_, fun h s hs => ?_⟩, fun R' T' h i a c hi => ?_, fun i a c hi => ?_⟩
    · rw [y3, gD]
      by_cases e : i = P.fi b
      · rw [if_pos ⟨rfl, e⟩]
        show 1 = q_b (decide (i = P.fi b))
        rw [decide_eq_true e]; rfl
      · rw [if_neg (by omega), z3 i a c]
        show 0 = q_b (decide (i = P.fi b))
        rw [decide_eq_false e]; rfl
    · have e : i = P.fi b := of_decide_eq_true h
      subst e
      rw [hw] at hs
      exact y4 s hs
    · have e : i = P.fi b := of_decide_eq_true hi
      subst e
      rw [hw]
      exact h.1
    · have e : i = P.fi b := of_decide_eq_true hi
      subst e
      rw [hw]
      exact ⟨hj, k_ent_vt hK N.S.mJ hb⟩
  obtain ⟨D4, R4, T4, u1, u2, u3, u4, u5⟩ := z_rtRounds hp hq hK ok hb _ D3 R0 T0 true rfl I3 (fun h => by cases h)
  refine ⟨D4, R4, T4, ?_, u2, ⟨?_, u2.v, u3⟩, f3.trans u5⟩
  · simp only [fX12_types, z_inbN (show b < 48 by omega) (by decide), if_true, z_cl (show b < 2147483648 by omega), B.D1]
    show q_run (tX12_types_7 q (nI b)) (nI (P.fi b), D) = _
    rw [z1]
    show Option.bind (q_run (tX12_types_47 q (nI b) (nI (P.fi b))) (nI 0, D2)) some = _
    rw [y1]
    show Option.bind (Option.bind (q_run (tX12_types_102 q (nI b) (nI (P.fi b))) (q_b true, D3)) some) some = _
    rw [u1]
    cases fX12_types_168 D4 q (nI b) (nI (P.fi b)) <;> rfl
  · obtain ⟨v1, v2⟩ := u4 (P.fi b) (decide_eq_true rfl)
    rw [hw] at v2
    exact ⟨v1, v2⟩
end ZTR5
