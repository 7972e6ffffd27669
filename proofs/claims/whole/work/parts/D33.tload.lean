/-! ===== heights and types of all bodies ===== -/
/-- a body has its heights and its types -/
def t_B (p q : Nat) (K : ZK) (M : ZM) (P : ZP) (C D : QS) (b : Nat) : Prop := ∃ hh R T, h_ok M P b hh ∧ (∀ i, P.fi b ≤ i → i < P.en b → C.2.1 (p + 17) i = hh i ∧ D.2.1 (q + 19) i = hh i) ∧ ty_cld K M P hh b R T ∧ rt_S q D hh (P.fi b) (P.en b) R T ∧ ∀ j, P.fi b ≤ j → j < P.en b → R j = true → k_ft K M P hh j (T j)
def t_fC (p : Nat) (C C' : QS) : Prop := (∀ y j, y ≠ p + 17 → y ≠ 82 → y ≠ 83 → ¬ (y = 81 ∧ j = 4) → y ≠ 85 → y ≠ 86 → y ≠ 87 → y ≠ 88 → ¬ (y = 84 ∧ j = 6) → C'.2.1 y j = C.2.1 y j) ∧ C'.1 = C.1 ∧ C'.2.2 = C.2.2
def t_fD (q : Nat) (D D' : QS) : Prop := (∀ y j, y ≠ q + 19 → y ≠ 170 → ¬ (y = 102 ∧ (j = 12 ∨ j = 23)) → y ≠ 171 → y ≠ q + 26 → y ≠ q + 27 → D'.2.1 y j = D.2.1 y j) ∧ D'.1 = D.1 ∧ D'.2.2 = D.2.2
theorem t_fC.trans {p : Nat} {C C' C'' : QS} (h : t_fC p C C') (h' : t_fC p C' C'') : t_fC p C C'' := ⟨fun y j a b c d e f g i k => (h'.1 y j a b c d e f g i k).trans (h.1 y j a b c d e f g i k), h'.2.1.trans h.2.1, h'.2.2.trans h.2.2⟩
theorem t_fD.trans {q : Nat} {D D' D'' : QS} (h : t_fD q D D') (h' : t_fD q D' D'') : t_fD q D D'' := ⟨fun y j a b c d e f => (h'.1 y j a b c d e f).trans (h.1 y j a b c d e f), h'.2.1.trans h.2.1, h'.2.2.trans h.2.2⟩
section ZTL
variable {n p q m : Nat} {g : ZT} {K : ZK} {M : ZM} {P : ZP}
theorem s_N.tl {C D C' D' : QS} (N : s_N p q n g K M P m C D) (hp : z_pp p) (hq : z_qq q) (h : t_fC p C C') (h' : t_fD q D D') : s_N p q n g K M P m C' D' := N.hx hp hq (fun y j a b => h.1 y j b (by omega) (by omega) (by omega) (by omega) (by omega) (by omega) (by omega) (by omega)) (fun y j a b c d e f => h'.1 y j a b c d e f)
theorem q_aHb_of {C C' : QS} (h : C'.2.2 = C.2.2) (p : Nat) : q_aHb C' p = q_aHb C p ∧ q_aFb C' p = q_aFb C p := by
  rw [q_aHb, q_aHb, q_aFb, q_aFb, h]; exact ⟨rfl, rfl⟩
theorem z_tyLoop {pp : Nat} (hp : z_pp p) (hq : z_qq q) (hG : z_G n g) (hK : k_K g K) : ∀ d b C D, b + d = M.bc → s_N p q n g K M P m C D → h_cln C → ty_cln C → q_aHb C p = true → q_aFb C p = true → (∀ b', b' < b → t_B p q K M P C D b') → ∃ r r', q_run (tX10_typeFault_24 pp p) (nI b, C) = some r ∧ q_run (tX12_fault_70 q) (nI b, D) = some r' ∧ h_cln r.2 ∧ ty_cln r.2 ∧ t_fC p C r.2 ∧ t_fD q D r'.2 ∧ s_N p q n g K M P m r.2 r'.2 ∧ ((∃ i, i < P.n ∧ r.1 = nI (P.tk i) ∧ r'.1 = 4 ∧ r'.2.2.1 102 12 = nI (P.tk i)) ∨ (r.1 = -1 ∧ r'.1 = 0 ∧ r'.2.2.1 102 12 = -1 ∧ ∀ b', b' < M.bc → t_B p q K M P r.2 r'.2 b')) := by
  intro d
  induction d with
  | zero =>
    intro b C D hb N h1 h2 aH aF hall
    have h48 := N.S.mJ.mB.1
    have g1 : nI M.bc ≤ nI b := by rw [z_leN (by omega) (by omega)]; omega
    have fD : t_fD q D (q_sI D 102 12 (-1)) := ⟨fun y j _ _ c _ _ _ => by rw [q_sI_I, if_neg (by omega)], rfl, rfl⟩
    have fC : t_fC p C C := ⟨fun _ _ _ _ _ _ _ _ _ _ _ => rfl, rfl, rfl⟩
    refine ⟨(-1, C), (0, q_sI D 102 12 (-1)), q_run_ret ?_, q_run_ret ?_, h1, h2, fC, fD, N.tl hp hq fC fD, Or.inr ⟨rfl, rfl, ?_, fun b' hb' => ?_⟩⟩
    · simp only [tX10_typeFault_24, N.S.mJ.cB.1, if_pos g1]
    · simp only [tX12_fault_70, N.S.mJ.dB.1, if_pos g1, Option.bind_some]
    · show (q_sI D 102 12 (-1)).2.1 102 12 = -1
      rw [q_sI_I, if_pos ⟨rfl, rfl⟩]
    · obtain ⟨hh, R, T, x1, x2, x3, x5, x4⟩ := hall b' (by omega)
      have sm : ∀ y j, y ≠ 102 → (q_sI D 102 12 (-1)).2.1 y j = D.2.1 y j := fun y j h => by rw [q_sI_I, if_neg (by omega)]
      refine ⟨hh, R, T, x1, fun i a c => ⟨(x2 i a c).1, (sm _ _ (by rcases hq with rfl | rfl <;> omega)).trans (x2 i a c).2⟩, x3, fun i a c => ⟨(sm _ _ (by rcases hq with rfl | rfl <;> omega)).trans (x5 i a c).1, fun h s hs => (sm _ _ (by rcases hq with rfl | rfl <;> omega)).trans ((x5 i a c).2 h s hs)⟩, x4⟩
  | succ d ih =>
    intro b C D hb N h1 h2 aH aF hall
    have hbc : b < M.bc := by omega
    have h48 := N.S.mJ.mB.1
    have bn := N.S.bn
    have B := N.B b hbc
    have hle := B.le
    have g1 : ¬ nI M.bc ≤ nI b := by rw [z_leN (by omega) (by omega)]; omega
    obtain ⟨r, r', e1, e2, c1, f1, f2, f3, k1, k2, k3, dj⟩ := z_heights hp hq hG hK N hbc h1
    have fC1 : t_fC p C r.2 := ⟨fun y j a c d e _ _ _ _ _ => f1 y j (by omega) c d e, f2, f3⟩
    have fD1 : t_fD q D r'.2 := ⟨fun y j a c d _ _ _ => k1 y j (by omega) (by omega) c, k2, k3⟩
    have N1 := N.tl hp hq fC1 fD1
    have c2 : ty_cln r.2 := by
      refine ⟨fun i hi => ?_, ?_, fun j => ?_⟩
      · rw [f1 _ _ (by rcases hp with rfl | rfl <;> omega) (by decide) (by decide) (by omega)]; exact h2.1 i hi
      · rw [f1 _ _ (by rcases hp with rfl | rfl <;> omega) (by decide) (by decide) (by omega)]; exact h2.2.1
      · rw [f1 _ _ (by rcases hp with rfl | rfl <;> omega) (by decide) (by decide) (by omega), f1 _ _ (by rcases hp with rfl | rfl <;> omega) (by decide) (by decide) (by omega)]; exact h2.2.2 j
    obtain ⟨r0, r2⟩ := r
    obtain ⟨r0', r2'⟩ := r'
    rcases dj with ⟨i, i1, i2, x1, x2, x3⟩ | ⟨x1, x2, hh, ok, hc⟩
    · -- a height is wrong
      have x1 : r0 = nI i := x1
      have x2 : r0' = false := x2
      subst x1; subst x2
      have nm : ¬ nI i = -1 := by rw [z_m1N (by omega)]; exact id
      refine ⟨(nI (P.tk i), r2), (4, r2'), q_run_ret ?_, q_run_ret ?_, c1, c2, fC1, fD1, N1, Or.inl ⟨i, by omega, rfl, rfl, x3⟩⟩
      · simp only [tX10_typeFault_24, N.S.mJ.cB.1, if_neg g1, aH, if_true, e1, Option.bind_some, if_neg nm, z_inbN (show i < 1024 by omega) (by decide), z_cl (show i < 2147483648 by omega)]
        exact congrArg (fun z => some (Sum.inl (z, r2))) (N1.S.iC i (by omega)).2.2.2.1
      · simp only [tX12_fault_70, N.S.mJ.dB.1, if_neg g1, e2, Option.bind_some, Bool.false_eq_true, if_false]
    · have x1 : r0 = -1 := x1
      have x2 : r0' = true := x2
      subst x1; subst x2
      have aF1 : q_aFb r2 p = true := (q_aHb_of f3 p).2.trans aF
      have aH1 : q_aHb r2 p = true := (q_aHb_of f3 p).1.trans aH
      obtain ⟨s, s', u1, u2, u3, u4, u5, dj2⟩ := z_types hp hq hG hK ok N1 hbc (fun i a c => (hc i a c).1) (fun i a c => (hc i a c).2) c2
      obtain ⟨s0, s2⟩ := s
      obtain ⟨s0', s2'⟩ := s'
      have fC2 : t_fC p r2 s2 := ⟨fun y j a c d e x y' z w v => u4.1 y j x y' w (by omega) v, u4.2.1, u4.2.2⟩
      have fD2 : t_fD q r2' s2' := ⟨fun y j a c d x y' z => u5.1 y j d x (by omega) (by omega), u5.2.1, u5.2.2⟩
      have N2 := N1.tl hp hq fC2 fD2
      have c3 : h_cln s2 := by
        refine ⟨fun i hi => ?_, ?_⟩
        · exact (u4.1 _ _ (by decide) (by decide) (by decide) (by omega) (by omega)).trans (c1.1 i hi)
        · exact (u4.1 _ _ (by decide) (by decide) (by decide) (by omega) (by omega)).trans c1.2
      have stC : ∀ v, s0 = v → tX10_typeFault_24 pp p (nI b, C) = if v = -1 then some (.inr (nI (b + 1), s2)) else if q_inb v 1024 = true then some (.inl (s2.2.1 (p + 14) v.toNatClampNeg, s2)) else none := by
        intro v hv
        simp only [tX10_typeFault_24, N.S.mJ.cB.1, if_neg g1, aH, if_true, e1, Option.bind_some, aF1, u1, hv, nI_1]
      rcases dj2 with ⟨i, i1, i2, y1, y2, y3⟩ | ⟨y1, y2, y3, R, T, y4, y6, y5⟩
      · have y1 : s0 = nI i := y1
        have y2 : s0' = false := y2
        subst y2
        have nm : ¬ nI i = -1 := by rw [z_m1N (by omega)]; exact id
        refine ⟨(nI (P.tk i), s2), (4, s2'), q_run_ret ?_, q_run_ret ?_, c3, u3, fC1.trans fC2, fD1.trans fD2, N2, Or.inl ⟨i, by omega, rfl, rfl, y3⟩⟩
        · rw [stC _ y1, if_neg nm, if_pos (z_inbN (show i < 1024 by omega) (by decide)), z_cl (show i < 2147483648 by omega), (N2.S.iC i (by omega)).2.2.2.1]
        · simp only [tX12_fault_70, N.S.mJ.dB.1, if_neg g1, e2, Option.bind_some, if_true, u2, Bool.false_eq_true, if_false]
      · have y1 : s0 = -1 := y1
        have y2 : s0' = true := y2
        subst y2
        have st := stC _ y1
        rw [if_pos rfl] at st
        have st' : tX12_fault_70 q (nI b, D) = some (.inr (nI (b + 1), s2')) := by
          simp only [tX12_fault_70, N.S.mJ.dB.1, if_neg g1, e2, Option.bind_some, if_true, u2, nI_1]
        rw [q_run_go st, q_run_go st']
        have keep : ∀ i, s2.2.1 (p + 17) i = r2.2.1 (p + 17) i ∧ s2'.2.1 (q + 19) i = r2'.2.1 (q + 19) i := fun i => ⟨u4.1 _ _ (by rcases hp with rfl | rfl <;> omega) (by rcases hp with rfl | rfl <;> omega) (by rcases hp with rfl | rfl <;> omega) (by rcases hp with rfl | rfl <;> omega) (by rcases hp with rfl | rfl <;> omega), u5.1 _ _ (by rcases hq with rfl | rfl <;> omega) (by rcases hq with rfl | rfl <;> omega) (by omega) (by omega)⟩
        obtain ⟨t, t', z1, z2, z3, z4, z5, z6, z7, z8⟩ := ih (b + 1) s2 s2' (by omega) N2 c3 u3 ((q_aHb_of u4.2.2 p).1.trans aH1) ((q_aHb_of u4.2.2 p).2.trans aF1) (fun b' hb' => by
          by_cases e : b' = b
          · subst e
            exact ⟨hh, R, T, ok, fun i a c => ⟨(keep i).1.trans (hc i a c).1, (keep i).2.trans (hc i a c).2⟩, y4, y6, y5⟩
          · obtain ⟨hh', R', T', v1, v2, v3, v5, v4⟩ := hall b' (by omega)
            have nin' : ∀ i, P.fi b' ≤ i → i < P.en b' → ¬ (P.fi b ≤ i ∧ i < P.en b) := fun i a c h => by
              have h1 := (N.B b' (by omega)).bd i a c
              have h2 := B.bd i h.1 h.2
              omega
            refine ⟨hh', R', T', v1, fun i a c => ?_, v3, fun i a c => ⟨(u5.1 _ _ (by rcases hq with rfl | rfl <;> omega) (by rcases hq with rfl | rfl <;> omega) (by omega) (by have := nin' i a c; omega)).trans ((k1 _ _ (by omega) (by rcases hq with rfl | rfl <;> omega) (by rcases hq with rfl | rfl <;> omega)).trans (v5 i a c).1), fun h s hs => (u5.1 _ _ (by rcases hq with rfl | rfl <;> omega) (by rcases hq with rfl | rfl <;> omega) (by have := nin' i a c; have h8 := v1.h8 a c; have hw : k_wd hh' i = 12 + k_hN hh' i := rfl; omega) (by omega)).trans ((k1 _ _ (by omega) (by rcases hq with rfl | rfl <;> omega) (by rcases hq with rfl | rfl <;> omega)).trans ((v5 i a c).2 h s hs))⟩, v4⟩
            have hbd' := (N.B b' (by omega)).bd i a c
            have nin : ¬ (P.fi b ≤ i ∧ i < P.en b) := fun h => by
              have := B.bd i h.1 h.2
              omega
            refine ⟨(keep i).1.trans ((f1 _ _ (by omega) (by rcases hp with rfl | rfl <;> omega) (by rcases hp with rfl | rfl <;> omega) (by rcases hp with rfl | rfl <;> omega)).trans (v2 i a c).1), (keep i).2.trans ((k1 _ _ (by omega) (by rcases hq with rfl | rfl <;> omega) (by rcases hq with rfl | rfl <;> omega)).trans (v2 i a c).2)⟩)
        exact ⟨t, t', z1, z2, z3, z4, (fC1.trans fC2).trans z5, (fD1.trans fD2).trans z6, z7, z8⟩
end ZTL
