/-! ===== heights: the class spreads them ===== -/
section ZHC2
variable {C D : QS} {n p q m b : Nat} {g : ZT} {K : ZK} {M : ZM} {P : ZP}
theorem k_tg_of {i t : Nat} (h : P.xa i = nI t) (ht : t < 2147483648) : k_tg P i = t := by rw [k_tg, h, z_cl ht]
/-- where an instruction of a body goes lies in the body -/
theorem k_nx_in {i : Nat} (B : c_B p q P b C D) (h2 : i < P.en b) (h : k_nx (P.op i) = true) : i + 1 < P.en b := by
  by_cases c : i + 1 = P.en b
  · exfalso
    have := B.op
    rw [show P.en b - 1 = i by omega] at this
    rw [k_nx, decide_eq_true this] at h
    cases h
  · omega
theorem k_lb_in {i : Nat} (N : s_N p q n g K M P m C D) (hb : b < M.bc) (h1 : P.fi b ≤ i) (h2 : i < P.en b) (h : k_lb (P.op i) = true) : P.fi b ≤ k_tg P i ∧ k_tg P i < P.en b ∧ P.xa i = nI (k_tg P i) ∧ P.ya i = nI (k_tg P i) := by
  have B := N.B b hb
  have hle := B.le
  have bn := N.S.bn
  have hbd := B.bd i h1 h2
  rw [k_lb, decide_eq_true_eq] at h
  obtain ⟨x1, t, x2, x3, x4⟩ := (N.S.wI i (by omega)).oL h.1 h.2
  rw [hbd] at x3 x4
  rw [k_tg_of x2 (by omega)]
  exact ⟨x3, x4, x2, x1 ▸ x2⟩
theorem k_cov_in {i k : Nat} (N : s_N p q n g K M P m C D) (hb : b < M.bc) (h1 : P.fi b ≤ i) (h2 : i < P.en b) (hk : k < P.nc) (h : k_cov P k i = true) : P.fi b ≤ P.ca k ∧ P.ca k < P.en b ∧ P.cb k = b := by
  have B := N.B b hb
  have hbd := B.bd i h1 h2
  rw [k_cov, Bool.and_eq_true, decide_eq_true_eq, hbd] at h
  have w := N.S.wK k hk
  have w1 := w.al
  have w2 := w.ah
  rw [h.1] at w1 w2
  exact ⟨w1, w2, h.1⟩
theorem z_spreadC {i : Nat} (hp : z_pp p) (hq : z_qq q) (hb : b < M.bc) (h1 : P.fi b ≤ i) (h2 : i < P.en b) : ∀ d k C X W s, k + d = P.sk b → P.fk b ≤ k → s_N p q n g K M P m C D → h_S C (P.fi b) (P.en b) X W s → h_snd M P b X → (∀ Y, h_cld M P b Y → h_v M P Y i ≠ 0) → ∃ C' X' W' s', q_run (tX3_spread_97 p (nI i) (nI b)) (nI k, C) = some C' ∧ h_S C' (P.fi b) (P.en b) X' W' s' ∧ h_G (P.fi b) (P.en b) X W s X' W' s' ∧ h_snd M P b X' ∧ (∀ k', k ≤ k' → k' < P.sk b → k_cov P k' i = true → h_sub 2 (X' (P.ca k'))) ∧ h_f (P.fi b) (P.en b) C C' := by
  intro d
  induction d with
  | zero =>
    intro k C X W s hk hfk N hS hs hv
    have B := N.B b hb
    have h48 := N.S.mJ.mB.1
    have bk := N.S.bk
    have hsk := B.sk
    refine ⟨C, X, W, s, q_run_ret ?_, hS, h_G.refl _ _ _ _ _, hs, fun k' a b => by omega, h_f.refl _ _ _⟩
    simp only [tX3_spread_97, z_inbN (show b < 48 by omega) (by decide), if_true, z_cl (show b < 2147483648 by omega), B.C4]
    rw [if_pos (by rw [z_leN (by omega) (by omega)]; omega)]
  | succ d ih =>
    intro k C X W s hk hfk N hS hs hv
    have B := N.B b hb
    have h48 := N.S.mJ.mB.1
    have bk := N.S.bk
    have hsk := B.sk
    have hle := B.le
    have hkn : k < P.nc := by omega
    have hbd := B.bd i h1 h2
    have hcb : P.cb k = b := (B.cb k hkn).mpr ⟨hfk, by omega⟩
    have ic := z_isCaught N (show i < P.n by omega) hkn
    have hcov : k_cov P k i = (decide (P.cf k ≤ i) && decide (i < P.ct k)) := by rw [k_cov, hcb, hbd, decide_eq_true rfl, Bool.true_and]
    rw [← hcov] at ic
    have g1 : ¬ nI (P.sk b) ≤ nI k := by rw [z_leN (by omega) (by omega)]; omega
    by_cases c : k_cov P k i = true
    · obtain ⟨a1, a2, -⟩ := k_cov_in N hb h1 h2 hkn c
      obtain ⟨C1, y1, y2, y3⟩ := z_arrive (v := 2) N hle a1 a2 hS
      have gr := h_G.add (X := X) (W := W) (s := s) a1 a2 h_9_2
      have hs1 := hs.add (m := 2) (fun Y hY => (hY.2 i h1 h2).2.2 (hv Y hY) k hkn c) a1 a2
      have st : tX3_spread_97 p (nI i) (nI b) (nI k, C) = some (.inr (nI (k + 1), C1)) := by
        simp only [tX3_spread_97, z_inbN (show b < 48 by omega) (by decide), if_true, z_cl (show b < 2147483648 by omega), B.C4, if_neg g1, ic, c, Option.bind_some, z_inbN (show k < 64 by omega) (by decide), z_cl (show k < 2147483648 by omega), (N.S.aC k hkn).2.2.1, y1, nI_1]
      obtain ⟨C', X', W', s', z1, z2, z3, z4, z5, z6⟩ := ih (k + 1) C1 _ _ _ (by omega) (by omega) (N.hf hp hq y3) y2 hs1 hv
      refine ⟨C', X', W', s', (q_run_go st).trans z1, z2, gr.trans z3, z4, fun k' k1 k2 k3 => ?_, y3.trans z6⟩
      by_cases e : k' = k
      · subst e
        refine h_sub.trans ?_ (z3.g1 _)
        rw [h_add, k_up_eq]
        exact h_sub_r _ _
      · exact z5 k' (by omega) k2 k3
    · have st : tX3_spread_97 p (nI i) (nI b) (nI k, C) = some (.inr (nI (k + 1), C)) := by
        simp only [tX3_spread_97, z_inbN (show b < 48 by omega) (by decide), if_true, z_cl (show b < 2147483648 by omega), B.C4, if_neg g1, ic, Bool.eq_false_iff.mpr c, Option.bind_some, Bool.false_eq_true, if_false, nI_1]
      obtain ⟨C', X', W', s', z1, z2, z3, z4, z5, z6⟩ := ih (k + 1) C X W s (by omega) (by omega) N hS hs hv
      refine ⟨C', X', W', s', (q_run_go st).trans z1, z2, z3, z4, fun k' k1 k2 k3 => ?_, z6⟩
      by_cases e : k' = k
      · subst e; exact absurd k3 c
      · exact z5 k' (by omega) k2 k3
theorem z_spread {i : Nat} {X : Nat → Int32} {W : Nat → Bool} {s : Bool} (hp : z_pp p) (hq : z_qq q) (hG : z_G n g) (hK : k_K g K) (N : s_N p q n g K M P m C D) (hb : b < M.bc) (h1 : P.fi b ≤ i) (h2 : i < P.en b) (hS : h_S C (P.fi b) (P.en b) X W s) (hs : h_snd M P b X) : ∃ C' X' W' s', fX3_spread C p (nI i) (nI b) = some C' ∧ h_S C' (P.fi b) (P.en b) X' W' s' ∧ h_G (P.fi b) (P.en b) X W s X' W' s' ∧ h_snd M P b X' ∧ (W' i = false → h_cl M P X' i) ∧ h_f (P.fi b) (P.en b) C C' := by
  have B := N.B b hb
  have hle := B.le
  have bn := N.S.bn
  have h48 := N.S.mJ.mB.1
  have bk := N.S.bk
  have hsk := B.sk
  have hfk := B.fk
  have hi : i < P.n := by omega
  obtain ⟨ha, hl⟩ := k_tk_le N.S hi
  have gd := z_goodOf hG hK N hi
  rw [(hS.1 i h1 h2).1] at gd
  have i1 := z_inbN (show i < 1024 by omega) (by decide)
  have c1 := z_cl (show i < 2147483648 by omega)
  have ib := z_inbN (show b < 48 by omega) (by decide)
  have cb := z_cl (show b < 2147483648 by omega)
  have hop := (N.S.wI i hi).op
  by_cases c0 : h_v M P X i = 0
  · refine ⟨C, X, W, s, ?_, hS, h_G.refl _ _ _ _ _, hs, fun _ => ⟨fun _ => by rw [c0]; exact h_sub_0 _, fun _ => by rw [c0]; exact h_sub_0 _, fun x => absurd c0 x⟩, h_f.refl _ _ _⟩
    have : h_gd (X i) (k_tk M P i) (k_lv M P i) = 0 := (h_gd_0 hl).mpr c0
    simp only [fX3_spread, gd, Option.bind_some, this, if_true]
  · have g0 : ¬ h_gd (X i) (k_tk M P i) (k_lv M P i) = 0 := fun h => c0 ((h_gd_0 hl).mp h)
    have hmv := h_mv_sh (w := X i) ha hl
    have hv : ∀ Y, h_cld M P b Y → h_v M P Y i ≠ 0 := fun Y hY => h_sub_ne (h_mv_mono (hs Y hY i h1 h2)) c0
    have hvs : ∀ Y, h_cld M P b Y → h_sub (h_v M P X i) (h_v M P Y i) := fun Y hY => h_mv_mono (hs Y hY i h1 h2)
    -- next
    obtain ⟨C1, X1, W1, s1, e1, S1, G1, D1, F1, A1⟩ : ∃ C1 X1 W1 s1, (Option.bind (α := QS) (if k_nx (P.op i) = true then (fX3_arrive C p (nI (i + 1)) (h_v M P X i)).bind fun r17 => some r17 else some C) some) = some C1 ∧ h_S C1 (P.fi b) (P.en b) X1 W1 s1 ∧ h_G (P.fi b) (P.en b) X W s X1 W1 s1 ∧ h_snd M P b X1 ∧ h_f (P.fi b) (P.en b) C C1 ∧ (k_nx (P.op i) = true → h_sub (h_v M P X i) (X1 (i + 1))) := by
      by_cases cn : k_nx (P.op i) = true
      · have hin := k_nx_in B h2 cn
        obtain ⟨C1, y1, y2, y3⟩ := z_arrive (v := h_v M P X i) N hle (show P.fi b ≤ i + 1 by omega) hin hS
        refine ⟨C1, _, _, _, ?_, y2, h_G.add (by omega) hin h_9_mv, hs.add (fun Y hY => (hvs Y hY).trans ((hY.2 i h1 h2).1 cn)) (by omega) hin, y3, fun _ => ?_⟩
        · rw [if_pos cn, y1]; rfl
        · rw [h_add, k_up_eq]; exact h_sub_r _ _
      · exact ⟨C, X, W, s, by rw [if_neg cn]; rfl, hS, h_G.refl _ _ _ _ _, hs, h_f.refl _ _ _, fun h => absurd h cn⟩
    have N1 := N.hf hp hq F1
    -- label
    obtain ⟨C2, X2, W2, s2, e2, S2, G2, D2, F2, A2⟩ : ∃ C2 X2 W2 s2, (Option.bind (α := QS) (if k_lb (P.op i) = true then (fX3_arrive C1 p (P.xa i) (h_v M P X i)).bind fun r26 => some r26 else some C1) some) = some C2 ∧ h_S C2 (P.fi b) (P.en b) X2 W2 s2 ∧ h_G (P.fi b) (P.en b) X1 W1 s1 X2 W2 s2 ∧ h_snd M P b X2 ∧ h_f (P.fi b) (P.en b) C1 C2 ∧ (k_lb (P.op i) = true → h_sub (h_v M P X i) (X2 (k_tg P i))) := by
      by_cases cl : k_lb (P.op i) = true
      · obtain ⟨t1, t2, t3, t4⟩ := k_lb_in N hb h1 h2 cl
        obtain ⟨C2, y1, y2, y3⟩ := z_arrive (v := h_v M P X i) N1 hle t1 t2 S1
        refine ⟨C2, _, _, _, ?_, y2, h_G.add t1 t2 h_9_mv, D1.add (fun Y hY => (hvs Y hY).trans ((hY.2 i h1 h2).2.1 cl)) t1 t2, y3, fun _ => ?_⟩
        · rw [if_pos cl, t3, y1]; rfl
        · rw [h_add, k_up_eq]; exact h_sub_r _ _
      · exact ⟨C1, X1, W1, s1, by rw [if_neg cl]; rfl, S1, h_G.refl _ _ _ _ _, D1, h_f.refl _ _ _, fun h => absurd h cl⟩
    have N2 := N1.hf hp hq F2
    obtain ⟨C3, X3, W3, s3, z1, z2, z3, z4, z5, z6⟩ := z_spreadC hp hq hb h1 h2 (P.sk b - P.fk b) (P.fk b) C2 X2 W2 s2 (by omega) (Nat.le_refl _) N2 S2 D2 hv
    have hbind : ∀ (X : Option QS) (Y : QS) (k : QS → Option QS), Option.bind X some = some Y → Option.bind X k = k Y := by
      intro X Y k h
      cases X with
      | none => cases h
      | some x => cases h; rfl
    refine ⟨C3, X3, W3, s3, ?_, z2, (G1.trans G2).trans z3, z4, fun hw => ?_, (F1.trans F2).trans z6⟩
    · have o1 := (N.S.iC i hi).1
      have o2 := (N1.S.iC i hi)
      have hvx : h_v M P X i = h_mv (X i) (k_tk M P i) (k_lv M P i) := rfl
      simp only [fX3_spread, gd, Option.bind_some, if_neg g0, z_takes5 hG N.S hi, z_leaves5 hG hK N.S hi, i1, if_true, c1, o1, (z_goesOn hop C).1, nI_1, hmv, ← hvx]
      rw [hbind _ _ _ e1]
      simp only [o2.1, o2.2.1, (z_hasLabel hop C1).1, Option.bind_some]
      rw [hbind _ _ _ e2]
      simp only [ib, if_true, cb, (N2.B b hb).C3]
      exact z1
    · obtain ⟨q1, q2⟩ := ((G1.trans G2).trans z3).g2 i hw
      have ev : h_v M P X3 i = h_v M P X i := by rw [h_v, h_v, q1]
      rw [h_cl, ev]
      refine ⟨fun x => ((A1 x).trans (G2.g1 _)).trans (z3.g1 _), fun x => (A2 x).trans (z3.g1 _), fun x k hk hc => ?_⟩
      have hin := k_cov_in N hb h1 h2 hk hc
      have := (B.cb k hk).mp hin.2.2
      exact z5 k this.1 this.2 hc
/-- one round -/
theorem z_round {r : Nat} (hp : z_pp p) (hq : z_qq q) (hG : z_G n g) (hK : k_K g K) (hb : b < M.bc) : ∀ d i C X W s, i + d = P.en b → P.fi b ≤ i → s_N p q n g K M P m C D → h_S C (P.fi b) (P.en b) X W s → h_snd M P b X → (∀ j, P.fi b ≤ j → j < P.en b → W j = false → h_cl M P X j) → (∀ j, P.fi b ≤ j → j < P.en b → W j = true → i ≤ j ∨ s = true) → ∃ C' X' W' s', q_run (tX3_firstFault_61 p (nI b) (nI (P.fi b)) (nI (P.en b))) (nI r, nI i, C) = some (.inr (nI (r + 1), C')) ∧ h_S C' (P.fi b) (P.en b) X' W' s' ∧ h_snd M P b X' ∧ (∀ j, P.fi b ≤ j → j < P.en b → W' j = false → h_cl M P X' j) ∧ (∀ j, P.fi b ≤ j → j < P.en b → W' j = true → s' = true) ∧ (s = false → s' = true → h_mu (P.fi b) (P.en b) X < h_mu (P.fi b) (P.en b) X') ∧ (∀ j, h_sub (X j) (X' j)) ∧ h_f (P.fi b) (P.en b) C C' ∧ h_mu (P.fi b) (P.en b) X ≤ h_mu (P.fi b) (P.en b) X' ∧ ((∀ i, P.fi b ≤ i → i < P.en b → h_9 (X i)) → ∀ i, P.fi b ≤ i → i < P.en b → h_9 (X' i)) := by
  intro d
  induction d with
  | zero =>
    intro i C X W s hi hF N hS hs hcl hW
    have B := N.B b hb
    have hle := B.le
    have bn := N.S.bn
    refine ⟨C, X, W, s, q_run_ret ?_, hS, hs, hcl, fun j j1 j2 hj => ?_, (fun a b => by rw [a] at b; cases b), fun j => h_sub.refl _, h_f.refl _ _ _, Nat.le_refl _, id⟩
    · simp only [tX3_firstFault_61]
      rw [if_pos (by rw [z_leN (by omega) (by omega)]; omega), nI_1]
    · rcases hW j j1 j2 hj with h | h
      · omega
      · exact h
  | succ d ih =>
    intro i C X W s hi hF N hS hs hcl hW
    have B := N.B b hb
    have hle := B.le
    have bn := N.S.bn
    have hiE : i < P.en b := by omega
    have g1 : ¬ nI (P.en b) ≤ nI i := by rw [z_leN (by omega) (by omega)]; omega
    have i1 := z_inbN (show i < 1024 by omega) (by decide)
    have c1 := z_cl (show i < 2147483648 by omega)
    have w83 := (hS.1 i hF hiE).2
    cases hw : W i with
    | false =>
      have st : tX3_firstFault_61 p (nI b) (nI (P.fi b)) (nI (P.en b)) (nI r, nI i, C) = some (.inr (nI r, nI (i + 1), C)) := by
        simp only [tX3_firstFault_61, if_neg g1, i1, if_true, c1, w83, hw, nI_1]
        rfl
      rw [q_run_go st]
      exact ih (i + 1) C X W s (by omega) (by omega) N hS hs hcl (fun j j1 j2 hj => by
        rcases hW j j1 j2 hj with h | h
        · by_cases e : j = i
          · subst e; rw [hw] at hj; cases hj
          · exact Or.inl (by omega)
        · exact Or.inr h)
    | true =>
      let C1 : QS := q_sI C 83 i 0
      have f1 : h_f (P.fi b) (P.en b) C C1 := by
        refine ⟨fun y j a b => ?_, rfl, rfl⟩
        show (q_sI C 83 i 0).2.1 y j = _
        rw [q_sI_I, if_neg (by omega)]
      have S1 : h_S C1 (P.fi b) (P.en b) X (k_up W i false) s := by
        refine ⟨fun j j1 j2 => ?_, ?_⟩
        · show (q_sI C 83 i 0).2.1 82 j = _ ∧ (q_sI C 83 i 0).2.1 83 j = _
          rw [q_sI_I, q_sI_I, if_neg (by omega)]
          obtain ⟨y1, y2⟩ := hS.1 j j1 j2
          by_cases e : j = i
          · subst e; rw [if_pos ⟨rfl, rfl⟩, k_up_eq]; exact ⟨y1, rfl⟩
          · rw [if_neg (by omega), k_up_ne e]; exact ⟨y1, y2⟩
        · show (q_sI C 83 i 0).2.1 81 4 = _
          rw [q_sI_I, if_neg (by omega)]; exact hS.2
      obtain ⟨C2, X2, W2, s2, z1, z2, z3, z4, z5, z6⟩ := z_spread hp hq hG hK (N.hf hp hq f1) hb hF hiE S1 hs
      have st : tX3_firstFault_61 p (nI b) (nI (P.fi b)) (nI (P.en b)) (nI r, nI i, C) = some (.inr (nI r, nI (i + 1), C2)) := by
        have n1 : ¬ q_b true = 0 := by decide
        simp only [tX3_firstFault_61, if_neg g1, i1, if_true, c1, w83, hw, if_neg n1, nI_1, Option.bind_some]
        show (fX3_spread C1 p (nI i) (nI b)).bind _ = _
        rw [z1]
        rfl
      rw [q_run_go st]
      have N2 := (N.hf hp hq f1).hf hp hq z6
      obtain ⟨C', X', W', s', y1, y2, y3, y4, y5, y6, y7, y8, y9, y10⟩ := ih (i + 1) C2 X2 W2 s2 (by omega) (by omega) N2 z2 z4 (fun j j1 j2 hj => by
        by_cases e : j = i
        · subst e; exact z5 hj
        · obtain ⟨q1, q2⟩ := z3.g2 j hj
          rw [k_up_ne e] at q2
          exact (hcl j j1 j2 q2).grow q1 z3.g1) (fun j j1 j2 hj => by
        rcases z3.g4 j hj with h | h
        · by_cases e : j = i
          · subst e; rw [k_up_eq] at h; cases h
          · rw [k_up_ne e] at h
            rcases hW j j1 j2 h with h' | h'
            · exact Or.inl (by omega)
            · exact Or.inr (z3.g3 h')
        · exact Or.inr h)
      refine ⟨C', X', W', s', y1, y2, y3, y4, y5, fun a b => ?_, fun j => (z3.g1 j).trans (y7 j), (f1.trans z6).trans y8, Nat.le_trans z3.g5 y9, fun h => y10 (z3.g7 h)⟩
      cases hs2 : s2 with
      | true => exact Nat.lt_of_lt_of_le (z3.g6 a hs2) y9
      | false => exact Nat.lt_of_le_of_lt z3.g5 (y6 hs2 b)
theorem h_mu_le (F E : Nat) (X : Nat → Int32) (h : E ≤ 1024) : h_mu F E X ≤ 9216 := by
  have := k_sum_le (f := fun i => h_pc (X i)) (lo := F) (c := 9) (E - F) (fun i => h_pc_le _)
  rw [h_mu]
  omega
/-- all rounds -/
theorem z_rounds (hp : z_pp p) (hq : z_qq q) (hG : z_G n g) (hK : k_K g K) (hb : b < M.bc) : ∀ d r C X W s, 9217 - h_mu (P.fi b) (P.en b) X = d → (s = true → r + 1 ≤ h_mu (P.fi b) (P.en b) X) → r ≤ 9217 → s_N p q n g K M P m C D → h_S C (P.fi b) (P.en b) X W s → h_snd M P b X → (∀ j, P.fi b ≤ j → j < P.en b → W j = false → h_cl M P X j) → (∀ j, P.fi b ≤ j → j < P.en b → W j = true → s = true) → ∃ C' X', q_run (tX3_firstFault_39 p (nI b) (nI (P.fi b)) (nI (P.en b))) (nI r, C) = fX3_firstFault_107 C' p (nI (P.en b)) (nI (P.fi b)) ∧ h_S C' (P.fi b) (P.en b) X' (fun _ => false) false ∧ h_snd M P b X' ∧ (∀ j, P.fi b ≤ j → j < P.en b → h_cl M P X' j) ∧ (∀ j, h_sub (X j) (X' j)) ∧ h_f (P.fi b) (P.en b) C C' ∧ ((∀ i, P.fi b ≤ i → i < P.en b → h_9 (X i)) → ∀ i, P.fi b ≤ i → i < P.en b → h_9 (X' i)) := by
  intro d
  induction d using Nat.strongRecOn with
  | _ d ih =>
    intro r C X W s hd hr hr2 N hS hs hcl hW
    have B := N.B b hb
    have hle := B.le
    have bn := N.S.bn
    have hmu := h_mu_le (P.fi b) (P.en b) X (by omega)
    have lim : ¬ (1000000 : Int32) ≤ nI r := by rw [show (1000000 : Int32) = nI 1000000 from rfl, z_leN (by decide) (by omega)]; omega
    cases hs' : s with
    | false =>
      have hall : ∀ j, P.fi b ≤ j → j < P.en b → W j = false := fun j j1 j2 => by
        cases hw : W j with
        | false => rfl
        | true => rw [hW j j1 j2 hw] at hs'; cases hs'
      refine ⟨C, X, ?_, ⟨fun i i1 i2 => ?_, ?_⟩, hs, fun j j1 j2 => hcl j j1 j2 (hall j j1 j2), fun j => h_sub.refl _, h_f.refl _ _ _, id⟩
      · rw [q_run_step]
        simp only [tX3_firstFault_39, if_neg lim, hS.2, hs']
        show Option.bind (Option.bind (fX3_firstFault_107 C p (nI (P.en b)) (nI (P.fi b))) _) _ = _
        cases fX3_firstFault_107 C p (nI (P.en b)) (nI (P.fi b)) <;> rfl
      · rw [← hall i i1 i2]; exact hS.1 i i1 i2
      · rw [← hs']; exact hS.2
    | true =>
      let C1 : QS := q_sI C 81 4 0
      have f1 : h_f (P.fi b) (P.en b) C C1 := by
        refine ⟨fun y j a b => ?_, rfl, rfl⟩
        show (q_sI C 81 4 0).2.1 y j = _
        rw [q_sI_I, if_neg b]
      have S1 : h_S C1 (P.fi b) (P.en b) X W false := by
        refine ⟨fun j j1 j2 => ?_, ?_⟩
        · show (q_sI C 81 4 0).2.1 82 j = _ ∧ (q_sI C 81 4 0).2.1 83 j = _
          rw [q_sI_I, q_sI_I, if_neg (by omega), if_neg (by omega)]
          exact hS.1 j j1 j2
        · show (q_sI C 81 4 0).2.1 81 4 = _
          rw [q_sI_I, if_pos ⟨rfl, rfl⟩]; rfl
      have N1 := N.hf hp hq f1
      obtain ⟨C2, X2, W2, s2, y1, y2, y3, y4, y5, y6, y7, y8, y9, y10⟩ := z_round (r := r) hp hq hG hK hb (P.en b - P.fi b) (P.fi b) C1 X W false (by have := B.lt; omega) (Nat.le_refl _) N1 S1 hs hcl (fun j j1 j2 _ => Or.inl j1)
      have st : tX3_firstFault_39 p (nI b) (nI (P.fi b)) (nI (P.en b)) (nI r, C) = some (.inr (nI (r + 1), C2)) := by
        have n1 : ¬ q_b true = 0 := by decide
        simp only [tX3_firstFault_39, if_neg lim, hS.2, hs', if_neg n1, Option.bind_some]
        exact y1
      rw [q_run_go st]
      have hr := hr hs'
      have N2 := N1.hf hp hq y8
      have hmu2 := h_mu_le (P.fi b) (P.en b) X2 (by omega)
      cases hs2 : s2 with
      | true =>
        have hlt := y6 rfl hs2
        obtain ⟨C', X', x1, x2, x3, x4, x5, x6, x7⟩ := ih (9217 - h_mu (P.fi b) (P.en b) X2) (by omega) (r + 1) C2 X2 W2 s2 rfl (fun _ => by omega) (by omega) N2 y2 y3 y4 y5
        exact ⟨C', X', x1, x2, x3, x4, fun j => (y7 j).trans (x5 j), (f1.trans y8).trans x6, fun h => x7 (y10 h)⟩
      | false =>
        -- nothing has changed: the next look ends it
        have hall : ∀ j, P.fi b ≤ j → j < P.en b → W2 j = false := fun j j1 j2 => by
          cases hw : W2 j with
          | false => rfl
          | true => rw [y5 j j1 j2 hw] at hs2; cases hs2
        have lim2 : ¬ (1000000 : Int32) ≤ nI (r + 1) := by rw [show (1000000 : Int32) = nI 1000000 from rfl, z_leN (by decide) (by omega)]; omega
        refine ⟨C2, X2, ?_, ⟨fun i i1 i2 => ?_, ?_⟩, y3, fun j j1 j2 => y4 j j1 j2 (hall j j1 j2), y7, f1.trans y8, y10⟩
        · rw [q_run_step]
          simp only [tX3_firstFault_39, if_neg lim2, y2.2, hs2]
          show Option.bind (Option.bind (fX3_firstFault_107 C2 p (nI (P.en b)) (nI (P.fi b))) _) _ = _
          cases fX3_firstFault_107 C2 p (nI (P.en b)) (nI (P.fi b)) <;> rfl
        · rw [← hall i i1 i2]; exact y2.1 i i1 i2
        · rw [← hs2]; exact y2.2
end ZHC2
