/-! ===== both read the lines alike ===== -/
section ZLALL
variable {C D : QS} {n p q : Nat} {g : ZT} {K : ZK} {M : ZM} {P : ZP}
theorem z_lowSkip (ho : e_ok g) {t' : Nat} (h' : t' ≤ g.1) : ∀ d t, t + d = t' → e_low g t → (∀ i, t ≤ i → i < t' → e_kind g i ≠ 50 ∧ e_kind g i ≠ 51) → e_low g t' ∧ ∀ i, t ≤ i → i < t' → e_kind g i = 53 ∨ e_kind g i = 48 ∨ e_kind g i = 49 := by
  intro d
  induction d with
  | zero =>
    intro t ht hl _
    have : t = t' := by omega
    subst this
    exact ⟨hl, fun i i1 i2 => by omega⟩
  | succ d ih =>
    intro t ht hl hn
    obtain ⟨k1, k2⟩ := e_low_kind ho (show t < g.1 by omega) hl
    have hk := hn t (Nat.le_refl _) (by omega)
    obtain ⟨r1, r2⟩ := ih (t + 1) (by omega) (k2 hk.1 hk.2) (fun i i1 i2 => hn i (by omega) i2)
    refine ⟨r1, fun i i1 i2 => ?_⟩
    by_cases c : i = t
    · subst c
      rcases k1 with x | x | x | ⟨x | x, -⟩
      · exact Or.inr (Or.inl x)
      · exact Or.inr (Or.inr x)
      · exact Or.inl x
      · exact absurd x hk.1
      · exact absurd x hk.2
    · exact r2 i (by omega) i2
/-- what the lines give -/
def c_N (p q n : Nat) (g : ZT) (K : ZK) (M : ZM) (P : ZP) (C D : QS) : Prop := c_S p q n g K M P C D ∧ (∀ c, c < M.bc → c_B p q P c C D)
theorem z_linesW (hp : z_pp p) (hq : z_qq q) (hG : z_G n g) (hK : k_K g K) (ho : e_ok g) : ∀ m b t C D P, b + m = M.bc → t ≤ g.1 → e_low g t → (∀ c, c < b → M.bw c ≤ t) → (b < M.bc → t < M.bw b) → c_S p q n g K M P C D → (∀ c, c < b → c_B p q P c C D) → (∀ i, i < P.n → P.bd i < b) → (∀ k, k < P.nc → P.cb k < b) → C.2.1 78 8 + 1 = nI b → ∃ r r', q_run (tX4_lineFault_7 p) (nI t, C) = some r ∧ q_run (tX12_lines_17 q) (nI b, D) = some r' ∧ z_offC p C r.2 ∧ z_offD q D r'.2 ∧ (z_flt g r r' ∨ (r.1 = -1 ∧ r'.1 = true ∧ ∃ P', c_N p q n g K M P' r.2 r'.2)) := by
  have b1 := hG.1
  have b2 := hG.2.1
  intro m
  induction m with
  | zero =>
    intro b t C D P hb ht hl hbw hnx S hB hbd hcb h8
    have eb : b = M.bc := by omega
    subst eb
    have h48 := S.mJ.mB.1
    obtain ⟨-, sk⟩ := z_lowSkip ho (Nat.le_refl _) (g.1 - t) t (by omega) hl (fun i i1 i2 => by
      have x : ¬ (e_kind g i = 50 ∨ e_kind g i = 51) := fun hk => by
        obtain ⟨c, c1, c2⟩ := S.mJ.mP.1 i i2 hk
        have := hbw c c1
        omega
      exact not_or.mp x)
    have s1 : tX4_lineFault_7 p (nI g.1, C) = some (.inl (-1, C)) := by
      simp only [tX4_lineFault_7, S.mJ.hC.2.1]
      rw [if_pos (by rw [z_leN (by omega) (by omega)]; exact Nat.le_refl _)]
    have s2 : tX12_lines_17 q (nI M.bc, D) = some (.inl (true, D)) := by
      simp only [tX12_lines_17, S.mJ.dB.1]
      rw [if_pos (by rw [z_leN (by omega) (by omega)]; exact Nat.le_refl _)]
    refine ⟨_, _, (z_lSkip S.mJ.hC.2.1 (by omega) S.mJ.kd (Nat.le_refl _) (g.1 - t) t (by omega) sk).trans (q_run_ret s1), q_run_ret s2, z_offC.refl p C, z_offD.refl q D, Or.inr ⟨rfl, rfl, P, S, hB⟩⟩
  | succ m ih =>
    intro b t C D P hb ht hl hbw hnx S hB hbd hcb h8
    have hbb : b < M.bc := by omega
    have h48 := S.mJ.mB.1
    have hnx := hnx hbb
    obtain ⟨e, H⟩ := S.mJ.hd b hbb
    have hbg := (S.mJ.mB.2.1 b hbb).1
    obtain ⟨low, sk⟩ := z_lowSkip ho (show M.bw b - 1 ≤ g.1 by omega) (M.bw b - 1 - t) t (by omega) hl (fun i i1 i2 => by
      have x : ¬ (e_kind g i = 50 ∨ e_kind g i = 51) := fun hk => by
        obtain ⟨c, c1, c2⟩ := S.mJ.mP.1 i (by omega) hk
        by_cases cb : c < b
        · have := hbw c cb; omega
        · by_cases ce : c = b
          · subst ce; omega
          · have := S.mJ.mP.2.1 b c (by omega) c1; omega
      exact not_or.mp x)
    rw [z_lSkip S.mJ.hC.2.1 (by omega) S.mJ.kd (show M.bw b - 1 ≤ g.1 by omega) (M.bw b - 1 - t) t (by omega) sk]
    obtain ⟨te, t1, t2, t3, t4, h⟩ := z_bodyAll hp hq hG hK ho S hB hbd hcb h8 hbb H
    have g1 : ¬ nI M.bc ≤ nI b := by rw [z_leN (by omega) (by omega)]; omega
    rcases h with ⟨r, r', x1, x2, x3, x4, x5⟩ | ⟨C', D', P', x1, x2, x3, x4, S', hB', hbd', hcb', h8'⟩
    · obtain ⟨f, f1, f2, f3, f4⟩ := id x5
      have s2 : tX12_lines_17 q (nI b, D) = some (.inl (false, r'.2)) := by
        simp only [tX12_lines_17, S.mJ.dB.1, if_neg g1, x2, Option.bind_some, f3, Bool.false_eq_true, if_false]
      exact ⟨r, _, x1, q_run_ret s2, x3, x4, Or.inl ⟨f, f1, f2, rfl, f4⟩⟩
    · have s2 : tX12_lines_17 q (nI b, D) = some (.inr (nI (b + 1), D')) := by
        simp only [tX12_lines_17, S.mJ.dB.1, if_neg g1, x2, Option.bind_some, if_true, nI_1]
      rw [x1, q_run_go s2]
      have low' : e_low g (te + 1) := by rw [e_low, t1]; decide
      obtain ⟨r, r', y1, y2, y3, y4, y5⟩ := ih (b + 1) (te + 1) C' D' P' (by omega) (by omega) low' (fun c hc => by
        by_cases ce : c = b
        · subst ce; omega
        · have := hbw c (by omega); omega) (fun hb2 => by
        obtain ⟨e2, H2⟩ := S.mJ.hd (b + 1) hb2
        obtain ⟨d1, d2, d3, d4, d5, d6, d7, d8, d9, d10, d11, d12, d13, d14⟩ := H2.hd
        have hmono := S.mJ.mP.2.1 b (b + 1) (by omega) hb2
        by_cases c : M.bw (b + 1) - 1 ≤ te
        · exact absurd d14 (t4 (M.bw (b + 1) - 1) (by omega) c)
        · omega) S' hB' hbd' hcb' h8'
      exact ⟨r, r', y1, y2, x3.trans y3, x4.trans y4, y5⟩
def k_P0 : ZP := ((0, fun _ => 0, fun _ => 0, fun _ => 0, fun _ => 0, fun _ => 0, fun _ => 0, fun _ => 0, 0, fun _ => 0, 0, fun _ => 0, fun _ => 0, fun _ => 0, fun _ => 0, fun _ => 0, fun _ => 0, fun _ => 0, fun _ => 0, fun _ => 0) : ZP0)
theorem z_lines (hp : z_pp p) (hq : z_qq q) (hG : z_G n g) (hK : k_K g K) (ho : e_ok g) (I : m_I p q n g K M (K.cc - 1) C D) (hP : m_P g M g.1) : ∃ r r', fX4_lineFault C p = some r ∧ fX12_lines D q = some r' ∧ z_offC p C r.2 ∧ z_offD q D r'.2 ∧ (z_flt g r r' ∨ (r.1 = -1 ∧ r'.1 = true ∧ ∃ P', c_N p q n g K M P' r.2 r'.2)) := by
  have b1 := hG.1
  have b2 := hG.2.1
  have cl : fX4_lineFault C p = q_run (tX4_lineFault_7 p) (nI 0, q_sI C 78 8 (-1)) := rfl
  have dl : fX12_lines D q = q_run (tX12_lines_17 q) (nI 0, q_sI (q_sI (q_sI D q 3 0) q 4 0) q 5 0) := rfl
  have oC : z_offC p C (q_sI C 78 8 (-1)) := (z_offC.refl p C).sI (by omega)
  have oD : z_offD q D (q_sI (q_sI (q_sI D q 3 0) q 4 0) q 5 0) := (((z_offD.refl q D).sI (by omega)).sI (by omega)).sI (by omega)
  have gC : ∀ y j, y ≠ 78 → (q_sI C 78 8 (-1)).2.1 y j = C.2.1 y j := fun y j h => by rw [q_sI_I, if_neg (by omega)]
  have S0 : c_S p q n g K M k_P0 (q_sI C 78 8 (-1)) (q_sI (q_sI (q_sI D q 3 0) q 4 0) q 5 0) := by
    have nn : ∀ {α : Prop} {i : Nat}, i < 0 → α := fun h => absurd h (Nat.not_lt_zero _)
    refine ⟨(m_J.of hK I hP).fr hp hq (fun y j h => gC y j ?_) (fun y j h => ?_), ?_, ?_, ?_, ?_, ?_, ?_, fun i hi => nn hi, fun i hi => nn hi, fun i hi => nn hi, fun i hi => nn hi, fun i hi => nn hi, Nat.zero_le _, Nat.zero_le _, Nat.zero_le _, fun i hi => nn hi, fun i hi => nn hi, fun i hi => nn hi, fun i hi => nn hi⟩
    · rw [z_rC] at h; rcases hp with rfl | rfl <;> omega
    · rw [z_rD] at h
      simp only [q_sI_I]
      rcases hq with rfl | rfl <;> simp (disch := omega) only [if_neg]
    · rw [gC _ _ (by rcases hp with rfl | rfl <;> omega)]; exact I.z0.2.1
    · simp only [q_sI_I]; simp (disch := omega) only [if_neg, and_self, if_true]; rfl
    · rw [gC _ _ (by rcases hp with rfl | rfl <;> omega)]; exact I.z0.2.2.1
    · simp only [q_sI_I]; simp (disch := omega) only [if_neg, and_self, if_true]; rfl
    · rw [gC _ _ (by rcases hp with rfl | rfl <;> omega)]; exact I.z0.2.2.2
    · simp only [q_sI_I, and_self, if_true]; rfl
  rw [cl, dl]
  obtain ⟨r, r', x1, x2, x3, x4, x5⟩ := z_linesW hp hq hG hK ho M.bc 0 0 _ _ k_P0 (Nat.zero_add _) (Nat.zero_le _) (by rw [e_low, show e_st g 0 = (0, []) from rfl]; decide) (fun c hc => absurd hc (Nat.not_lt_zero _)) (fun hb => by
    obtain ⟨e, H⟩ := I.hd 0 hb
    exact H.pos) S0 (fun c hc => absurd hc (Nat.not_lt_zero _)) (fun i hi => absurd hi (Nat.not_lt_zero _)) (fun i hi => absurd hi (Nat.not_lt_zero _)) (by rw [q_sI_I, if_pos ⟨rfl, rfl⟩]; rfl)
  exact ⟨r, r', x1, x2, oC.trans x3, oD.trans x4, x5⟩
end ZLALL
