/-! ===== types: the class from its start ===== -/
section ZTC5
variable {C D : QS} {n p q m b : Nat} {g : ZT} {K : ZK} {M : ZM} {P : ZP} {hh : Nat → Int32}
theorem k_bp_tok {b k : Nat} (hK : k_K g K) (J : m_J p q n g K M C D) (hb : b < M.bc) (hk : k < M.ba b) : k_tok K (M.bp b k) := by
  obtain ⟨e, H⟩ := J.hd b hb
  rw [H.bp k hk, k_pi]
  have hba := H.ba
  by_cases c : k < m_n0 M b
  · rw [if_pos c]; exact Or.inl (J.mB.2.1 b hb).2
  · rw [if_neg c]
    have hs := H.ty (M.bw b + 2 + (k - m_n0 M b)) (by omega) (by omega)
    cases ht : k_ty g K (M.bw b + 2 + (k - m_n0 M b)) with
    | none => rw [ht] at hs; cases hs
    | some x => exact k_ty_rng hK.1 ht
theorem k_ent_vt (hK : k_K g K) (J : m_J p q n g K M C D) (hb : b < M.bc) : k_rvt K 12 (k_ent M b) := by
  intro s hs
  rw [k_ent]
  split
  · next c => exact Or.inl (k_bp_tok hK J hb c)
  · exact Or.inr (Or.inr rfl)
/-- the first row -/
theorem z_tyEnter2 (hp : z_pp p) (hq : z_qq q) (hK : k_K g K) (hb : b < M.bc) : ∀ d k C, k + d = 12 → s_N p q n g K M P m C D → (∀ j, q_byt (C.2.1 88 j)) → ty_RW C k (k_ent M b) → ∃ C', q_run (tX9_enter_2 p (nI b)) (nI k, C) = (fX9_arrive C' p (nI (P.fi b))).bind some ∧ ty_p C C' ∧ ty_RW C' 12 (k_ent M b) := by
  intro d
  induction d with
  | zero =>
    intro k C hk N hb2 hR
    have h48 := N.S.mJ.mB.1
    have hk12 : k = 12 := by omega
    subst hk12
    refine ⟨C, ?_, ⟨fun _ _ _ => rfl, rfl, rfl, hb2⟩, hR⟩
    rw [q_run_step]
    have g1 : (12 : Int32) ≤ nI 12 := by decide
    simp only [tX9_enter_2, if_pos g1, z_inbN (show b < 48 by omega) (by decide), if_true, z_cl (show b < 2147483648 by omega), (N.B b hb).C1]
    cases fX9_arrive C p (nI (P.fi b)) <;> rfl
  | succ d ih =>
    intro k C hk N hb2 hR
    have h48 := N.S.mJ.mB.1
    have g1 : ¬ (12 : Int32) ≤ nI k := by rw [show (12 : Int32) = nI 12 from rfl, z_leN (by omega) (by omega)]; omega
    have hv := k_vt_lt hK (k_ent_vt hK N.S.mJ hb k (by omega))
    have hby := z_bytN (show k_ent M b k ≤ 127 by omega)
    obtain ⟨e, H⟩ := N.S.mJ.hd b hb
    have ha := H.bl
    have ha2 := H.b12
    obtain ⟨x1, x2, x3, x4, x5, x6, x7, x8⟩ := N.S.mJ.cB.2 b hb
    have st : tX9_enter_2 p (nI b) (nI k, C) = some (.inr (nI (k + 1), q_sI C 88 k (nI (k_ent M b k)))) := by
      have e12 : nI b * (12 : Int32) = nI (b * 12) := nI_mulN b 12
      have lt : (nI (M.ba b) ≤ nI k) = (M.ba b ≤ k) := z_leN (by omega) (by omega)
      simp only [tX9_enter_2, if_neg g1, z_inbN (show b < 48 by omega) (by decide), if_true, z_cl (show b < 2147483648 by omega), x4, e12, nI_add, lt, z_inbN (show b * 12 + k < 576 by omega) (by decide), z_cl (show b * 12 + k < 2147483648 by omega), z_inbN (show k < 20 by omega) (by decide), z_cl (show k < 2147483648 by omega), nI_1]
      by_cases c : M.ba b ≤ k
      · rw [if_pos c, Option.bind_some, Option.bind_some, k_ent, if_neg (by omega)]
        rfl
      · rw [k_ent, if_pos (by omega)] at hby
        rw [if_neg c, Option.bind_some, Option.bind_some, x8 k (by omega), k_ent, if_pos (by omega), z_bytv hby, z_bytn hby]
    have q1 := ty_p.set (k := k) hb2 hby
    have f1 : ty_f 0 0 C (q_sI C 88 k (nI (k_ent M b k))) := ⟨fun y j _ _ a _ _ => q1.1 y j a, rfl, rfl⟩
    obtain ⟨C', z1, z2, z3⟩ := ih (k + 1) _ (by omega) (N.tf hp hq f1) q1.2.2.2 (by
      intro s hs
      rw [q_sI_I]
      by_cases e : s = k
      · rw [if_pos ⟨rfl, e⟩, e]
      · rw [if_neg (by omega)]; exact hR s (by omega))
    exact ⟨C', (q_run_go st).trans z1, ⟨fun y j h => (z2.1 y j h).trans (q1.1 y j h), z2.2.1, z2.2.2.1, z2.2.2.2⟩, z3⟩
def ty_cln (C : QS) : Prop := (∀ i, i < 1024 → C.2.1 87 i = 0) ∧ C.2.1 84 6 = 0 ∧ ty_by C
/-- nothing is reached -/
theorem z_tyClear {F E : Nat} (hE : E ≤ 1024) (hp : z_pp p) : ∀ d i C, i + d = E → ∃ C', q_run (tX9_firstFault_23 p (nI b) (nI F) (nI E)) (nI i, C) = (fX9_enter C' p (nI b)).bind (fun r19 => (fX9_firstFault_51 r19 p (nI b) (nI F) (nI E) ((0 : Int32))).bind some) ∧ (∀ y j, C'.2.1 y j = if y = 86 ∧ i ≤ j ∧ j < E then 0 else C.2.1 y j) ∧ C'.1 = C.1 ∧ C'.2.2 = C.2.2 := by
  intro d
  induction d with
  | zero =>
    intro i C hi
    refine ⟨C, ?_, fun y j => by rw [if_neg (by omega)], rfl, rfl⟩
    rw [q_run_step]
    have g1 : nI E ≤ nI i := by rw [z_leN (by omega) (by omega)]; omega
    simp only [tX9_firstFault_23, if_pos g1]
    cases fX9_enter C p (nI b) with
    | none => rfl
    | some x =>
      simp only [Option.bind_some]
      cases fX9_firstFault_51 x p (nI b) (nI F) (nI E) 0 <;> rfl
  | succ d ih =>
    intro i C hi
    have g1 : ¬ nI E ≤ nI i := by rw [z_leN (by omega) (by omega)]; omega
    have st : tX9_firstFault_23 p (nI b) (nI F) (nI E) (nI i, C) = some (.inr (nI (i + 1), q_sI C 86 i 0)) := by
      simp only [tX9_firstFault_23, if_neg g1, z_inbN (show i < 1024 by omega) (by decide), if_true, Option.bind_some, z_cl (show i < 2147483648 by omega), nI_1]
      rfl
    obtain ⟨C', z1, z2, z3, z4⟩ := ih (i + 1) (q_sI C 86 i 0) (by omega)
    refine ⟨C', (q_run_go st).trans z1, fun y j => ?_, z3, z4⟩
    rw [z2, q_sI_I]
    by_cases c : y = 86 ∧ i + 1 ≤ j ∧ j < E
    · rw [if_pos c, if_pos (by omega)]
    · rw [if_neg c]
      by_cases e : y = 86 ∧ j = i
      · rw [if_pos e, if_pos (by omega)]
      · rw [if_neg e, if_neg (by omega)]
theorem z_tyCls (hp : z_pp p) (hq : z_qq q) (hG : z_G n g) (hK : k_K g K) (ok : h_ok M P b hh) (N : s_N p q n g K M P m C D) (hb : b < M.bc) (hc : ∀ i, P.fi b ≤ i → i < P.en b → C.2.1 (p + 17) i = hh i) (cl : ty_cln C) : ∃ C' R T, fX9_firstFault C p (nI b) = fX9_firstFault_119 C' p (nI (P.en b)) (nI (P.fi b)) ∧ ty_I p q n g K M P m b hh D C' R T (fun _ => false) false ∧ ty_cld K M P hh b R T ∧ ty_f (P.fi b) (P.en b) C C' := by
  have B := N.B b hb
  have hle := B.le
  have hlt := B.lt
  have bn := N.S.bn
  have h48 := N.S.mJ.mB.1
  obtain ⟨C1, z1, z2, z3, z4⟩ := z_tyClear (b := b) (F := P.fi b) (show P.en b ≤ 1024 by omega) hp (P.en b - P.fi b) (P.fi b) C (by omega)
  have f1 : ty_f (P.fi b) (P.en b) C C1 := ⟨fun y j _ h _ _ _ => by rw [z2, if_neg (by omega)], z3, z4⟩
  have N1 := N.tf hp hq f1
  obtain ⟨C2, y1, y2, y3⟩ := z_tyEnter2 hp hq hK hb 12 0 C1 (by omega) N1 (fun j => by rw [z2, if_neg (by omega)]; exact (cl.2.2 j).2) (fun s hs => by omega)
  have f2 : ty_f (P.fi b) (P.en b) C1 C2 := ⟨fun y j _ _ h _ _ => y2.1 y j h, y2.2.1, y2.2.2.1⟩
  let R0 : Nat → Bool := fun _ => false
  let T0 : Nat → Nat → Nat := fun _ _ => 0
  have I2 : ty_I p q n g K M P m b hh D C2 R0 T0 (fun _ => false) false := by
    refine ⟨N1.tf hp hq f2, fun i a c => ?_, ⟨fun i a c => ?_, ?_, fun j => ⟨?_, y2.2.2.2 j⟩⟩, (fun R' T' _ i _ _ h => by cases h), (fun i _ _ h => by cases h), (fun _ h => by cases h)⟩
    · rw [y2.1 _ _ (by rcases hp with rfl | rfl <;> omega), z2, if_neg (by rcases hp with rfl | rfl <;> omega)]; exact hc i a c
    · rw [y2.1 _ _ (by decide), y2.1 _ _ (by decide), z2, if_pos (by omega), z2, if_neg (by omega)]
      exact ⟨rfl, cl.1 i (by omega), (fun h => by cases h)⟩
    · rw [y2.1 _ _ (by decide), z2, if_neg (by omega)]; exact cl.2.1
    · rw [y2.1 _ _ (by decide), z2, if_neg (by omega)]; exact (cl.2.2 j).1
  have hj := ok.hi (Nat.le_refl _) hlt ok.1 (by omega)
  have hw : k_wd hh (P.fi b) = 12 := by rw [k_wd, k_hN_of ok.1 (by omega)]
  obtain ⟨C3, R3, T3, W3, s3, x1, x2, x3, x4, x5, x6, x7⟩ := z_tyArr hp hq hK ok hb I2 (Nat.le_refl _) hlt hj (r := k_ent M b) (by rw [hw]; exact y3) (by rw [hw]; exact k_ent_vt hK N.S.mJ hb) (fun R' T' h => by rw [hw]; exact h.1)
  have hs3 : s3 = true := by
    cases h : s3 with
    | true => rfl
    | false =>
      exfalso
      cases hw3 : W3 (P.fi b) with
      | true =>
        rcases x3.g4 _ hw3 with c | c
        · cases c
        · rw [h] at c; cases c
      | false =>
        have := (x3.g2 _ hw3).1.1
        rw [x4] at this; cases this
  obtain ⟨C4, R4, T4, u1, u2, u3, u4, u5⟩ := z_tyRounds hp hq hG hK ok hb _ 0 C3 R3 T3 W3 s3 rfl (fun h => Nat.lt_of_le_of_lt (Nat.zero_le _) (x3.g6 rfl hs3)) (by omega) x2 (fun j j1 j2 hw => by
    intro hR
    have := (x3.g2 j hw).1.1
    rw [hR] at this; cases this) (fun j j1 j2 hw => hs3)
  refine ⟨C4, R4, T4, ?_, u2, ⟨?_, u2.v, u3⟩, ((f1.trans f2).trans x6).trans u5⟩
  · simp only [fX9_firstFault, z_inbN (show b < 48 by omega) (by decide), if_true, z_cl (show b < 2147483648 by omega), B.C1, B.C2]
    show q_run (tX9_firstFault_23 p (nI b) (nI (P.fi b)) (nI (P.en b))) (nI (P.fi b), C) = _
    rw [z1]
    show Option.bind (q_run (tX9_enter_2 p (nI b)) (nI 0, C1)) _ = _
    rw [y1, x1]
    show Option.bind (q_run (tX9_firstFault_51 p (nI b) (nI (P.fi b)) (nI (P.en b))) (nI 0, C3)) some = _
    rw [u1]
    cases fX9_firstFault_119 C4 p (nI (P.en b)) (nI (P.fi b)) <;> rfl
  · obtain ⟨v1, v2⟩ := u4 _ x4
    rw [hw] at x5 v2
    exact ⟨v1, x5.trans hK v2⟩
end ZTC5
