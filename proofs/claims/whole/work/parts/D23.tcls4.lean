/-! ===== types: the class's rounds ===== -/
section ZTC4
variable {C D : QS} {n p q m b : Nat} {g : ZT} {K : ZK} {M : ZM} {P : ZP} {hh : Nat → Int32}
theorem z_tyRound {r : Nat} (hp : z_pp p) (hq : z_qq q) (hG : z_G n g) (hK : k_K g K) (ok : h_ok M P b hh) (hb : b < M.bc) : ∀ d i C R T W s, i + d = P.en b → P.fi b ≤ i → ty_I p q n g K M P m b hh D C R T W s → (∀ j, P.fi b ≤ j → j < P.en b → W j = false → ty_cl K M P hh R T j) → (∀ j, P.fi b ≤ j → j < P.en b → W j = true → i ≤ j ∨ s = true) → ∃ C' R' T' W' s', q_run (tX9_firstFault_73 p (nI b) (nI (P.fi b)) (nI (P.en b))) (nI r, nI i, C) = some (.inr (nI (r + 1), C')) ∧ ty_I p q n g K M P m b hh D C' R' T' W' s' ∧ (∀ j, P.fi b ≤ j → j < P.en b → W' j = false → ty_cl K M P hh R' T' j) ∧ (∀ j, P.fi b ≤ j → j < P.en b → W' j = true → s' = true) ∧ (s = false → s' = true → ty_mu hh (P.fi b) (P.en b) R T < ty_mu hh (P.fi b) (P.en b) R' T') ∧ (∀ j, R j = true → R' j = true ∧ k_rle K (k_wd hh j) (T j) (T' j)) ∧ ty_f (P.fi b) (P.en b) C C' ∧ ty_mu hh (P.fi b) (P.en b) R T ≤ ty_mu hh (P.fi b) (P.en b) R' T' := by
  intro d
  induction d with
  | zero =>
    intro i C R T W s hi hF I hcl hW
    have B := I.N.B b hb
    have hle := B.le
    have bn := I.N.S.bn
    refine ⟨C, R, T, W, s, q_run_ret ?_, I, hcl, fun j j1 j2 hj => ?_, (fun a b => by rw [a] at b; cases b), fun j h => ⟨h, k_rle.refl _⟩, ty_f.refl _ _ _, Nat.le_refl _⟩
    · simp only [tX9_firstFault_73]
      rw [if_pos (by rw [z_leN (by omega) (by omega)]; omega), nI_1]
    · rcases hW j j1 j2 hj with h | h
      · omega
      · exact h
  | succ d ih =>
    intro i C R T W s hi hF I hcl hW
    have B := I.N.B b hb
    have hle := B.le
    have bn := I.N.S.bn
    have hiE : i < P.en b := by omega
    have g1 : ¬ nI (P.en b) ≤ nI i := by rw [z_leN (by omega) (by omega)]; omega
    have i1 := z_inbN (show i < 1024 by omega) (by decide)
    have c1 := z_cl (show i < 2147483648 by omega)
    have w87 := (I.S.1 i hF hiE).2.1
    cases hw : W i with
    | false =>
      have st : tX9_firstFault_73 p (nI b) (nI (P.fi b)) (nI (P.en b)) (nI r, nI i, C) = some (.inr (nI r, nI (i + 1), C)) := by
        simp only [tX9_firstFault_73, if_neg g1, i1, if_true, c1, w87, hw, nI_1]
        rfl
      rw [q_run_go st]
      exact ih (i + 1) C R T W s (by omega) (by omega) I hcl (fun j j1 j2 hj => by
        rcases hW j j1 j2 hj with h | h
        · by_cases e : j = i
          · subst e; rw [hw] at hj; cases hj
          · exact Or.inl (by omega)
        · exact Or.inr h)
    | true =>
      let C1 : QS := q_sI C 87 i 0
      have gC : ∀ y j, C1.2.1 y j = if y = 87 ∧ j = i then 0 else C.2.1 y j := by intro y j; simp only [C1, q_sI_I]
      have f1 : ty_f (P.fi b) (P.en b) C C1 := ⟨fun y j _ _ _ a _ => by rw [gC, if_neg (by omega)], rfl, rfl⟩
      have I1 : ty_I p q n g K M P m b hh D C1 R T (k_up W i false) s := by
        refine ⟨I.N.tf hp hq f1, fun j a c => ?_, ⟨fun j a c => ?_, ?_, fun j => ?_⟩, I.sd, I.v, fun j hj => ?_⟩
        · rw [gC, if_neg (by rcases hp with rfl | rfl <;> omega)]; exact I.hc j a c
        · obtain ⟨y1, y2, y3⟩ := I.S.1 j a c
          rw [gC, if_neg (by omega), gC]
          refine ⟨y1, ?_, fun h s hs => ?_⟩
          · by_cases e : j = i
            · subst e; rw [if_pos ⟨rfl, rfl⟩, k_up_eq]; rfl
            · rw [if_neg (by omega), k_up_ne e]; exact y2
          · rw [gC, if_neg (by omega)]; exact y3 h s hs
        · rw [gC, if_neg (by omega)]; exact I.S.2.1
        · rw [gC, if_neg (by omega), gC, if_neg (by omega)]; exact I.S.2.2 j
        · by_cases e : j = i
          · subst e; exact I.w j hw
          · rw [k_up_ne e] at hj; exact I.w j hj
      obtain ⟨C2, R2, T2, W2, s2, z1, z2, z3, z5, z6⟩ := z_tySpread hp hq hG hK ok hb I1 hF hiE (I.w i hw)
      have st : tX9_firstFault_73 p (nI b) (nI (P.fi b)) (nI (P.en b)) (nI r, nI i, C) = some (.inr (nI r, nI (i + 1), C2)) := by
        have n1 : ¬ q_b true = 0 := by decide
        simp only [tX9_firstFault_73, if_neg g1, i1, if_true, c1, w87, hw, if_neg n1, nI_1, Option.bind_some]
        show (fX9_spread C1 p (nI i) (nI b)).bind _ = _
        rw [z1]
        rfl
      rw [q_run_go st]
      obtain ⟨C', R', T', W', s', y1, y2, y4, y5, y6, y7, y8, y9⟩ := ih (i + 1) C2 R2 T2 W2 s2 (by omega) (by omega) z2 (fun j j1 j2 hj => by
        by_cases e : j = i
        · subst e; exact z5 hj
        · obtain ⟨⟨q1, q1'⟩, q2⟩ := z3.g2 j hj
          rw [k_up_ne e] at q2
          exact (hcl j j1 j2 q2).grow hK I.N ok hb j1 j2 I.v q1 q1' z3.g1) (fun j j1 j2 hj => by
        rcases z3.g4 j hj with h | h
        · by_cases e : j = i
          · subst e; rw [k_up_eq] at h; cases h
          · rw [k_up_ne e] at h
            rcases hW j j1 j2 h with h' | h'
            · exact Or.inl (by omega)
            · exact Or.inr (z3.g3 h')
        · exact Or.inr h)
      refine ⟨C', R', T', W', s', y1, y2, y4, y5, fun a b => ?_, fun j h => ?_, (f1.trans z6).trans y8, Nat.le_trans z3.g5 y9⟩
      · cases hs2 : s2 with
        | true => exact Nat.lt_of_lt_of_le (z3.g6 a hs2) y9
        | false => exact Nat.lt_of_le_of_lt z3.g5 (y6 hs2 b)
      · obtain ⟨u1, u2⟩ := z3.g1 j h
        obtain ⟨v1, v2⟩ := y7 j u1
        exact ⟨v1, u2.trans hK v2⟩
theorem ty_I.done {R : Nat → Bool} {T : Nat → Nat → Nat} {W : Nat → Bool} {s : Bool} (I : ty_I p q n g K M P m b hh D C R T W s) (hs : s = false) (hW : ∀ j, P.fi b ≤ j → j < P.en b → W j = true → s = true) : ty_I p q n g K M P m b hh D C R T (fun _ => false) false ∧ ∀ j, P.fi b ≤ j → j < P.en b → W j = false := by
  have hall : ∀ j, P.fi b ≤ j → j < P.en b → W j = false := fun j j1 j2 => by
    cases hw : W j with
    | false => rfl
    | true => rw [hW j j1 j2 hw] at hs; cases hs
  refine ⟨⟨I.N, I.hc, ⟨fun i i1 i2 => ?_, ?_, I.S.2.2⟩, I.sd, I.v, (fun _ h => by cases h)⟩, hall⟩
  · rw [← hall i i1 i2]; exact I.S.1 i i1 i2
  · rw [← hs]; exact I.S.2.1
/-- all rounds -/
theorem z_tyRounds (hp : z_pp p) (hq : z_qq q) (hG : z_G n g) (hK : k_K g K) (ok : h_ok M P b hh) (hb : b < M.bc) : ∀ d r C R T W s, 697345 - ty_mu hh (P.fi b) (P.en b) R T = d → (s = true → r + 1 ≤ ty_mu hh (P.fi b) (P.en b) R T) → r ≤ 697345 → ty_I p q n g K M P m b hh D C R T W s → (∀ j, P.fi b ≤ j → j < P.en b → W j = false → ty_cl K M P hh R T j) → (∀ j, P.fi b ≤ j → j < P.en b → W j = true → s = true) → ∃ C' R' T', q_run (tX9_firstFault_51 p (nI b) (nI (P.fi b)) (nI (P.en b))) (nI r, C) = fX9_firstFault_119 C' p (nI (P.en b)) (nI (P.fi b)) ∧ ty_I p q n g K M P m b hh D C' R' T' (fun _ => false) false ∧ (∀ j, P.fi b ≤ j → j < P.en b → ty_cl K M P hh R' T' j) ∧ (∀ j, R j = true → R' j = true ∧ k_rle K (k_wd hh j) (T j) (T' j)) ∧ ty_f (P.fi b) (P.en b) C C' := by
  intro d
  induction d using Nat.strongRecOn with
  | _ d ih =>
    intro r C R T W s hd hr hr2 I hcl hW
    have B := I.N.B b hb
    have hle := B.le
    have bn := I.N.S.bn
    have h8 : ∀ i, P.fi b ≤ i → i < P.en b → k_hN hh i ≤ 8 := fun i a c => ok.h8 a c
    have hmu := ty_mu_le (P.fi b) (P.en b) R T (by omega) h8
    have lim : ¬ (1000000 : Int32) ≤ nI r := by rw [show (1000000 : Int32) = nI 1000000 from rfl, z_leN (by decide) (by omega)]; omega
    cases hs' : s with
    | false =>
      obtain ⟨I', hall⟩ := I.done hs' hW
      refine ⟨C, R, T, ?_, I', fun j j1 j2 => hcl j j1 j2 (hall j j1 j2), fun j h => ⟨h, k_rle.refl _⟩, ty_f.refl _ _ _⟩
      rw [q_run_step]
      simp only [tX9_firstFault_51, if_neg lim, I.S.2.1, hs']
      show Option.bind (Option.bind (fX9_firstFault_119 C p (nI (P.en b)) (nI (P.fi b))) _) _ = _
      cases fX9_firstFault_119 C p (nI (P.en b)) (nI (P.fi b)) <;> rfl
    | true =>
      let C1 : QS := q_sI C 84 6 0
      have gC : ∀ y j, C1.2.1 y j = if y = 84 ∧ j = 6 then 0 else C.2.1 y j := by intro y j; simp only [C1, q_sI_I]
      have f1 : ty_f (P.fi b) (P.en b) C C1 := ⟨fun y j _ _ _ _ a => by rw [gC, if_neg a], rfl, rfl⟩
      have I1 : ty_I p q n g K M P m b hh D C1 R T W false := by
        refine ⟨I.N.tf hp hq f1, fun j a c => ?_, ⟨fun j a c => ?_, ?_, fun j => ?_⟩, I.sd, I.v, I.w⟩
        · rw [gC, if_neg (by rcases hp with rfl | rfl <;> omega)]; exact I.hc j a c
        · obtain ⟨y1, y2, y3⟩ := I.S.1 j a c
          rw [gC, if_neg (by omega), gC, if_neg (by omega)]
          exact ⟨y1, y2, fun h s hs => by rw [gC, if_neg (by omega)]; exact y3 h s hs⟩
        · rw [gC, if_pos ⟨rfl, rfl⟩]; rfl
        · rw [gC, if_neg (by omega), gC, if_neg (by omega)]; exact I.S.2.2 j
      obtain ⟨C2, R2, T2, W2, s2, y1, y2, y4, y5, y6, y7, y8, y9⟩ := z_tyRound (r := r) hp hq hG hK ok hb (P.en b - P.fi b) (P.fi b) C1 R T W false (by have := B.lt; omega) (Nat.le_refl _) I1 hcl (fun j j1 j2 _ => Or.inl j1)
      have st : tX9_firstFault_51 p (nI b) (nI (P.fi b)) (nI (P.en b)) (nI r, C) = some (.inr (nI (r + 1), C2)) := by
        have n1 : ¬ q_b true = 0 := by decide
        simp only [tX9_firstFault_51, if_neg lim, I.S.2.1, hs', if_neg n1, Option.bind_some]
        exact y1
      rw [q_run_go st]
      have hr := hr hs'
      have hmu2 := ty_mu_le (P.fi b) (P.en b) R2 T2 (by omega) h8
      cases hs2 : s2 with
      | true =>
        have hlt := y6 rfl hs2
        obtain ⟨C', R', T', x1, x2, x4, x5, x6⟩ := ih (697345 - ty_mu hh (P.fi b) (P.en b) R2 T2) (by omega) (r + 1) C2 R2 T2 W2 s2 rfl (fun _ => by omega) (by omega) y2 y4 y5
        refine ⟨C', R', T', x1, x2, x4, fun j h => ?_, (f1.trans y8).trans x6⟩
        obtain ⟨u1, u2⟩ := y7 j h
        obtain ⟨v1, v2⟩ := x5 j u1
        exact ⟨v1, u2.trans hK v2⟩
      | false =>
        obtain ⟨I', hall⟩ := y2.done hs2 y5
        have lim2 : ¬ (1000000 : Int32) ≤ nI (r + 1) := by rw [show (1000000 : Int32) = nI 1000000 from rfl, z_leN (by decide) (by omega)]; omega
        refine ⟨C2, R2, T2, ?_, I', fun j j1 j2 => y4 j j1 j2 (hall j j1 j2), y7, f1.trans y8⟩
        rw [q_run_step]
        simp only [tX9_firstFault_51, if_neg lim2, y2.S.2.1, hs2]
        show Option.bind (Option.bind (fX9_firstFault_119 C2 p (nI (P.en b)) (nI (P.fi b))) _) _ = _
        cases fX9_firstFault_119 C2 p (nI (P.en b)) (nI (P.fi b)) <;> rfl
end ZTC4
