/-! ===== bodies ===== -/
/-- a body that is read -/
def c_B (p : Nat) (q : Nat) (P : ZP) (b : Nat) (C : QS) (D : QS) : Prop := (C.2.1 (p + 29) b = nI (P.fi b)) ∧ (C.2.1 (p + 30) b = nI (P.en b)) ∧ (C.2.1 (p + 31) b = nI (P.fk b)) ∧ (C.2.1 (p + 32) b = nI (P.sk b)) ∧ (D.2.1 (q + 12) b = nI (P.fi b)) ∧ (D.2.1 (q + 13) b = nI (P.en b)) ∧ (P.fi b < P.en b) ∧ (P.en b ≤ P.n) ∧ (∀ i, P.fi b ≤ i → i < P.en b → P.bd i = b) ∧ (P.op (P.en b - 1) = 19 ∨ P.op (P.en b - 1) = 41 ∨ P.op (P.en b - 1) = 42 ∨ P.op (P.en b - 1) = 43) ∧ (P.fk b ≤ P.sk b) ∧ (P.sk b ≤ P.nc) ∧ (∀ k, k < P.nc → (P.cb k = b ↔ P.fk b ≤ k ∧ k < P.sk b))
theorem c_B.C1 {p : Nat} {q : Nat} {P : ZP} {b : Nat} {C : QS} {D : QS} (I : c_B p q P b C D) : C.2.1 (p + 29) b = nI (P.fi b) := I.1
theorem c_B.C2 {p : Nat} {q : Nat} {P : ZP} {b : Nat} {C : QS} {D : QS} (I : c_B p q P b C D) : C.2.1 (p + 30) b = nI (P.en b) := I.2.1
theorem c_B.C3 {p : Nat} {q : Nat} {P : ZP} {b : Nat} {C : QS} {D : QS} (I : c_B p q P b C D) : C.2.1 (p + 31) b = nI (P.fk b) := I.2.2.1
theorem c_B.C4 {p : Nat} {q : Nat} {P : ZP} {b : Nat} {C : QS} {D : QS} (I : c_B p q P b C D) : C.2.1 (p + 32) b = nI (P.sk b) := I.2.2.2.1
theorem c_B.D1 {p : Nat} {q : Nat} {P : ZP} {b : Nat} {C : QS} {D : QS} (I : c_B p q P b C D) : D.2.1 (q + 12) b = nI (P.fi b) := I.2.2.2.2.1
theorem c_B.D2 {p : Nat} {q : Nat} {P : ZP} {b : Nat} {C : QS} {D : QS} (I : c_B p q P b C D) : D.2.1 (q + 13) b = nI (P.en b) := I.2.2.2.2.2.1
theorem c_B.lt {p : Nat} {q : Nat} {P : ZP} {b : Nat} {C : QS} {D : QS} (I : c_B p q P b C D) : P.fi b < P.en b := I.2.2.2.2.2.2.1
theorem c_B.le {p : Nat} {q : Nat} {P : ZP} {b : Nat} {C : QS} {D : QS} (I : c_B p q P b C D) : P.en b ≤ P.n := I.2.2.2.2.2.2.2.1
theorem c_B.bd {p : Nat} {q : Nat} {P : ZP} {b : Nat} {C : QS} {D : QS} (I : c_B p q P b C D) : ∀ i, P.fi b ≤ i → i < P.en b → P.bd i = b := I.2.2.2.2.2.2.2.2.1
theorem c_B.op {p : Nat} {q : Nat} {P : ZP} {b : Nat} {C : QS} {D : QS} (I : c_B p q P b C D) : P.op (P.en b - 1) = 19 ∨ P.op (P.en b - 1) = 41 ∨ P.op (P.en b - 1) = 42 ∨ P.op (P.en b - 1) = 43 := I.2.2.2.2.2.2.2.2.2.1
theorem c_B.fk {p : Nat} {q : Nat} {P : ZP} {b : Nat} {C : QS} {D : QS} (I : c_B p q P b C D) : P.fk b ≤ P.sk b := I.2.2.2.2.2.2.2.2.2.2.1
theorem c_B.sk {p : Nat} {q : Nat} {P : ZP} {b : Nat} {C : QS} {D : QS} (I : c_B p q P b C D) : P.sk b ≤ P.nc := I.2.2.2.2.2.2.2.2.2.2.2.1
theorem c_B.cb {p : Nat} {q : Nat} {P : ZP} {b : Nat} {C : QS} {D : QS} (I : c_B p q P b C D) : ∀ k, k < P.nc → (P.cb k = b ↔ P.fk b ≤ k ∧ k < P.sk b) := I.2.2.2.2.2.2.2.2.2.2.2.2
/-- the body that is being read -/
def c_U (p : Nat) (q : Nat) (g : ZT) (M : ZM) (P : ZP) (b : Nat) (F : Nat) (E : Nat) (nl : Nat) (lw : Nat → Nat) (lp : Nat → Nat) (C : QS) (D : QS) : Prop := (c_L g nl lw lp F E C D) ∧ (C.2.1 78 8 = nI b) ∧ (C.2.1 78 7 = nI E) ∧ (b < M.bc) ∧ (C.2.1 (p + 29) b = nI F) ∧ (C.2.1 (p + 31) b = nI (P.fk b)) ∧ (D.2.1 (q + 12) b = nI F) ∧ (D.2.1 (q + 13) b = nI E) ∧ (P.fi b = F) ∧ (P.en b = E) ∧ (F ≤ P.n) ∧ (∀ i, i < F → P.bd i < b) ∧ (∀ i, F ≤ i → i < P.n → P.bd i = b) ∧ (P.fk b ≤ P.nc) ∧ (∀ k, k < P.nc → (P.cb k = b ↔ P.fk b ≤ k)) ∧ (∀ k, k < P.nc → P.cb k ≤ b) ∧ (∀ c, c < b → c_B p q P c C D)
theorem c_U.L {p : Nat} {q : Nat} {g : ZT} {M : ZM} {P : ZP} {b : Nat} {F : Nat} {E : Nat} {nl : Nat} {lw : Nat → Nat} {lp : Nat → Nat} {C : QS} {D : QS} (I : c_U p q g M P b F E nl lw lp C D) : c_L g nl lw lp F E C D := I.1
theorem c_U.h8 {p : Nat} {q : Nat} {g : ZT} {M : ZM} {P : ZP} {b : Nat} {F : Nat} {E : Nat} {nl : Nat} {lw : Nat → Nat} {lp : Nat → Nat} {C : QS} {D : QS} (I : c_U p q g M P b F E nl lw lp C D) : C.2.1 78 8 = nI b := I.2.1
theorem c_U.h7 {p : Nat} {q : Nat} {g : ZT} {M : ZM} {P : ZP} {b : Nat} {F : Nat} {E : Nat} {nl : Nat} {lw : Nat → Nat} {lp : Nat → Nat} {C : QS} {D : QS} (I : c_U p q g M P b F E nl lw lp C D) : C.2.1 78 7 = nI E := I.2.2.1
theorem c_U.bb {p : Nat} {q : Nat} {g : ZT} {M : ZM} {P : ZP} {b : Nat} {F : Nat} {E : Nat} {nl : Nat} {lw : Nat → Nat} {lp : Nat → Nat} {C : QS} {D : QS} (I : c_U p q g M P b F E nl lw lp C D) : b < M.bc := I.2.2.2.1
theorem c_U.b1 {p : Nat} {q : Nat} {g : ZT} {M : ZM} {P : ZP} {b : Nat} {F : Nat} {E : Nat} {nl : Nat} {lw : Nat → Nat} {lp : Nat → Nat} {C : QS} {D : QS} (I : c_U p q g M P b F E nl lw lp C D) : C.2.1 (p + 29) b = nI F := I.2.2.2.2.1
theorem c_U.b2 {p : Nat} {q : Nat} {g : ZT} {M : ZM} {P : ZP} {b : Nat} {F : Nat} {E : Nat} {nl : Nat} {lw : Nat → Nat} {lp : Nat → Nat} {C : QS} {D : QS} (I : c_U p q g M P b F E nl lw lp C D) : C.2.1 (p + 31) b = nI (P.fk b) := I.2.2.2.2.2.1
theorem c_U.d1 {p : Nat} {q : Nat} {g : ZT} {M : ZM} {P : ZP} {b : Nat} {F : Nat} {E : Nat} {nl : Nat} {lw : Nat → Nat} {lp : Nat → Nat} {C : QS} {D : QS} (I : c_U p q g M P b F E nl lw lp C D) : D.2.1 (q + 12) b = nI F := I.2.2.2.2.2.2.1
theorem c_U.d2 {p : Nat} {q : Nat} {g : ZT} {M : ZM} {P : ZP} {b : Nat} {F : Nat} {E : Nat} {nl : Nat} {lw : Nat → Nat} {lp : Nat → Nat} {C : QS} {D : QS} (I : c_U p q g M P b F E nl lw lp C D) : D.2.1 (q + 13) b = nI E := I.2.2.2.2.2.2.2.1
theorem c_U.fi {p : Nat} {q : Nat} {g : ZT} {M : ZM} {P : ZP} {b : Nat} {F : Nat} {E : Nat} {nl : Nat} {lw : Nat → Nat} {lp : Nat → Nat} {C : QS} {D : QS} (I : c_U p q g M P b F E nl lw lp C D) : P.fi b = F := I.2.2.2.2.2.2.2.2.1
theorem c_U.en {p : Nat} {q : Nat} {g : ZT} {M : ZM} {P : ZP} {b : Nat} {F : Nat} {E : Nat} {nl : Nat} {lw : Nat → Nat} {lp : Nat → Nat} {C : QS} {D : QS} (I : c_U p q g M P b F E nl lw lp C D) : P.en b = E := I.2.2.2.2.2.2.2.2.2.1
theorem c_U.nF {p : Nat} {q : Nat} {g : ZT} {M : ZM} {P : ZP} {b : Nat} {F : Nat} {E : Nat} {nl : Nat} {lw : Nat → Nat} {lp : Nat → Nat} {C : QS} {D : QS} (I : c_U p q g M P b F E nl lw lp C D) : F ≤ P.n := I.2.2.2.2.2.2.2.2.2.2.1
theorem c_U.bdl {p : Nat} {q : Nat} {g : ZT} {M : ZM} {P : ZP} {b : Nat} {F : Nat} {E : Nat} {nl : Nat} {lw : Nat → Nat} {lp : Nat → Nat} {C : QS} {D : QS} (I : c_U p q g M P b F E nl lw lp C D) : ∀ i, i < F → P.bd i < b := I.2.2.2.2.2.2.2.2.2.2.2.1
theorem c_U.bdh {p : Nat} {q : Nat} {g : ZT} {M : ZM} {P : ZP} {b : Nat} {F : Nat} {E : Nat} {nl : Nat} {lw : Nat → Nat} {lp : Nat → Nat} {C : QS} {D : QS} (I : c_U p q g M P b F E nl lw lp C D) : ∀ i, F ≤ i → i < P.n → P.bd i = b := I.2.2.2.2.2.2.2.2.2.2.2.2.1
theorem c_U.kn {p : Nat} {q : Nat} {g : ZT} {M : ZM} {P : ZP} {b : Nat} {F : Nat} {E : Nat} {nl : Nat} {lw : Nat → Nat} {lp : Nat → Nat} {C : QS} {D : QS} (I : c_U p q g M P b F E nl lw lp C D) : P.fk b ≤ P.nc := I.2.2.2.2.2.2.2.2.2.2.2.2.2.1
theorem c_U.ck {p : Nat} {q : Nat} {g : ZT} {M : ZM} {P : ZP} {b : Nat} {F : Nat} {E : Nat} {nl : Nat} {lw : Nat → Nat} {lp : Nat → Nat} {C : QS} {D : QS} (I : c_U p q g M P b F E nl lw lp C D) : ∀ k, k < P.nc → (P.cb k = b ↔ P.fk b ≤ k) := I.2.2.2.2.2.2.2.2.2.2.2.2.2.2.1
theorem c_U.cl {p : Nat} {q : Nat} {g : ZT} {M : ZM} {P : ZP} {b : Nat} {F : Nat} {E : Nat} {nl : Nat} {lw : Nat → Nat} {lp : Nat → Nat} {C : QS} {D : QS} (I : c_U p q g M P b F E nl lw lp C D) : ∀ k, k < P.nc → P.cb k ≤ b := I.2.2.2.2.2.2.2.2.2.2.2.2.2.2.2.1
theorem c_U.cB {p : Nat} {q : Nat} {g : ZT} {M : ZM} {P : ZP} {b : Nat} {F : Nat} {E : Nat} {nl : Nat} {lw : Nat → Nat} {lp : Nat → Nat} {C : QS} {D : QS} (I : c_U p q g M P b F E nl lw lp C D) : ∀ c, c < b → c_B p q P c C D := I.2.2.2.2.2.2.2.2.2.2.2.2.2.2.2.2
section ZBODY
variable {C D C' D' : QS} {n p q : Nat} {g : ZT} {K : ZK} {M : ZM} {P P' : ZP}
theorem c_B.fr {b : Nat} (h : c_B p q P b C D) (h1 : P'.fi b = P.fi b) (h2 : P'.en b = P.en b) (h3 : P'.fk b = P.fk b) (h4 : P'.sk b = P.sk b) (h5 : P.n ≤ P'.n) (h6 : P.nc ≤ P'.nc) (h7 : ∀ i, i < P.n → P'.bd i = P.bd i ∧ P'.op i = P.op i) (h8 : ∀ k, k < P.nc → P'.cb k = P.cb k) (h9 : ∀ k, P.nc ≤ k → k < P'.nc → P'.cb k ≠ b) (fC : ∀ y, p + 29 ≤ y → y ≤ p + 32 → C'.2.1 y b = C.2.1 y b) (fD : ∀ y, q + 12 ≤ y → y ≤ q + 13 → D'.2.1 y b = D.2.1 y b) : c_B p q P' b C' D' := by
  have hlt := h.lt
  have hle := h.le
  rw [c_B, h1, h2, h3, h4]
  refine ⟨(fC _ (by omega) (by omega)).trans h.C1, (fC _ (by omega) (by omega)).trans h.C2, (fC _ (by omega) (by omega)).trans h.C3, (fC _ (by omega) (by omega)).trans h.C4, (fD _ (by omega) (by omega)).trans h.D1, (fD _ (by omega) (by omega)).trans h.D2, hlt, by omega, fun i i1 i2 => ?_, ?_, h.fk, Nat.le_trans h.sk h6, fun k hk => ?_⟩
  · rw [(h7 i (by omega)).1]; exact h.bd i i1 i2
  · rw [(h7 (P.en b - 1) (by omega)).2]; exact h.op
  · by_cases c : k < P.nc
    · rw [h8 k c]; exact h.cb k c
    · have hsk := h.sk
      constructor
      · intro e; exact absurd e (h9 k (by omega) hk)
      · intro e; omega
theorem c_U.ins {b F E nl : Nat} {lw lp : Nat → Nat} {k t d x : Nat} {u v z : Int32} (hp : z_pp p) (hq : z_qq q) (U : c_U p q g M P b F E nl lw lp C D) (fC : c_fC p P C C') (fD : c_fD q P D D') : c_U p q g M (P.addI k t b u v z d x) b F E nl lw lp C' D' := by
  have fC1 : ∀ y j, (y = 78 ∨ y = 79 ∨ y = 80 ∨ (p + 29 ≤ y ∧ y ≤ p + 32)) → C'.2.1 y j = C.2.1 y j := fun y j h => fC y j (by rcases hp with rfl | rfl <;> omega) (by rcases hp with rfl | rfl <;> omega)
  have fD1 : ∀ y j, (y = 102 ∨ y = 167 ∨ y = 168 ∨ (q + 12 ≤ y ∧ y ≤ q + 13)) → D'.2.1 y j = D.2.1 y j := fun y j h => fD y j (by rcases hq with rfl | rfl <;> omega) (by rcases hq with rfl | rfl <;> omega) (by rcases hq with rfl | rfl <;> omega)
  have nF := U.nF
  refine ⟨U.L.fr (fun y j h => fC1 y j (by omega)) (fun y j h => fD1 y j (by omega)), (fC1 _ _ (by omega)).trans U.h8, (fC1 _ _ (by omega)).trans U.h7, U.bb, (fC1 _ _ (by omega)).trans U.b1, (fC1 _ _ (by omega)).trans U.b2, (fD1 _ _ (by omega)).trans U.d1, (fD1 _ _ (by omega)).trans U.d2, U.fi, U.en, ?_, fun i hi => ?_, fun i i1 i2 => ?_, U.kn, U.ck, U.cl, fun c hc => ?_⟩
  · rw [addI_n]; omega
  · rw [addI_bd, k_up_lt (show i < P.n by omega)]; exact U.bdl i hi
  · rw [addI_n] at i2
    rw [addI_bd]
    by_cases e : i = P.n
    · subst e; rw [k_up_eq]
    · rw [k_up_ne e]; exact U.bdh i i1 (by omega)
  · refine (U.cB c hc).fr rfl rfl rfl rfl (by rw [addI_n]; omega) (Nat.le_refl _) (fun i hi => ?_) (fun _ _ => rfl) (fun k k1 k2 => by rw [addI_nc] at k2; omega) (fun y y1 y2 => fC1 y _ (by omega)) (fun y y1 y2 => fD1 y _ (by omega))
    rw [addI_bd, addI_op, k_up_lt hi, k_up_lt hi]
    exact ⟨rfl, rfl⟩
theorem c_U.cat {b F E nl : Nat} {lw lp : Nat → Nat} {f t a c : Nat} (hp : z_pp p) (hq : z_qq q) (U : c_U p q g M P b F E nl lw lp C D) (fC : c_gC p P C C') (fD : c_gD q P D D') : c_U p q g M (P.addC b f t a c) b F E nl lw lp C' D' := by
  have fC1 : ∀ y j, (y = 78 ∨ y = 79 ∨ y = 80 ∨ (p + 29 ≤ y ∧ y ≤ p + 32)) → C'.2.1 y j = C.2.1 y j := fun y j h => fC y j (by rcases hp with rfl | rfl <;> omega) (by rcases hp with rfl | rfl <;> omega)
  have fD1 : ∀ y j, (y = 102 ∨ y = 167 ∨ y = 168 ∨ (q + 12 ≤ y ∧ y ≤ q + 13)) → D'.2.1 y j = D.2.1 y j := fun y j h => fD y j (by rcases hq with rfl | rfl <;> omega) (by rcases hq with rfl | rfl <;> omega)
  have kn := U.kn
  refine ⟨U.L.fr (fun y j h => fC1 y j (by omega)) (fun y j h => fD1 y j (by omega)), (fC1 _ _ (by omega)).trans U.h8, (fC1 _ _ (by omega)).trans U.h7, U.bb, (fC1 _ _ (by omega)).trans U.b1, (fC1 _ _ (by omega)).trans U.b2, (fD1 _ _ (by omega)).trans U.d1, (fD1 _ _ (by omega)).trans U.d2, U.fi, U.en, U.nF, U.bdl, U.bdh, ?_, fun k hk => ?_, fun k hk => ?_, fun e he => ?_⟩
  · rw [addC_nc, addC_fk]; omega
  · rw [addC_nc] at hk
    rw [addC_cb, addC_fk]
    by_cases e : k = P.nc
    · subst e; rw [k_up_eq]; exact ⟨fun _ => kn, fun _ => rfl⟩
    · rw [k_up_ne e]; exact U.ck k (by omega)
  · rw [addC_nc] at hk
    rw [addC_cb]
    by_cases e : k = P.nc
    · subst e; rw [k_up_eq]; exact Nat.le_refl _
    · rw [k_up_ne e]; exact U.cl k (by omega)
  · refine (U.cB e he).fr rfl rfl rfl rfl (Nat.le_refl _) (by rw [addC_nc]; omega) (fun _ _ => ⟨rfl, rfl⟩) (fun k hk => ?_) (fun k k1 k2 => ?_) (fun y y1 y2 => fC1 y _ (by omega)) (fun y y1 y2 => fD1 y _ (by omega))
    · rw [addC_cb, k_up_lt hk]
    · rw [addC_nc] at k2
      rw [addC_cb, show k = P.nc by omega, k_up_eq]
      omega
theorem z_lSkip (hT : C.2.1 2 5 = nI g.1) (hT2 : g.1 ≤ 16000) (hkd : ∀ i, i < g.1 → C.2.1 6 i = e_kind g i) {t' : Nat} (h' : t' ≤ g.1) : ∀ d k, k + d = t' → (∀ i, k ≤ i → i < t' → e_kind g i = 53 ∨ e_kind g i = 48 ∨ e_kind g i = 49) → q_run (tX4_lineFault_7 p) (nI k, C) = q_run (tX4_lineFault_7 p) (nI t', C) := by
  intro d
  induction d with
  | zero =>
    intro k hk _
    have : k = t' := by omega
    rw [this]
  | succ d ih =>
    intro k hk hn
    have e1 : ¬ nI g.1 ≤ nI k := by rw [z_leN (by omega) (by omega)]; omega
    have st : tX4_lineFault_7 p (nI k, C) = some (.inr (nI (k + 1), C)) := by
      simp only [tX4_lineFault_7, hT, if_neg e1, z_inbN (show k < 16000 by omega) (by decide), if_true, z_cl (show k < 2147483648 by omega), hkd k (by omega), nI_1]
      rcases hn k (Nat.le_refl _) (by omega) with a | a | a <;> rw [a] <;> rfl
    rw [q_run_go st]
    exact ih (k + 1) (by omega) (fun i i1 i2 => hn i (by omega) i2)
/-- the answer of a piece of the walk: a fault, or on it goes -/
def z_lres (p q n : Nat) (g : ZT) (K : ZK) (M : ZM) (b F E nl : Nat) (lw lp : Nat → Nat) (C D : QS) (t t' n' : Nat) : Prop := (∃ r r', q_run (tX4_lineFault_7 p) (nI t, C) = some r ∧ q_run (tX12_linesOf_131 q (nI b) (nI E)) (nI t, D) = some r' ∧ z_offC p C r.2 ∧ z_offD q D r'.2 ∧ z_flt g r r') ∨ (∃ C' D' P', q_run (tX4_lineFault_7 p) (nI t, C) = q_run (tX4_lineFault_7 p) (nI t', C') ∧ q_run (tX12_linesOf_131 q (nI b) (nI E)) (nI t, D) = q_run (tX12_linesOf_131 q (nI b) (nI E)) (nI t', D') ∧ z_offC p C C' ∧ z_offD q D D' ∧ c_S p q n g K M P' C' D' ∧ c_U p q g M P' b F E nl lw lp C' D' ∧ P'.n = n')
theorem z_lineStep {t te b F E nl : Nat} {lw lp : Nat → Nat} (hp : z_pp p) (hq : z_qq q) (hG : z_G n g) (hK : k_K g K) (ho : e_ok g) (S : c_S p q n g K M P C D) (U : c_U p q g M P b F E nl lw lp C D) (hst : e_st g t = (2, [])) (hbe : e_be g t te) (hk' : e_mark g t 125 = false) (hE2 : E < 100000) (hn2 : e_ik g t = true → P.n < E) : z_lres p q n g K M b F E nl lw lp C D t (t + e_ln g t) (P.n + (if e_ik g t = true then 1 else 0)) := by
  have b1 := hG.1
  have b2 := hG.2.1
  have hte := hbe.2.1
  have hle := hbe.1
  have ht : t < g.1 := by omega
  have e1 : ¬ nI g.1 ≤ nI t := by rw [z_leN (by omega) (by omega)]; omega
  obtain ⟨a1, a2, a3, a4⟩ := e_lineT ho (Nat.le_of_lt ht) hst hk'
  have l1 : 1 ≤ e_ln g t := by rw [e_ln]; omega
  have hC := S.mJ.hC
  have hD := S.mJ.hD
  have ll := fun (D' : QS) (hD' : z_D D' n g) => z_lineLen hD' hG ht a4
  have isE := z_dEnd hD hG (Nat.le_of_lt ht)
  rw [hk'] at isE
  have isL := z_dLab hD hG (Nat.le_of_lt ht)
  have isC := z_dCat hD hG (Nat.le_of_lt ht)
  have i0 := z_inbN (show t < 16000 by omega) (by decide)
  have c0 := z_cl (show t < 2147483648 by omega)
  have tm : ¬ nI t = -1 := by rw [z_m1N (by omega)]; exact fun x => x
  have skp : ∀ C' : QS, C'.2.1 2 5 = nI g.1 → (∀ i, i < g.1 → C'.2.1 6 i = e_kind g i) → q_run (tX4_lineFault_7 p) (nI (t + 1), C') = q_run (tX4_lineFault_7 p) (nI (t + e_ln g t), C') := fun C' x1 x2 => z_lSkip x1 (by omega) x2 (by omega) (e_ln g t - 1) (t + 1) (by omega) (fun i i1 i2 => Or.inl (a3 i (by omega) i2).1)
  have rfl12 : ∀ (D : QS) v, (q_sI D 102 12 v).2.1 102 12 = v := fun D v => by rw [q_sI_I, if_pos ⟨rfl, rfl⟩]
  rcases a4 with hl | hl | ⟨k, hl⟩
  · -- a label
    have hnl := U.L.2.2.1
    have y1 := z_labelNamed hC hG U.L ht
    have y2 := z_label hD hG U.L ht
    rw [hl.1] at isL
    rw [e_ikL hl, if_neg (by decide), Nat.add_zero]
    have bad : (∀ k, k_lab g nl lw t = some k → lw k ≠ t) → z_lres p q n g K M b F E nl lw lp C D t (t + e_ln g t) P.n := by
      intro hbad
      refine Or.inl ⟨(nI t, C), (false, q_sI D 102 12 (nI t)), q_run_ret ?_, q_run_ret ?_, z_offC.refl p C, (z_offD.refl q D).sI (by omega), t, by omega, rfl, rfl, rfl12 _ _⟩
      · have hf : fX4_isFirstLabel C (nI t) = some false := by
          rw [fX4_isFirstLabel, y1, Option.bind_some]
          cases hk : k_lab g nl lw t with
          | none => rfl
          | some k =>
            have hkl := k_lab_lt hk
            have := U.L.2.2.2 k hkl
            simp only [k_oI, z_m1N (show k < 2147483648 by omega), if_false, z_inbN (show k < 8000 by omega) (by decide), if_true, z_cl (show k < 2147483648 by omega), this.1, z_eqN (show lw k < 2147483648 by omega) (show t < 2147483648 by omega), if_neg (hbad k hk)]
        simp only [tX4_lineFault_7, hC.2.1, if_neg e1, i0, if_true, c0, S.mJ.kd t ht, hl.2.2, hf, Option.bind_some]
        rw [if_neg (by decide), if_neg (by decide)]
        simp only [Option.bind_some, if_neg tm]
      · simp only [tX12_linesOf_131, isE, isL, Option.bind_some, Bool.false_eq_true, if_false, if_true, y2, fX12_wrong]
        cases hk : k_lab g nl lw t with
        | none => rfl
        | some k =>
          have hkl := k_lab_lt hk
          have := U.L.2.2.2 k hkl
          simp only [k_oI, z_negN (show k < 2147483648 by omega), if_false, z_inbN (show k < 16000 by omega) (by decide), if_true, z_cl (show k < 2147483648 by omega), this.2.2.1, z_eqN (show lw k < 2147483648 by omega) (show t < 2147483648 by omega), if_neg (hbad k hk)]
    cases hk : k_lab g nl lw t with
    | none => exact bad (fun k h => by rw [hk] at h; cases h)
    | some k =>
      by_cases hlw : lw k = t
      · have hkl := k_lab_lt hk
        have this := U.L.2.2.2 k hkl
        have hf : fX4_isFirstLabel C (nI t) = some true := by
          rw [fX4_isFirstLabel, y1, Option.bind_some, hk]
          simp only [k_oI, z_m1N (show k < 2147483648 by omega), if_false, z_inbN (show k < 8000 by omega) (by decide), if_true, z_cl (show k < 2147483648 by omega), this.1, hlw]
        have s1 : tX4_lineFault_7 p (nI t, C) = some (.inr (nI (t + 1), C)) := by
          simp only [tX4_lineFault_7, hC.2.1, if_neg e1, i0, if_true, c0, S.mJ.kd t ht, hl.2.2, hf, Option.bind_some, nI_1]
          rw [if_neg (by decide)]
          rfl
        have s2 : tX12_linesOf_131 q (nI b) (nI E) (nI t, D) = some (.inr (nI (t + e_ln g t), D)) := by
          simp only [tX12_linesOf_131, isE, isL, Option.bind_some, Bool.false_eq_true, if_false, if_true, y2, hk, k_oI, z_negN (show k < 2147483648 by omega), z_inbN (show k < 16000 by omega) (by decide), z_cl (show k < 2147483648 by omega), this.2.2.1, hlw, ll D hD, nI_add]
        refine Or.inr ⟨C, D, P, ?_, q_run_go s2, z_offC.refl p C, z_offD.refl q D, S, U, rfl⟩
        rw [q_run_go s1]
        exact skp C hC.2.1 S.mJ.kd
      · exact bad (fun k' h => by rw [hk] at h; cases h; exact hlw)
  · -- a catch
    rw [e_ikC hl, if_neg (by decide), Nat.add_zero]
    rw [hl.1] at isL
    rw [hl.2.1] at isC
    have e5 := e_ln_cat hl
    obtain ⟨r, r', x1, x2, x3, x4, x5⟩ := z_catch hp hq hG hK S U.L (show t + 4 < g.1 by omega) U.bb U.h7 U.fi U.en hE2
    have sC : tX4_lineFault_7 p (nI t, C) = if r.1 = -1 then some (.inr (nI (t + 1), r.2)) else some (.inl (r.1, r.2)) := by
      simp only [tX4_lineFault_7, hC.2.1, if_neg e1, i0, if_true, c0, S.mJ.kd t ht, hl.2.2.2.1, x1, Option.bind_some, nI_1]
    have sD : tX12_linesOf_131 q (nI b) (nI E) (nI t, D) = if r'.1 = true then some (.inr (nI (t + e_ln g t), r'.2)) else some (.inl (false, r'.2)) := by
      simp only [tX12_linesOf_131, isE, isL, isC, Option.bind_some, Bool.false_eq_true, if_false, if_true, x2, ll r'.2 (hD.off hq x4), nI_add]
    rcases x5 with ⟨f, f1, f2, f3, f4⟩ | ⟨f1, f2, f, t', a, c, f3, f4, f5⟩
    · have nm : ¬ r.1 = -1 := by rw [f2, z_m1N (by omega)]; exact fun x => x
      rw [if_neg nm] at sC
      rw [if_neg (by rw [f3]; decide)] at sD
      exact Or.inl ⟨_, _, q_run_ret sC, q_run_ret sD, x3, x4, f, f1, f2, rfl, f4⟩
    · rw [if_pos f1] at sC
      rw [if_pos f2] at sD
      refine Or.inr ⟨r.2, r'.2, _, ?_, q_run_go sD, x3, x4, f3, U.cat hp hq f4 f5, rfl⟩
      rw [q_run_go sC]
      exact skp r.2 f3.mJ.hC.2.1 f3.mJ.kd
  · -- an instruction
    rw [e_ikI hl, if_pos rfl]
    rw [hl.2.2.2.2.1] at isL
    rw [hl.2.2.2.2.2.1] at isC
    have hk46 := hl.1
    have nk := z_nk hk46
    obtain ⟨r, r', x1, x2, x3, x4, x5⟩ := z_ins hp hq hG hK S U.L hl (show t + 1 < g.1 by omega) U.bb U.h8 U.h7 U.fi U.en hE2 U.nF (hn2 (e_ikI hl))
    have sC : tX4_lineFault_7 p (nI t, C) = if r.1 = -1 then some (.inr (nI (t + 1), r.2)) else some (.inl (r.1, r.2)) := by
      have k1 : ¬ nI k = 46 := nk 46 (by omega) (by omega)
      have k2 : ¬ nI k = 47 := nk 47 (by omega) (by omega)
      have k3 : ¬ (nI k = 48 ∨ nI k = 49 ∨ nI k = 53) := by
        rintro (h | h | h)
        · exact nk 48 (by omega) (by omega) h
        · exact nk 49 (by omega) (by omega) h
        · exact nk 53 (by omega) (by omega) h
      have k4 : ¬ (nI k = 50 ∨ nI k = 51) := by
        rintro (h | h)
        · exact nk 50 (by omega) (by omega) h
        · exact nk 51 (by omega) (by omega) h
      have k5 : ¬ nI k = 52 := nk 52 (by omega) (by omega)
      simp only [tX4_lineFault_7, hC.2.1, if_neg e1, i0, if_true, c0, S.mJ.kd t ht, hl.2.2.2.1, if_neg k1, if_neg k2, if_neg k3, if_neg k4, if_neg k5, nI_1]
      rw [x1, Option.bind_some]
    have sD : tX12_linesOf_131 q (nI b) (nI E) (nI t, D) = if r'.1 = true then some (.inr (nI (t + e_ln g t), r'.2)) else some (.inl (false, r'.2)) := by
      simp only [tX12_linesOf_131, isE, isL, isC, Option.bind_some, Bool.false_eq_true, if_false, x2, ll r'.2 (hD.off hq x4), nI_add]
    rcases x5 with ⟨f, f1, f2, f3, f4⟩ | ⟨f1, f2, u, v, z, d, x, f3, f4, f5⟩
    · have nm : ¬ r.1 = -1 := by rw [f2, z_m1N (by omega)]; exact fun x => x
      rw [if_neg nm] at sC
      rw [if_neg (by rw [f3]; decide)] at sD
      exact Or.inl ⟨_, _, q_run_ret sC, q_run_ret sD, x3, x4, f, f1, f2, rfl, f4⟩
    · rw [if_pos f1] at sC
      rw [if_pos f2] at sD
      refine Or.inr ⟨r.2, r'.2, _, ?_, q_run_go sD, x3, x4, f3, U.ins hp hq f4 f5, rfl⟩
      rw [q_run_go sC]
      exact skp r.2 f3.mJ.hC.2.1 f3.mJ.kd
theorem z_lineWalk {te b F E nl : Nat} {lw lp : Nat → Nat} (hp : z_pp p) (hq : z_qq q) (hG : z_G n g) (hK : k_K g K) (ho : e_ok g) (hE2 : E < 100000) : ∀ m t C D P, te - t = m → e_be g t te → e_st g t = (2, []) → c_S p q n g K M P C D → c_U p q g M P b F E nl lw lp C D → P.n + (k_cnt (e_ik g) te - k_cnt (e_ik g) t) = E → z_lres p q n g K M b F E nl lw lp C D t te E := by
  intro m
  induction m using Nat.strongRecOn with
  | _ m ih =>
  intro t C D P hm hbe hst S U hn
  have hte := hbe.2.1
  have hle := hbe.1
  by_cases hk : e_mark g t 125 = true
  · have ett : t = te := by
      by_cases c : t = te
      · exact c
      · have := (hbe.2.2.2.2 t (Nat.le_refl _) (by omega)).2 hst
        rw [hk] at this; cases this
    subst ett
    exact Or.inr ⟨C, D, P, rfl, rfl, z_offC.refl p C, z_offD.refl q D, S, U, by omega⟩
  · have hk' := Bool.eq_false_iff.mpr hk
    obtain ⟨n1, n2⟩ := hbe.next ho hst hk'
    have hcl := e_cnt_line ho (show t ≤ g.1 by omega) hst hk'
    have hmono := k_cnt_mono (P := e_ik g) te n1.1
    have l1 : 1 ≤ e_ln g t := by rw [e_ln]; omega
    obtain ⟨-, a2, -, -⟩ := e_lineT ho (show t ≤ g.1 by omega) hst hk'
    rcases z_lineStep hp hq hG hK ho S U hst hbe hk' hE2 (fun h => by rw [if_pos h] at hcl; omega) with h | ⟨C', D', P', x1, x2, x3, x4, x5, x6, x7⟩
    · exact Or.inl h
    · rcases ih (te - (t + e_ln g t)) (by omega) (t + e_ln g t) C' D' P' rfl n1 a2 x5 x6 (by rw [x7]; omega) with ⟨r, r', y1, y2, y3, y4, y5⟩ | ⟨C2, D2, P2, y1, y2, y3, y4, y5, y6, y7⟩
      · exact Or.inl ⟨r, r', x1.trans y1, x2.trans y2, x3.trans y3, x4.trans y4, y5⟩
      · exact Or.inr ⟨C2, D2, P2, x1.trans y1, x2.trans y2, x3.trans y3, x4.trans y4, y5, y6, y7⟩
end ZBODY
