/-! ===== heights: both come to the same ===== -/
def q_S0 : QS := ([], fun _ _ => 0, fun _ _ => 0, fun _ _ => 0)
theorem b_nI (k d : Nat) : b_t (nI k) d = (decide (d < 32) && k.testBit d) := by
  rw [b_t]
  exact BitVec.getLsbD_ofNat 32 k d
theorem h_9_nI {w : Int32} (h : h_9 w) : ∃ k, k < 512 ∧ w = nI k := by
  have hlt : w.toBitVec.toNat < 2 ^ 9 := by
    apply Nat.lt_pow_two_of_testBit
    intro i hi
    exact h i hi
  refine ⟨w.toBitVec.toNat, hlt, ?_⟩
  apply b_ext
  intro d hd
  rw [b_nI, decide_eq_true hd, Bool.true_and]
  rfl
theorem j_bc : ∀ k : Fin 512, ∃ v, fJ6_bitCount_0f7a4 q_S0 (nI k) = some v ∧ ((v ≤ 1) ↔ (nI k &&& (nI k - 1) = 0)) := by
  have h : ∀ k : Fin 512, ((fJ6_bitCount_0f7a4 q_S0 (nI k)).map (fun v => decide (v ≤ 1))) = some (decide (nI k &&& (nI k - 1) = 0)) := by decide +kernel
  intro k
  have := h k
  cases hv : fJ6_bitCount_0f7a4 q_S0 (nI k) with
  | none => rw [hv] at this; cases this
  | some v =>
    rw [hv] at this
    simp only [Option.map_some, Option.some.injEq] at this
    exact ⟨v, rfl, by rw [← decide_eq_true_iff (p := v ≤ 1), this, decide_eq_true_iff]⟩
theorem j_bit1 : ∀ k : Fin 512, nI k &&& (nI k - 1) = 0 → k.1 = 0 ∨ ∃ h : Fin 9, k.1 = 2 ^ h.1 := by decide +kernel
theorem j_bit2 : ∀ h : Fin 9, nI (2 ^ h.1) &&& (nI (2 ^ h.1) - 1) = 0 ∧ ¬ nI (2 ^ h.1) = 0 ∧ fJ6_numberOfTrailingZeros_0f7a4 q_S0 (nI (2 ^ h.1)) = some (nI h.1) ∧ nI (2 ^ h.1) = (1 : Int32) <<< (nI h.1 &&& 31) := by decide +kernel
theorem h_one_b {h d : Nat} (hh : h < 9) : b_t (nI (2 ^ h)) d = decide (d = h) := by
  rw [(j_bit2 ⟨h, hh⟩).2.2.2, b_sh (by omega)]
theorem h_gd_one {h a l : Nat} (hh : h < 9) : h_gd (nI (2 ^ h)) a l = if a ≤ h ∧ h + l ≤ 8 + a then nI (2 ^ h) else 0 := by
  apply b_ext
  intro d hd
  rw [h_gd_b, h_one_b hh]
  by_cases c : a ≤ h ∧ h + l ≤ 8 + a
  · rw [if_pos c, h_one_b hh]
    by_cases e : d = h
    · subst e; simp [c, hh]
    · simp [e]
  · rw [if_neg c, b_0]
    by_cases e : d = h
    · subst e
      by_cases c1 : a ≤ d
      · simp [show ¬ d + l ≤ 8 + a from fun x => c ⟨c1, x⟩]
      · simp [c1]
    · simp [e]
theorem h_mv_one {h a l : Nat} (hh : h < 9) (hl : l ≤ 2) : h_mv (nI (2 ^ h)) a l = if a ≤ h ∧ h + l ≤ 8 + a then nI (2 ^ (h - a + l)) else 0 := by
  apply b_ext
  intro d hd
  rw [h_mv_b, h_one_b hh]
  by_cases c : a ≤ h ∧ h + l ≤ 8 + a
  · rw [if_pos c, h_one_b (by omega)]
    by_cases e : d = h - a + l
    · subst e
      simp only [decide_true, decide_eq_true (show h - a + l < 9 by omega), decide_eq_true (show l ≤ h - a + l by omega), decide_eq_true (show h - a + l - l + a ≤ 8 by omega), decide_eq_true (show h - a + l - l + a = h by omega), Bool.and_true]
    · rw [decide_eq_false e]
      by_cases c1 : l ≤ d
      · simp [show ¬ d - l + a = h by omega]
      · simp [c1]
  · rw [if_neg c, b_0]
    by_cases c1 : l ≤ d
    · by_cases c2 : d < 9
      · by_cases c3 : d - l + a = h
        · omega
        · simp [c3]
      · simp [c2]
    · simp [c1]
theorem h_gd_z (a l : Nat) : h_gd 0 a l = 0 := by
  apply b_ext
  intro d hd
  rw [h_gd_b, b_0]
  simp
/-- the heights are right, and these -/
def h_ok (M : ZM) (P : ZP) (b : Nat) (hh : Nat → Int32) : Prop := hh (P.fi b) = nI 0 ∧ ∀ i, P.fi b ≤ i → i < P.en b → hh i = -1 ∨ ∃ h, h ≤ 8 ∧ hh i = nI h ∧ k_tk M P i ≤ h ∧ h + k_lv M P i ≤ 8 + k_tk M P i ∧ (k_nx (P.op i) = true → hh (i + 1) = nI (h - k_tk M P i + k_lv M P i)) ∧ (k_lb (P.op i) = true → hh (k_tg P i) = nI (h - k_tk M P i + k_lv M P i)) ∧ ∀ k, k < P.nc → k_cov P k i = true → hh (P.ca k) = nI 1
/-- a mask that is right, and its height -/
def h_one (a l : Nat) (w v : Int32) : Prop := (w = 0 ∧ v = -1) ∨ ∃ h, h ≤ 8 ∧ w = nI (2 ^ h) ∧ v = nI h ∧ a ≤ h ∧ h + l ≤ 8 + a
theorem h_one_fn {a l a' l' : Nat} {w v v' : Int32} (h : h_one a l w v) (h' : h_one a' l' w v') : v = v' := by
  rcases h with ⟨h1, h2⟩ | ⟨x, h1, h2, h3, -⟩
  · rcases h' with ⟨k1, k2⟩ | ⟨y, k1, k2, k3, -⟩
    · rw [h2, k2]
    · rw [h1] at k2; exact absurd k2.symm (j_bit2 ⟨y, by omega⟩).2.1
  · rcases h' with ⟨k1, k2⟩ | ⟨y, k1, k2, k3, -⟩
    · rw [k1] at h2; exact absurd h2.symm (j_bit2 ⟨x, by omega⟩).2.1
    · have e : x = y := by
        have b1 := h_one_b (h := x) (d := x) (by omega)
        rw [← h2, k2, h_one_b (by omega)] at b1
        simpa using b1
      rw [h3, k3, e]
section ZHE
variable {C D : QS} {n p q m b : Nat} {g : ZT} {K : ZK} {M : ZM} {P : ZP}
/-- the class's and the reference's look at one mask -/
theorem h_look {w : Int32} {a l : Nat} (h9 : h_9 w) (hl : l ≤ 2) : (∃ v, h_one a l w v ∧ w = h_gd w a l ∧ (∀ S, ∃ c, fJ6_bitCount_0f7a4 S w = some c ∧ c ≤ 1) ∧ w &&& (w - 1) = 0 ∧ (w ≠ 0 → h_mv w a l ≠ 0 ∧ ∀ S, fJ6_numberOfTrailingZeros_0f7a4 S w = some v)) ∨ ((¬ w = h_gd w a l ∨ ∀ S, ∃ c, fJ6_bitCount_0f7a4 S w = some c ∧ ¬ c ≤ 1) ∧ (¬ w &&& (w - 1) = 0 ∨ (w &&& (w - 1) = 0 ∧ w ≠ 0 ∧ h_mv w a l = 0))) := by
  obtain ⟨k, hk, rfl⟩ := h_9_nI h9
  obtain ⟨c, c1, c2⟩ := j_bc ⟨k, hk⟩
  have hbc : ∀ S, fJ6_bitCount_0f7a4 S (nI k) = some c := fun S => c1
  by_cases z : nI k &&& (nI k - 1) = 0
  · rcases j_bit1 ⟨k, hk⟩ z with e | ⟨h, e⟩
    · have e : k = 0 := e
      subst e
      exact Or.inl ⟨-1, Or.inl ⟨rfl, rfl⟩, (h_gd_z a l).symm, fun S => ⟨c, hbc S, c2.mpr z⟩, z, fun x => absurd rfl x⟩
    · have e : k = 2 ^ h.1 := e
      subst e
      have hh := h.2
      by_cases gd : a ≤ h.1 ∧ h.1 + l ≤ 8 + a
      · refine Or.inl ⟨nI h.1, Or.inr ⟨h.1, by omega, rfl, rfl, gd.1, gd.2⟩, ?_, fun S => ⟨c, hbc S, c2.mpr z⟩, z, fun _ => ⟨?_, fun S => (j_bit2 h).2.2.1⟩⟩
        · rw [h_gd_one hh, if_pos gd]
        · rw [h_mv_one hh hl, if_pos gd]
          exact (j_bit2 ⟨h.1 - a + l, by omega⟩).2.1
      · refine Or.inr ⟨Or.inl ?_, Or.inr ⟨z, (j_bit2 h).2.1, ?_⟩⟩
        · rw [h_gd_one hh, if_neg gd]; exact (j_bit2 h).2.1
        · rw [h_mv_one hh hl, if_neg gd]
  · exact Or.inr ⟨Or.inr (fun S => ⟨c, hbc S, fun x => z (c2.mp x)⟩), Or.inl z⟩
def hx_f (p F E : Nat) (C C' : QS) : Prop := (∀ y j, ¬ (y = p + 17 ∧ F ≤ j ∧ j < E) → C'.2.1 y j = C.2.1 y j) ∧ C'.1 = C.1 ∧ C'.2.2 = C.2.2
theorem s_N.hx {C' D' : QS} (N : s_N p q n g K M P m C D) (hp : z_pp p) (hq : z_qq q) (fC : ∀ y j, y < 78 → y ≠ p + 17 → C'.2.1 y j = C.2.1 y j) (fD : ∀ y j, y ≠ q + 19 → y ≠ 170 → ¬ (y = 102 ∧ (j = 12 ∨ j = 23)) → y ≠ 171 → y ≠ q + 26 → y ≠ q + 27 → D'.2.1 y j = D.2.1 y j) : s_N p q n g K M P m C' D' := by
  have gD : ∀ y j, (z_rD q y j ∨ (y = q ∧ j ≤ 6) ∨ y = q + 2 ∨ y = q + 5 ∨ (q + 12 ≤ y ∧ y ≤ q + 18) ∨ (q + 20 ≤ y ∧ y ≤ q + 25) ∨ y = 169) → D'.2.1 y j = D.2.1 y j := fun y j h => fD y j (by rw [z_rD] at h; rcases hq with rfl | rfl <;> omega) (by rw [z_rD] at h; rcases hq with rfl | rfl <;> omega) (by rw [z_rD] at h; rcases hq with rfl | rfl <;> omega) (by rw [z_rD] at h; rcases hq with rfl | rfl <;> omega) (by rw [z_rD] at h; rcases hq with rfl | rfl <;> omega) (by rw [z_rD] at h; rcases hq with rfl | rfl <;> omega)
  refine ⟨N.S.re hp hq (fun y j h => fC y j ?_ ?_) (fun y j h => gD y j ?_) rfl rfl rfl rfl rfl rfl rfl rfl rfl rfl rfl rfl rfl rfl rfl rfl (fun _ _ => ⟨rfl, rfl⟩) (fun _ _ => ⟨rfl, rfl⟩), fun c hc => (N.B c hc).fr rfl rfl rfl rfl (Nat.le_refl _) (Nat.le_refl _) (fun _ _ => ⟨rfl, rfl⟩) (fun _ _ => rfl) (fun k k1 k2 => by omega) (fun y y1 y2 => fC y _ (by rcases hp with rfl | rfl <;> omega) (by omega)) (fun y y1 y2 => gD y _ (by omega)), N.mb, N.mm, N.ma, N.mr, (fC _ _ (by rcases hp with rfl | rfl <;> omega) (by omega)).trans N.mC, (gD _ _ (by omega)).trans N.mD, ⟨fun c h => (gD _ _ (by omega)).trans (N.sI.1 c h), fun f h1 h2 => (gD _ _ (by omega)).trans (N.sI.2.1 f h1 h2), fun c h b hb => (gD _ _ (by omega)).trans (N.sI.2.2 c h b hb)⟩⟩
  · rw [z_rC] at h; rcases hp with rfl | rfl <;> omega
  · rw [z_rC] at h; rcases hp with rfl | rfl <;> omega
  · rcases h with h | h | h | h | h | h
    · exact Or.inl h
    all_goals omega
theorem z_hd300 {i h : Nat} (hi : i < 1024) (hh : h ≤ 8) : ∀ d k D, k + d = 9 → ∃ D', q_run (tX12_heights_300 q (nI b) (nI (2 ^ h))) (nI i, nI k, D) = some (.inr (nI (i + 1), D')) ∧ (∀ y j, D'.2.1 y j = if y = q + 19 ∧ j = i ∧ k ≤ h then nI h else D.2.1 y j) ∧ D'.1 = D.1 ∧ D'.2.2 = D.2.2 := by
  intro d
  induction d with
  | zero =>
    intro k D hk
    refine ⟨D, q_run_ret ?_, fun y j => by rw [if_neg (by omega)], rfl, rfl⟩
    simp only [tX12_heights_300]
    rw [if_pos (by rw [show (8 : Int32) = nI 8 from rfl, z_ltN (by omega) (by omega)]; omega), nI_1]
  | succ d ih =>
    intro k D hk
    have g8 : ¬ (8 : Int32) < nI k := by rw [show (8 : Int32) = nI 8 from rfl, z_ltN (by omega) (by omega)]; omega
    have e1 := (j_bit2 ⟨k, by omega⟩).2.2.2
    by_cases c : k = h
    · subst c
      have st : tX12_heights_300 q (nI b) (nI (2 ^ k)) (nI i, nI k, D) = some (.inr (nI i, nI (k + 1), q_sI D (q + 19) i (nI k))) := by
        simp only [tX12_heights_300, if_neg g8]
        rw [if_pos e1, if_pos (z_inbN (by omega) (by decide)), z_cl (by omega), nI_1]
        rfl
      obtain ⟨D', y1, y2, y3, y4⟩ := ih (k + 1) (q_sI D (q + 19) i (nI k)) (by omega)
      refine ⟨D', (q_run_go st).trans y1, fun y j => ?_, y3, y4⟩
      rw [y2, if_neg (by omega), q_sI_I]
      by_cases e : y = q + 19 ∧ j = i
      · rw [if_pos e, if_pos ⟨e.1, e.2, Nat.le_refl _⟩]
      · rw [if_neg e, if_neg (fun z => e ⟨z.1, z.2.1⟩)]
    · have ne : ¬ nI (2 ^ h) = (1 : Int32) <<< (nI k &&& 31) := by
        rw [← e1]
        intro x
        have b1 := h_one_b (h := h) (d := h) (by omega)
        rw [x, h_one_b (by omega), decide_eq_true rfl] at b1
        have : h = k := by simpa using b1
        omega
      have st : tX12_heights_300 q (nI b) (nI (2 ^ h)) (nI i, nI k, D) = some (.inr (nI i, nI (k + 1), D)) := by
        simp only [tX12_heights_300, if_neg g8]
        rw [if_neg ne, nI_1]
      obtain ⟨D', y1, y2, y3, y4⟩ := ih (k + 1) D (by omega)
      refine ⟨D', (q_run_go st).trans y1, fun y j => ?_, y3, y4⟩
      rw [y2]
      by_cases e : y = q + 19 ∧ j = i ∧ k + 1 ≤ h
      · rw [if_pos e, if_pos ⟨e.1, e.2.1, by omega⟩]
      · rw [if_neg e, if_neg (by omega)]
theorem z_hd300z {i : Nat} (hi : i < 1024) : ∀ d k D, k + d = 9 → q_run (tX12_heights_300 q (nI b) 0) (nI i, nI k, D) = some (.inr (nI (i + 1), D)) := by
  intro d
  induction d with
  | zero =>
    intro k D hk
    refine q_run_ret ?_
    simp only [tX12_heights_300]
    rw [if_pos (by rw [show (8 : Int32) = nI 8 from rfl, z_ltN (by omega) (by omega)]; omega), nI_1]
  | succ d ih =>
    intro k D hk
    have g8 : ¬ (8 : Int32) < nI k := by rw [show (8 : Int32) = nI 8 from rfl, z_ltN (by omega) (by omega)]; omega
    have e1 := (j_bit2 ⟨k, by omega⟩).2
    have st : tX12_heights_300 q (nI b) 0 (nI i, nI k, D) = some (.inr (nI i, nI (k + 1), D)) := by
      simp only [tX12_heights_300, if_neg g8]
      rw [if_neg (by rw [← e1.2.2]; exact fun x => e1.1 x.symm), nI_1]
    rw [q_run_go st]
    exact ih (k + 1) D (by omega)
end ZHE
