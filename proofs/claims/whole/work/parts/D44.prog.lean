/-! ===== the run: the loaded program ===== -/
def r_gC (p : Nat) (Cx C : QS) : Prop := ∀ k, k ≤ 34 → C.2.1 (p + k) = Cx.2.1 (p + k)
def r_gD (q : Nat) (Dx D : QS) : Prop := ∀ k, k ≤ 27 → D.2.1 (q + k) = Dx.2.1 (q + k)

/-- the loaded program, its text forgotten -/
def r_W (p : Nat) (q : Nat) (n : Nat) (g : ZT) (K : ZK) (M : ZM) (P : ZP) (m : Nat) (hh : Nat → Nat → Int32) (R : Nat → Nat → Bool) (T : Nat → Nat → Nat → Nat) (Cx : QS) (Dx : QS) : Prop := (z_pp p) ∧ (z_qq q) ∧ (z_G n g) ∧ (k_K g K) ∧ (s_N p q n g K M P m Cx Dx) ∧ (∀ b, b < M.bc → h_ok M P b (hh b)) ∧ (∀ b, b < M.bc → ∀ i, P.fi b ≤ i → i < P.en b → Cx.2.1 (p + 17) i = hh b i ∧ Dx.2.1 (q + 19) i = hh b i) ∧ (∀ b, b < M.bc → ty_cld K M P (hh b) b (R b) (T b)) ∧ (∀ b, b < M.bc → rt_S q Dx (hh b) (P.fi b) (P.en b) (R b) (T b)) ∧ (∀ b, b < M.bc → ∀ j, P.fi b ≤ j → j < P.en b → R b j = true → k_ft K M P (hh b) j (T b j))
theorem r_W.hp {p : Nat} {q : Nat} {n : Nat} {g : ZT} {K : ZK} {M : ZM} {P : ZP} {m : Nat} {hh : Nat → Nat → Int32} {R : Nat → Nat → Bool} {T : Nat → Nat → Nat → Nat} {Cx : QS} {Dx : QS} (I : r_W p q n g K M P m hh R T Cx Dx) : z_pp p := I.1
theorem r_W.hq {p : Nat} {q : Nat} {n : Nat} {g : ZT} {K : ZK} {M : ZM} {P : ZP} {m : Nat} {hh : Nat → Nat → Int32} {R : Nat → Nat → Bool} {T : Nat → Nat → Nat → Nat} {Cx : QS} {Dx : QS} (I : r_W p q n g K M P m hh R T Cx Dx) : z_qq q := I.2.1
theorem r_W.hG {p : Nat} {q : Nat} {n : Nat} {g : ZT} {K : ZK} {M : ZM} {P : ZP} {m : Nat} {hh : Nat → Nat → Int32} {R : Nat → Nat → Bool} {T : Nat → Nat → Nat → Nat} {Cx : QS} {Dx : QS} (I : r_W p q n g K M P m hh R T Cx Dx) : z_G n g := I.2.2.1
theorem r_W.hK {p : Nat} {q : Nat} {n : Nat} {g : ZT} {K : ZK} {M : ZM} {P : ZP} {m : Nat} {hh : Nat → Nat → Int32} {R : Nat → Nat → Bool} {T : Nat → Nat → Nat → Nat} {Cx : QS} {Dx : QS} (I : r_W p q n g K M P m hh R T Cx Dx) : k_K g K := I.2.2.2.1
theorem r_W.N {p : Nat} {q : Nat} {n : Nat} {g : ZT} {K : ZK} {M : ZM} {P : ZP} {m : Nat} {hh : Nat → Nat → Int32} {R : Nat → Nat → Bool} {T : Nat → Nat → Nat → Nat} {Cx : QS} {Dx : QS} (I : r_W p q n g K M P m hh R T Cx Dx) : s_N p q n g K M P m Cx Dx := I.2.2.2.2.1
theorem r_W.ok {p : Nat} {q : Nat} {n : Nat} {g : ZT} {K : ZK} {M : ZM} {P : ZP} {m : Nat} {hh : Nat → Nat → Int32} {R : Nat → Nat → Bool} {T : Nat → Nat → Nat → Nat} {Cx : QS} {Dx : QS} (I : r_W p q n g K M P m hh R T Cx Dx) : ∀ b, b < M.bc → h_ok M P b (hh b) := I.2.2.2.2.2.1
theorem r_W.hc {p : Nat} {q : Nat} {n : Nat} {g : ZT} {K : ZK} {M : ZM} {P : ZP} {m : Nat} {hh : Nat → Nat → Int32} {R : Nat → Nat → Bool} {T : Nat → Nat → Nat → Nat} {Cx : QS} {Dx : QS} (I : r_W p q n g K M P m hh R T Cx Dx) : ∀ b, b < M.bc → ∀ i, P.fi b ≤ i → i < P.en b → Cx.2.1 (p + 17) i = hh b i ∧ Dx.2.1 (q + 19) i = hh b i := I.2.2.2.2.2.2.1
theorem r_W.cl {p : Nat} {q : Nat} {n : Nat} {g : ZT} {K : ZK} {M : ZM} {P : ZP} {m : Nat} {hh : Nat → Nat → Int32} {R : Nat → Nat → Bool} {T : Nat → Nat → Nat → Nat} {Cx : QS} {Dx : QS} (I : r_W p q n g K M P m hh R T Cx Dx) : ∀ b, b < M.bc → ty_cld K M P (hh b) b (R b) (T b) := I.2.2.2.2.2.2.2.1
theorem r_W.rs {p : Nat} {q : Nat} {n : Nat} {g : ZT} {K : ZK} {M : ZM} {P : ZP} {m : Nat} {hh : Nat → Nat → Int32} {R : Nat → Nat → Bool} {T : Nat → Nat → Nat → Nat} {Cx : QS} {Dx : QS} (I : r_W p q n g K M P m hh R T Cx Dx) : ∀ b, b < M.bc → rt_S q Dx (hh b) (P.fi b) (P.en b) (R b) (T b) := I.2.2.2.2.2.2.2.2.1
theorem r_W.ft {p : Nat} {q : Nat} {n : Nat} {g : ZT} {K : ZK} {M : ZM} {P : ZP} {m : Nat} {hh : Nat → Nat → Int32} {R : Nat → Nat → Bool} {T : Nat → Nat → Nat → Nat} {Cx : QS} {Dx : QS} (I : r_W p q n g K M P m hh R T Cx Dx) : ∀ b, b < M.bc → ∀ j, P.fi b ≤ j → j < P.en b → R b j = true → k_ft K M P (hh b) j (T b j) := I.2.2.2.2.2.2.2.2.2

theorem r_W.of {p q n m : Nat} {g : ZT} {K : ZK} {M : ZM} {P : ZP} {Cx Dx : QS} (hp : z_pp p) (hq : z_qq q) (hG : z_G n g) (hK : k_K g K) (N : s_N p q n g K M P m Cx Dx) (h : ∀ b, b < M.bc → t_B p q K M P Cx Dx b) : ∃ hh R T, r_W p q n g K M P m hh R T Cx Dx := by
  have h' : ∀ b, ∃ hh R T, b < M.bc → h_ok M P b hh ∧ (∀ i, P.fi b ≤ i → i < P.en b → Cx.2.1 (p + 17) i = hh i ∧ Dx.2.1 (q + 19) i = hh i) ∧ ty_cld K M P hh b R T ∧ rt_S q Dx hh (P.fi b) (P.en b) R T ∧ ∀ j, P.fi b ≤ j → j < P.en b → R j = true → k_ft K M P hh j (T j) := by
    intro b
    by_cases hb : b < M.bc
    · obtain ⟨hh, R, T, x⟩ := h b hb
      exact ⟨hh, R, T, fun _ => x⟩
    · exact ⟨fun _ => 0, fun _ => false, fun _ _ => 0, fun h => absurd h hb⟩
  refine ⟨fun b => Classical.choose (h' b), fun b => Classical.choose (Classical.choose_spec (h' b)), fun b => Classical.choose (Classical.choose_spec (Classical.choose_spec (h' b))), hp, hq, hG, hK, N, ?_⟩
  have k := fun b => Classical.choose_spec (Classical.choose_spec (Classical.choose_spec (h' b)))
  exact ⟨fun b hb => (k b hb).1, fun b hb => (k b hb).2.1, fun b hb => (k b hb).2.2.1, fun b hb => (k b hb).2.2.2.1, fun b hb => (k b hb).2.2.2.2⟩
section ZRUN
variable {p q n m : Nat} {g : ZT} {K : ZK} {M : ZM} {P : ZP} {hh : Nat → Nat → Int32} {R : Nat → Nat → Bool} {T : Nat → Nat → Nat → Nat} {Cx Dx C D : QS}
theorem r_kC (W : r_W p q n g K M P m hh R T Cx Dx) (e : r_gC p Cx C) : k_C C p K := by
  rw [k_C, e 1 (by decide), e 2 (by decide), e 3 (by decide), e 4 (by decide)]
  exact W.N.S.mJ.kC
theorem r_takes (e : r_gC p Cx C) (x : Int32) : fX5_takes C p x = fX5_takes Cx p x := by
  simp only [fX5_takes, e 11 (by decide), e 12 (by decide), e 25 (by decide)]
theorem r_told (e : r_gC p Cx C) (x y : Int32) : fX5_told C p x y = fX5_told Cx p x y := by
  simp only [fX5_told, e 11 (by decide), e 12 (by decide), e 13 (by decide), e 8 (by decide), e 26 (by decide), e 15 (by decide), e 27 (by decide)]
theorem r_isCaught (e : r_gC p Cx C) (x y : Int32) : fX1_isCaught C p x y = fX1_isCaught Cx p x y := by
  simp only [fX1_isCaught, e 18 (by decide), e 19 (by decide)]
theorem r_isAtOr (e : r_gD q Dx D) (x y : Int32) : fX12_isAtOrBelow D q x y = fX12_isAtOrBelow Dx q x y := by
  have : tX12_isAtOrBelow_2 D q y = tX12_isAtOrBelow_2 Dx q y := by
    funext z
    simp only [tX12_isAtOrBelow_2, e 1 (by decide)]
  simp only [fX12_isAtOrBelow, fX12_isAtOrBelow_2, this]
theorem r_isBelow (e : r_gD q Dx D) (x y : Int32) : fX12_isBelow D q x y = fX12_isBelow Dx q x y := by
  simp only [fX12_isBelow, fX12_isClass, r_isAtOr e]
theorem r_covers (e : r_gD q Dx D) (x y : Int32) : fX12_covers D q x y = fX12_covers Dx q x y := by
  simp only [fX12_covers, e 21 (by decide), e 18 (by decide), e 22 (by decide), e 23 (by decide)]
theorem r_suits127 {i base : Nat} {r : Nat → Nat} (W : r_W p q n g K M P m hh R T Cx Dx) (e : r_gC p Cx C) (hi : i < P.n) (hbase : base + k_tk M P i ≤ 1280) (hc : ∀ j, j < k_tk M P i → C.2.1 97 (base + j) = nI (r j) ∧ r j ≤ 67) (hf : ∀ j, j < k_tk M P i → k_fit K (k_told M P i j) (r j) = true) : ∀ d k, k + d = k_tk M P i → q_run (tX5_suits_127 C p 97 1280 (nI i) (nI base) (nI (k_tk M P i))) (nI k) = some true := by
  have tk12 := (k_tk_le W.N.S hi).1
  intro d
  induction d with
  | zero =>
    intro k hk
    refine q_run_ret ?_
    simp only [tX5_suits_127]
    rw [if_pos (by rw [z_leN (by omega) (by omega)]; omega)]
  | succ d ih =>
    intro k hk
    have g1 : ¬ nI (k_tk M P i) ≤ nI k := by rw [z_leN (by omega) (by omega)]; omega
    obtain ⟨t1, t2⟩ := z_told W.hG W.hK W.N.S hi (show k < k_tk M P i by omega)
    obtain ⟨x1, x2⟩ := hc k (by omega)
    have ft := z_tfit W.hK (r_kC W e) x2 t2
    refine (q_run_go ?_).trans (ih (k + 1) (by omega))
    simp only [tX5_suits_127, if_neg g1, nI_add, z_inbN (show base + k < 1280 by omega) (by decide), if_true, z_cl (show base + k < 2147483648 by omega), r_told e, t1, Option.bind_some, x1, ft, hf k (by omega), nI_1]
end ZRUN
