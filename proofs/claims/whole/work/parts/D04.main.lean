/-! ===== main ===== -/
def w_main : List Int32 := [109, 97, 105, 110]
def w_Main : List Int32 := [77, 97, 105, 110]
theorem z_sMain : z_S 1000054 w_main := ⟨by decide +kernel, by decide +kernel, by decide⟩
theorem z_sMainC : z_S 1000056 w_Main := ⟨by decide +kernel, by decide +kernel, by decide⟩
theorem z_sMain2 : z_S 1000092 w_main := ⟨by decide +kernel, by decide +kernel, by decide⟩
theorem z_sMainC2 : z_S 1000090 w_Main := ⟨by decide +kernel, by decide +kernel, by decide⟩
def k_mp (g : ZT) (K : ZK) (M : ZM) (b : Nat) : Bool := e_word g (K.cw (M.bo b)) w_Main && (e_word g (M.bw b) w_main && (!M.bm b && (decide (M.ba b = 0) && decide (M.br b = 68))))
/-- a program whose names are right -/
def s_N (p : Nat) (q : Nat) (n : Nat) (g : ZT) (K : ZK) (M : ZM) (P : ZP) (m : Nat) (C : QS) (D : QS) : Prop := (c_S p q n g K M P C D) ∧ (∀ b, b < M.bc → c_B p q P b C D) ∧ (m < M.bc) ∧ (M.bm m = false) ∧ (M.ba m = 0) ∧ (M.br m = 68) ∧ (C.2.1 p 16 = nI m) ∧ (D.2.1 q 6 = nI m) ∧ (s_I q g K M K.cc D)
theorem s_N.S {p : Nat} {q : Nat} {n : Nat} {g : ZT} {K : ZK} {M : ZM} {P : ZP} {m : Nat} {C : QS} {D : QS} (I : s_N p q n g K M P m C D) : c_S p q n g K M P C D := I.1
theorem s_N.B {p : Nat} {q : Nat} {n : Nat} {g : ZT} {K : ZK} {M : ZM} {P : ZP} {m : Nat} {C : QS} {D : QS} (I : s_N p q n g K M P m C D) : ∀ b, b < M.bc → c_B p q P b C D := I.2.1
theorem s_N.mb {p : Nat} {q : Nat} {n : Nat} {g : ZT} {K : ZK} {M : ZM} {P : ZP} {m : Nat} {C : QS} {D : QS} (I : s_N p q n g K M P m C D) : m < M.bc := I.2.2.1
theorem s_N.mm {p : Nat} {q : Nat} {n : Nat} {g : ZT} {K : ZK} {M : ZM} {P : ZP} {m : Nat} {C : QS} {D : QS} (I : s_N p q n g K M P m C D) : M.bm m = false := I.2.2.2.1
theorem s_N.ma {p : Nat} {q : Nat} {n : Nat} {g : ZT} {K : ZK} {M : ZM} {P : ZP} {m : Nat} {C : QS} {D : QS} (I : s_N p q n g K M P m C D) : M.ba m = 0 := I.2.2.2.2.1
theorem s_N.mr {p : Nat} {q : Nat} {n : Nat} {g : ZT} {K : ZK} {M : ZM} {P : ZP} {m : Nat} {C : QS} {D : QS} (I : s_N p q n g K M P m C D) : M.br m = 68 := I.2.2.2.2.2.1
theorem s_N.mC {p : Nat} {q : Nat} {n : Nat} {g : ZT} {K : ZK} {M : ZM} {P : ZP} {m : Nat} {C : QS} {D : QS} (I : s_N p q n g K M P m C D) : C.2.1 p 16 = nI m := I.2.2.2.2.2.2.1
theorem s_N.mD {p : Nat} {q : Nat} {n : Nat} {g : ZT} {K : ZK} {M : ZM} {P : ZP} {m : Nat} {C : QS} {D : QS} (I : s_N p q n g K M P m C D) : D.2.1 q 6 = nI m := I.2.2.2.2.2.2.2.1
theorem s_N.sI {p : Nat} {q : Nat} {n : Nat} {g : ZT} {K : ZK} {M : ZM} {P : ZP} {m : Nat} {C : QS} {D : QS} (I : s_N p q n g K M P m C D) : s_I q g K M K.cc D := I.2.2.2.2.2.2.2.2
section ZMAIN
variable {C D : QS} {n p q : Nat} {g : ZT} {K : ZK} {M : ZM} {P : ZP}
theorem e_word_same {n : Nat} {t t' : Nat} {w : List Int32} (hG : z_G n g) (h : e_word g t w = true) (h' : e_word g t' w = true) : k_same g.2.1 (g.2.2.1 t) (g.2.2.2 t) (g.2.2.1 t') (g.2.2.2 t') = true := by
  simp only [e_word, k_word, Bool.and_eq_true] at h h'
  obtain ⟨a1, a2⟩ := z_txt_iff.mp h.2
  obtain ⟨c1, c2⟩ := z_txt_iff.mp h'.2
  rw [k_same_iff]
  refine ⟨by omega, fun k hk => ?_⟩
  rw [a2 k (by omega), c2 k (by omega)]
theorem k_mp_one {b b' : Nat} (hG : z_G n g) (hKD : k_KD g K) (J : m_J p q n g K M C D) (hb : b < M.bc) (hb' : b' < M.bc) (h : k_mp g K M b = true) (h' : k_mp g K M b' = true) : ¬ b < b' := by
  intro hlt
  simp only [k_mp, Bool.and_eq_true] at h h'
  have s1 := e_word_same hG h'.1 h.1
  have s2 := e_word_same hG h.2.1 h'.2.1
  have o1 := J.o8 b hb
  have mo := J.mB.2.2.1 b b' hlt hb'
  have oc := (J.mB.2.1 b' hb').2
  have eo : M.bo b = M.bo b' := by
    by_cases c : M.bo b = M.bo b'
    · exact c
    · have := hKD (M.bo b) (M.bo b') o1 (by omega) oc
      rw [this] at s1; cases s1
  have := J.mB.2.2.2 b b' hlt hb' eo
  rw [e_at, s2] at this
  cases this
theorem k_br_rng {b : Nat} (hK : k_K g K) (J : m_J p q n g K M C D) (hb : b < M.bc) : M.br b = 68 ∨ k_tok K (M.br b) := by
  obtain ⟨e, H⟩ := J.hd b hb
  exact k_rs_rng hK H.br
theorem z_mainC {b : Nat} (hp : z_pp p) (hG : z_G n g) (hK : k_K g K) (J : m_J p q n g K M C D) (hb : b < M.bc) : tX4_mainFault_2 p (nI b, C) = if k_mp g K M b = true then some (.inl (-1, q_sI C p 16 (nI b))) else some (.inr (nI (b + 1), C)) := by
  have b1 := hG.1
  have b2 := hG.2.1
  have h48 := J.mB.1
  have h32 := hK.2.1
  have oc := (J.mB.2.1 b hb).2
  have ow := (J.mB.2.1 b hb).1
  have o8 := J.o8 b hb
  obtain ⟨e', H⟩ := J.hd b hb
  have ha := H.bl
  have ha2 := H.b12
  obtain ⟨x1, x2, x3, x4, x5, x6, x7, x8⟩ := J.cB.2 b hb
  have cw := (J.kC.2 (M.bo b) oc).1
  rw [if_neg (by omega)] at cw
  have cwl := (hK.2.2.2.1 (M.bo b) o8 oc).1
  have hr : M.br b < 69 := by
    rcases k_br_rng hK J hb with h | h
    · omega
    · have := k_tok_lt hK h; omega
  have w1 : fX8_isWord C (nI (M.bw b)) 1000054 = some (e_word g (M.bw b) w_main) := z_isWord J.hC hG z_sMain (by omega)
  have w2 : fX8_isWord C (nI (K.cw (M.bo b))) 1000056 = some (e_word g (K.cw (M.bo b)) w_Main) := z_isWord J.hC hG z_sMainC (by omega)
  have g1 : ¬ nI M.bc ≤ nI b := by rw [z_leN (by omega) (by omega)]; omega
  have e68 : (68 : Int32) = nI 68 := rfl
  have e0 : (0 : Int32) = nI 0 := rfl
  have qa : (nI (M.ba b) = 0) = (M.ba b = 0) := by rw [e0, z_eqN (by omega) (by decide)]
  have qr : (nI (M.br b) = 68) = (M.br b = 68) := by rw [e68, z_eqN (by omega) (by decide)]
  simp only [tX4_mainFault_2, J.cB.1, if_neg g1, z_inbN (show b < 48 by omega) (by decide), if_true, z_cl (show b < 2147483648 by omega), x1, x2, x3, x4, x5, z_qb0, qa, qr, z_inbN (show M.bo b < 32 by omega) (by decide), z_cl (show M.bo b < 2147483648 by omega), cw, w1, w2, nI_1, k_mp]
  by_cases c1 : M.bm b = false
  · by_cases c2 : M.ba b = 0
    · by_cases c3 : M.br b = 68
      · by_cases h1 : e_word g (M.bw b) w_main = true <;> by_cases h2 : e_word g (K.cw (M.bo b)) w_Main = true <;> simp [c1, c2, c3, h1, h2]
      · simp [c1, c2, c3]
    · simp [c1, c2]
  · simp [c1]
theorem k_y_m1 {x : Nat} (h : x < 69) : (k_y x = -1) = (x = 68) := by
  refine propext ⟨fun e => ?_, fun e => by rw [e]; rfl⟩
  have : k_y x = k_y 68 := e
  rw [k_y_eq h (by decide)] at this
  exact this
theorem z_mainD {b : Nat} (hq : z_qq q) (hG : z_G n g) (hK : k_K g K) (J : m_J p q n g K M C D) (hb : b < M.bc) : tX12_settled_183 q (nI b, D) = some (.inr (nI (b + 1), if k_mp g K M b = true then q_sI D q 6 (nI b) else D)) := by
  have b1 := hG.1
  have b2 := hG.2.1
  have h48 := J.mB.1
  have h32 := hK.2.1
  have oc := (J.mB.2.1 b hb).2
  have ow := (J.mB.2.1 b hb).1
  have o8 := J.o8 b hb
  obtain ⟨e', H⟩ := J.hd b hb
  have ha := H.bl
  have ha2 := H.b12
  obtain ⟨x1, x2, x3, x4, x5, x6, x7, x8⟩ := J.dB.2 b hb
  have cw := (J.kD.2 (M.bo b) oc).1 o8
  have cwl := (hK.2.2.2.1 (M.bo b) o8 oc).1
  have hr : M.br b < 69 := by
    rcases k_br_rng hK J hb with h | h
    · omega
    · have := k_tok_lt hK h; omega
  have w1 : fX12_is D (nI (M.bw b)) 1000092 = some (e_word g (M.bw b) w_main) := z_is J.hD hG z_sMain2 (by omega)
  have w2 : fX12_is D (nI (K.cw (M.bo b))) 1000090 = some (e_word g (K.cw (M.bo b)) w_Main) := z_is J.hD hG z_sMainC2 (by omega)
  have g1 : ¬ nI M.bc ≤ nI b := by rw [z_leN (by omega) (by omega)]; omega
  have e0 : (0 : Int32) = nI 0 := rfl
  have qa : (nI (M.ba b) = 0) = (M.ba b = 0) := by rw [e0, z_eqN (by omega) (by decide)]
  simp only [tX12_settled_183, J.dB.1, if_neg g1, z_inbN (show b < 48 by omega) (by decide), if_true, z_cl (show b < 2147483648 by omega), x1, x2, x3, x4, x5, z_qb0, qa, k_y_m1 hr, z_inbN (show M.bo b < 32 by omega) (by decide), z_cl (show M.bo b < 2147483648 by omega), cw, w1, w2, nI_1, k_mp, Option.bind_some]
  by_cases h2 : e_word g (K.cw (M.bo b)) w_Main = true
  · by_cases h1 : e_word g (M.bw b) w_main = true
    · by_cases c1 : M.bm b = false
      · by_cases c2 : M.ba b = 0
        · by_cases c3 : M.br b = 68
          · simp [h1, h2, c1, c2, c3]
          · simp [h1, h2, c1, c2, c3]
        · simp [h1, h2, c1, c2]
      · simp [h1, h2, c1]
    · simp [h1, h2]
  · simp [h2]
theorem z_main (hp : z_pp p) (hq : z_qq q) (hG : z_G n g) (hK : k_K g K) (hKD : k_KD g K) (N : c_N p q n g K M P C D) : ∃ r r', fX4_mainFault C p = some r ∧ fX12_settled D q = some r' ∧ z_offC p C r.2 ∧ z_offD q D r'.2 ∧ (z_flt g r r' ∨ (r.1 = -1 ∧ r'.1 = true ∧ ∃ m, s_N p q n g K M P m r.2 r'.2)) := by
  have b1 := hG.1
  have b2 := hG.2.1
  obtain ⟨S, B⟩ := N
  have J := S.mJ
  have h48 := J.mB.1
  obtain ⟨D1, x1, x2, x3⟩ := z_set2 hp hq hG hK 6 0 D rfl J
  have cl : fX4_mainFault C p = q_run (tX4_mainFault_2 p) (nI 0, C) := rfl
  have dl : fX12_settled D q = q_run (tX12_settled_2 q) (nI 0, D) := rfl
  rw [cl, dl, x1]
  have f2 : s_f q D (q_sI D1 q 6 (-1)) := x2.sI (by omega)
  have J2 := J.sf hp hq f2
  have skC : ∀ d a, (∀ b, a ≤ b → b < a + d → k_mp g K M b = false) → a + d ≤ M.bc → q_run (tX4_mainFault_2 p) (nI a, C) = q_run (tX4_mainFault_2 p) (nI (a + d), C) := by
    intro d
    induction d with
    | zero => intro a _ _; rfl
    | succ d ih =>
      intro a h hd
      have st := z_mainC hp hG hK J (show a < M.bc by omega)
      rw [h a (Nat.le_refl _) (by omega), if_neg (by decide)] at st
      rw [q_run_go st, ih (a + 1) (fun b h1 h2 => h b (by omega) (by omega)) (by omega), show a + 1 + d = a + (d + 1) by omega]
  have skD : ∀ d a D', m_J p q n g K M C D' → (∀ b, a ≤ b → b < a + d → k_mp g K M b = false) → a + d ≤ M.bc → q_run (tX12_settled_183 q) (nI a, D') = q_run (tX12_settled_183 q) (nI (a + d), D') := by
    intro d
    induction d with
    | zero => intro a _ _ _ _; rfl
    | succ d ih =>
      intro a D' J' h hd
      have st := z_mainD hq hG hK J' (show a < M.bc by omega)
      rw [h a (Nat.le_refl _) (by omega), if_neg (by decide)] at st
      rw [q_run_go st, ih (a + 1) D' J' (fun b h1 h2 => h b (by omega) (by omega)) (by omega), show a + 1 + d = a + (d + 1) by omega]
  have fin : ∀ D', m_J p q n g K M C D' → tX12_settled_183 q (nI M.bc, D') = if 0 ≤ D'.2.1 q 6 then some (.inl (true, D')) else some (.inl (false, q_sI D' 102 12 (nI g.1))) := by
    intro D' J'
    simp only [tX12_settled_183, J'.dB.1]
    rw [if_pos (by rw [z_leN (by omega) (by omega)]; exact Nat.le_refl _)]
    simp only [fX12_wrong, Option.bind_some, J'.hD.2.1, Bool.false_eq_true, if_false]
  by_cases ex : ∃ b, b < M.bc ∧ k_mp g K M b = true
  · obtain ⟨b, hb, hm⟩ := ex
    have no : ∀ b', b' < M.bc → b' ≠ b → k_mp g K M b' = false := by
      intro b' h1 h2
      cases h : k_mp g K M b' with
      | false => rfl
      | true =>
        exfalso
        have y1 := k_mp_one hG hKD J hb h1 hm h
        have y2 := k_mp_one hG hKD J h1 hb h hm
        omega
    have stC := z_mainC hp hG hK J hb
    rw [if_pos hm] at stC
    have c1 := skC b 0 (fun b' h1 h2 => no b' (by omega) (by omega)) (by omega)
    rw [Nat.zero_add] at c1
    have stD := z_mainD hq hG hK J2 hb
    rw [if_pos hm] at stD
    have d1 := skD b 0 _ J2 (fun b' h1 h2 => no b' (by omega) (by omega)) (by omega)
    rw [Nat.zero_add] at d1
    have f3 : s_f q D (q_sI (q_sI D1 q 6 (-1)) q 6 (nI b)) := f2.sI (by omega)
    have J3 := J.sf hp hq f3
    have d2 := skD (M.bc - (b + 1)) (b + 1) _ J3 (fun b' h1 h2 => no b' (by omega) (by omega)) (by omega)
    rw [show b + 1 + (M.bc - (b + 1)) = M.bc by omega] at d2
    have m6 : (q_sI (q_sI D1 q 6 (-1)) q 6 (nI b)).2.1 q 6 = nI b := by rw [q_sI_I, if_pos ⟨rfl, rfl⟩]
    have fn := fin _ J3
    rw [m6, if_pos (nI_pos' (by omega))] at fn
    have oC : z_offC p C (q_sI C p 16 (nI b)) := (z_offC.refl p C).sI (by omega)
    have gC : ∀ y j, ¬ (y = p ∧ j = 16) → (q_sI C p 16 (nI b)).2.1 y j = C.2.1 y j := fun y j h => by rw [q_sI_I, if_neg h]
    have S3 : c_S p q n g K M P (q_sI C p 16 (nI b)) (q_sI (q_sI D1 q 6 (-1)) q 6 (nI b)) := by
      refine S.re hp hq (fun y j h => gC y j ?_) (fun y j h => f3.1 y j ?_ ?_ ?_ ?_ ?_) rfl rfl rfl rfl rfl rfl rfl rfl rfl rfl rfl rfl rfl rfl rfl rfl (fun _ _ => ⟨rfl, rfl⟩) (fun _ _ => ⟨rfl, rfl⟩)
      · rw [z_rC] at h; rcases hp with rfl | rfl <;> omega
      · rw [z_rD] at h; rcases hq with rfl | rfl <;> omega
      · rw [z_rD] at h; rcases hq with rfl | rfl <;> omega
      · rw [z_rD] at h; rcases hq with rfl | rfl <;> omega
      · rw [z_rD] at h; rcases hq with rfl | rfl <;> omega
      · rw [z_rD] at h; rcases hq with rfl | rfl <;> omega
    have sm := hm
    simp only [k_mp, Bool.and_eq_true, Bool.not_eq_true', decide_eq_true_eq] at sm
    refine ⟨_, _, c1.trans (q_run_ret stC), (d1.trans (q_run_go stD)).trans (d2.trans (q_run_ret fn)), oC, f3.off, Or.inr ⟨rfl, rfl, b, S3, fun c hc => ?_, hb, sm.2.2.1, sm.2.2.2.1, sm.2.2.2.2, ?_, m6, ?_⟩⟩
    · exact (B c hc).fr rfl rfl rfl rfl (Nat.le_refl _) (Nat.le_refl _) (fun _ _ => ⟨rfl, rfl⟩) (fun _ _ => rfl) (fun k k1 k2 => by omega) (fun y y1 y2 => gC y _ (by omega)) (fun y y1 y2 => f3.1 y _ (by omega) (by omega) (by omega) (by omega) (by omega))
    · rw [q_sI_I, if_pos ⟨rfl, rfl⟩]
    · have gD : ∀ y j, y ≠ q → (q_sI (q_sI D1 q 6 (-1)) q 6 (nI b)).2.1 y j = D1.2.1 y j := fun y j h => by rw [q_sI_I, if_neg (by omega), q_sI_I, if_neg (by omega)]
      exact ⟨fun c h => (gD _ _ (by omega)).trans (x3.1 c h), fun f h1 h2 => (gD _ _ (by omega)).trans (x3.2.1 f h1 h2), fun c h b' hb' => (gD _ _ (by omega)).trans (x3.2.2 c h b' hb')⟩
  · have no : ∀ b', b' < M.bc → k_mp g K M b' = false := by
      intro b' h1
      cases h : k_mp g K M b' with
      | false => rfl
      | true => exact absurd ⟨b', h1, h⟩ ex
    have c1 := skC M.bc 0 (fun b' h1 h2 => no b' (by omega)) (by omega)
    have d1 := skD M.bc 0 _ J2 (fun b' h1 h2 => no b' (by omega)) (by omega)
    rw [Nat.zero_add] at c1 d1
    have fn := fin _ J2
    rw [show (q_sI D1 q 6 (-1)).2.1 q 6 = -1 by rw [q_sI_I, if_pos ⟨rfl, rfl⟩], if_neg (by decide)] at fn
    have stC : tX4_mainFault_2 p (nI M.bc, C) = some (.inl (nI g.1, C)) := by
      simp only [tX4_mainFault_2, J.cB.1]
      rw [if_pos (by rw [z_leN (by omega) (by omega)]; exact Nat.le_refl _), J.hC.2.1]
    refine ⟨_, _, c1.trans (q_run_ret stC), d1.trans (q_run_ret fn), z_offC.refl p C, f2.off.sI (by omega), Or.inl ⟨g.1, Nat.le_refl _, rfl, rfl, ?_⟩⟩
    rw [q_sI_I, if_pos ⟨rfl, rfl⟩]
end ZMAIN
