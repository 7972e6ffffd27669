/-! ===== fields and bodies: what is looked up ===== -/
abbrev ZM0 : Type := Nat × (Nat → Nat) × (Nat → Nat) × (Nat → Nat) × (Nat → Nat) × Nat × (Nat → Nat) × (Nat → Nat) × (Nat → Bool) × (Nat → Nat) × (Nat → Nat → Nat) × (Nat → Nat) × (Nat → Nat) × (Nat → Nat) × (Nat → Nat)
def ZM : Type := ZM0
def ZM.fc : ZM → Nat := fun (M : ZM0) => M.1
def ZM.fw : ZM → Nat → Nat := fun (M : ZM0) => M.2.1
def ZM.fo : ZM → Nat → Nat := fun (M : ZM0) => M.2.2.1
def ZM.ft : ZM → Nat → Nat := fun (M : ZM0) => M.2.2.2.1
def ZM.fs : ZM → Nat → Nat := fun (M : ZM0) => M.2.2.2.2.1
def ZM.bc : ZM → Nat := fun (M : ZM0) => M.2.2.2.2.2.1
def ZM.bw : ZM → Nat → Nat := fun (M : ZM0) => M.2.2.2.2.2.2.1
def ZM.bo : ZM → Nat → Nat := fun (M : ZM0) => M.2.2.2.2.2.2.2.1
def ZM.bm : ZM → Nat → Bool := fun (M : ZM0) => M.2.2.2.2.2.2.2.2.1
def ZM.ba : ZM → Nat → Nat := fun (M : ZM0) => M.2.2.2.2.2.2.2.2.2.1
def ZM.bp : ZM → Nat → Nat → Nat := fun (M : ZM0) => M.2.2.2.2.2.2.2.2.2.2.1
def ZM.br : ZM → Nat → Nat := fun (M : ZM0) => M.2.2.2.2.2.2.2.2.2.2.2.1
def ZM.bl : ZM → Nat → Nat := fun (M : ZM0) => M.2.2.2.2.2.2.2.2.2.2.2.2.1
def ZM.bt : ZM → Nat → Nat := fun (M : ZM0) => M.2.2.2.2.2.2.2.2.2.2.2.2.2.1
def ZM.rt : ZM → Nat → Nat := fun (M : ZM0) => M.2.2.2.2.2.2.2.2.2.2.2.2.2.2
/-- do the bytes from u to v stand at a token -/
def e_at (g : ZT) (u v t : Nat) : Bool := k_same g.2.1 u v (g.2.2.1 t) (g.2.2.2 t)
def m_CF (C : QS) (p : Nat) (M : ZM) : Prop := C.2.1 (p + 1) 5 = nI M.fc ∧ ∀ f, f < M.fc → C.2.1 (p + 6) f = nI (M.fw f) ∧ C.2.1 (p + 7) f = nI (M.fo f) ∧ C.2.1 (p + 8) f = nI (M.ft f) ∧ C.2.1 (p + 9) f = nI (M.fs f)
def m_CB (C : QS) (p : Nat) (M : ZM) : Prop := C.2.1 p 2 = nI M.bc ∧ ∀ b, b < M.bc → C.2.1 (p + 22) b = nI (M.bw b) ∧ C.2.1 (p + 23) b = nI (M.bo b) ∧ C.2.1 (p + 24) b = q_b (M.bm b) ∧ C.2.1 (p + 25) b = nI (M.ba b) ∧ C.2.1 (p + 27) b = nI (M.br b) ∧ C.2.1 (p + 28) b = nI (M.bl b) ∧ C.2.1 (p + 33) b = nI (M.bt b) ∧ ∀ k, k < M.ba b → C.2.1 (p + 26) (b * 12 + k) = nI (M.bp b k)
def m_DF (D : QS) (q : Nat) (M : ZM) : Prop := D.2.1 q 1 = nI M.fc ∧ ∀ f, f < M.fc → D.2.1 164 f = nI (M.fw f) ∧ D.2.1 (q + 3) f = nI (M.fo f) ∧ D.2.1 (q + 4) f = k_y (M.ft f)
def m_DB (D : QS) (q : Nat) (M : ZM) : Prop := D.2.1 q 2 = nI M.bc ∧ ∀ b, b < M.bc → D.2.1 165 b = nI (M.bw b) ∧ D.2.1 (q + 6) b = nI (M.bo b) ∧ D.2.1 (q + 7) b = q_b (M.bm b) ∧ D.2.1 (q + 8) b = nI (M.ba b) ∧ D.2.1 (q + 10) b = k_y (M.br b) ∧ D.2.1 (q + 11) b = nI (M.bl b) ∧ D.2.1 166 b = nI (M.rt b) ∧ ∀ k, k < M.ba b → D.2.1 (q + 9) (b * 12 + k) = k_y (M.bp b k)
/-- what holds of the fields -/
def m_F (g : ZT) (K : ZK) (M : ZM) : Prop := M.fc ≤ 48 ∧ ∀ f, f < M.fc → M.fw f < g.1 ∧ M.fo f < K.cc ∧ 8 ≤ M.fo f
def m_B (g : ZT) (K : ZK) (M : ZM) : Prop := M.bc ≤ 48 ∧ (∀ b, b < M.bc → M.bw b < g.1 ∧ M.bo b < K.cc) ∧ (∀ b b', b < b' → b' < M.bc → M.bo b ≤ M.bo b') ∧ ∀ b b', b < b' → b' < M.bc → M.bo b = M.bo b' → e_at g (g.2.2.1 (M.bw b)) (g.2.2.2 (M.bw b)) (M.bw b') = false
def k_fld (g : ZT) (K : ZK) (M : ZM) (c u v : Nat) : Option Nat := z_ff (fun f => if (k_anc K.cp (M.fo f) c && e_at g u v (M.fw f)) = true then some (some f) else none) none 0 M.fc
def k_lst (P : Nat → Bool) : Nat → Option Nat
  | 0 => none
  | m + 1 => if P m = true then some m else k_lst P m
def k_bP (g : ZT) (K : ZK) (M : ZM) (c u v b : Nat) : Bool := k_anc K.cp (M.bo b) c && e_at g u v (M.bw b)
def k_bod (g : ZT) (K : ZK) (M : ZM) (c u v : Nat) : Option Nat := k_lst (k_bP g K M c u v) M.bc
theorem k_lst_some {P : Nat → Bool} {b : Nat} : ∀ m, k_lst P m = some b → b < m ∧ P b = true ∧ ∀ i, b < i → i < m → P i = false
  | 0, h => by cases h
  | m + 1, h => by
    rw [k_lst] at h
    split at h
    · next q => cases h; exact ⟨Nat.lt_succ_self _, q, fun i h1 h2 => by omega⟩
    · next q =>
      obtain ⟨h1, h2, h3⟩ := k_lst_some m h
      refine ⟨by omega, h2, fun i i1 i2 => ?_⟩
      by_cases e : i = m
      · rw [e]; exact Bool.eq_false_iff.mpr q
      · exact h3 i i1 (by omega)
theorem k_lst_none {P : Nat → Bool} : ∀ m, k_lst P m = none → ∀ i, i < m → P i = false
  | 0, _, i, hi => by omega
  | m + 1, h, i, hi => by
    rw [k_lst] at h
    split at h
    · cases h
    · next q =>
      by_cases e : i = m
      · rw [e]; exact Bool.eq_false_iff.mpr q
      · exact k_lst_none m h i (by omega)
theorem k_lst_of {P : Nat → Bool} {b : Nat} : ∀ m, b < m → P b = true → (∀ i, b < i → i < m → P i = false) → k_lst P m = some b
  | 0, h, _, _ => by omega
  | m + 1, h, hb, hn => by
    rw [k_lst]
    by_cases e : b = m
    · rw [← e, if_pos hb]
    · rw [hn m (by omega) (Nat.lt_succ_self _), if_neg (by simp)]
      exact k_lst_of m (by omega) hb (fun i h1 h2 => hn i h1 (by omega))
theorem k_lst_congr {P Q : Nat → Bool} : ∀ m, (∀ i, i < m → P i = Q i) → k_lst P m = k_lst Q m
  | 0, _ => rfl
  | m + 1, h => by
    rw [k_lst, k_lst, h m (Nat.lt_succ_self _), k_lst_congr m (fun i hi => h i (by omega))]
theorem z_ff_some {P : Nat → Bool} {c : Nat} : ∀ m lo, z_ff (fun c => if P c = true then some (some c) else none) none lo m = some c → lo ≤ c ∧ c < lo + m ∧ P c = true := by
  intro m
  induction m with
  | zero => intro lo h; cases h
  | succ m ih =>
    intro lo h
    rw [z_ff] at h
    by_cases q : P lo = true
    · rw [if_pos q] at h
      cases h
      exact ⟨Nat.le_refl _, by omega, q⟩
    · rw [if_neg q] at h
      have := ih (lo + 1) h
      exact ⟨by omega, by omega, this.2.2⟩
theorem z_ff_no {P : Nat → Bool} : ∀ m lo, z_ff (fun c => if P c = true then some (some c) else none) none lo m = none → ∀ c, lo ≤ c → c < lo + m → P c = false := by
  intro m
  induction m with
  | zero => intro lo h c h1 h2; omega
  | succ m ih =>
    intro lo h c h1 h2
    rw [z_ff] at h
    by_cases q : P lo = true
    · rw [if_pos q] at h
      cases h
    · rw [if_neg q] at h
      by_cases e : c = lo
      · rw [e]; exact Bool.eq_false_iff.mpr q
      · exact ih (lo + 1) h c (by omega) (by omega)
section ZMEM
variable {C D : QS} {n p q : Nat} {g : ZT} {K : ZK} {M : ZM}
theorem z_fieldNamed {c u v : Nat} (hC : z_C C n g) (hG : z_G n g) (hK : k_K g K) (hk : k_C C p K) (hm : m_CF C p M) (hF : m_F g K M) (hc : c < K.cc) (huv : u ≤ v) (hv : v ≤ n) : fX4_fieldNamed C p (nI c) (nI u) (nI v) = some (k_oI (k_fld g K M c u v)) := by
  have h32 := hK.2.1
  have hf := hF.1
  rw [fX4_fieldNamed, fX4_fieldNamed_3, show (0 : Int32) = nI 0 from rfl]
  refine (z_for (f := tX4_fieldNamed_3 C p (nI c) (nI u) (nI v)) (lo := 0) (m := M.fc) (fun f => if (k_anc K.cp (M.fo f) c && e_at g u v (M.fw f)) = true then some (nI f) else none) (-1) (fun f h1 h2 => ?_) ?_).trans ?_
  · have g1 : ¬ nI M.fc ≤ nI f := by rw [z_leN (by omega) (by omega)]; omega
    obtain ⟨w1, w2, -⟩ := hF.2 f (by omega)
    obtain ⟨m1, m2, -⟩ := hm.2 f (by omega)
    simp only [tX4_fieldNamed_3, hm.1, if_neg g1, z_inbN (show f < 48 by omega) (by decide), if_true, z_cl (show f < 2147483648 by omega), m1, m2, z_isAbove h32 hk w2 hc, Option.bind_some, z_same hC hG w1 huv hv, nI_1]
    by_cases a1 : k_anc K.cp (M.fo f) c = true <;> by_cases a2 : k_same g.2.1 u v (g.2.2.1 (M.fw f)) (g.2.2.2 (M.fw f)) = true <;> simp [e_at, a1, a2]
  · simp only [tX4_fieldNamed_3, hm.1, Nat.zero_add]
    rw [if_pos (by rw [z_leN (by omega) (by omega)]; exact Nat.le_refl _)]
  · rw [z_ff_nI, k_fld]
    cases z_ff (fun f => if (k_anc K.cp (M.fo f) c && e_at g u v (M.fw f)) = true then some (some f) else none) none 0 M.fc <;> rfl
theorem z_fieldOf {c u v : Nat} (hD : z_D D n g) (hG : z_G n g) (hK : k_K g K) (hk : k_D D q K) (hm : m_DF D q M) (hF : m_F g K M) (hc : c < K.cc) (huv : u ≤ v) (hv : v ≤ n) : fX12_fieldOf D q (nI c) (nI u) (nI v) = some (k_oI (k_fld g K M c u v)) := by
  have h32 := hK.2.1
  have hf := hF.1
  have b1 := hG.1
  have b2 := hG.2.1
  rw [fX12_fieldOf, fX12_fieldOf_3, show (0 : Int32) = nI 0 from rfl]
  refine (z_for (f := tX12_fieldOf_3 D q (nI c) (nI u) (nI v)) (lo := 0) (m := M.fc) (fun f => if (k_anc K.cp (M.fo f) c && e_at g u v (M.fw f)) = true then some (nI f) else none) (-1) (fun f h1 h2 => ?_) ?_).trans ?_
  · have g1 : ¬ nI M.fc ≤ nI f := by rw [z_leN (by omega) (by omega)]; omega
    obtain ⟨w1, w2, -⟩ := hF.2 f (by omega)
    obtain ⟨m1, m2, -⟩ := hm.2 f (by omega)
    have gt := hG.2.2.2 (M.fw f) w1
    simp only [tX12_fieldOf_3, hm.1, if_neg g1, z_inbN (show f < 48 by omega) (by decide), if_true, z_cl (show f < 2147483648 by omega), m1, m2, z_isAtOrBelow hK hk w2 c hc, Option.bind_some, z_inbN (show M.fw f < 16002 by omega) (by decide), z_cl (show M.fw f < 2147483648 by omega), (hD.2.2.2 (M.fw f) w1).1, (hD.2.2.2 (M.fw f) w1).2, z_dSame hD hG huv hv (Nat.le_of_lt gt.1) gt.2.1, nI_1]
    by_cases a1 : k_anc K.cp (M.fo f) c = true <;> by_cases a2 : k_same g.2.1 u v (g.2.2.1 (M.fw f)) (g.2.2.2 (M.fw f)) = true <;> simp [e_at, a1, a2]
  · simp only [tX12_fieldOf_3, hm.1, Nat.zero_add]
    rw [if_pos (by rw [z_leN (by omega) (by omega)]; exact Nat.le_refl _)]
  · rw [z_ff_nI, k_fld]
    cases z_ff (fun f => if (k_anc K.cp (M.fo f) c && e_at g u v (M.fw f)) = true then some (some f) else none) none 0 M.fc <;> rfl
theorem z_bodyNamed {c u v : Nat} (hC : z_C C n g) (hG : z_G n g) (hK : k_K g K) (hk : k_C C p K) (hm : m_CB C p M) (hB : m_B g K M) (hc : c < K.cc) (huv : u ≤ v) (hv : v ≤ n) : fX4_bodyNamed C p (nI c) (nI u) (nI v) = some (k_oI (k_bod g K M c u v)) := by
  have h32 := hK.2.1
  have hf := hB.1
  rw [fX4_bodyNamed, fX4_bodyNamed_6]
  have : ∀ d b, b + d = M.bc → q_run (tX4_bodyNamed_6 C p (nI c) (nI u) (nI v)) (k_oI (k_lst (k_bP g K M c u v) b), nI b) = some (k_oI (k_bod g K M c u v)) := by
    intro d
    induction d with
    | zero =>
      intro b hb
      refine q_run_ret ?_
      rw [show b = M.bc by omega]
      simp only [tX4_bodyNamed_6, hm.1]
      rw [if_pos (by rw [z_leN (by omega) (by omega)]; exact Nat.le_refl _)]
      rfl
    | succ d ih =>
      intro b hb
      have g1 : ¬ nI M.bc ≤ nI b := by rw [z_leN (by omega) (by omega)]; omega
      obtain ⟨w1, w2⟩ := hB.2.1 b (by omega)
      obtain ⟨m1, m2, -⟩ := hm.2 b (by omega)
      have st : tX4_bodyNamed_6 C p (nI c) (nI u) (nI v) (k_oI (k_lst (k_bP g K M c u v) b), nI b) = some (.inr (k_oI (k_lst (k_bP g K M c u v) (b + 1)), nI (b + 1))) := by
        have e : k_lst (k_bP g K M c u v) (b + 1) = if (k_anc K.cp (M.bo b) c && k_same g.2.1 u v (g.2.2.1 (M.bw b)) (g.2.2.2 (M.bw b))) = true then some b else k_lst (k_bP g K M c u v) b := rfl
        rw [e]
        simp only [tX4_bodyNamed_6, hm.1, if_neg g1, z_inbN (show b < 48 by omega) (by decide), if_true, z_cl (show b < 2147483648 by omega), m1, m2, z_isAbove h32 hk w2 hc, Option.bind_some, z_same hC hG w1 huv hv, nI_1]
        cases k_anc K.cp (M.bo b) c <;> cases k_same g.2.1 u v (g.2.2.1 (M.bw b)) (g.2.2.2 (M.bw b)) <;> rfl
      rw [q_run_go st]
      exact ih (b + 1) (by omega)
  exact this M.bc 0 (Nat.zero_add _)
theorem z_bodyOf {u v : Nat} (hD : z_D D n g) (hG : z_G n g) (hK : k_K g K) (hk : k_D D q K) (hm : m_DB D q M) (hB : m_B g K M) (huv : u ≤ v) (hv : v ≤ n) : ∀ c, c < K.cc → fX12_bodyOf D q (nI c) (nI u) (nI v) = some (k_oI (k_bod g K M c u v)) := by
  have h32 := hK.2.1
  have hf := hB.1
  have b1 := hG.1
  have b2 := hG.2.1
  intro c
  induction c using Nat.strongRecOn with
  | _ c ih =>
    intro hc
    rw [fX12_bodyOf, fX12_bodyOf_3]
    -- the bodies of the class itself
    have inner : ∀ d b, b + d = M.bc → q_run (tX12_bodyOf_11 D q (nI u) (nI v)) (nI c, nI b) = some (z_ff (fun b => if (decide (M.bo b = c) && e_at g u v (M.bw b)) = true then some (Sum.inl (nI b)) else none) (Sum.inr (if c = 0 then -1 else nI (K.cp c))) b d) := by
      intro d
      induction d with
      | zero =>
        intro b hb
        refine q_run_ret ?_
        simp only [tX12_bodyOf_11, hm.1]
        rw [if_pos (by rw [z_leN (by omega) (by omega)]; omega), if_pos (z_inbN (by omega) (by decide)), z_cl (by omega), (hk.2 c hc).2]
        rfl
      | succ d ih2 =>
        intro b hb
        have g1 : ¬ nI M.bc ≤ nI b := by rw [z_leN (by omega) (by omega)]; omega
        obtain ⟨w1, w2⟩ := hB.2.1 b (by omega)
        obtain ⟨m1, m2, -⟩ := hm.2 b (by omega)
        have gt := hG.2.2.2 (M.bw b) w1
        rw [z_ff]
        by_cases e : M.bo b = c
        · by_cases s : e_at g u v (M.bw b) = true
          · have st : tX12_bodyOf_11 D q (nI u) (nI v) (nI c, nI b) = some (.inl (.inl (nI b))) := by
              simp only [tX12_bodyOf_11, hm.1, if_neg g1, z_inbN (show b < 48 by omega) (by decide), if_true, z_cl (show b < 2147483648 by omega), m1, m2, e, z_inbN (show M.bw b < 16002 by omega) (by decide), z_cl (show M.bw b < 2147483648 by omega), (hD.2.2.2 (M.bw b) w1).1, (hD.2.2.2 (M.bw b) w1).2, z_dSame hD hG huv hv (Nat.le_of_lt gt.1) gt.2.1, Option.bind_some]
              exact if_pos s
            rw [q_run_ret st, decide_eq_true e, s]
            rfl
          · have st : tX12_bodyOf_11 D q (nI u) (nI v) (nI c, nI b) = some (.inr (nI c, nI (b + 1))) := by
              simp only [tX12_bodyOf_11, hm.1, if_neg g1, z_inbN (show b < 48 by omega) (by decide), if_true, z_cl (show b < 2147483648 by omega), m1, m2, e, z_inbN (show M.bw b < 16002 by omega) (by decide), z_cl (show M.bw b < 2147483648 by omega), (hD.2.2.2 (M.bw b) w1).1, (hD.2.2.2 (M.bw b) w1).2, z_dSame hD hG huv hv (Nat.le_of_lt gt.1) gt.2.1, Option.bind_some, nI_1]
              exact if_neg s
            rw [q_run_go st, Bool.eq_false_iff.mpr s, Bool.and_false, if_neg (by simp)]
            exact ih2 (b + 1) (by omega)
        · have ne : ¬ nI (M.bo b) = nI c := z_neN (by omega) (by omega) e
          have st : tX12_bodyOf_11 D q (nI u) (nI v) (nI c, nI b) = some (.inr (nI c, nI (b + 1))) := by
            simp only [tX12_bodyOf_11, hm.1, if_neg g1, z_inbN (show b < 48 by omega) (by decide), if_true, z_cl (show b < 2147483648 by omega), m2, if_neg ne, nI_1]
          rw [q_run_go st, decide_eq_false e, Bool.false_and, if_neg (by simp)]
          exact ih2 (b + 1) (by omega)
    have zf : ∀ d b, z_ff (fun b => if (decide (M.bo b = c) && e_at g u v (M.bw b)) = true then some (Sum.inl (nI b)) else none) (Sum.inr (if c = 0 then (-1 : Int32) else nI (K.cp c))) b d = match z_ff (fun b => if (decide (M.bo b = c) && e_at g u v (M.bw b)) = true then some (some b) else none) none b d with | some b => Sum.inl (nI b) | none => Sum.inr (if c = 0 then (-1 : Int32) else nI (K.cp c)) := by
      intro d
      induction d with
      | zero => intro b; rfl
      | succ d ih3 =>
        intro b
        rw [z_ff, z_ff]
        by_cases x : (decide (M.bo b = c) && e_at g u v (M.bw b)) = true
        · rw [if_pos x, if_pos x]
        · rw [if_neg x, if_neg x]
          exact ih3 (b + 1)
    have st : tX12_bodyOf_3 D q (nI u) (nI v) (nI c) = some (match z_ff (fun b => if (decide (M.bo b = c) && e_at g u v (M.bw b)) = true then some (some b) else none) none 0 M.bc with | some b => Sum.inl (nI b) | none => Sum.inr (if c = 0 then (-1 : Int32) else nI (K.cp c))) := by
      rw [tX12_bodyOf_3, if_neg (nI_pos (by omega)), uX12_bodyOf_11, show (0 : Int32) = nI 0 from rfl, inner M.bc 0 (Nat.zero_add _), zf]
    cases hz : z_ff (fun b => if (decide (M.bo b = c) && e_at g u v (M.bw b)) = true then some (some b) else none) none 0 M.bc with
    | some b =>
      rw [hz] at st
      rw [q_run_ret st]
      obtain ⟨h1, h2, h3⟩ := z_ff_some _ _ hz
      rw [Bool.and_eq_true, decide_eq_true_eq] at h3
      have : k_bod g K M c u v = some b := by
        refine k_lst_of _ (by omega) ?_ (fun i i1 i2 => ?_)
        · rw [k_bP, h3.1, k_anc_self, h3.2]; rfl
        · rw [k_bP]
          by_cases a1 : k_anc K.cp (M.bo i) c = true
          · have l1 := k_anc_le _ a1
            have l2 := hB.2.2.1 b i i1 i2
            have e : M.bo b = M.bo i := by omega
            have := hB.2.2.2 b i i1 i2 e
            rw [a1, Bool.true_and]
            rw [e_at] at this ⊢
            rw [k_same_trans h3.2]
            exact this
          · rw [Bool.eq_false_iff.mpr a1, Bool.false_and]
      rw [this]
      rfl
    | none =>
      rw [hz] at st
      rw [q_run_go st]
      have hno := z_ff_no _ _ hz
      by_cases z : c = 0
      · rw [if_pos z]
        have : k_bod g K M c u v = none := by
          cases hk : k_bod g K M c u v with
          | none => rfl
          | some b =>
            obtain ⟨h1, h2, h3⟩ := k_lst_some _ hk
            rw [k_bP, Bool.and_eq_true] at h2
            have l := k_anc_le _ h2.1
            have := hno b (Nat.zero_le _) (by omega)
            rw [decide_eq_true (by omega), h2.2] at this
            cases this
        rw [this]
        refine q_run_ret ?_
        rw [tX12_bodyOf_3, if_pos (by decide)]
        rfl
      · rw [if_neg z]
        have hcp := hK.2.2.1 c (by omega) hc
        have : k_bod g K M c u v = k_bod g K M (K.cp c) u v := by
          refine k_lst_congr _ (fun b hb => ?_)
          rw [k_bP, k_bP]
          have := hno b (Nat.zero_le _) (by omega)
          by_cases e : M.bo b = c
          · rw [decide_eq_true e, Bool.true_and] at this
            rw [this, Bool.and_false, Bool.and_false]
          · rw [k_anc_up e (by omega) hcp]
        rw [this]
        have := ih (K.cp c) hcp (by omega)
        rw [fX12_bodyOf, fX12_bodyOf_3] at this
        exact this
end ZMEM
