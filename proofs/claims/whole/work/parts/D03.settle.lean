/-! ===== fields, methods and main are settled ===== -/
def s_f (q : Nat) (D D' : QS) : Prop := (∀ y j, y ≠ q + 2 → y ≠ q + 5 → y ≠ q + 14 → ¬ (y = q ∧ j = 6) → ¬ (y = q + 20 ∧ 48 ≤ j) → D'.2.1 y j = D.2.1 y j) ∧ D'.1 = D.1 ∧ D'.2.2 = D.2.2
theorem s_f.refl (q : Nat) (D : QS) : s_f q D D := ⟨fun _ _ _ _ _ _ _ => rfl, rfl, rfl⟩
theorem s_f.trans {q : Nat} {D D' D'' : QS} (h : s_f q D D') (h' : s_f q D' D'') : s_f q D D'' := ⟨fun y j a b c d e => (h'.1 y j a b c d e).trans (h.1 y j a b c d e), h'.2.1.trans h.2.1, h'.2.2.trans h.2.2⟩
theorem s_f.sI {q : Nat} {D D' : QS} (h : s_f q D D') {o j : Nat} {v : Int32} (ho : o = q + 2 ∨ o = q + 5 ∨ o = q + 14 ∨ (o = q ∧ j = 6) ∨ (o = q + 20 ∧ 48 ≤ j)) : s_f q D (q_sI D' o j v) := by
  refine ⟨fun y i a b c d e => ?_, h.2.1, h.2.2⟩
  rw [q_sI_I, if_neg (by omega)]
  exact h.1 y i a b c d e
theorem s_f.off {q : Nat} {D D' : QS} (h : s_f q D D') : z_offD q D D' := ⟨fun o j a b c => h.1 o j (by omega) (by omega) (by omega) (by omega) (by omega), h.2.1, h.2.2⟩
section ZSET
variable {C D : QS} {n p q : Nat} {g : ZT} {K : ZK} {M : ZM} {P : ZP}
theorem m_J.sf {D' : QS} (J : m_J p q n g K M C D) (hp : z_pp p) (hq : z_qq q) (h : s_f q D D') : m_J p q n g K M C D' := J.fr hp hq (fun _ _ _ => rfl) (fun y j r => h.1 y j (by rw [z_rD] at r; rcases hq with rfl | rfl <;> omega) (by rw [z_rD] at r; rcases hq with rfl | rfl <;> omega) (by rw [z_rD] at r; rcases hq with rfl | rfl <;> omega) (by rw [z_rD] at r; rcases hq with rfl | rfl <;> omega) (by rw [z_rD] at r; rcases hq with rfl | rfl <;> omega))
/-- the body that a class has for the name of body b -/
def k_mt (g : ZT) (K : ZK) (M : ZM) (c b : Nat) : Option Nat := k_bod g K M c (g.2.2.1 (M.bw b)) (g.2.2.2 (M.bw b))
theorem z_set113 {c : Nat} (hp : z_pp p) (hq : z_qq q) (hG : z_G n g) (hK : k_K g K) (hc : c < K.cc) : ∀ d b D, b + d = M.bc → m_J p q n g K M C D → ∃ D', q_run (tX12_settled_113 q) (nI c, nI b, D) = some (.inr (nI (c + 1), D')) ∧ s_f q D D' ∧ (∀ y j, y ≠ q + 14 → D'.2.1 y j = D.2.1 y j) ∧ (∀ j, ¬ (c * 48 + b ≤ j ∧ j < c * 48 + M.bc) → D'.2.1 (q + 14) j = D.2.1 (q + 14) j) ∧ ∀ b', b ≤ b' → b' < M.bc → D'.2.1 (q + 14) (c * 48 + b') = k_oI (k_mt g K M c b') := by
  have b1 := hG.1
  have b2 := hG.2.1
  have h32 := hK.2.1
  intro d
  induction d with
  | zero =>
    intro b D hb J
    have h48 := J.mB.1
    refine ⟨D, q_run_ret ?_, s_f.refl q D, fun _ _ _ => rfl, fun _ _ => rfl, fun b' h1 h2 => by omega⟩
    simp only [tX12_settled_113, J.dB.1]
    rw [if_pos (by rw [z_leN (by omega) (by omega)]; omega), nI_1]
  | succ d ih =>
    intro b D hb J
    have h48 := J.mB.1
    have hbb : b < M.bc := by omega
    have hw := (J.mB.2.1 b hbb).1
    have gt := hG.2.2.2 (M.bw b) hw
    have tD := J.hD.2.2.2 (M.bw b) hw
    have g1 : ¬ nI M.bc ≤ nI b := by rw [z_leN (by omega) (by omega)]; omega
    have bo := z_bodyOf J.hD hG hK J.kD J.dB J.mB (show g.2.2.1 (M.bw b) ≤ g.2.2.2 (M.bw b) by omega) gt.2.1 c hc
    let D1 : QS := q_sI D (q + 14) (c * 48 + b) (k_oI (k_mt g K M c b))
    have st : tX12_settled_113 q (nI c, nI b, D) = some (.inr (nI c, nI (b + 1), D1)) := by
      have e48 : (48 : Int32) = nI 48 := rfl
      simp only [tX12_settled_113, J.dB.1, if_neg g1, z_inbN (show b < 48 by omega) (by decide), if_true, z_cl (show b < 2147483648 by omega), (J.dB.2 b hbb).1, z_inbN (show M.bw b < 16002 by omega) (by decide), z_cl (show M.bw b < 2147483648 by omega), tD, bo, Option.bind_some, e48, nI_mulN, nI_add, z_inbN (show c * 48 + b < 1536 by omega) (by decide), z_cl (show c * 48 + b < 2147483648 by omega), nI_1]
      rfl
    have f1 : s_f q D D1 := (s_f.refl q D).sI (by omega)
    obtain ⟨D', x1, x2, x3, x4, x5⟩ := ih (b + 1) D1 (by omega) (J.sf hp hq f1)
    have gD : ∀ y j, D1.2.1 y j = if y = q + 14 ∧ j = c * 48 + b then k_oI (k_mt g K M c b) else D.2.1 y j := fun y j => q_sI_I _ _ _ _ _ _
    refine ⟨D', (q_run_go st).trans x1, f1.trans x2, fun y j hy => ?_, fun j hj => ?_, fun b' h1 h2 => ?_⟩
    · rw [x3 y j hy, gD, if_neg (by omega)]
    · rw [x4 j (by omega), gD, if_neg (by omega)]
    · by_cases eb : b' = b
      · subst eb
        rw [x4 _ (by omega), gD, if_pos ⟨rfl, rfl⟩]
      · exact x5 b' (by omega) h2
def m_own (M : ZM) (c f : Nat) : Bool := decide (M.fo f = c)
theorem z_set66 {c base : Nat} (hp : z_pp p) (hq : z_qq q) (hG : z_G n g) (hK : k_K g K) (hc : c < K.cc) (hbase : base ≤ 48) : ∀ d f D, f + d = M.fc → m_J p q n g K M C D → ∃ D', q_run (tX12_settled_66 q (nI c)) (nI (base + k_cnt (m_own M c) f), nI f, D) = some (.inr (nI (c + 1), D')) ∧ s_f q D D' ∧ (∀ j, j ≠ c → D'.2.1 (q + 2) j = D.2.1 (q + 2) j) ∧ D'.2.1 (q + 2) c = nI (base + k_cnt (m_own M c) M.fc) ∧ (∀ j, ¬ (f ≤ j ∧ j < M.fc ∧ M.fo j = c) → D'.2.1 (q + 5) j = D.2.1 (q + 5) j) ∧ (∀ f', f ≤ f' → f' < M.fc → M.fo f' = c → D'.2.1 (q + 5) f' = nI (base + k_cnt (m_own M c) f')) ∧ (∀ j, ¬ (c * 48 ≤ j ∧ j < c * 48 + M.bc) → D'.2.1 (q + 14) j = D.2.1 (q + 14) j) ∧ ∀ b', b' < M.bc → D'.2.1 (q + 14) (c * 48 + b') = k_oI (k_mt g K M c b') := by
  have h32 := hK.2.1
  intro d
  induction d with
  | zero =>
    intro f D hf J
    have hf : f = M.fc := by omega
    subst hf
    have h48 := J.mF.1
    have hcl := k_cnt_le (P := m_own M c) M.fc
    let D1 : QS := q_sI D (q + 2) c (nI (base + k_cnt (m_own M c) M.fc))
    have f1 : s_f q D D1 := (s_f.refl q D).sI (by omega)
    have gD : ∀ y j, D1.2.1 y j = if y = q + 2 ∧ j = c then nI (base + k_cnt (m_own M c) M.fc) else D.2.1 y j := fun y j => q_sI_I _ _ _ _ _ _
    obtain ⟨D', x1, x2, x3, x4, x5⟩ := z_set113 (c := c) hp hq hG hK hc M.bc 0 D1 (Nat.zero_add _) (J.sf hp hq f1)
    refine ⟨D', q_run_ret ?_, f1.trans x2, fun j hj => ?_, ?_, fun j hj => ?_, fun f' h1 h2 => by omega, fun j hj => ?_, fun b' hb => x5 b' (Nat.zero_le _) hb⟩
    · simp only [tX12_settled_66, J.dF.1]
      rw [if_pos (by rw [z_leN (by omega) (by omega)]; exact Nat.le_refl _), if_pos (z_inbN (by omega) (by decide)), z_cl (by omega), Option.bind_some]
      show (q_run (tX12_settled_113 q) (nI c, nI 0, D1)).bind _ = _
      rw [x1]
      rfl
    · rw [x3 _ _ (by omega), gD, if_neg (by omega)]
    · rw [x3 _ _ (by omega), gD, if_pos ⟨rfl, rfl⟩]
    · rw [x3 _ _ (by omega), gD, if_neg (by omega)]
    · rw [x4 j (by omega), gD, if_neg (by omega)]
  | succ d ih =>
    intro f D hf J
    have hff : f < M.fc := by omega
    have h48 := J.mF.1
    have hcl := k_cnt_le (P := m_own M c) f
    have hfo := (J.mF.2 f hff).2.1
    have g1 : ¬ nI M.fc ≤ nI f := by rw [z_leN (by omega) (by omega)]; omega
    have i1 := z_inbN (show f < 48 by omega) (by decide)
    have c1 := z_cl (show f < 2147483648 by omega)
    have hq3 := (J.dF.2 f hff).2.1
    by_cases ho : M.fo f = c
    · let D1 : QS := q_sI D (q + 5) f (nI (base + k_cnt (m_own M c) f))
      have f1 : s_f q D D1 := (s_f.refl q D).sI (by omega)
      have gD : ∀ y j, D1.2.1 y j = if y = q + 5 ∧ j = f then nI (base + k_cnt (m_own M c) f) else D.2.1 y j := fun y j => q_sI_I _ _ _ _ _ _
      have hcnt : k_cnt (m_own M c) (f + 1) = k_cnt (m_own M c) f + 1 := by rw [k_cnt, m_own, decide_eq_true ho, if_pos rfl]
      have st : tX12_settled_66 q (nI c) (nI (base + k_cnt (m_own M c) f), nI f, D) = some (.inr (nI (base + k_cnt (m_own M c) (f + 1)), nI (f + 1), D1)) := by
        simp only [tX12_settled_66, J.dF.1, if_neg g1, i1, if_true, c1, hq3, ho, Option.bind_some, nI_1, hcnt]
        rfl
      obtain ⟨D', x1, x2, x3, x4, x5, x6, x7, x8⟩ := ih (f + 1) D1 (by omega) (J.sf hp hq f1)
      refine ⟨D', (q_run_go st).trans x1, f1.trans x2, fun j hj => ?_, x4, fun j hj => ?_, fun f' h1 h2 h3 => ?_, fun j hj => ?_, x8⟩
      · rw [x3 j hj, gD, if_neg (by omega)]
      · rw [x5 j (by omega), gD, if_neg (by rintro ⟨-, rfl⟩; exact hj ⟨Nat.le_refl _, hff, ho⟩)]
      · by_cases e : f' = f
        · subst e; rw [x5 f' (by omega), gD, if_pos ⟨rfl, rfl⟩]
        · exact x6 f' (by omega) h2 h3
      · rw [x7 j hj, gD, if_neg (by omega)]
    · have hcnt : k_cnt (m_own M c) (f + 1) = k_cnt (m_own M c) f := by rw [k_cnt, m_own, decide_eq_false ho, if_neg (by decide), Nat.add_zero]
      have ne : ¬ nI (M.fo f) = nI c := z_neN (by omega) (by omega) ho
      have st : tX12_settled_66 q (nI c) (nI (base + k_cnt (m_own M c) f), nI f, D) = some (.inr (nI (base + k_cnt (m_own M c) (f + 1)), nI (f + 1), D)) := by
        simp only [tX12_settled_66, J.dF.1, if_neg g1, i1, if_true, c1, hq3, if_neg ne, nI_1, hcnt]
      obtain ⟨D', x1, x2, x3, x4, x5, x6, x7, x8⟩ := ih (f + 1) D (by omega) J
      refine ⟨D', (q_run_go st).trans x1, x2, x3, x4, fun j hj => ?_, fun f' h1 h2 h3 => ?_, x7, x8⟩
      · by_cases e : j = f
        · exact x5 j (by omega)
        · exact x5 j (by omega)
      · by_cases e : f' = f
        · subst e; exact absurd h3 ho
        · exact x6 f' (by omega) h2 h3
/-- what is settled for the classes below c -/
def s_I (q : Nat) (g : ZT) (K : ZK) (M : ZM) (c : Nat) (D : QS) : Prop := (∀ c', c' < c → D.2.1 (q + 2) c' = nI (k_cnt (m_slP K M c') M.fc)) ∧ (∀ f, f < M.fc → M.fo f < c → D.2.1 (q + 5) f = nI (M.fs f)) ∧ ∀ c', c' < c → ∀ b, b < M.bc → D.2.1 (q + 14) (c' * 48 + b) = k_oI (k_mt g K M c' b)
theorem k_cnt_split {A B E : Nat → Bool} : ∀ m, (∀ i, i < m → (if A i = true then 1 else 0) = (if B i = true then 1 else 0) + (if E i = true then 1 else 0)) → k_cnt A m = k_cnt B m + k_cnt E m
  | 0, _ => rfl
  | m + 1, h => by
    have := h m (by omega)
    rw [k_cnt, k_cnt, k_cnt, k_cnt_split m (fun i hi => h i (by omega)), this]
    omega
theorem m_slP_split {c f : Nat} (hK : k_K g K) (hc : c < K.cc) (h0 : 0 < c) : (if m_slP K M c f = true then 1 else 0) = (if m_slP K M (K.cp c) f = true then 1 else 0) + (if m_own M c f = true then 1 else 0) := by
  have hcp := hK.2.2.1 c h0 hc
  rw [m_slP, m_slP, m_own]
  by_cases e : M.fo f = c
  · rw [e, k_anc_self, decide_eq_true rfl]
    have : ¬ k_anc K.cp c (K.cp c) = true := fun h => by have := k_anc_le _ h; omega
    rw [if_neg this]
    rfl
  · rw [k_anc_up e h0 hcp, decide_eq_false e]
    simp
theorem m_slP_0 {f : Nat} : m_slP K M 0 f = m_own M 0 f := by
  rw [m_slP, m_own]
  by_cases e : M.fo f = 0
  · rw [e, k_anc_self]; rfl
  · rw [k_anc_0 e, decide_eq_false e]
/-- the fields of the class above, and of the class itself -/
def k_bs (K : ZK) (M : ZM) (c : Nat) : Nat := if c = 0 then 0 else k_cnt (m_slP K M (K.cp c)) M.fc
theorem k_bs_fc {c : Nat} (hK : k_K g K) (hc : c < K.cc) : k_bs K M c + k_cnt (m_own M c) M.fc = k_cnt (m_slP K M c) M.fc := by
  rw [k_bs]
  by_cases e : c = 0
  · subst e
    rw [if_pos rfl, Nat.zero_add]
    exact k_cnt_congr _ (fun i _ => m_slP_0.symm)
  · rw [if_neg e]
    exact (k_cnt_split _ (fun i _ => m_slP_split hK hc (by omega))).symm
theorem k_bs_fs {c f : Nat} (J : m_J p q n g K M C D) (hK : k_K g K) (hc : c < K.cc) (hf : f < M.fc) (ho : M.fo f = c) : k_bs K M c + k_cnt (m_own M c) f = M.fs f := by
  rw [J.fs f hf, ho, k_bs]
  by_cases e : c = 0
  · subst e
    rw [if_pos rfl, Nat.zero_add]
    exact k_cnt_congr _ (fun i _ => m_slP_0.symm)
  · have hcp := hK.2.2.1 c (by omega) hc
    rw [if_neg e, k_cnt_split f (fun i _ => m_slP_split hK hc (by omega)), k_cnt_none (a := f) M.fc (by omega) (fun i i1 i2 => ?_)]
    cases h : m_slP K M (K.cp c) i with
    | false => rfl
    | true =>
      exfalso
      have l1 := k_anc_le _ h
      by_cases ei : i = f
      · subst ei; omega
      · have := J.mo f i (by omega) i2
        omega
theorem z_set29 (hp : z_pp p) (hq : z_qq q) (hG : z_G n g) (hK : k_K g K) : ∀ d c D, c + d = K.cc → m_J p q n g K M C D → s_I q g K M c D → ∃ D', q_run (tX12_settled_29 q) (nI c, D) = q_run (tX12_settled_183 q) (nI 0, q_sI D' q 6 (-1)) ∧ s_f q D D' ∧ s_I q g K M K.cc D' := by
  have h32 := hK.2.1
  have h8 := hK.1
  intro d
  induction d with
  | zero =>
    intro c D hc J I
    have ec : c = K.cc := by omega
    subst ec
    have hcc : fX12_classCount D q = some (nI K.cc) := by
      rw [fX12_classCount, J.kD.1, show (8 : Int32) = nI 8 from rfl, nI_add, show 8 + (K.cc - 8) = K.cc by omega]
    refine ⟨D, ?_, s_f.refl q D, I⟩
    rw [q_run_step]
    simp only [tX12_settled_29, hcc, Option.bind_some]
    rw [if_pos (by rw [z_leN (by omega) (by omega)]; exact Nat.le_refl _)]
    show Option.bind (Option.bind (q_run (tX12_settled_183 q) (nI 0, q_sI D q 6 (-1))) _) _ = _
    cases q_run (tX12_settled_183 q) (nI 0, q_sI D q 6 (-1)) <;> rfl
  | succ d ih =>
    intro c D hc J I
    have hcl : c < K.cc := by omega
    have hcc : fX12_classCount D q = some (nI K.cc) := by
      rw [fX12_classCount, J.kD.1, show (8 : Int32) = nI 8 from rfl, nI_add, show 8 + (K.cc - 8) = K.cc by omega]
    have hb48 := k_cnt_le (P := m_slP K M (K.cp c)) M.fc
    have hf48 := J.mF.1
    have hbs : k_bs K M c ≤ 48 := by rw [k_bs]; split <;> omega
    obtain ⟨D', x1, x2, x3, x4, x5, x6, x7, x8⟩ := z_set66 (c := c) (base := k_bs K M c) hp hq hG hK hcl hbs M.fc 0 D (Nat.zero_add _) J
    rw [show k_cnt (m_own M c) 0 = 0 from rfl, Nat.add_zero] at x1
    have g1 : ¬ nI K.cc ≤ nI c := by rw [z_leN (by omega) (by omega)]; omega
    have ab := (J.kD.2 c hcl).2
    have st : tX12_settled_29 q (nI c, D) = some (.inr (nI (c + 1), D')) := by
      simp only [tX12_settled_29, hcc, Option.bind_some, if_neg g1, z_inbN (show c < 32 by omega) (by decide), if_true, z_cl (show c < 2147483648 by omega), ab]
      by_cases e : c = 0
      · subst e
        rw [if_pos rfl, if_neg (by decide)]
        exact x1
      · have hcp := hK.2.2.1 c (by omega) hcl
        rw [if_neg e, if_pos (nI_pos' (by omega)), if_pos (z_inbN (by omega) (by decide)), z_cl (by omega), I.1 (K.cp c) hcp]
        rw [k_bs, if_neg e] at x1
        exact x1
    have I' : s_I q g K M (c + 1) D' := by
      refine ⟨fun c' h => ?_, fun f hf h => ?_, fun c' h b hb => ?_⟩
      · by_cases e : c' = c
        · subst e; rw [x4, k_bs_fc hK hcl]
        · rw [x3 c' e]; exact I.1 c' (by omega)
      · by_cases e : M.fo f = c
        · rw [x6 f (Nat.zero_le _) hf e, k_bs_fs J hK hcl hf e]
        · rw [x5 f (fun z => e z.2.2)]; exact I.2.1 f hf (by omega)
      · have hbc := J.mB.1
        by_cases e : c' = c
        · subst e; exact x8 b hb
        · rw [x7 _ (by omega)]; exact I.2.2 c' (by omega) b hb
    obtain ⟨D2, y1, y2, y3⟩ := ih (c + 1) D' (by omega) (J.sf hp hq x2) I'
    exact ⟨D2, (q_run_go st).trans y1, x2.trans y2, y3⟩
theorem z_set2 (hp : z_pp p) (hq : z_qq q) (hG : z_G n g) (hK : k_K g K) : ∀ d s D, s + d = 6 → m_J p q n g K M C D → ∃ D', q_run (tX12_settled_2 q) (nI s, D) = q_run (tX12_settled_183 q) (nI 0, q_sI D' q 6 (-1)) ∧ s_f q D D' ∧ s_I q g K M K.cc D' := by
  intro d
  induction d with
  | zero =>
    intro s D hs J
    obtain ⟨D', x1, x2, x3⟩ := z_set29 hp hq hG hK K.cc 0 D (Nat.zero_add _) J ⟨fun c h => absurd h (Nat.not_lt_zero _), fun f _ h => absurd h (Nat.not_lt_zero _), fun c h => absurd h (Nat.not_lt_zero _)⟩
    refine ⟨D', ?_, x2, x3⟩
    rw [q_run_step]
    simp only [tX12_settled_2]
    rw [if_pos (by rw [show (6 : Int32) = nI 6 from rfl, z_leN (by omega) (by omega)]; omega)]
    show Option.bind (Option.bind (q_run (tX12_settled_29 q) (nI 0, D)) _) _ = _
    rw [x1]
    cases q_run (tX12_settled_183 q) (nI 0, q_sI D' q 6 (-1)) <;> rfl
  | succ d ih =>
    intro s D hs J
    let D1 : QS := q_sI D (q + 20) (48 + s) (10 + nI s)
    have f1 : s_f q D D1 := (s_f.refl q D).sI (by omega)
    have st : tX12_settled_2 q (nI s, D) = some (.inr (nI (s + 1), D1)) := by
      simp only [tX12_settled_2]
      rw [if_neg (by rw [show (6 : Int32) = nI 6 from rfl, z_leN (by omega) (by omega)]; omega), show (48 : Int32) = nI 48 from rfl, nI_add, if_pos (z_inbN (by omega) (by decide)), z_cl (by omega), nI_1]
      rfl
    obtain ⟨D2, y1, y2, y3⟩ := ih (s + 1) D1 (by omega) (J.sf hp hq f1)
    exact ⟨D2, (q_run_go st).trans y1, f1.trans y2, y3⟩
end ZSET
