/-! ===== labels are gathered ===== -/
def c_L (g : ZT) (nl : Nat) (lw lp : Nat → Nat) (F E : Nat) (C D : QS) : Prop := C.2.1 78 6 = nI nl ∧ D.2.1 102 19 = nI nl ∧ nl ≤ 8000 ∧ ∀ k, k < nl → C.2.1 79 k = nI (lw k) ∧ C.2.1 80 k = nI (lp k) ∧ D.2.1 167 k = nI (lw k) ∧ D.2.1 168 k = nI (lp k) ∧ lw k < g.1 ∧ F ≤ lp k ∧ lp k ≤ E
section ZGATH
variable {C D : QS} {n p q : Nat} {g : ZT} {K : ZK} {M : ZM}
theorem c_L.mono {nl : Nat} {lw lp : Nat → Nat} {F E E' : Nat} (h : c_L g nl lw lp F E C D) (hE : E ≤ E') : c_L g nl lw lp F E' C D := by
  refine ⟨h.1, h.2.1, h.2.2.1, fun k hk => ?_⟩
  obtain ⟨x1, x2, x3, x4, x5, x6, x7⟩ := h.2.2.2 k hk
  exact ⟨x1, x2, x3, x4, x5, x6, by omega⟩
theorem c_L.fr {C' D' : QS} {nl : Nat} {lw lp : Nat → Nat} {F E : Nat} (h : c_L g nl lw lp F E C D) (fC : ∀ y j, (y = 78 ∧ j = 6) ∨ y = 79 ∨ y = 80 → C'.2.1 y j = C.2.1 y j) (fD : ∀ y j, (y = 102 ∧ j = 19) ∨ y = 167 ∨ y = 168 → D'.2.1 y j = D.2.1 y j) : c_L g nl lw lp F E C' D' := by
  refine ⟨(fC _ _ (by omega)).trans h.1, (fD _ _ (by omega)).trans h.2.1, h.2.2.1, fun k hk => ?_⟩
  obtain ⟨x1, x2, x3, x4, x5, x6, x7⟩ := h.2.2.2 k hk
  exact ⟨(fC _ _ (by omega)).trans x1, (fC _ _ (by omega)).trans x2, (fD _ _ (by omega)).trans x3, (fD _ _ (by omega)).trans x4, x5, x6, x7⟩
theorem z_dOp {t : Nat} (hD : z_D D n g) (hG : z_G n g) (ht : t < g.1) : fX12_opOf D (nI t) = some (e_op g t) := by
  have h1 := hG.1
  have h2 := hG.2.1
  have hb := hG.2.2.2 t ht
  simp only [fX12_opOf, z_inbN (show t < 16002 by omega) (by decide), if_true, z_cl (show t < 2147483648 by omega), (hD.2.2.2 t ht).1, (hD.2.2.2 t ht).2]
  rw [z_among hD hG z_sWords z_wordsOk (by omega) (by omega)]
  rfl
theorem z_dLab {t : Nat} (hD : z_D D n g) (hG : z_G n g) (ht : t ≤ g.1) : fX12_isLabel D (nI t) = some (e_mark g (t + 1) 58) := by
  have h1 := hG.1
  have h2 := hG.2.1
  rw [fX12_isLabel, nI_1, z_is hD hG z_sColon (by omega), Option.bind_some]
  exact congrArg some (e_mark_word hG (by decide))
theorem z_dCat {t : Nat} (hD : z_D D n g) (hG : z_G n g) (ht : t ≤ g.1) : fX12_is D (nI t) 1000080 = some (e_word g t w_catch) := z_is hD hG z_sCatch2 (by have := hG.1; have := hG.2.1; omega)
theorem z_dEnd {t : Nat} (hD : z_D D n g) (hG : z_G n g) (ht : t ≤ g.1) : fX12_is D (nI t) 1000064 = some (e_mark g t 125) := by
  have h1 := hG.1
  have h2 := hG.2.1
  rw [z_is hD hG z_sClose (by omega)]; exact congrArg some (e_mark_word hG (by decide))
theorem e_ln_lab {t : Nat} (h : e_labT g t) : e_ln g t = 2 := by rw [e_ln, h.2.1]; rfl
theorem e_ln_cat {t : Nat} (h : e_catT g t) : e_ln g t = 5 := by rw [e_ln, h.2.2.1]; rfl
theorem e_ln_ins {t k : Nat} (h : e_insT g t k) : e_ln g t = 1 + (e_ops (nI k)).length := by rw [e_ln, h.2.2.1]
theorem z_opChr {k : Nat} (hk : k < 46) : fJ0_charAt 1000084 (nI k) = some (z_opL.getD k 0) := z_chr z_sOpL (by rw [show z_opL.length = 46 by decide]; exact hk)
theorem z_lineLen {t : Nat} (hD : z_D D n g) (hG : z_G n g) (ht : t < g.1) (h : e_labT g t ∨ e_catT g t ∨ ∃ k, e_insT g t k) : fX12_lineLength D (nI t) = some (nI (e_ln g t)) := by
  have ht' := Nat.le_of_lt ht
  rcases h with h | h | ⟨k, h⟩
  · rw [e_ln_lab h]
    simp only [fX12_lineLength, z_dLab hD hG ht', h.1, Option.bind_some, if_true]
    rfl
  · rw [e_ln_cat h]
    simp only [fX12_lineLength, z_dLab hD hG ht', h.1, Option.bind_some, Bool.false_eq_true, if_false, z_dCat hD hG ht', h.2.1, if_true]
    rfl
  · rw [e_ln_ins h]
    simp only [fX12_lineLength, z_dLab hD hG ht', h.2.2.2.2.1, Option.bind_some, Bool.false_eq_true, if_false, z_dCat hD hG ht', h.2.2.2.2.2.1, z_dOp hD hG ht, h.2.1, z_opChr h.1]
    have hk := h.1
    rcases z_opL_is ⟨k, hk⟩ with ⟨a, b⟩ | ⟨a, b⟩ | ⟨a, b⟩ | ⟨a, b⟩ | ⟨a | a, b⟩ | ⟨a, b⟩ | ⟨a, b⟩ | ⟨a, b⟩ <;> simp only at a b <;> rw [a, b] <;> rfl
theorem z_gSkip (hT : C.2.1 2 5 = nI g.1) (hT2 : g.1 ≤ 16000) (hkd : ∀ i, i < g.1 → C.2.1 6 i = e_kind g i) {t' : Nat} (h' : t' ≤ g.1) : ∀ d k, k + d = t' → (∀ i, k ≤ i → i < t' → e_kind g i = 53 ∨ e_kind g i = 46) → q_run (tX4_beginBody_68 p) (nI k, C) = q_run (tX4_beginBody_68 p) (nI t', C) := by
  intro d
  induction d with
  | zero =>
    intro k hk _
    have : k = t' := by omega
    rw [this]
  | succ d ih =>
    intro k hk hn
    have e1 : ¬ nI g.1 ≤ nI k := by rw [z_leN (by omega) (by omega)]; omega
    have st : tX4_beginBody_68 p (nI k, C) = some (.inr (nI (k + 1), C)) := by
      simp only [tX4_beginBody_68, hT, if_neg e1, z_inbN (show k < 16000 by omega) (by decide), if_true, z_cl (show k < 2147483648 by omega), hkd k (by omega), nI_1]
      rcases hn k (Nat.le_refl _) (by omega) with a | a <;> rw [a] <;> rfl
    rw [q_run_go st]
    exact ih (k + 1) (by omega) (fun i i1 i2 => hn i (by omega) i2)
theorem z_gather {te b F : Nat} {y3 : Int32} (hG : z_G n g) (ho : e_ok g) : ∀ m t s nl lw lp C D, te - t = m → e_be g t te → e_st g t = (2, []) → z_C C n g → z_D D n g → (∀ i, i < g.1 → C.2.1 6 i = e_kind g i) → C.2.1 78 7 = nI s → c_L g nl lw lp F s C D → 2 * nl ≤ t → s ≤ 2000 + t → F ≤ s → ∃ nl' lw' lp' C' D', q_run (tX4_beginBody_68 p) (nI t, C) = some C' ∧ q_run (tX12_linesOf_33 q (nI b) y3) (nI s, nI t, D) = q_run (tX12_linesOf_33 q (nI b) y3) (nI (s + (k_cnt (e_ik g) te - k_cnt (e_ik g) t)), nI te, D') ∧ C'.2.1 78 7 = nI (s + (k_cnt (e_ik g) te - k_cnt (e_ik g) t)) ∧ c_L g nl' lw' lp' F (s + (k_cnt (e_ik g) te - k_cnt (e_ik g) t)) C' D' ∧ (∀ y j, y ≠ 79 → y ≠ 80 → ¬ (y = 78 ∧ (j = 6 ∨ j = 7)) → C'.2.1 y j = C.2.1 y j) ∧ C'.1 = C.1 ∧ C'.2.2 = C.2.2 ∧ (∀ y j, y ≠ 167 → y ≠ 168 → ¬ (y = 102 ∧ j = 19) → D'.2.1 y j = D.2.1 y j) ∧ D'.1 = D.1 ∧ D'.2.2 = D.2.2 := by
  have b1 := hG.1
  have b2 := hG.2.1
  intro m
  induction m using Nat.strongRecOn with
  | _ m ih =>
  intro t s nl lw lp C D hm hbe hst hC hD hkd h7 hL h2 hs hF
  have hte := hbe.2.1
  have hle := hbe.1
  have ht : t < g.1 := by omega
  have e1 : ¬ nI g.1 ≤ nI t := by rw [z_leN (by omega) (by omega)]; omega
  by_cases hk : e_mark g t 125 = true
  · have ett : t = te := by
      by_cases c : t = te
      · exact c
      · have := (hbe.2.2.2.2 t (Nat.le_refl _) (by omega)).2 hst
        rw [hk] at this; cases this
    subst ett
    have k52 : e_kind g t = 52 := (e_atc ho (by omega) hst hk).2.1
    have s1 : tX4_beginBody_68 p (nI t, C) = some (.inl C) := by
      simp only [tX4_beginBody_68, hC.2.1, if_neg e1, z_inbN (show t < 16000 by omega) (by decide), if_true, z_cl (show t < 2147483648 by omega), hkd t ht, k52]
    refine ⟨nl, lw, lp, C, D, q_run_ret s1, ?_, ?_, ?_, fun _ _ _ _ _ => rfl, rfl, rfl, fun _ _ _ _ _ => rfl, rfl, rfl⟩
    · rw [Nat.sub_self, Nat.add_zero]
    · rw [Nat.sub_self, Nat.add_zero]; exact h7
    · rw [Nat.sub_self, Nat.add_zero]; exact hL
  · have hk' := Bool.eq_false_iff.mpr hk
    obtain ⟨a1, a2, a3, a4⟩ := e_lineT ho (Nat.le_of_lt ht) hst hk'
    obtain ⟨n1, n2⟩ := hbe.next ho hst hk'
    have hcl := e_cnt_line ho (Nat.le_of_lt ht) hst hk'
    have hmono := k_cnt_mono (P := e_ik g) te n1.1
    have l1 : 1 ≤ e_ln g t := by rw [e_ln]; omega
    have ll := fun (D' : QS) (hD' : z_D D' n g) => z_lineLen hD' hG ht a4
    have skp : ∀ C' : QS, C'.2.1 2 5 = nI g.1 → (∀ i, i < g.1 → C'.2.1 6 i = e_kind g i) → q_run (tX4_beginBody_68 p) (nI (t + 1), C') = q_run (tX4_beginBody_68 p) (nI (t + e_ln g t), C') := fun C' x1 x2 => z_gSkip x1 (by omega) x2 (by omega) (e_ln g t - 1) (t + 1) (by omega) (fun i i1 i2 => Or.inl (a3 i (by omega) i2).1)
    rcases a4 with hl | hl | ⟨k, hl⟩
    · -- a label
      have x6 := hL.1
      have x19 := hL.2.1
      have e2 := e_ln_lab hl
      have hnl : nl < 8000 := by omega
      let C1 : QS := q_sI (q_sI (q_sI C 79 nl (nI t)) 80 nl (nI s)) 78 6 (nI (nl + 1))
      let D1 : QS := q_sI (q_sI (q_sI D 167 nl (nI t)) 168 nl (nI s)) 102 19 (nI (nl + 1))
      have gC : ∀ y j, C1.2.1 y j = if y = 78 ∧ j = 6 then nI (nl + 1) else if y = 80 ∧ j = nl then nI s else if y = 79 ∧ j = nl then nI t else C.2.1 y j := by
        intro y j; simp only [C1, q_sI_I]
      have gD : ∀ y j, D1.2.1 y j = if y = 102 ∧ j = 19 then nI (nl + 1) else if y = 168 ∧ j = nl then nI s else if y = 167 ∧ j = nl then nI t else D.2.1 y j := by
        intro y j; simp only [D1, q_sI_I]
      have s1 : tX4_beginBody_68 p (nI t, C) = some (.inr (nI (t + 1), C1)) := by
        have r1 : (q_sI C 79 nl (nI t)).2.1 78 6 = nI nl := by rw [q_sI_I, if_neg (by omega)]; exact x6
        have r2 : (q_sI C 79 nl (nI t)).2.1 78 7 = nI s := by rw [q_sI_I, if_neg (by omega)]; exact h7
        have r3 : (q_sI (q_sI C 79 nl (nI t)) 80 nl (nI s)).2.1 78 6 = nI nl := by rw [q_sI_I, if_neg (by omega)]; exact r1
        have g8 : ¬ nI 8000 ≤ nI nl := by rw [z_leN (by omega) (by omega)]; omega
        simp only [tX4_beginBody_68, hC.2.1, if_neg e1, z_inbN (show t < 16000 by omega) (by decide), if_true, z_cl (show t < 2147483648 by omega), hkd t ht, hl.2.2, x6, if_neg g8, z_inbN hnl (by decide), z_cl (show nl < 2147483648 by omega), Option.bind_some, r1, r2, r3, nI_1]
        rfl
      have hD1 : z_D D1 n g := hD.fr (fun y j h => by rw [gD]; simp (disch := omega) only [if_neg])
      have hC1 : z_C C1 n g := hC.fr (fun y j h => by rw [gC]; simp (disch := omega) only [if_neg])
      have s2 : tX12_linesOf_33 q (nI b) y3 (nI s, nI t, D) = some (.inr (nI s, nI (t + e_ln g t), D1)) := by
        have r1 : (q_sI D 167 nl (nI t)).2.1 102 19 = nI nl := by rw [q_sI_I, if_neg (by omega)]; exact x19
        have r3 : (q_sI (q_sI D 167 nl (nI t)) 168 nl (nI s)).2.1 102 19 = nI nl := by rw [q_sI_I, if_neg (by omega)]; exact r1
        simp only [tX12_linesOf_33, z_dEnd hD hG (Nat.le_of_lt ht), hk', Option.bind_some, Bool.false_eq_true, if_false, z_dLab hD hG (Nat.le_of_lt ht), hl.1, if_true, x19, z_inbN (show nl < 16000 by omega) (by decide), z_cl (show nl < 2147483648 by omega), r1, r3, nI_1]
        show (fX12_lineLength D1 (nI t)).bind _ = _
        rw [ll D1 hD1, Option.bind_some, nI_add]
      have kd1 : ∀ i, i < g.1 → C1.2.1 6 i = e_kind g i := fun i hi => by rw [gC]; simp (disch := omega) only [if_neg]; exact hkd i hi
      have hL1 : c_L g (nl + 1) (k_up lw nl t) (k_up lp nl s) F s C1 D1 := by
        refine ⟨by rw [gC, if_pos ⟨rfl, rfl⟩], by rw [gD, if_pos ⟨rfl, rfl⟩], by omega, fun k hk => ?_⟩
        by_cases ek : k = nl
        · subst ek
          rw [k_up_eq, k_up_eq]
          refine ⟨?_, ?_, ?_, ?_, ht, hF, Nat.le_refl _⟩
          · rw [gC]; simp (disch := omega) only [if_neg, and_self, if_true]
          · rw [gC]; simp (disch := omega) only [if_neg, and_self, if_true]
          · rw [gD]; simp (disch := omega) only [if_neg, and_self, if_true]
          · rw [gD]; simp (disch := omega) only [if_neg, and_self, if_true]
        · rw [k_up_ne ek, k_up_ne ek]
          obtain ⟨x1, x2, x3, x4, x5, x6, x7⟩ := hL.2.2.2 k (by omega)
          refine ⟨?_, ?_, ?_, ?_, x5, x6, x7⟩
          · rw [gC]; simp (disch := omega) only [if_neg]; exact x1
          · rw [gC]; simp (disch := omega) only [if_neg]; exact x2
          · rw [gD]; simp (disch := omega) only [if_neg]; exact x3
          · rw [gD]; simp (disch := omega) only [if_neg]; exact x4
      rw [e_ikL hl, if_neg (by decide), Nat.add_zero] at hcl
      obtain ⟨nl', lw', lp', C', D', w1, w2, w3, w4, w5, w6, w7, w8, w9, w10⟩ := ih (te - (t + e_ln g t)) (by omega) (t + e_ln g t) s (nl + 1) _ _ C1 D1 rfl n1 a2 hC1 hD1 kd1 (by rw [gC]; simp (disch := omega) only [if_neg]; exact h7) hL1 (by omega) (by omega) hF
      rw [hcl] at w2 w3 w4
      refine ⟨nl', lw', lp', C', D', ?_, ?_, w3, w4, fun y j y1 y2 y3 => ?_, w6, w7, fun y j y1 y2 y3 => ?_, w9, w10⟩
      · rw [q_run_go s1, skp C1 hC1.2.1 kd1]; exact w1
      · rw [q_run_go s2]; exact w2
      · rw [w5 y j y1 y2 y3, gC]; simp (disch := omega) only [if_neg]
      · rw [w8 y j y1 y2 y3, gD]; simp (disch := omega) only [if_neg]
    · -- a catch
      have s2 : tX12_linesOf_33 q (nI b) y3 (nI s, nI t, D) = some (.inr (nI s, nI (t + e_ln g t), D)) := by
        simp only [tX12_linesOf_33, z_dEnd hD hG (Nat.le_of_lt ht), hk', Option.bind_some, Bool.false_eq_true, if_false, z_dLab hD hG (Nat.le_of_lt ht), hl.1, z_dCat hD hG (Nat.le_of_lt ht), hl.2.1, if_true, ll D hD, nI_add]
      have s1 : q_run (tX4_beginBody_68 p) (nI t, C) = q_run (tX4_beginBody_68 p) (nI (t + e_ln g t), C) := z_gSkip hC.2.1 (by omega) hkd (by omega) (e_ln g t) t (by omega) (fun i i1 i2 => by
        by_cases c : i = t
        · rw [c]; exact Or.inr hl.2.2.2.1
        · exact Or.inl (a3 i (by omega) i2).1)
      rw [e_ikC hl, if_neg (by decide), Nat.add_zero] at hcl
      obtain ⟨nl', lw', lp', C', D', w1, w2, w3, w4, w5, w6, w7, w8, w9, w10⟩ := ih (te - (t + e_ln g t)) (by omega) (t + e_ln g t) s nl lw lp C D rfl n1 a2 hC hD hkd h7 hL (by omega) (by omega) hF
      rw [hcl] at w2 w3 w4
      exact ⟨nl', lw', lp', C', D', s1.trans w1, (q_run_go s2).trans w2, w3, w4, w5, w6, w7, w8, w9, w10⟩
    · -- an instruction
      let C1 : QS := q_sI C 78 7 (nI (s + 1))
      have gC : ∀ y j, C1.2.1 y j = if y = 78 ∧ j = 7 then nI (s + 1) else C.2.1 y j := fun y j => q_sI_I _ _ _ _ _ _
      have hk46 := hl.1
      have s1 : tX4_beginBody_68 p (nI t, C) = some (.inr (nI (t + 1), C1)) := by
        have k1 : ¬ nI k = 52 := z_neN (b := 52) (by omega) (by decide) (by omega)
        have k2 : ¬ nI k = 47 := z_neN (b := 47) (by omega) (by decide) (by omega)
        have k3 : ¬ (46 : Int32) ≤ nI k := by rw [show (46 : Int32) = nI 46 from rfl, z_leN (by decide) (by omega)]; omega
        simp only [tX4_beginBody_68, hC.2.1, if_neg e1, z_inbN (show t < 16000 by omega) (by decide), if_true, z_cl (show t < 2147483648 by omega), hkd t ht, hl.2.2.2.1, if_neg k1, if_neg k2, if_neg k3, h7, Option.bind_some, nI_1]
        rfl
      have hC1 : z_C C1 n g := hC.fr (fun y j h => by rw [gC]; simp (disch := omega) only [if_neg])
      have kd1 : ∀ i, i < g.1 → C1.2.1 6 i = e_kind g i := fun i hi => by rw [gC]; simp (disch := omega) only [if_neg]; exact hkd i hi
      have s2 : tX12_linesOf_33 q (nI b) y3 (nI s, nI t, D) = some (.inr (nI (s + 1), nI (t + e_ln g t), D)) := by
        simp only [tX12_linesOf_33, z_dEnd hD hG (Nat.le_of_lt ht), hk', Option.bind_some, Bool.false_eq_true, if_false, z_dLab hD hG (Nat.le_of_lt ht), hl.2.2.2.2.1, z_dCat hD hG (Nat.le_of_lt ht), hl.2.2.2.2.2.1, ll D hD, nI_add, nI_1]
      have hL1 : c_L g nl lw lp F (s + 1) C1 D := (hL.mono (by omega)).fr (fun y j h => by rw [gC]; simp (disch := omega) only [if_neg]) (fun _ _ _ => rfl)
      rw [e_ikI hl, if_pos rfl] at hcl
      obtain ⟨nl', lw', lp', C', D', w1, w2, w3, w4, w5, w6, w7, w8, w9, w10⟩ := ih (te - (t + e_ln g t)) (by omega) (t + e_ln g t) (s + 1) nl lw lp C1 D rfl n1 a2 hC1 hD kd1 (by rw [gC, if_pos ⟨rfl, rfl⟩]) hL1 (by omega) (by omega) (by omega)
      rw [hcl, show s + 1 + (k_cnt (e_ik g) te - (k_cnt (e_ik g) t + 1)) = s + (k_cnt (e_ik g) te - k_cnt (e_ik g) t) by omega] at w2 w3 w4
      refine ⟨nl', lw', lp', C', D', ?_, (q_run_go s2).trans w2, w3, w4, fun y j y1 y2 y3 => ?_, w6, w7, w8, w9, w10⟩
      · rw [q_run_go s1, skp C1 hC1.2.1 kd1]; exact w1
      · rw [w5 y j y1 y2 y3, gC]; simp (disch := omega) only [if_neg]
/-- the label that a token names -/
def k_lab (g : ZT) (nl : Nat) (lw : Nat → Nat) (t : Nat) : Option Nat := z_ff (fun k => if e_tt g t (lw k) = true then some (some k) else none) none 0 nl
theorem k_lab_lt {nl t k : Nat} {lw : Nat → Nat} (h : k_lab g nl lw t = some k) : k < nl := by
  have := z_ff_some (P := fun k => e_tt g t (lw k)) _ _ h
  omega
theorem z_labelNamed {nl F E t : Nat} {lw lp : Nat → Nat} (hC : z_C C n g) (hG : z_G n g) (hL : c_L g nl lw lp F E C D) (ht : t < g.1) : fX4_labelNamed C (nI t) = some (k_oI (k_lab g nl lw t)) := by
  have b1 := hG.1
  have b2 := hG.2.1
  have hnl := hL.2.2.1
  have gt := hG.2.2.2 t ht
  simp only [fX4_labelNamed, z_start hC hG ht, z_stop hC hG ht, Option.bind_some, fX4_labelNamed_21]
  have := z_for (f := tX4_labelNamed_21 C (nI (g.2.2.1 t)) (nI (g.2.2.2 t))) (fun k => if e_tt g t (lw k) = true then some (nI k) else none) (-1) 0 nl (fun k _ hk => by
    have g1 : ¬ nI nl ≤ nI k := by rw [z_leN (by omega) (by omega)]; omega
    obtain ⟨x1, x2, x3, x4, x5, x6, x7⟩ := hL.2.2.2 k (by omega)
    simp only [tX4_labelNamed_21, hL.1, if_neg g1, z_inbN (show k < 8000 by omega) (by decide), if_true, z_cl (show k < 2147483648 by omega), x1, z_same hC hG x5 (show g.2.2.1 t ≤ g.2.2.2 t by omega) gt.2.1, Option.bind_some, nI_1]
    show (if e_tt g t (lw k) = true then _ else _) = _
    by_cases c : e_tt g t (lw k) = true
    · rw [if_pos c, if_pos c]
    · rw [if_neg c, if_neg c]) (by
    simp only [tX4_labelNamed_21, hL.1, Nat.zero_add]
    rw [if_pos (by rw [z_leN (by omega) (by omega)]; exact Nat.le_refl _)])
  rw [show (0 : Int32) = nI 0 from rfl, this, z_ff_nI (P := fun k => e_tt g t (lw k))]
  show some (((k_lab g nl lw t).map nI).getD (-1)) = _
  cases k_lab g nl lw t <;> rfl
theorem z_label {nl F E t : Nat} {lw lp : Nat → Nat} (hD : z_D D n g) (hG : z_G n g) (hL : c_L g nl lw lp F E C D) (ht : t < g.1) : fX12_label D (nI t) = some (k_oI (k_lab g nl lw t)) := by
  have b1 := hG.1
  have b2 := hG.2.1
  have hnl := hL.2.2.1
  simp only [fX12_label, fX12_label_2]
  have := z_for (f := tX12_label_2 D (nI t)) (fun k => if e_tt g t (lw k) = true then some (nI k) else none) (-1) 0 nl (fun k _ hk => by
    have g1 : ¬ nI nl ≤ nI k := by rw [z_leN (by omega) (by omega)]; omega
    obtain ⟨x1, x2, x3, x4, x5, x6, x7⟩ := hL.2.2.2 k (by omega)
    simp only [tX12_label_2, hL.2.1, if_neg g1, z_inbN (show k < 16000 by omega) (by decide), if_true, z_cl (show k < 2147483648 by omega), x3, z_dSameTok hD hG ht x5, Option.bind_some, nI_1]
    show (if e_tt g t (lw k) = true then _ else _) = _
    by_cases c : e_tt g t (lw k) = true
    · rw [if_pos c, if_pos c]
    · rw [if_neg c, if_neg c]) (by
    simp only [tX12_label_2, hL.2.1, Nat.zero_add]
    rw [if_pos (by rw [z_leN (by omega) (by omega)]; exact Nat.le_refl _)])
  rw [show (0 : Int32) = nI 0 from rfl, this, z_ff_nI (P := fun k => e_tt g t (lw k))]
  show some (((k_lab g nl lw t).map nI).getD (-1)) = _
  cases k_lab g nl lw t <;> rfl
/-- the place that a token names -/
def k_plc (g : ZT) (nl : Nat) (lw lp : Nat → Nat) (t : Nat) : Option Nat := (k_lab g nl lw t).map lp
theorem k_plc_rng {nl F E t x : Nat} {lw lp : Nat → Nat} (hL : c_L g nl lw lp F E C D) (h : k_plc g nl lw lp t = some x) : F ≤ x ∧ x ≤ E := by
  rw [k_plc] at h
  cases hk : k_lab g nl lw t with
  | none => rw [hk] at h; cases h
  | some k =>
    rw [hk] at h
    cases h
    have := hL.2.2.2 k (k_lab_lt hk)
    exact ⟨this.2.2.2.2.2.1, this.2.2.2.2.2.2⟩
theorem z_placeNamed {nl F E t : Nat} {lw lp : Nat → Nat} (hC : z_C C n g) (hG : z_G n g) (hL : c_L g nl lw lp F E C D) (ht : t < g.1) : fX4_placeNamed C (nI t) = some (k_oI (k_plc g nl lw lp t)) := by
  have hnl := hL.2.2.1
  simp only [fX4_placeNamed, z_labelNamed hC hG hL ht, Option.bind_some, k_plc]
  cases hk : k_lab g nl lw t with
  | none => rfl
  | some k =>
    have hkl := k_lab_lt hk
    simp only [k_oI, z_m1N (show k < 2147483648 by omega), if_false, z_inbN (show k < 8000 by omega) (by decide), if_true, z_cl (show k < 2147483648 by omega), (hL.2.2.2 k hkl).2.1, Option.map_some]
theorem z_labelAt {nl F E t : Nat} {lw lp : Nat → Nat} (hD : z_D D n g) (hG : z_G n g) (hL : c_L g nl lw lp F E C D) (ht : t < g.1) : fX12_labelAt D (nI t) = some (k_oI (k_plc g nl lw lp t)) := by
  have hnl := hL.2.2.1
  simp only [fX12_labelAt, z_label hD hG hL ht, Option.bind_some, k_plc]
  cases hk : k_lab g nl lw t with
  | none => rfl
  | some k =>
    have hkl := k_lab_lt hk
    have h0 : (0 : Int32) ≤ nI k := nI_pos' (by omega)
    simp only [k_oI, if_pos h0, z_inbN (show k < 16000 by omega) (by decide), if_true, z_cl (show k < 2147483648 by omega), (hL.2.2.2 k hkl).2.2.2.1, Option.map_some]
end ZGATH
