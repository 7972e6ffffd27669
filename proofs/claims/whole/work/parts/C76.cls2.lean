/-! ===== classes: bits, adding, the walk ===== -/
theorem z_shd : ∀ d : Fin 32, (((nI d) &&& 31).toBitVec.smod 32).toNat = d := by decide +kernel
theorem z_and1 {x : Int32} : (x &&& 1 = 0) ↔ x.toBitVec.getLsbD 0 = false := by
  rw [← Int32.toBitVec_inj, Int32.toBitVec_and]
  show x.toBitVec &&& 1#32 = 0#32 ↔ _
  rw [BitVec.and_one_eq_setWidth_ofBool_getLsbD]
  cases x.toBitVec.getLsbD 0 <;> simp
theorem z_bit {x : Int32} {d : Nat} (h : d < 32) : ((x >>> (nI d &&& 31)) &&& 1 = 0) ↔ x.toBitVec.getLsbD d = false := by
  rw [z_and1, Int32.toBitVec_shiftRight, BitVec.sshiftRight', z_shd ⟨d, h⟩, BitVec.getLsbD_sshiftRight]
  simp [h]
theorem z_shl : ∀ c : Fin 32, ∀ d : Fin 32, ((1 : Int32) <<< (nI c &&& 31)).toBitVec.getLsbD d = decide (d = c) := by decide +kernel
theorem z_orb {x y : Int32} {d : Nat} : (x ||| y).toBitVec.getLsbD d = (x.toBitVec.getLsbD d || y.toBitVec.getLsbD d) := by
  rw [Int32.toBitVec_or, BitVec.getLsbD_or]
/-- what the loader leaves as it was -/
def z_offC (p : Nat) (C C' : QS) : Prop := (∀ o j, (o < p ∨ p + 34 < o) → (o < 78 ∨ 80 < o) → C'.2.1 o j = C.2.1 o j) ∧ C'.1 = C.1 ∧ C'.2.2.1 = C.2.2.1 ∧ ∀ o j, ¬ (o = 78 ∧ 1 ≤ j ∧ j ≤ 3) → C'.2.2.2 o j = C.2.2.2 o j
theorem z_offC.refl (p : Nat) (C : QS) : z_offC p C C := ⟨fun _ _ _ _ => rfl, rfl, rfl, fun _ _ _ => rfl⟩
theorem z_offC.trans {p : Nat} {C C' C'' : QS} (h : z_offC p C C') (h' : z_offC p C' C'') : z_offC p C C'' := ⟨fun o j a b => (h'.1 o j a b).trans (h.1 o j a b), h'.2.1.trans h.2.1, h'.2.2.1.trans h.2.2.1, fun o j a => (h'.2.2.2 o j a).trans (h.2.2.2 o j a)⟩
theorem z_offC.sI {p : Nat} {C C' : QS} (h : z_offC p C C') {o j : Nat} {v : Int32} (ho : (p ≤ o ∧ o ≤ p + 34) ∨ (78 ≤ o ∧ o ≤ 80)) : z_offC p C (q_sI C' o j v) := by
  refine ⟨fun o' j' a b => ?_, h.2.1, h.2.2.1, h.2.2.2⟩
  rw [q_sI_I, if_neg (fun q => by omega)]
  exact h.1 o' j' a b
def z_offD (q : Nat) (D D' : QS) : Prop := (∀ o j, (o < q ∨ q + 27 < o) → (o < 163 ∨ 171 < o) → ¬ (o = 102 ∧ (j = 12 ∨ j = 19 ∨ j = 23)) → D'.2.1 o j = D.2.1 o j) ∧ D'.1 = D.1 ∧ D'.2.2 = D.2.2
theorem z_offD.refl (q : Nat) (D : QS) : z_offD q D D := ⟨fun _ _ _ _ _ => rfl, rfl, rfl⟩
theorem z_offD.trans {q : Nat} {D D' D'' : QS} (h : z_offD q D D') (h' : z_offD q D' D'') : z_offD q D D'' := ⟨fun o j a b c => (h'.1 o j a b c).trans (h.1 o j a b c), h'.2.1.trans h.2.1, h'.2.2.trans h.2.2⟩
theorem z_offD.sI {q : Nat} {D D' : QS} (h : z_offD q D D') {o j : Nat} {v : Int32} (ho : (q ≤ o ∧ o ≤ q + 27) ∨ (163 ≤ o ∧ o ≤ 171) ∨ (o = 102 ∧ (j = 12 ∨ j = 19 ∨ j = 23))) : z_offD q D (q_sI D' o j v) := by
  refine ⟨fun o' j' a b c => ?_, h.2.1, h.2.2⟩
  rw [q_sI_I, if_neg (fun q => by omega)]
  exact h.1 o' j' a b c
def z_pp (p : Nat) : Prop := p = 7 ∨ p = 42
def z_qq (q : Nat) : Prop := q = 103 ∨ q = 131
theorem z_C.off {C C' : QS} {n p : Nat} {g : ZT} (h : z_C C n g) (hp : z_pp p) (ho : z_offC p C C') : z_C C' n g := by
  rcases hp with rfl | rfl
  · exact h.fr (fun o j a => ho.1 o j (by omega) (by omega))
  · exact h.fr (fun o j a => ho.1 o j (by omega) (by omega))
theorem z_D.off {D D' : QS} {n q : Nat} {g : ZT} (h : z_D D n g) (hq : z_qq q) (ho : z_offD q D D') : z_D D' n g := by
  rcases hq with rfl | rfl
  · exact h.fr (fun o j a => ho.1 o j (by omega) (by omega) (by omega))
  · exact h.fr (fun o j a => ho.1 o j (by omega) (by omega) (by omega))
theorem k_C.fr {C C' : QS} {p : Nat} {K : ZK} (h : k_C C p K) (hf : ∀ o j, (o = p + 1 ∧ j = 0) ∨ o = p + 2 ∨ o = p + 3 ∨ o = p + 4 → C'.2.1 o j = C.2.1 o j) : k_C C' p K := by
  obtain ⟨h1, h2⟩ := h
  refine ⟨by rw [hf _ _ (by simp)]; exact h1, fun c hc => ?_⟩
  obtain ⟨a1, a2, a3⟩ := h2 c hc
  exact ⟨by rw [hf _ _ (by simp)]; exact a1, by rw [hf _ _ (by simp)]; exact a2, by rw [hf _ _ (by simp)]; exact a3⟩
theorem k_D.fr {D D' : QS} {q : Nat} {K : ZK} (h : k_D D q K) (hf : ∀ o j, (o = q ∧ j = 0) ∨ o = q + 1 ∨ o = 163 → D'.2.1 o j = D.2.1 o j) : k_D D' q K := by
  obtain ⟨h1, h2⟩ := h
  refine ⟨by rw [hf _ _ (by simp)]; exact h1, fun c hc => ?_⟩
  obtain ⟨a1, a2⟩ := h2 c hc
  exact ⟨fun h8 => by rw [hf _ _ (by simp)]; exact a1 h8, by rw [hf _ _ (by simp)]; exact a2⟩
theorem z_addClass {C : QS} {p w c0 : Nat} {K K' : ZK} {x1 x2 : Int32} (hk : k_C C p K) (h32 : K.cc < 32) (hc0 : 0 < K.cc → c0 < K.cc) (hcp : ∀ c, 0 < c → c < K.cc → K.cp c < c) (hx1 : x1 = if K.cc < 8 then -1 else nI w) (hx2 : x2 = if K.cc = 0 then -1 else nI c0) (k1 : K'.cc = K.cc + 1) (k2 : ∀ c, c < K.cc → K'.cw c = K.cw c ∧ K'.cp c = K.cp c) (k3 : 8 ≤ K.cc → K'.cw K.cc = w) (k4 : 0 < K.cc → K'.cp K.cc = c0) : ∃ C', fX0_addClass C p x1 x2 = some C' ∧ k_C C' p K' ∧ z_offC p C C' ∧ (∀ o j, ¬ (p + 1 ≤ o ∧ o ≤ p + 5) → C'.2.1 o j = C.2.1 o j) ∧ C'.2.1 (p + 1) 5 = C.2.1 (p + 1) 5 ∧ ∀ j, C'.2.1 (p + 5) j = if j = K.cc then 0 else C.2.1 (p + 5) j := by
  obtain ⟨h1, h2⟩ := hk
  have e1 : ¬ (32 : Int32) ≤ nI K.cc := by rw [show (32 : Int32) = nI 32 from rfl, z_leN (by decide) (by omega)]; omega
  have i1 := z_inbN h32 (by decide)
  have i2 := z_cl (show K.cc < 2147483648 by omega)
  have ne : ∀ i j : Nat, (p + i = p + j) = (i = j) := fun i j => propext ⟨fun h => by omega, fun h => by omega⟩
  let v : Int32 := if K.cc = 0 then 0 else C.2.1 (p + 4) c0
  have ev : ((if x2 < 0 then some 0 else if nI K.cc ≤ x2 then some 0 else if q_inb x2 32 = true then some (C.2.1 (p + 4) x2.toNatClampNeg) else none) : Option Int32) = some v := by
    by_cases z : K.cc = 0
    · rw [hx2, if_pos z, if_pos (by decide)]
      show _ = some (if K.cc = 0 then 0 else _)
      rw [if_pos z]
    · have := hc0 (by omega)
      rw [hx2, if_neg z, if_neg (nI_pos (by omega)), if_neg (by rw [z_leN (by omega) (by omega)]; omega), if_pos (z_inbN (by omega) (by decide)), z_cl (by omega)]
      show _ = some (if K.cc = 0 then 0 else _)
      rw [if_neg z]
  refine ⟨q_sI (q_sI (q_sI (q_sI (q_sI C (p + 2) K.cc x1) (p + 3) K.cc x2) (p + 4) K.cc (((1 : Int32) <<< (nI K.cc &&& 31)) ||| v)) (p + 5) K.cc 0) (p + 1) 0 (nI (K.cc + 1)), ?_, ?_, ?_, fun o j h => ?_, ?_, fun j => ?_⟩
  · simp only [fX0_addClass, q_sI_I, h1, if_neg e1, i1, i2, if_true, Option.bind_some, ne, Nat.reduceEqDiff, false_and, if_false, ev, nI_1]
  · refine ⟨?_, fun c hc => ?_⟩
    · rw [q_sI_I, if_pos ⟨rfl, rfl⟩, k1]
    · simp only [q_sI_I, ne, Nat.reduceEqDiff, false_and, if_false, true_and]
      rw [k1] at hc
      by_cases e : c = K.cc
      · subst e
        rw [if_pos rfl, if_pos rfl, if_pos rfl]
        refine ⟨?_, ?_, fun d hd => ?_⟩
        · rw [hx1]
          split
          · rfl
          · rw [k3 (by omega)]
        · rw [hx2]
          split
          · rfl
          · rw [k4 (by omega)]
        · rw [z_orb, z_shl ⟨K.cc, h32⟩ ⟨d, hd⟩]
          by_cases ed : d = K.cc
          · have : decide ((⟨d, hd⟩ : Fin 32) = ⟨K.cc, h32⟩) = true := decide_eq_true (Fin.ext ed)
            rw [this, Bool.true_or, ed, k_anc_self]
          · rw [decide_eq_false (fun x => ed (congrArg Fin.val x)), Bool.false_or]
            by_cases z : K.cc = 0
            · rw [show v = 0 from if_pos z, z, k_anc_0 (by omega)]
              simp
            · have hlt := hc0 (by omega)
              have hk4 := k4 (by omega)
              rw [show v = C.2.1 (p + 4) c0 from if_neg z, (h2 c0 hlt).2.2 d hd, k_anc_up ed (by omega) (by omega), hk4]
              exact k_anc_congr c0 (fun x hx => ((k2 x (by omega)).2).symm)
      · have hlt : c < K.cc := by omega
        rw [if_neg e, if_neg e, if_neg e, (k2 c hlt).1, (k2 c hlt).2]
        obtain ⟨a1, a2, a3⟩ := h2 c hlt
        refine ⟨a1, a2, fun d hd => ?_⟩
        rw [a3 d hd]
        exact k_anc_congr c (fun x hx => ((k2 x (by omega)).2).symm)
  · exact (((((z_offC.refl p C).sI (by omega)).sI (by omega)).sI (by omega)).sI (by omega)).sI (by omega)
  · rw [q_sI_I, if_neg (by omega), q_sI_I, if_neg (by omega), q_sI_I, if_neg (by omega), q_sI_I, if_neg (by omega), q_sI_I, if_neg (by omega)]
  · simp only [q_sI_I, ne, Nat.reduceEqDiff, false_and, and_false, if_false]
  · simp only [q_sI_I, ne, Nat.reduceEqDiff, false_and, if_false, true_and]
/-- what the members and the code start from -/
def k_z (C : QS) (p : Nat) (K : ZK) : Prop := (∀ c, c < K.cc → C.2.1 (p + 5) c = 0) ∧ C.2.1 (p + 1) 5 = 0 ∧ C.2.1 p 2 = 0 ∧ C.2.1 p 16 = 0 ∧ C.2.1 (p + 10) 0 = 0 ∧ C.2.1 (p + 10) 8 = 0 ∧ C.2.1 (p + 10) 9 = 0 ∧ ∀ k, k < 1536 → C.2.1 (p + 34) k = -1
theorem k_z.add {C C' : QS} {p : Nat} {K K' : ZK} (hz : k_z C p K) (k1 : K'.cc = K.cc + 1) (h1 : ∀ o j, ¬ (p + 1 ≤ o ∧ o ≤ p + 5) → C'.2.1 o j = C.2.1 o j) (h2 : C'.2.1 (p + 1) 5 = C.2.1 (p + 1) 5) (h3 : ∀ j, C'.2.1 (p + 5) j = if j = K.cc then 0 else C.2.1 (p + 5) j) : k_z C' p K' := by
  obtain ⟨z1, z2, z3, z4, z5, z6, z7, z8⟩ := hz
  refine ⟨fun c hc => ?_, by rw [h2]; exact z2, by rw [h1 _ _ (by omega)]; exact z3, by rw [h1 _ _ (by omega)]; exact z4, by rw [h1 _ _ (by omega)]; exact z5, by rw [h1 _ _ (by omega)]; exact z6, by rw [h1 _ _ (by omega)]; exact z7, fun k hk => by rw [h1 _ _ (by omega)]; exact z8 k hk⟩
  rw [h3]
  split
  · rfl
  · exact z1 c (by omega)
section ZCLS3
variable {C D : QS} {n p q : Nat} {g : ZT} {K : ZK}
theorem z_classAt {t : Nat} (hC : z_C C n g) (hG : z_G n g) (hK : k_K g K) (hk : k_C C p K) (ht : t < g.1) : fX4_classAt C p (nI t) = some (k_oI (k_cls g K (g.2.2.1 t) (g.2.2.2 t))) := by
  have gt := hG.2.2.2 t ht
  rw [fX4_classAt, z_start hC hG ht, Option.bind_some, z_stop hC hG ht, Option.bind_some, z_classIn hC hG hK hk (Nat.le_of_lt gt.1) gt.2.1, Option.bind_some]
theorem z_classOfToken {t : Nat} (hD : z_D D n g) (hG : z_G n g) (hK : k_K g K) (hk : k_D D q K) (ht : t < g.1) : fX12_classOfToken D q (nI t) = some (k_oI (k_cls g K (g.2.2.1 t) (g.2.2.2 t))) := by
  have b1 := hG.1
  have b2 := hG.2.1
  have gt := hG.2.2.2 t ht
  simp only [fX12_classOfToken, z_inbN (show t < 16002 by omega) (by decide), if_true, z_cl (show t < 2147483648 by omega), (hD.2.2.2 t ht).1, (hD.2.2.2 t ht).2, z_classOf hD hG hK hk (Nat.le_of_lt gt.1) gt.2.1, Option.bind_some]
theorem z_isAbove {d c : Nat} (hK : K.cc ≤ 32) (hk : k_C C p K) (hd : d < K.cc) (hc : c < K.cc) : fX0_isAbove C p (nI d) (nI c) = some (k_anc K.cp d c) := by
  have e1 : ¬ nI K.cc ≤ nI d := by rw [z_leN (by omega) (by omega)]; omega
  have e2 : ¬ nI K.cc ≤ nI c := by rw [z_leN (by omega) (by omega)]; omega
  simp only [fX0_isAbove, z_negN (show d < 2147483648 by omega), z_negN (show c < 2147483648 by omega), if_false, hk.1, if_neg e1, if_neg e2, z_inbN (show c < 32 by omega) (by decide), if_true, z_cl (show c < 2147483648 by omega)]
  have hb := z_bit (x := C.2.1 (p + 4) c) (show d < 32 by omega)
  rw [(hk.2 c hc).2.2 d (by omega)] at hb
  cases x : k_anc K.cp d c
  · rw [if_pos (hb.mpr x)]
  · rw [if_neg (fun y => by rw [hb.mp y] at x; cases x)]
theorem z_isAboveN {d c : Nat} (hK : K.cc ≤ 32) (hk : k_C C p K) (hd : d < 2147483648) (hc : c < 2147483648) : fX0_isAbove C p (nI d) (nI c) = some (decide (d < K.cc) && (decide (c < K.cc) && k_anc K.cp d c)) := by
  by_cases h1 : d < K.cc
  · by_cases h2 : c < K.cc
    · rw [z_isAbove hK hk h1 h2, decide_eq_true h1, decide_eq_true h2, Bool.true_and, Bool.true_and]
    · have e1 : ¬ nI K.cc ≤ nI d := by rw [z_leN (by omega) (by omega)]; omega
      have e2 : nI K.cc ≤ nI c := by rw [z_leN (by omega) (by omega)]; omega
      rw [decide_eq_false h2]
      simp only [fX0_isAbove, z_negN hd, z_negN hc, if_false, hk.1, if_neg e1, if_pos e2, Bool.false_and, Bool.and_false]
  · have e1 : nI K.cc ≤ nI d := by rw [z_leN (by omega) (by omega)]; omega
    rw [decide_eq_false h1]
    simp only [fX0_isAbove, z_negN hd, if_false, hk.1, if_pos e1, Bool.false_and]
theorem z_isAtOrBelow {d : Nat} (hK : k_K g K) (hk : k_D D q K) (hd : d < K.cc) : ∀ c, c < K.cc → fX12_isAtOrBelow D q (nI c) (nI d) = some (k_anc K.cp d c) := by
  have h32 := hK.2.1
  intro c
  induction c using Nat.strongRecOn with
  | _ c ih =>
    intro hc
    rw [fX12_isAtOrBelow, fX12_isAtOrBelow_2]
    by_cases e : d = c
    · subst e
      rw [k_anc_self]
      refine q_run_ret ?_
      simp only [tX12_isAtOrBelow_2, z_negN (show d < 2147483648 by omega), if_false, if_true]
    · have e1 : ¬ nI c = nI d := z_neN (by omega) (by omega) (fun x => e x.symm)
      have st : tX12_isAtOrBelow_2 D q (nI d) (nI c) = some (.inr (if c = 0 then -1 else nI (K.cp c))) := by
        simp only [tX12_isAtOrBelow_2, z_negN (show c < 2147483648 by omega), if_false, if_neg e1, z_inbN (show c < 32 by omega) (by decide), if_true, z_cl (show c < 2147483648 by omega), (hk.2 c hc).2]
      rw [q_run_go st]
      by_cases z : c = 0
      · rw [if_pos z, z, k_anc_0 (by omega)]
        refine q_run_ret ?_
        simp only [tX12_isAtOrBelow_2, if_pos (show (-1 : Int32) < 0 by decide)]
      · have hcp := hK.2.2.1 c (by omega) hc
        rw [if_neg z, k_anc_up e (by omega) hcp]
        have := ih (K.cp c) hcp (by omega)
        rw [fX12_isAtOrBelow, fX12_isAtOrBelow_2] at this
        exact this
/-- the class's walk passes tokens that begin no class -/
theorem z_classSkip (hT : C.2.1 2 5 = nI g.1) (hT2 : g.1 ≤ 16000) (hkd : ∀ i, i < g.1 → C.2.1 6 i = e_kind g i) {t' : Nat} (h' : t' ≤ g.1) : ∀ d k, k + d = t' → (∀ i, k ≤ i → i < t' → e_kind g i ≠ 48) → q_run (tX4_classFault_2 p) (nI k, C) = q_run (tX4_classFault_2 p) (nI t', C) := by
  intro d
  induction d with
  | zero => intro k hk _; rw [show k = t' by omega]
  | succ d ih =>
    intro k hk hn
    have e1 : ¬ nI g.1 ≤ nI k := by rw [z_leN (by omega) (by omega)]; omega
    have st : tX4_classFault_2 p (nI k, C) = some (.inr (nI (k + 1), C)) := by
      simp only [tX4_classFault_2, hT, if_neg e1, z_inbN (show k < 16000 by omega) (by decide), if_true, z_cl (show k < 2147483648 by omega), hkd k (by omega), if_neg (hn k (Nat.le_refl _) (by omega)), nI_1]
    rw [q_run_go st]
    exact ih (k + 1) (by omega) (fun i h1 h2 => hn i (by omega) h2)
/-- where the classes stand, up to t -/
def k_KP (g : ZT) (K : ZK) (t : Nat) : Prop := (K.cc = 8 → t = 0) ∧ (8 < K.cc → K.cw 8 = 1) ∧ ∀ c, 8 ≤ c → c < K.cc → 1 ≤ K.cw c ∧ e_st g (K.cw c - 1) = (0, []) ∧ K.cw c - 1 < (if c + 1 < K.cc then K.cw (c + 1) - 1 else t) ∧ ∀ k, K.cw c - 1 < k → k < (if c + 1 < K.cc then K.cw (c + 1) - 1 else t) → e_st g k ≠ (0, [])
/-- no two classes have the same name -/
def k_KD (g : ZT) (K : ZK) : Prop := ∀ c c', 8 ≤ c → c < c' → c' < K.cc → k_same g.2.1 (g.2.2.1 (K.cw c')) (g.2.2.2 (K.cw c')) (g.2.2.1 (K.cw c)) (g.2.2.2 (K.cw c)) = false
/-- the answer of a walk of both: the same fault, or none -/
def z_flt (g : ZT) (r : Int32 × QS) (r' : Bool × QS) : Prop := ∃ f, f ≤ g.1 ∧ r.1 = nI f ∧ r'.1 = false ∧ r'.2.2.1 102 12 = nI f
theorem z_classWalk (hp : z_pp p) (hq : z_qq q) (hG : z_G n g) (ho : e_ok g) : ∀ m t C D K, t + m = g.1 → e_st g t = (0, []) → z_C C n g → z_D D n g → (∀ i, i < g.1 → C.2.1 6 i = e_kind g i) → k_C C p K → k_D D q K → k_K g K → k_KP g K t → k_z C p K → k_KD g K → ∃ r r', q_run (tX4_classFault_2 p) (nI t, C) = some r ∧ q_run (tX12_classNames_45 q) (nI t, D) = some r' ∧ z_offC p C r.2 ∧ z_offD q D r'.2 ∧ (z_flt g r r' ∨ (r.1 = -1 ∧ r'.1 = true ∧ ∃ K', k_C r.2 p K' ∧ k_D r'.2 q K' ∧ k_K g K' ∧ k_KP g K' g.1 ∧ k_z r.2 p K' ∧ k_KD g K')) := by
  have b1 := hG.1
  have b2 := hG.2.1
  intro m
  induction m using Nat.strongRecOn with
  | _ m ih =>
    intro t C D K ht hst hC hD hkd hkC hkD hK hKP hz hKD
    have k8 := hK.1
    have k32 := hK.2.1
    by_cases hlt : t < g.1
    rotate_left
    · have e1 : nI g.1 ≤ nI t := by rw [z_leN (by omega) (by omega)]; omega
      have s1 : tX4_classFault_2 p (nI t, C) = some (.inl (-1, C)) := by simp only [tX4_classFault_2, hC.2.1, if_pos e1]
      have s2 : tX12_classNames_45 q (nI t, D) = some (.inl (true, D)) := by simp only [tX12_classNames_45, hD.2.1, if_pos e1]
      refine ⟨_, _, q_run_ret s1, q_run_ret s2, z_offC.refl _ _, z_offD.refl _ _, Or.inr ⟨rfl, rfl, K, hkC, hkD, hK, ?_, hz, hKD⟩⟩
      rw [show g.1 = t by omega]
      exact hKP
    obtain ⟨c1, c2, c3, c4, c5, c6, c7, c8, c9⟩ := e_class ho hlt hst
    have e1 : ¬ nI g.1 ≤ nI t := by rw [z_leN (by omega) (by omega)]; omega
    have n1 : nI t + 1 = nI (t + 1) := nI_1 t
    have n3 : nI t + 3 = nI (t + 3) := by rw [show (3 : Int32) = nI 3 from rfl, nI_add]
    have a1 := z_classAt hC hG hK hkC (show t + 1 < g.1 by omega)
    have a3 := z_classAt hC hG hK hkC (show t + 3 < g.1 by omega)
    have d1 := z_classOfToken hD hG hK hkD (show t + 1 < g.1 by omega)
    have d3 := z_classOfToken hD hG hK hkD (show t + 3 < g.1 by omega)
    have wr : ∀ f : Nat, fX12_wrong D (nI f) = some (false, q_sI D 102 12 (nI f)) := fun f => rfl
    have flt : ∀ f : Nat, f ≤ g.1 → (tX4_classFault_2 p (nI t, C) = some (.inl (nI f, C))) → (tX12_classNames_45 q (nI t, D) = some (.inl (false, q_sI D 102 12 (nI f)))) → ∃ r r', q_run (tX4_classFault_2 p) (nI t, C) = some r ∧ q_run (tX12_classNames_45 q) (nI t, D) = some r' ∧ z_offC p C r.2 ∧ z_offD q D r'.2 ∧ (z_flt g r r' ∨ (r.1 = -1 ∧ r'.1 = true ∧ ∃ K', k_C r.2 p K' ∧ k_D r'.2 q K' ∧ k_K g K' ∧ k_KP g K' g.1 ∧ k_z r.2 p K' ∧ k_KD g K')) := by
      intro f hf s1 s2
      refine ⟨_, _, q_run_ret s1, q_run_ret s2, z_offC.refl _ _, (z_offD.refl _ _).sI (by omega), Or.inl ⟨f, hf, rfl, rfl, ?_⟩⟩
      show (q_sI D 102 12 (nI f)).2.1 102 12 = _
      rw [q_sI_I, if_pos ⟨rfl, rfl⟩]
    cases hf : k_cls g K (g.2.2.1 (t + 1)) (g.2.2.2 (t + 1)) with
    | some c =>
      have hc := k_cls_lt k8 hf
      rw [hf] at a1 d1
      refine flt (t + 1) (by omega) ?_ ?_
      · simp only [tX4_classFault_2, hC.2.1, if_neg e1, z_inbN (show t < 16000 by omega) (by decide), if_true, z_cl (show t < 2147483648 by omega), hkd t hlt, c7, n1, a1, Option.bind_some, k_oI]
        rw [if_neg (by rw [z_m1N (by omega)]; exact fun x => x)]
      · simp only [tX12_classNames_45, hD.2.1, if_neg e1, n1, d1, Option.bind_some, k_oI]
        rw [if_pos (by rw [show (0 : Int32) = nI 0 from rfl, z_leN (by decide) (by omega)]; exact Nat.zero_le _), wr]
        rfl
    | none =>
      rw [hf] at a1 d1
      have e0 : ¬ (0 : Int32) ≤ -1 := by decide
      by_cases full : K.cc = 32
      · refine flt (t + 1) (by omega) ?_ ?_
        · simp only [tX4_classFault_2, hC.2.1, if_neg e1, z_inbN (show t < 16000 by omega) (by decide), if_true, z_cl (show t < 2147483648 by omega), hkd t hlt, c7, n1, a1, Option.bind_some, k_oI, hkC.1, full]
          rw [if_pos (by rfl)]
        · simp only [tX12_classNames_45, hD.2.1, if_neg e1, n1, d1, Option.bind_some, k_oI, if_neg e0, hkD.1, full]
          rw [if_pos (by rfl), wr]
          rfl
      · have f1 : ¬ nI K.cc = 32 := by rw [show (32 : Int32) = nI 32 from rfl, z_eqN (by omega) (by decide)]; exact full
        have f2 : ¬ nI (K.cc - 8) = 24 := by rw [show (24 : Int32) = nI 24 from rfl, z_eqN (by omega) (by decide)]; omega
        cases hf3 : k_cls g K (g.2.2.1 (t + 3)) (g.2.2.2 (t + 3)) with
        | none =>
          rw [hf3] at a3 d3
          refine flt (t + 3) (by omega) ?_ ?_
          · simp only [tX4_classFault_2, hC.2.1, if_neg e1, z_inbN (show t < 16000 by omega) (by decide), if_true, z_cl (show t < 2147483648 by omega), hkd t hlt, c7, n1, a1, Option.bind_some, k_oI, hkC.1, if_neg f1, n3, a3]
          · simp only [tX12_classNames_45, hD.2.1, if_neg e1, n1, d1, Option.bind_some, k_oI, if_neg e0, hkD.1, if_neg f2, n3, d3, wr]
        | some c0 =>
          have hc0 := k_cls_lt k8 hf3
          rw [hf3] at a3 d3
          let K' : ZK := ⟨K.cc + 1, fun c => if c = K.cc then t + 1 else K.cw c, fun c => if c = K.cc then c0 else K.cp c⟩
          have kw : ∀ c, c ≠ K.cc → K'.cw c = K.cw c := fun c hc => if_neg hc
          have kp : ∀ c, c ≠ K.cc → K'.cp c = K.cp c := fun c hc => if_neg hc
          have kw' : K'.cw K.cc = t + 1 := if_pos rfl
          have kp' : K'.cp K.cc = c0 := if_pos rfl
          have kcc : K'.cc = K.cc + 1 := rfl
          obtain ⟨C', x1, x2, x3, x4, x5, x6⟩ := z_addClass (x1 := nI (t + 1)) (x2 := nI c0) (w := t + 1) (c0 := c0) (K' := K') hkC (by omega) (fun _ => hc0) hK.2.2.1 (by rw [if_neg (by omega)]) (by rw [if_neg (by omega)]) rfl (fun c hc => ⟨kw c (by omega), kp c (by omega)⟩) (fun _ => kw') (fun _ => kp')
          have s1 : tX4_classFault_2 p (nI t, C) = some (.inr (nI (t + 1), C')) := by
            simp only [tX4_classFault_2, hC.2.1, if_neg e1, z_inbN (show t < 16000 by omega) (by decide), if_true, z_cl (show t < 2147483648 by omega), hkd t hlt, c7, n1, a1, Option.bind_some, k_oI, hkC.1, if_neg f1, n3, a3, z_m1N (show c0 < 2147483648 by omega), if_false, x1]
          let D' := q_sI (q_sI (q_sI D 163 K.cc (nI (t + 1))) (q + 1) K.cc (nI c0)) q 0 (nI (K.cc - 8 + 1))
          have hoD : z_offD q D D' := by
            rcases hq with rfl | rfl
            · exact (((z_offD.refl _ D).sI (by omega)).sI (by omega)).sI (by omega)
            · exact (((z_offD.refl _ D).sI (by omega)).sI (by omega)).sI (by omega)
          have hD' := hD.off hq hoD
          have hno : ∀ k, t ≤ k → k < t + 4 → e_mark g k 123 = false := by
            intro k k1 k2
            rw [e_mark_iff (by omega)]
            have : k = t ∨ k = t + 1 ∨ k = t + 2 ∨ k = t + 3 := by omega
            rcases this with rfl | rfl | rfl | rfl
            · rw [(e_word_b0 c2).2]; decide
            · have := (e_nam_b0 c3).2
              exact decide_eq_false (e_rng this.1 this.2 (by decide))
            · rw [(e_word_b0 c4).2]; decide
            · have := (e_nam_b0 c5).2
              exact decide_eq_false (e_rng this.1 this.2 (by decide))
          obtain ⟨t', y1, y2, y3, y4, y5⟩ := z_behind (t := t) (m := t + 4) (l := 0) hD' hG ho (by omega) c1 hno c6 (by rw [(c9 (t + 4) (by omega) (by omega)).2.1])
          have s2 : tX12_classNames_45 q (nI t, D) = some (.inr (nI t', D')) := by
            have e8 : (8 : Int32) + nI (K.cc - 8) = nI K.cc := by rw [show (8 : Int32) = nI 8 from rfl, nI_add, show 8 + (K.cc - 8) = K.cc by omega]
            have e9 : (0 : Int32) ≤ nI c0 := by rw [show (0 : Int32) = nI 0 from rfl, z_leN (by decide) (by omega)]; exact Nat.zero_le _
            have u1 : (q_sI D 163 K.cc (nI (t + 1))).2.1 q 0 = nI (K.cc - 8) := by rw [q_sI_I, if_neg (by rcases hq with rfl | rfl <;> omega)]; exact hkD.1
            have u2 : (q_sI (q_sI D 163 K.cc (nI (t + 1))) (q + 1) K.cc (nI c0)).2.1 q 0 = nI (K.cc - 8) := by rw [q_sI_I, if_neg (by omega)]; exact u1
            simp only [tX12_classNames_45, hD.2.1, if_neg e1, n1, d1, Option.bind_some, k_oI, if_neg e0, hkD.1, if_neg f2, n3, d3, if_pos e9, e8, z_inbN (show K.cc < 32 by omega) (by decide), if_true, z_cl (show K.cc < 2147483648 by omega), u1, u2, nI_1]
            rw [y1, Option.bind_some]
          rw [q_run_go s1, q_run_go s2]
          have hkd' : ∀ i, i < g.1 → C'.2.1 6 i = e_kind g i := fun i hi => by
            rw [x3.1 6 i (by rcases hp with rfl | rfl <;> omega) (by omega)]
            exact hkd i hi
          have hC' := hC.off hp x3
          rw [z_classSkip hC'.2.1 (by omega) hkd' y3 (t' - (t + 1)) (t + 1) (by omega) (fun i i1 i2 => ?_)]
          rotate_left
          · intro hk
            by_cases i5 : i < t + 5
            · rw [(c9 i (by omega) i5).1] at hk
              exact absurd hk (by decide)
            · have z := (e_kind48 ho (by omega)).mp hk
              have := y5 i (by omega) i2
              rw [z] at this
              exact absurd this (by omega)
          have hkD' : k_D D' q K' := by
            refine ⟨?_, fun c hc => ?_⟩
            · show (q_sI _ q 0 _).2.1 q 0 = nI (K.cc + 1 - 8)
              rw [q_sI_I, if_pos ⟨rfl, rfl⟩, show K.cc - 8 + 1 = K.cc + 1 - 8 by omega]
            · have r1 : D'.2.1 163 c = if c = K.cc then nI (t + 1) else D.2.1 163 c := by
                rcases hq with rfl | rfl <;> simp [D', q_sI_I]
              have r2 : D'.2.1 (q + 1) c = if c = K.cc then nI c0 else D.2.1 (q + 1) c := by
                rcases hq with rfl | rfl <;> simp [D', q_sI_I]
              rw [r1, r2]
              by_cases e : c = K.cc
              · subst e
                rw [if_pos rfl, if_pos rfl, if_neg (by omega), kw', kp']
                exact ⟨fun _ => rfl, rfl⟩
              · rw [if_neg e, if_neg e, kw c e, kp c e]
                exact hkD.2 c (by omega)
          have hK' : k_K g K' := by
            refine ⟨by omega, by omega, fun c h0 hc => ?_, fun c h0 hc => ?_, ?_, fun c h0 h1 => ?_⟩
            · by_cases e : c = K.cc
              · subst e; rw [kp']; exact hc0
              · rw [kp c e]; exact hK.2.2.1 c h0 (by omega)
            · by_cases e : c = K.cc
              · subst e
                rw [kw']
                refine ⟨by omega, ?_⟩
                rw [k_cls, Option.or_eq_none_iff] at hf
                exact hf.1
              · rw [kw c e]; exact hK.2.2.2.1 c h0 (by omega)
            · rw [kp 1 (by omega)]; exact hK.2.2.2.2.1
            · rw [kp c (by omega)]; exact hK.2.2.2.2.2 c h0 h1
          have hKP' : k_KP g K' t' := by
            refine ⟨fun h => by omega, fun _ => ?_, fun c h0 hc => ?_⟩
            · by_cases e : K.cc = 8
              · have := hKP.1 e
                rw [← e, kw', this]
              · rw [kw 8 (by omega)]
                exact hKP.2.1 (by omega)
            · by_cases e : c = K.cc
              · subst e
                rw [kw', if_neg (by omega)]
                refine ⟨by omega, hst, by omega, fun k h1 h2 hk => ?_⟩
                by_cases i5 : k < t + 5
                · have := (c9 k (by omega) i5).2.2
                  rw [hk] at this
                  exact this rfl
                · have := y5 k (by omega) h2
                  rw [hk] at this
                  exact absurd this (by omega)
              · have hlt : c < K.cc := by omega
                have := hKP.2.2 c h0 hlt
                rw [kw c e, if_pos (by omega)]
                by_cases e2 : c + 1 = K.cc
                · rw [e2, kw']
                  rw [if_neg (by omega)] at this
                  exact this
                · rw [kw (c + 1) e2]
                  rw [if_pos (by omega)] at this
                  exact this
          have hKD' : k_KD g K' := by
            intro c c' h0 h1 h2
            rw [kw c (by omega)]
            by_cases e : c' = K.cc
            · subst e
              rw [kw']
              rw [k_cls, Option.or_eq_none_iff] at hf
              exact k_fnd_none _ _ hf.2 c h0 (by omega)
            · rw [kw c' e]
              exact hKD c c' h0 h1 (by omega)
          obtain ⟨r, r', z1, z2, z3, z4, z5⟩ := ih (g.1 - t') (by omega) t' C' D' K' (by omega) y4 hC' hD' hkd' x2 hkD' hK' hKP' (hz.add rfl x4 x5 x6) hKD'
          exact ⟨r, r', z1, z2, x3.trans z3, hoD.trans z4, z5⟩
end ZCLS3
