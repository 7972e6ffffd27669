section ZTOK2
variable {C D : QS} {n T : Nat} {B : Nat → Int32} {a b : Nat → Nat}
def k_mark (T : Nat) (B : Nat → Int32) (a : Nat → Nat) (t : Nat) (m : Int32) : Bool := decide (t < T) && decide (B (a t) = m)
def k_nam (T : Nat) (B : Nat → Int32) (a b : Nat → Nat) (t : Nat) (f : Int32) : Bool := decide (t < T) && z_nam B (a t) (b t) f
theorem z_isMark {t : Nat} {m : Int32} (hC : z_cX C n T B a b) (hG : z_gX n T B a b) (ht : t < 2147483648) : fX8_isMark C (nI t) m = some (k_mark T B a t m) := by
  have hn := hG.1
  have hT := hG.2.1
  simp only [fX8_isMark, hC.2.1, z_negN ht, if_false, z_leN (show T < 2147483648 by omega) ht]
  by_cases h : t < T
  · have g := hG.2.2.2 t h
    rw [if_neg (by omega)]
    simp only [z_inbN (show t < 16000 by omega) (by decide), if_true, z_cl ht, hC.2.2.2 t h, z_inbN (show a t < 16000 by omega) (by decide), z_cl (show a t < 2147483648 by omega), hC.2.2.1 (a t) (by omega), k_mark, decide_eq_true h, Bool.true_and]
    by_cases q : B (a t) = m <;> simp [q]
  · rw [if_pos (by omega), k_mark, decide_eq_false h, Bool.false_and]
theorem z_one1 (u v : Nat) (m : Int32) : z_txt B u v [m] = (decide (v = u + 1) && decide (B u = m)) := by
  simp only [z_txt, List.length_cons, List.length_nil, Nat.zero_add, z_ff, Nat.add_zero, List.getD_cons_zero]
  by_cases q : B u = m <;> simp [q]
/-- a mark stands alone -/
theorem k_mark_word {t : Nat} {m : Int32} (hG : z_gX n T B a b) (hm : z_mk m = true) : k_mark T B a t m = k_word T B a b t [m] := by
  rw [k_mark, k_word, z_one1]
  by_cases h : t < T
  · rw [decide_eq_true h, Bool.true_and, Bool.true_and]
    by_cases q : B (a t) = m
    · have g := hG.2.2.2 t h
      have := (g.2.2.2 (a t) (Nat.le_refl _) g.1).2 (by rw [q]; exact hm)
      simp [q, this]
    · simp [q]
  · simp [h]
theorem z_isName {t : Nat} (hC : z_cX C n T B a b) (hG : z_gX n T B a b) (ht : t < 2147483648) : fX8_isName C (nI t) = some (k_nam T B a b t 97) := by
  have hn := hG.1
  have hT := hG.2.1
  simp only [fX8_isName, hC.2.1, z_negN ht, if_false, z_leN (show T < 2147483648 by omega) ht]
  by_cases h : t < T
  · have g := hG.2.2.2 t h
    rw [if_neg (by omega)]
    simp only [z_inbN (show t < 16000 by omega) (by decide), if_true, z_cl ht, hC.2.2.2 t h, z_isNamed hC hG (show a t ≤ n + 1 by omega) (show b t ≤ n by omega), Option.bind_some]
    rw [k_nam, decide_eq_true h, Bool.true_and]
    cases z_nam B (a t) (b t) 97 <;> rfl
  · rw [if_pos (by omega), k_nam, decide_eq_false h, Bool.false_and]
theorem z_isClassName {t : Nat} (hC : z_cX C n T B a b) (hG : z_gX n T B a b) (ht : t < 2147483648) : fX8_isClassName C (nI t) = some (k_nam T B a b t 65) := by
  have hn := hG.1
  have hT := hG.2.1
  simp only [fX8_isClassName, hC.2.1, z_negN ht, if_false, z_leN (show T < 2147483648 by omega) ht]
  by_cases h : t < T
  · have g := hG.2.2.2 t h
    rw [if_neg (by omega)]
    simp only [z_inbN (show t < 16000 by omega) (by decide), if_true, z_cl ht, hC.2.2.2 t h, z_isNamed hC hG (show a t ≤ n + 1 by omega) (show b t ≤ n by omega), Option.bind_some]
    rw [k_nam, decide_eq_true h, Bool.true_and]
    cases z_nam B (a t) (b t) 65 <;> rfl
  · rw [if_pos (by omega), k_nam, decide_eq_false h, Bool.false_and]
theorem z_dSmall {t : Nat} (hD : z_dX D n T B a b) (hG : z_gX n T B a b) (ht : t < 2147483648) : fX12_isSmallName D (nI t) = some (k_nam T B a b t 97) := by
  have hn := hG.1
  have hT := hG.2.1
  simp only [fX12_isSmallName, hD.2.1, z_leN (show T < 2147483648 by omega) ht]
  by_cases h : t < T
  · have g := hG.2.2.2 t h
    rw [if_neg (by omega)]
    simp only [z_inbN (show t < 16002 by omega) (by decide), if_true, z_cl ht, hD.2.2.2 t h, z_dName hD hG (f := 97) (g := 122) (show a t ≤ n + 1 by omega) (show b t ≤ n by omega) (by decide), Option.bind_some]
    rw [k_nam, decide_eq_true h, Bool.true_and]
    cases z_nam B (a t) (b t) 97 <;> rfl
  · rw [if_pos (by omega), k_nam, decide_eq_false h, Bool.false_and]
theorem z_dClass {t : Nat} (hD : z_dX D n T B a b) (hG : z_gX n T B a b) (ht : t < 2147483648) : fX12_isClassName D (nI t) = some (k_nam T B a b t 65) := by
  have hn := hG.1
  have hT := hG.2.1
  simp only [fX12_isClassName, hD.2.1, z_leN (show T < 2147483648 by omega) ht]
  by_cases h : t < T
  · have g := hG.2.2.2 t h
    rw [if_neg (by omega)]
    simp only [z_inbN (show t < 16002 by omega) (by decide), if_true, z_cl ht, hD.2.2.2 t h, z_dName hD hG (f := 65) (g := 90) (show a t ≤ n + 1 by omega) (show b t ≤ n by omega) (by decide), Option.bind_some]
    rw [k_nam, decide_eq_true h, Bool.true_and]
    cases z_nam B (a t) (b t) 65 <;> rfl
  · rw [if_pos (by omega), k_nam, decide_eq_false h, Bool.false_and]
/-! where the dot lies -/
def k_dot (B : Nat → Int32) (a b : Nat → Nat) (t : Nat) : Nat := z_ff (fun k => if B k = 46 then some k else none) (b t) (a t) (b t - a t)
theorem z_ff_dot {d lo m : Nat} : z_ff (fun k => if B k = 46 then some k else none) d lo m = d ∨ (lo ≤ z_ff (fun k => if B k = 46 then some k else none) d lo m ∧ z_ff (fun k => if B k = 46 then some k else none) d lo m < lo + m ∧ B (z_ff (fun k => if B k = 46 then some k else none) d lo m) = 46) := by
  induction m generalizing lo with
  | zero => exact .inl rfl
  | succ m ih =>
    simp only [z_ff]
    by_cases q : B lo = 46
    · rw [if_pos q]; exact .inr ⟨Nat.le_refl _, by simp only; omega, q⟩
    · rw [if_neg q]
      rcases ih (lo := lo + 1) with h | ⟨h1, h2, h3⟩
      · exact .inl h
      · exact .inr ⟨by simp only at *; omega, by simp only at *; omega, h3⟩
theorem k_dot_is {t : Nat} (hG : z_gX n T B a b) (ht : t < T) : k_dot B a b t = b t ∨ (a t ≤ k_dot B a b t ∧ k_dot B a b t < b t ∧ B (k_dot B a b t) = 46) := by
  have g := hG.2.2.2 t ht
  rcases z_ff_dot (B := B) (d := b t) (lo := a t) (m := b t - a t) with h | ⟨h1, h2, h3⟩
  · exact .inl h
  · exact .inr ⟨h1, by unfold k_dot; omega, h3⟩
theorem k_dot_le {t : Nat} (hG : z_gX n T B a b) (ht : t < T) : a t ≤ k_dot B a b t ∧ k_dot B a b t ≤ b t := by
  have g := hG.2.2.2 t ht
  rcases k_dot_is hG ht with h | ⟨h1, h2, h3⟩ <;> omega
theorem z_ff_m1 {d lo m : Nat} (hd : lo + m ≤ d) (hb : d < 2147483648) : z_ff (fun k => if B k = 46 then some (nI k) else none) (-1) lo m = if z_ff (fun k => if B k = 46 then some k else none) d lo m = d then -1 else nI (z_ff (fun k => if B k = 46 then some k else none) d lo m) := by
  induction m generalizing lo with
  | zero => simp [z_ff]
  | succ m ih =>
    by_cases q : B lo = 46
    · have h1 : z_ff (fun k => if B k = 46 then some (nI k) else none) (-1) lo (m + 1) = nI lo := by simp [z_ff, q]
      have h2 : z_ff (fun k => if B k = 46 then some k else none) d lo (m + 1) = lo := by simp [z_ff, q]
      rw [h1, h2, if_neg (by omega)]
    · have h1 : z_ff (fun k => if B k = 46 then some (nI k) else none) (-1) lo (m + 1) = z_ff (fun k => if B k = 46 then some (nI k) else none) (-1) (lo + 1) m := by simp [z_ff, q]
      have h2 : z_ff (fun k => if B k = 46 then some k else none) d lo (m + 1) = z_ff (fun k => if B k = 46 then some k else none) d (lo + 1) m := by simp [z_ff, q]
      rw [h1, h2]
      exact ih (by omega)
theorem z_dotOf {t : Nat} (hC : z_cX C n T B a b) (hG : z_gX n T B a b) (ht : t < T) : fX8_dotOf C (nI t) = some (if k_dot B a b t = b t then -1 else nI (k_dot B a b t)) := by
  have hn := hG.1
  have hT := hG.2.1
  have g := hG.2.2.2 t ht
  have e1 : ¬ nI T ≤ nI t := by rw [z_leN (by omega) (by omega)]; omega
  simp only [fX8_dotOf, hC.2.1, z_negN (show t < 2147483648 by omega), if_false, if_neg e1, z_inbN (show t < 16000 by omega) (by decide), if_true, z_cl (show t < 2147483648 by omega), hC.2.2.2 t ht]
  rw [k_dot, ← z_ff_m1 (by omega) (by omega), fX8_dotOf_19]
  refine z_for _ (-1) (a t) (b t - a t) (fun k k1 k2 => ?_) ?_
  · have g1 : ¬ nI (b t) ≤ nI k := by rw [z_leN (by omega) (by omega)]; omega
    simp only [tX8_dotOf_19, z_inbN (show t < 16000 by omega) (by decide), if_true, z_cl (show t < 2147483648 by omega), hC.2.2.2 t ht, if_neg g1, z_inbN (show k < 16000 by omega) (by decide), z_cl (show k < 2147483648 by omega), hC.2.2.1 k (by omega), nI_1]
    by_cases q : B k = 46
    · rw [if_pos q, if_pos q]
    · rw [if_neg q, if_neg q]
  · rw [show a t + (b t - a t) = b t by omega]
    simp only [tX8_dotOf_19, z_inbN (show t < 16000 by omega) (by decide), if_true, z_cl (show t < 2147483648 by omega), hC.2.2.2 t ht]
    rw [if_pos (by rw [z_leN (by omega) (by omega)]; exact Nat.le_refl _)]
theorem z_ff_map {R Q : Type} {g : Nat → Option R} {d : R} (f : R → Q) {lo m : Nat} : z_ff (fun k => (g k).map f) (f d) lo m = f (z_ff g d lo m) := by
  induction m generalizing lo with
  | zero => rfl
  | succ m ih =>
    simp only [z_ff]
    cases g lo with
    | some r => rfl
    | none => exact ih
theorem z_point {t : Nat} (hD : z_dX D n T B a b) (hG : z_gX n T B a b) (ht : t < T) : fX12_point D (nI t) = some (nI (k_dot B a b t)) := by
  have hn := hG.1
  have hT := hG.2.1
  have g := hG.2.2.2 t ht
  simp only [fX12_point, z_inbN (show t < 16002 by omega) (by decide), if_true, z_cl (show t < 2147483648 by omega), hD.2.2.2 t ht]
  rw [k_dot, ← z_ff_map nI, fX12_point_7]
  refine z_for _ (nI (b t)) (a t) (b t - a t) (fun k k1 k2 => ?_) ?_
  · have g1 : ¬ nI (b t) ≤ nI k := by rw [z_leN (by omega) (by omega)]; omega
    simp only [tX12_point_7, z_inbN (show t < 16002 by omega) (by decide), if_true, z_cl (show t < 2147483648 by omega), hD.2.2.2 t ht, if_neg g1, z_inbN (show k < 16000 by omega) (by decide), z_cl (show k < 2147483648 by omega), hD.2.2.1 k (by omega), nI_1]
    by_cases q : B k = 46
    · rw [if_pos q, if_pos q]; rfl
    · rw [if_neg q, if_neg q]; rfl
  · rw [show a t + (b t - a t) = b t by omega]
    simp only [tX12_point_7, z_inbN (show t < 16002 by omega) (by decide), if_true, z_cl (show t < 2147483648 by omega), hD.2.2.2 t ht]
    rw [if_pos (by rw [z_leN (by omega) (by omega)]; exact Nat.le_refl _)]
def k_ref (T : Nat) (B : Nat → Int32) (a b : Nat → Nat) (t : Nat) : Bool := decide (t < T) && (z_nam B (a t) (k_dot B a b t) 65 && z_nam B (k_dot B a b t + 1) (b t) 97)
theorem z_isReference {t : Nat} (hC : z_cX C n T B a b) (hG : z_gX n T B a b) (ht : t < 2147483648) : fX8_isReference C (nI t) = some (k_ref T B a b t) := by
  have hn := hG.1
  have hT := hG.2.1
  by_cases h : t < T
  · have g := hG.2.2.2 t h
    simp only [fX8_isReference, z_dotOf hC hG h, Option.bind_some, k_ref, decide_eq_true h, Bool.true_and]
    by_cases q : k_dot B a b t = b t
    · rw [if_pos q, if_pos (by decide), q]
      have : z_nam B (b t + 1) (b t) 97 = false := by rw [z_nam, decide_eq_false (by omega), Bool.false_and]
      rw [this, Bool.and_false]
    · have hd := k_dot_le hG h
      rw [if_neg q]
      simp only [z_negN (show k_dot B a b t < 2147483648 by omega), if_false, z_inbN (show t < 16000 by omega) (by decide), if_true, z_cl ht, hC.2.2.2 t h, z_isNamed hC hG (show a t ≤ n + 1 by omega) (show k_dot B a b t ≤ n by omega), nI_1, z_isNamed hC hG (show k_dot B a b t + 1 ≤ n + 1 by omega) (show b t ≤ n by omega), Option.bind_some]
      cases z_nam B (a t) (k_dot B a b t) 65 <;> cases z_nam B (k_dot B a b t + 1) (b t) 97 <;> rfl
  · have e1 : nI T ≤ nI t := by rw [z_leN (by omega) (by omega)]; omega
    simp only [fX8_isReference, fX8_dotOf, hC.2.1, z_negN ht, if_false, if_pos e1, Option.bind_some, k_ref, decide_eq_false h, Bool.false_and]
    rfl
theorem z_dReference {t : Nat} (hD : z_dX D n T B a b) (hG : z_gX n T B a b) (ht : t < 2147483648) : fX12_isReference D (nI t) = some (k_ref T B a b t) := by
  have hn := hG.1
  have hT := hG.2.1
  simp only [fX12_isReference, hD.2.1, z_ltN ht (show T < 2147483648 by omega)]
  by_cases h : t < T
  · have g := hG.2.2.2 t h
    have hd := k_dot_le hG h
    rw [if_pos h]
    simp only [z_point hD hG h, Option.bind_some, k_ref, decide_eq_true h, Bool.true_and, z_inbN (show t < 16002 by omega) (by decide), if_true, z_cl ht, hD.2.2.2 t h, z_dName hD hG (f := 65) (g := 90) (show a t ≤ n + 1 by omega) (show k_dot B a b t ≤ n by omega) (by decide), nI_1, z_dName hD hG (f := 97) (g := 122) (show k_dot B a b t + 1 ≤ n + 1 by omega) (show b t ≤ n by omega) (by decide)]
    cases z_nam B (a t) (k_dot B a b t) 65 <;> cases z_nam B (k_dot B a b t + 1) (b t) 97 <;> rfl
  · rw [if_neg h, k_ref, decide_eq_false h, Bool.false_and]
/-! types -/
theorem z_start {t : Nat} (hC : z_cX C n T B a b) (hG : z_gX n T B a b) (ht : t < T) : fX8_start C (nI t) = some (nI (a t)) := by
  have hn := hG.1
  have hT := hG.2.1
  have e1 : ¬ nI T ≤ nI t := by rw [z_leN (by omega) (by omega)]; omega
  simp only [fX8_start, hC.2.1, z_negN (show t < 2147483648 by omega), if_false, if_neg e1, z_inbN (show t < 16000 by omega) (by decide), if_true, z_cl (show t < 2147483648 by omega), hC.2.2.2 t ht]
theorem z_stop {t : Nat} (hC : z_cX C n T B a b) (hG : z_gX n T B a b) (ht : t < T) : fX8_stop C (nI t) = some (nI (b t)) := by
  have hn := hG.1
  have hT := hG.2.1
  have e1 : ¬ nI T ≤ nI t := by rw [z_leN (by omega) (by omega)]; omega
  simp only [fX8_stop, hC.2.1, z_negN (show t < 2147483648 by omega), if_false, if_neg e1, z_inbN (show t < 16000 by omega) (by decide), if_true, z_cl (show t < 2147483648 by omega), hC.2.2.2 t ht]
theorem z_start0 {t : Nat} (hC : z_cX C n T B a b) (hG : z_gX n T B a b) (h : T ≤ t) (ht : t < 2147483648) : fX8_start C (nI t) = some 0 := by
  have e1 : nI T ≤ nI t := by rw [z_leN (by omega) (by omega)]; omega
  simp only [fX8_start, hC.2.1, z_negN ht, if_false, if_pos e1]
theorem z_stop0 {t : Nat} (hC : z_cX C n T B a b) (hG : z_gX n T B a b) (h : T ≤ t) (ht : t < 2147483648) : fX8_stop C (nI t) = some 0 := by
  have e1 : nI T ≤ nI t := by rw [z_leN (by omega) (by omega)]; omega
  simp only [fX8_stop, hC.2.1, z_negN ht, if_false, if_pos e1]
def k_arr (B : Nat → Int32) (a b : Nat → Nat) (t : Nat) : Bool := decide (a t + 2 < b t) && (decide (B (b t - 2) = 91) && decide (B (b t - 1) = 93))
def k_es (B : Nat → Int32) (a b : Nat → Nat) (t : Nat) : Nat := if k_arr B a b t = true then b t - 2 else b t
def k_es2 (B : Nat → Int32) (a b : Nat → Nat) (t : Nat) : Nat := if a t + 2 ≤ b t ∧ B (b t - 2) = 91 ∧ B (b t - 1) = 93 then b t - 2 else b t
theorem z_sBr : z_S 1000002 [91, 93] := ⟨by decide +kernel, by decide +kernel, by decide⟩
theorem z_sInt : z_S 1000004 [105, 110, 116] := ⟨by decide +kernel, by decide +kernel, by decide⟩
theorem z_two2 (u v : Nat) (m m' : Int32) : z_txt B u v [m, m'] = (decide (v = u + 2) && (decide (B u = m) && decide (B (u + 1) = m'))) := by
  simp only [z_txt, List.length_cons, List.length_nil, Nat.zero_add, z_ff, Nat.add_zero, List.getD_cons_zero, List.getD_cons_succ]
  by_cases q : B u = m <;> by_cases q' : B (u + 1) = m' <;> simp [q, q']
theorem z_three3 (u v : Nat) (m m' m'' : Int32) : z_txt B u v [m, m', m''] = (decide (v = u + 3) && (decide (B u = m) && (decide (B (u + 1) = m') && decide (B (u + 2) = m'')))) := by
  simp only [z_txt, List.length_cons, List.length_nil, Nat.zero_add, z_ff, Nat.add_zero, List.getD_cons_zero, List.getD_cons_succ]
  by_cases q : B u = m <;> by_cases q' : B (u + 1) = m' <;> by_cases q'' : B (u + 2) = m'' <;> simp [q, q', q'']
theorem z_elementStop {t : Nat} (hC : z_cX C n T B a b) (hG : z_gX n T B a b) (ht : t < T) : fX8_elementStop C (nI t) = some (nI (k_es2 B a b t)) := by
  have hn := hG.1
  have hT := hG.2.1
  have g := hG.2.2.2 t ht
  have e2 : (2 : Int32) = nI 2 := rfl
  simp only [fX8_elementStop, z_stop hC hG ht, z_start hC hG ht, Option.bind_some, e2]
  have e3 : (nI (b t) - nI 2 < nI (a t)) = (b t < 2 + a t) := z_sub_lt (by omega) (by omega) (by omega)
  simp only [e3]
  by_cases h : b t < 2 + a t
  · rw [if_pos h, k_es2, if_neg (by omega)]
  · rw [if_neg h, z_subN (by omega), z_isText hC hG z_sBr (by omega) g.2.1]
    simp only [Option.bind_some, z_two2, k_es2]
    rw [show b t - 2 + 1 = b t - 1 by omega, decide_eq_true (show b t = b t - 2 + 2 by omega), Bool.true_and]
    by_cases q : B (b t - 2) = 91 <;> by_cases q' : B (b t - 1) = 93 <;> simp [q, q', show a t + 2 ≤ b t by omega]
def k_typ (T : Nat) (B : Nat → Int32) (a b : Nat → Nat) (t : Nat) : Bool := decide (t < T) && (z_txt B (a t) (k_es B a b t) [105, 110, 116] || z_nam B (a t) (k_es B a b t) 65)
theorem k_es_eq {t : Nat} (h : ¬ (b t = a t + 2 ∧ B (a t) = 91)) : k_es2 B a b t = k_es B a b t := by
  rw [k_es2, k_es]
  by_cases q : a t + 2 < b t
  · simp only [k_arr, decide_eq_true q, Bool.true_and, Bool.and_eq_true, decide_eq_true_eq]
    by_cases q2 : B (b t - 2) = 91 ∧ B (b t - 1) = 93
    · rw [if_pos ⟨by omega, q2⟩, if_pos q2]
    · rw [if_neg (fun x => q2 x.2), if_neg q2]
  · have : k_arr B a b t = false := by rw [k_arr, decide_eq_false q, Bool.false_and]
    rw [this, if_neg (fun x => ?_)]
    · rfl
    · apply h
      have e : b t = a t + 2 := by omega
      exact ⟨e, by have := x.2.1; rw [e] at this; simpa using this⟩
theorem z_type0 (hC : z_cX C n T B a b) (hG : z_gX n T B a b) : ((some (0 : Int32)).bind fun r1 => (some (0 : Int32)).bind fun r3 => (fX8_isText C r1 r3 1000004).bind fun r5 => if r5 = true then some true else (fX8_isNamed C r1 r3 65).bind fun r7 => if r7 = true then some true else some false) = some false := by
  have f1 : z_txt B 0 0 [105, 110, 116] = false := by rw [z_three3]; rfl
  have f2 : z_nam B 0 0 65 = false := by rw [z_nam]; rfl
  have h1 := z_isText (u := 0) (v := 0) hC hG z_sInt (Nat.zero_le _) (Nat.zero_le _)
  have h2 := z_isNamed (u := 0) (v := 0) (f := 65) hC hG (Nat.zero_le _) (Nat.zero_le _)
  rw [f1, nI_0] at h1
  rw [f2, nI_0] at h2
  simp only [Option.bind_some, h1, h2]
  rfl
theorem z_isType {t : Nat} (hC : z_cX C n T B a b) (hG : z_gX n T B a b) (ht : t < 2147483648) : fX8_isType C (nI t) = some (k_typ T B a b t) := by
  have hn := hG.1
  have hT := hG.2.1
  by_cases h : t < T
  · have g := hG.2.2.2 t h
    have l2 : k_es2 B a b t ≤ n := by rw [k_es2]; split <;> omega
    simp only [fX8_isType, z_start hC hG h, z_elementStop hC hG h, Option.bind_some, z_isText hC hG z_sInt (show a t ≤ n by omega) l2, z_isNamed hC hG (show a t ≤ n + 1 by omega) l2, k_typ, decide_eq_true h, Bool.true_and]
    by_cases q : b t = a t + 2 ∧ B (a t) = 91
    · have e1 : k_es B a b t = b t := by
        rw [k_es, k_arr, decide_eq_false (by omega), Bool.false_and]; rfl
      have f1 : z_txt B (a t) (k_es B a b t) [105, 110, 116] = false := by rw [z_three3, decide_eq_false (by omega), Bool.false_and]
      have f2 : z_nam B (a t) (k_es B a b t) 65 = false := by
        have : decide (B (a t) ≤ (65 : Int32) + 25) = false := by rw [q.2]; decide
        simp only [z_nam, this, Bool.false_and, Bool.and_false]
      have l3 : k_es2 B a b t = a t ∨ k_es2 B a b t = b t := by rw [k_es2]; split <;> omega
      have f3 : z_txt B (a t) (k_es2 B a b t) [105, 110, 116] = false := by rw [z_three3, decide_eq_false (by omega), Bool.false_and]
      have f4 : z_nam B (a t) (k_es2 B a b t) 65 = false := by
        have : decide (B (a t) ≤ (65 : Int32) + 25) = false := by rw [q.2]; decide
        simp only [z_nam, this, Bool.false_and, Bool.and_false]
      simp [f1, f2, f3, f4]
    · rw [k_es_eq q]
      cases z_txt B (a t) (k_es B a b t) [105, 110, 116] <;> cases z_nam B (a t) (k_es B a b t) 65 <;> rfl
  · have e1 := z_start0 hC hG (show T ≤ t by omega) ht
    have e2 := z_stop0 hC hG (show T ≤ t by omega) ht
    have e4 : fX8_elementStop C (nI t) = some 0 := by
      simp only [fX8_elementStop, e1, e2, Option.bind_some]
      rw [if_pos (by decide)]
    rw [k_typ, decide_eq_false h, Bool.false_and, fX8_isType, e1, e4]
    exact z_type0 hC hG
theorem z_isArray {t : Nat} (hD : z_dX D n T B a b) (hG : z_gX n T B a b) (ht : t < T) : fX12_isArray D (nI t) = some (k_arr B a b t) := by
  have hn := hG.1
  have hT := hG.2.1
  have g := hG.2.2.2 t ht
  have e2 : (2 : Int32) = nI 2 := rfl
  have e1 : (1 : Int32) = nI 1 := rfl
  have e3 : (nI (b t) - nI (a t) ≤ nI 2) = (b t ≤ a t + 2) := z_sub_le (by omega) (by omega) (by omega)
  simp only [fX12_isArray, z_inbN (show t < 16002 by omega) (by decide), if_true, z_cl (show t < 2147483648 by omega), hD.2.2.2 t ht, e2, e1, e3, k_arr]
  by_cases h : b t ≤ a t + 2
  · rw [if_pos h, decide_eq_false (by omega), Bool.false_and]
  · rw [if_neg h, decide_eq_true (by omega), Bool.true_and]
    simp only [z_subN (show 2 ≤ b t by omega), z_subN (show 1 ≤ b t by omega), z_inbN (show b t - 2 < 16000 by omega) (by decide), z_inbN (show b t - 1 < 16000 by omega) (by decide), if_true, z_cl (show b t - 2 < 2147483648 by omega), z_cl (show b t - 1 < 2147483648 by omega), hD.2.2.1 (b t - 2) (by omega), hD.2.2.1 (b t - 1) (by omega)]
    by_cases q : B (b t - 2) = 91 <;> by_cases q' : B (b t - 1) = 93 <;> simp [q, q']
theorem z_dType {t : Nat} (hD : z_dX D n T B a b) (hG : z_gX n T B a b) (ht : t < 2147483648) : fX12_isType D (nI t) = some (k_typ T B a b t) := by
  have hn := hG.1
  have hT := hG.2.1
  simp only [fX12_isType, hD.2.1, z_ltN ht (show T < 2147483648 by omega)]
  by_cases h : t < T
  · have g := hG.2.2.2 t h
    rw [if_pos h]
    have e1 : (1 : Int32) = nI 1 := rfl
    have e2 : (2 : Int32) = nI 2 := rfl
    have e3 : (3 : Int32) = nI 3 := rfl
    have l2 : k_es B a b t ≤ n := by rw [k_es]; split <;> omega
    have ev : (if k_arr B a b t = true then some (nI (b t) - nI 2) else some (nI (b t))) = some (nI (k_es B a b t)) := by
      rw [k_es]
      by_cases q : k_arr B a b t = true
      · rw [if_pos q, if_pos q, z_subN]
        simp only [k_arr, Bool.and_eq_true, decide_eq_true_eq] at q
        omega
      · rw [if_neg q, if_neg q]
    simp only [z_isArray hD hG h, Option.bind_some, z_inbN (show t < 16002 by omega) (by decide), if_true, z_cl ht, hD.2.2.2 t h, e1, e2, e3, ev]
    have ee : (nI (k_es B a b t) - nI (a t) = nI 3) = (k_es B a b t = a t + 3) := z_sub_eq (by omega) (by omega) (by omega)
    simp only [ee, k_typ, decide_eq_true h, Bool.true_and, z_three3]
    rw [z_dName hD hG (f := 65) (g := 90) (show a t ≤ n + 1 by omega) l2 (by decide)]
    by_cases q : k_es B a b t = a t + 3
    · rw [if_pos q, decide_eq_true q, Bool.true_and, q]
      simp only [z_subN (show 3 ≤ a t + 3 by omega), z_subN (show 2 ≤ a t + 3 by omega), z_subN (show 1 ≤ a t + 3 by omega), Nat.add_sub_cancel, show a t + 3 - 2 = a t + 1 by omega, show a t + 3 - 1 = a t + 2 by omega, z_inbN (show a t < 16000 by omega) (by decide), z_inbN (show a t + 1 < 16000 by omega) (by decide), z_inbN (show a t + 2 < 16000 by omega) (by decide), if_true, z_cl (show a t < 2147483648 by omega), z_cl (show a t + 1 < 2147483648 by omega), z_cl (show a t + 2 < 2147483648 by omega), hD.2.2.1 (a t) (by omega), hD.2.2.1 (a t + 1) (by omega), hD.2.2.1 (a t + 2) (by omega)]
      by_cases q1 : B (a t) = 105 <;> by_cases q2 : B (a t + 1) = 110 <;> by_cases q3 : B (a t + 2) = 116 <;> cases z_nam B (a t) (a t + 3) 65 <;> simp [q1, q2, q3]
    · rw [if_neg q, decide_eq_false q, Bool.false_and]
      cases z_nam B (a t) (k_es B a b t) 65 <;> rfl
  · rw [if_neg h, k_typ, decide_eq_false h, Bool.false_and]
end ZTOK2
