/-! ===== the number of a word in a row of words ===== -/
def z_join : List (List Int32) → List Int32
  | [] => []
  | [w] => w
  | w :: w' :: ws => w ++ 32 :: z_join (w' :: ws)
def z_joinT : List (List Int32) → List Int32
  | [] => []
  | w :: ws => w ++ 32 :: z_joinT ws
def z_wi (B : Nat → Int32) (u v : Nat) : List (List Int32) → Nat → Int32
  | [], _ => -1
  | w :: ws, i => if z_txt B u v w = true then nI i else z_wi B u v ws (i + 1)
def z_nsp (w : List Int32) : Bool := w.all (fun c => !decide (c = 32))
def z_mt (B : Nat → Int32) (v : Nat) : List Int32 → Nat → Bool
  | [], _ => true
  | c :: w, k => decide (k < v) && (decide (B k = c) && z_mt B v w (k + 1))
def z_row (B : Nat → Int32) (u v : Nat) : List Int32 → Nat → Nat → Bool → Int32
  | [], num, k, f => if f = true ∧ k = v then nI num else -1
  | c :: cs, num, k, f => if c = 32 then (if f = true ∧ k = v then nI num else z_row B u v cs (num + 1) u true) else z_row B u v cs num (k + 1) (f && (decide (k < v) && decide (B k = c)))
theorem z_txt_mt {B : Nat → Int32} {u v : Nat} {w : List Int32} : (z_mt B v w u = true ∧ u + w.length = v) ↔ z_txt B u v w = true := by
  have key : ∀ (w : List Int32) (k u' : Nat) (pre : List Int32), pre.length = k → u' = u + k → u' + w.length = v → (z_mt B v w u' = true ↔ z_ff (fun i => if B (u + i) = (pre ++ w).getD i 0 then none else some false) true k w.length = true) := by
    intro w
    induction w with
    | nil => intro k u' pre _ _ _; simp [z_mt, z_ff]
    | cons c w ih =>
      intro k u' pre hp hu hv
      simp only [List.length_cons] at hv
      simp only [z_mt, List.length_cons, z_ff]
      have e : (pre ++ c :: w).getD k 0 = c := by simp [List.getD, ← hp]
      rw [e, ← hu, decide_eq_true (show u' < v by omega), Bool.true_and]
      by_cases q : B u' = c
      · rw [decide_eq_true q, Bool.true_and, if_pos q]
        have := ih (k + 1) (u' + 1) (pre ++ [c]) (by simp [hp]) (by omega) (by omega)
        rw [this]
        simp
      · rw [decide_eq_false q, Bool.false_and, if_neg q]
  rw [z_txt, Bool.and_eq_true, decide_eq_true_eq]
  constructor
  · rintro ⟨h1, h2⟩
    exact ⟨h2.symm, by have := (key w 0 u [] rfl rfl h2).mp h1; simpa using this⟩
  · rintro ⟨h1, h2⟩
    exact ⟨(key w 0 u [] rfl rfl h1.symm).mpr (by simpa using h2), h1.symm⟩
theorem z_row_word {B : Nat → Int32} {u v : Nat} {cs : List Int32} {num : Nat} : ∀ (w : List Int32) (k : Nat) (f : Bool), z_nsp w = true → z_row B u v (w ++ cs) num k f = z_row B u v cs num (k + w.length) (f && z_mt B v w k) := by
  intro w
  induction w with
  | nil => intro k f _; simp [z_mt]
  | cons c w ih =>
    intro k f h
    simp only [z_nsp, List.all_cons, Bool.and_eq_true, Bool.not_eq_true', decide_eq_false_iff_not] at h
    simp only [List.cons_append, z_row, if_neg h.1]
    rw [ih _ _ h.2]
    simp only [List.length_cons, z_mt, Bool.and_assoc]
    rw [show k + 1 + w.length = k + (w.length + 1) by omega]
theorem z_row_join {B : Nat → Int32} {u v : Nat} : ∀ (ws : List (List Int32)) (num : Nat), ws ≠ [] → ws.all z_nsp = true → z_row B u v (z_join ws) num u true = z_wi B u v ws num := by
  intro ws
  induction ws with
  | nil => intro _ h; exact absurd rfl h
  | cons w ws ih =>
    intro num _ h
    simp only [List.all_cons, Bool.and_eq_true] at h
    cases ws with
    | nil =>
      simp only [z_join, z_wi]
      have := z_row_word (B := B) (u := u) (v := v) (cs := []) (num := num) w u true h.1
      rw [List.append_nil] at this
      rw [this]
      simp only [z_row, Bool.true_and]
      by_cases q : z_txt B u v w = true
      · rw [if_pos q, if_pos (z_txt_mt.mpr q)]
      · rw [if_neg q, if_neg (fun x => q (z_txt_mt.mp x))]
    | cons w' ws =>
      rw [show z_join (w :: w' :: ws) = w ++ 32 :: z_join (w' :: ws) from rfl, z_row_word w u true h.1]
      simp only [z_row, if_true, Bool.true_and]
      rw [show z_wi B u v (w :: w' :: ws) num = if z_txt B u v w = true then nI num else z_wi B u v (w' :: ws) (num + 1) from rfl]
      by_cases q : z_txt B u v w = true
      · rw [if_pos q, if_pos (z_txt_mt.mpr q)]
      · rw [if_neg q, if_neg (fun x => q (z_txt_mt.mp x))]
        exact ih (num + 1) (by simp) h.2
section ZWORDS
variable {C D : QS} {n T : Nat} {B : Nat → Int32} {a b : Nat → Nat}
theorem z_numberIn_loop {s u v : Nat} {bs : List Int32} (hC : z_cX C n T B a b) (hG : z_gX n T B a b) (hs : z_S s bs) (hu : u ≤ n) (hv : v ≤ n) : ∀ (cs : List Int32) (pre : List Int32) (num k : Nat) (f : Bool), bs = pre ++ cs → num ≤ pre.length → k ≤ u + pre.length → q_run (tX8_numberIn_28 C s (nI u) (nI v)) (nI num, nI k, q_b f, nI pre.length) = some (z_row B u v cs num k f) := by
  have hn := hG.1
  have hl := hs.2.2
  intro cs
  induction cs with
  | nil =>
    intro pre num k f hb h1 h2
    have hb' : bs.length = pre.length := by rw [hb]; simp
    refine q_run_ret ?_
    simp only [tX8_numberIn_28, z_len hs, Option.bind_some, hb', z_row, z_eqN (show k < 2147483648 by omega) (show v < 2147483648 by omega)]
    rw [if_pos (by rw [z_leN (by omega) (by omega)]; exact Nat.le_refl _)]
    cases f with
    | false => rfl
    | true =>
      rw [if_neg (show ¬ q_b true = 0 by decide)]
      by_cases q : k = v <;> simp [q]
  | cons c cs ih =>
    intro pre num k f hb h1 h2
    have hb' : bs.length = pre.length + (cs.length + 1) := by rw [hb]; simp
    have hb2 : bs = (pre ++ [c]) ++ cs := by rw [hb]; simp
    have hlp : (pre ++ [c]).length = pre.length + 1 := by simp
    have hc : bs.getD pre.length 0 = c := by rw [hb]; simp [List.getD]
    have g1 : ¬ nI bs.length ≤ nI pre.length := by rw [z_leN (by omega) (by omega)]; omega
    have e2 : ¬ nI n < nI v := by rw [z_ltN (by omega) (by omega)]; omega
    have st : ∀ y, tX8_numberIn_28 C s (nI u) (nI v) (nI num, nI k, q_b f, nI pre.length) = y → (∃ z, y = some (.inl z) ∧ z_row B u v (c :: cs) num k f = z) ∨ (∃ num' k' f', y = some (.inr (nI num', nI k', q_b f', nI (pre.length + 1))) ∧ z_row B u v (c :: cs) num k f = z_row B u v cs num' k' f' ∧ num' ≤ pre.length + 1 ∧ k' ≤ u + (pre.length + 1)) := by
      intro y hy
      simp only [tX8_numberIn_28, uX8_numberIn_102, z_len hs, Option.bind_some, if_neg g1, z_chr hs (show pre.length < bs.length by omega), hc, hC.1, if_neg e2, z_negN (show u < 2147483648 by omega), if_false, nI_1, z_eqN (show k < 2147483648 by omega) (show v < 2147483648 by omega), z_leN (show v < 2147483648 by omega) (show k < 2147483648 by omega)] at hy
      by_cases q : c = 32
      · simp only [z_row, if_pos q] at hy ⊢
        cases f with
        | false =>
          rw [if_pos (show q_b false = 0 from rfl)] at hy
          exact .inr ⟨num + 1, u, true, hy.symm, by simp, by omega, by omega⟩
        | true =>
          rw [if_neg (show ¬ q_b true = 0 by decide)] at hy
          by_cases q2 : k = v
          · rw [if_pos q2] at hy
            exact .inl ⟨_, hy.symm, by rw [if_pos ⟨rfl, q2⟩]⟩
          · rw [if_neg q2] at hy
            exact .inr ⟨num + 1, u, true, hy.symm, by rw [if_neg (fun x => q2 x.2)], by omega, by omega⟩
      · simp only [z_row, if_neg q] at hy ⊢
        refine .inr ⟨num, k + 1, f && (decide (k < v) && decide (B k = c)), ?_, rfl, by omega, by omega⟩
        rw [← hy]
        cases f with
        | false => rfl
        | true =>
          rw [if_neg (show ¬ q_b true = 0 by decide)]
          by_cases q2 : k < v
          · rw [if_neg (by omega), if_pos (z_inbN (by omega) (by decide)), z_cl (by omega), hC.2.2.1 k (by omega)]
            by_cases q3 : B k = c <;> simp [q2, q3]
          · rw [if_pos (by omega)]
            simp [q2]
    rcases st _ rfl with ⟨z, h3, h4⟩ | ⟨num', k', f', h3, h4, h5, h6⟩
    · rw [q_run_ret h3, h4]
    · rw [q_run_go h3, h4, ← hlp]
      exact ih (pre ++ [c]) num' k' f' hb2 (by omega) (by omega)
theorem z_numberIn {s u v : Nat} {ws : List (List Int32)} (hC : z_cX C n T B a b) (hG : z_gX n T B a b) (hs : z_S s (z_join ws)) (hw : ws.all z_nsp = true) (h0 : ws ≠ []) (hu : u ≤ n) (hv : v ≤ n) : fX8_numberIn C s (nI u) (nI v) = some (z_wi B u v ws 0) := by
  have hn := hG.1
  have e2 : ¬ nI n < nI v := by rw [z_ltN (by omega) (by omega)]; omega
  simp only [fX8_numberIn, z_negN (show u < 2147483648 by omega), if_false, hC.1, if_neg e2, fX8_numberIn_28]
  rw [← z_row_join ws 0 h0 hw]
  exact z_numberIn_loop hC hG hs hu hv (z_join ws) [] 0 u true rfl (Nat.zero_le _) (Nat.le_refl _)
theorem z_among_57 {s u v k num e : Nat} {bs : List Int32} (hD : z_dX D n T B a b) (hG : z_gX n T B a b) (hs : z_S s bs) (huv : u ≤ v) (hv : v ≤ n) (hk : k + (v - u) ≤ bs.length) (he : e < 1000) : ∀ m j, j + m = v - u → uX12_among_57 D (nI u) (nI v) s (nI num) (nI k) (nI e) 1 (nI j) = some (if z_ff (fun i => if B (u + i) = bs.getD (k + i) 0 then none else some false) true j m = true then .inl (nI num) else .inr (nI (num + 1), nI (e + 1))) := by
  have hn := hG.1
  have hl := hs.2.2
  have n0 : ¬ (1 : Int32) = 0 := by decide
  intro m
  induction m with
  | zero =>
    intro j hj
    refine q_run_ret ?_
    simp only [tX12_among_57, if_neg n0, z_subN huv, z_leN (show v - u < 2147483648 by omega) (show j < 2147483648 by omega)]
    rw [if_pos (by omega)]
    simp [z_ff]
  | succ m ih =>
    intro j hj
    have g1 : ¬ (v - u ≤ j) := by omega
    have st : tX12_among_57 D (nI u) (nI v) s (nI e) (nI num, nI k, 1, nI j) = some (.inr (nI num, nI k, (if B (u + j) = bs.getD (k + j) 0 then 1 else 0), nI (j + 1))) := by
      simp only [tX12_among_57, if_neg n0, z_subN huv, z_leN (show v - u < 2147483648 by omega) (show j < 2147483648 by omega), if_neg g1, nI_add, nI_1, z_inbN (show u + j < 16000 by omega) (by decide), if_true, z_chr hs (show k + j < bs.length by omega), Option.bind_some, z_cl (show u + j < 2147483648 by omega), hD.2.2.1 (u + j) (by omega)]
      by_cases q : B (u + j) = bs.getD (k + j) 0
      · rw [if_pos q, if_pos q]
      · rw [if_neg q, if_neg q]
    rw [uX12_among_57, q_run_go st]
    by_cases q : B (u + j) = bs.getD (k + j) 0
    · have hz : z_ff (fun i => if B (u + i) = bs.getD (k + i) 0 then none else some false) true j (m + 1) = z_ff (fun i => if B (u + i) = bs.getD (k + i) 0 then none else some false) true (j + 1) m := by simp only [z_ff, if_pos q]
      rw [if_pos q, hz]
      exact ih (j + 1) (by omega)
    · have hz : z_ff (fun i => if B (u + i) = bs.getD (k + i) 0 then none else some false) true j (m + 1) = false := by simp only [z_ff, if_neg q]
      rw [if_neg q, hz]
      refine q_run_ret ?_
      simp only [tX12_among_57, if_true, nI_1]
      rfl
theorem z_among_19 {s u v num : Nat} {bs pre w rest : List Int32} (hD : z_dX D n T B a b) (hG : z_gX n T B a b) (hs : z_S s bs) (huv : u ≤ v) (hv : v ≤ n) (hb : bs = pre ++ (w ++ 32 :: rest)) (hw : z_nsp w = true) : ∀ m j, j + m = w.length → uX12_among_19 D (nI u) (nI v) s (nI num) (nI pre.length) (nI (pre.length + j)) = some (if z_txt B u v w = true then .inl (nI num) else .inr (nI (num + 1), nI (pre.length + w.length + 1))) := by
  have hn := hG.1
  have hl := hs.2.2
  have hlen : bs.length = pre.length + w.length + 1 + rest.length := by rw [hb]; simp; omega
  have hch : ∀ j, j < w.length → bs.getD (pre.length + j) 0 = w.getD j 0 := by
    intro j hj
    rw [hb]
    simp [List.getD, List.getElem?_append_right, List.getElem?_append_left, hj]
  have h32 : bs.getD (pre.length + w.length) 0 = 32 := by
    rw [hb]
    simp [List.getD]
  intro m
  induction m with
  | zero =>
    intro j hj
    refine q_run_ret ?_
    have hj : j = w.length := by omega
    subst hj
    simp only [tX12_among_19, z_chr hs (show pre.length + w.length < bs.length by omega), h32, Option.bind_some, if_true]
    have e1 : nI (pre.length + w.length) - nI pre.length = nI w.length := by rw [z_subN (by omega)]; congr 1; omega
    rw [e1, z_subN huv]
    simp only [z_eqN (show w.length < 2147483648 by omega) (show v - u < 2147483648 by omega)]
    by_cases q : w.length = v - u
    · rw [if_pos q]
      have := z_among_57 (k := pre.length) (num := num) (e := pre.length + w.length) hD hG hs huv hv (by omega) (by omega) (v - u) 0 (by omega)
      rw [nI_0] at this
      rw [this]
      simp only [Option.bind_some]
      rw [show z_txt B u v w = z_ff (fun i => if B (u + i) = bs.getD (pre.length + i) 0 then none else some false) true 0 (v - u) from ?_]
      rw [z_txt, decide_eq_true (show v = u + w.length by omega), Bool.true_and, q]
      refine z_ff_congr (fun k _ hk => ?_)
      rw [hch k (by omega)]
    · rw [if_neg q]
      have : z_txt B u v w = false := by rw [z_txt, decide_eq_false (by omega), Bool.false_and]
      rw [this]
      have h57 : uX12_among_57 D (nI u) (nI v) s (nI num) (nI pre.length) (nI (pre.length + w.length)) 0 0 = some (.inr (nI (num + 1), nI (pre.length + w.length + 1))) := by
        refine q_run_ret ?_
        simp only [tX12_among_57, if_true, nI_1]
      rw [h57]
      rfl
  | succ m ih =>
    intro j hj
    have hne : ¬ w.getD j 0 = 32 := by
      simp only [z_nsp, List.all_eq_true, Bool.not_eq_true', decide_eq_false_iff_not] at hw
      apply hw
      simp [List.getD, show j < w.length by omega]
    rw [uX12_among_19, q_run_go (y := nI (pre.length + (j + 1)))]
    · exact ih (j + 1) (by omega)
    · simp only [tX12_among_19, z_chr hs (show pre.length + j < bs.length by omega), hch j (by omega), Option.bind_some, if_neg hne, nI_1]
      rfl
theorem z_among_loop {s u v : Nat} {bs : List Int32} (hD : z_dX D n T B a b) (hG : z_gX n T B a b) (hs : z_S s bs) (huv : u ≤ v) (hv : v ≤ n) : ∀ (ws : List (List Int32)) (pre : List Int32) (num : Nat), bs = pre ++ z_joinT ws → ws.all z_nsp = true → q_run (tX12_among_6 D (nI u) (nI v) s) (nI num, nI pre.length) = some (z_wi B u v ws num) := by
  have hl := hs.2.2
  intro ws
  induction ws with
  | nil =>
    intro pre num hb _
    have hb' : bs.length = pre.length := by rw [hb]; simp [z_joinT]
    refine q_run_ret ?_
    simp only [tX12_among_6, z_len hs, Option.bind_some, hb']
    rw [if_pos (by rw [z_leN (by omega) (by omega)]; exact Nat.le_refl _)]
    rfl
  | cons w ws ih =>
    intro pre num hb hw
    simp only [List.all_cons, Bool.and_eq_true] at hw
    have hb1 : bs = pre ++ (w ++ 32 :: z_joinT ws) := hb
    have hlen : bs.length = pre.length + w.length + 1 + (z_joinT ws).length := by rw [hb1]; simp; omega
    have g1 : ¬ nI bs.length ≤ nI pre.length := by rw [z_leN (by omega) (by omega)]; omega
    have st : tX12_among_6 D (nI u) (nI v) s (nI num, nI pre.length) = some (if z_txt B u v w = true then .inl (nI num) else .inr (nI (num + 1), nI (pre.length + w.length + 1))) := by
      simp only [tX12_among_6, z_len hs, Option.bind_some, if_neg g1]
      exact z_among_19 hD hG hs huv hv hb1 hw.1 w.length 0 (by omega)
    simp only [z_wi]
    by_cases q : z_txt B u v w = true
    · rw [if_pos q] at st ⊢
      exact q_run_ret st
    · rw [if_neg q] at st ⊢
      rw [q_run_go st]
      have := ih (pre ++ w ++ [32]) (num + 1) (by rw [hb1]; simp) hw.2
      have hl2 : (pre ++ w ++ [32]).length = pre.length + w.length + 1 := by simp; omega
      rw [hl2] at this
      exact this
theorem z_among {s u v : Nat} {ws : List (List Int32)} (hD : z_dX D n T B a b) (hG : z_gX n T B a b) (hs : z_S s (32 :: z_joinT ws)) (hw : ws.all z_nsp = true) (huv : u ≤ v) (hv : v ≤ n) : fX12_among D (nI u) (nI v) s = some (z_wi B u v ws 0) := by
  exact z_among_loop hD hG hs huv hv ws [32] 0 rfl hw
end ZWORDS
