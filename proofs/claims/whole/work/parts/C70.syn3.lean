/-! ===== the reference's syntax is that machine too ===== -/
theorem z_txt_get {B : Nat → Int32} {u v : Nat} {w : List Int32} (h : z_txt B u v w = true) : v = u + w.length ∧ ∀ k, k < w.length → B (u + k) = w.getD k 0 := by
  rw [z_txt, Bool.and_eq_true, decide_eq_true_eq] at h
  refine ⟨h.1, fun k hk => ?_⟩
  have h2 := (z_ff_all (fun k _ _ => by split; exact Or.inl rfl; exact Or.inr rfl)).mp h.2 k (Nat.zero_le _) (by omega)
  by_cases q : B (u + k) = w.getD k 0
  · exact q
  · rw [if_neg q] at h2
    cases h2
/-- a word that is a name -/
def z_namL (w : List Int32) (f : Int32) : Bool := decide (0 < w.length) && (decide (w.length ≤ 24) && (decide (f ≤ w.getD 0 0) && (decide (w.getD 0 0 ≤ f + 25) && w.all z_nc)))
theorem z_txt_nam {B : Nat → Int32} {u v : Nat} {w : List Int32} {f : Int32} (h : z_txt B u v w = true) (hw : z_namL w f = true) : z_nam B u v f = true := by
  obtain ⟨h1, h2⟩ := z_txt_get h
  simp only [z_namL, Bool.and_eq_true, decide_eq_true_eq] at hw
  obtain ⟨w1, w2, w3, w4, w5⟩ := hw
  have h0 := h2 0 w1
  rw [Nat.add_zero] at h0
  simp only [z_nam, Bool.and_eq_true, decide_eq_true_eq]
  refine ⟨by omega, by omega, by rw [h0]; exact w3, by rw [h0]; exact w4, ?_⟩
  refine (z_ff_all (fun k _ _ => by split; exact Or.inl rfl; exact Or.inr rfl)).mpr (fun k k1 k2 => ?_)
  have hk := h2 (k - u) (by omega)
  rw [show u + (k - u) = k by omega] at hk
  rw [hk, if_pos]
  apply List.all_eq_true.mp w5
  simp [List.getD, show k - u < w.length by omega]
theorem z_wordsNam : z_words.all (fun w => z_namL w 97) = true := by decide +kernel
theorem e_op_nam {g : ZT} {t k : Nat} (ht : t < g.1) (h : e_op g t = nI k) (hk : k < 2147483648) : e_nam g t 97 = true := by
  rcases z_wi_rng (B := g.2.1) (u := g.2.2.1 t) (v := g.2.2.2 t) z_words 0 with q | ⟨k', h1, h2, h3, w, h4, h5⟩
  · rw [e_op, q] at h
    have := z_m1N hk
    rw [← h] at this
    exact absurd rfl (by rw [this]; exact fun x => x)
  · rw [e_nam, k_nam, decide_eq_true ht, Bool.true_and]
    exact z_txt_nam h5 (List.all_eq_true.mp z_wordsNam w (List.mem_of_getElem? h4))
theorem e_word_nam {g : ZT} {t : Nat} {w : List Int32} {f : Int32} (h : e_word g t w = true) (hw : z_namL w f = true) : e_nam g t f = true := by
  rw [e_word, k_word, Bool.and_eq_true] at h
  rw [e_nam, k_nam, h.1, Bool.true_and]
  exact z_txt_nam h.2 hw
theorem e_okp_T {g : ZT} {t : Nat} {c : Int32} (h : ¬ t < g.1) (hc : c ≠ 80) : e_okp g t c = false := by
  have d : decide (t < g.1) = false := decide_eq_false h
  simp only [e_okp, e_nam, e_word, e_ref, e_num, e_typ, e_mark, k_nam, k_word, k_ref, k_num, k_typ, k_mark, d, Bool.false_and, Bool.or_false, if_neg hc]
  repeat' split
  all_goals rfl
theorem e_R_part {g : ZT} {t l : Nat} {c : Int32} {cs : List Int32} (ht : t ≤ g.1) (hc : c ≠ 80) : e_R g t (l, c :: cs) = if e_okp g t c = true then e_R g (t + 1) (l + (if c = 123 then 1 else 0), cs) else some t := by
  rcases Nat.lt_or_ge t g.1 with h | h
  · rw [e_R_go h]
    simp only [e_step, if_neg (show ¬ (c = 80 ∧ e_mark g t 41 = false) from fun x => hc x.1)]
  · rw [e_R_end (by omega), e_okp_T (by omega) hc, if_neg (by simp)]
    rfl
theorem e_mark_T {g : ZT} {t : Nat} {c : Int32} (h : ¬ t < g.1) : e_mark g t c = false := by
  rw [e_mark, k_mark, decide_eq_false h, Bool.false_and]
theorem e_word_T {g : ZT} {t : Nat} {w : List Int32} (h : ¬ t < g.1) : e_word g t w = false := by
  rw [e_word, k_word, decide_eq_false h, Bool.false_and]
theorem e_typ_T {g : ZT} {t : Nat} (h : ¬ t < g.1) : e_typ g t = false := by
  rw [e_typ, k_typ, decide_eq_false h, Bool.false_and]
theorem e_R_P {g : ZT} {t l : Nat} {cs : List Int32} (ht : t ≤ g.1) : e_R g t (l, 80 :: cs) = if e_mark g t 41 = true then e_R g (t + 1) (l, cs) else if e_typ g t = true then e_R g (t + 1) (l, 80 :: cs) else some t := by
  rcases Nat.lt_or_ge t g.1 with h | h
  · rw [e_R_go h]
    by_cases m : e_mark g t 41 = true
    · have q : ¬ ((80 : Int32) = 80 ∧ e_mark g t 41 = false) := fun x => by rw [m] at x; cases x.2
      have hs : e_step g t (l, 80 :: cs) = (true, 53, l, cs) := by
        unfold e_step
        show (if (80 : Int32) = 80 ∧ e_mark g t 41 = false then _ else _) = _
        rw [if_neg q]
        rfl
      rw [hs, if_pos m, if_pos rfl]
    · have q : ((80 : Int32) = 80 ∧ e_mark g t 41 = false) := ⟨rfl, Bool.eq_false_iff.mpr m⟩
      have hs : e_step g t (l, 80 :: cs) = (e_typ g t, 53, l, 80 :: cs) := by
        unfold e_step
        show (if (80 : Int32) = 80 ∧ e_mark g t 41 = false then _ else _) = _
        rw [if_pos q]
      rw [hs, if_neg m]
  · rw [e_R_end (by omega), e_mark_T (by omega), e_typ_T (by omega), if_neg (by simp)]
    rfl
theorem e_mark_word {n : Nat} {g : ZT} {t : Nat} {m : Int32} (hG : z_G n g) (hm : z_mk m = true) : e_word g t [m] = e_mark g t m := (k_mark_word hG hm).symm
def z_A (D : QS) (t : Nat) : QS := q_sI D 102 11 (nI t)
theorem z_sIsI (D : QS) (o j : Nat) (x y : Int32) : q_sI (q_sI D o j x) o j y = q_sI D o j y := by
  refine Prod.ext rfl (Prod.ext (funext fun a => funext fun b => ?_) rfl)
  rw [q_sI_I, q_sI_I, q_sI_I]
  split <;> rfl
theorem z_sI_self (D : QS) (o j : Nat) : q_sI D o j (D.2.1 o j) = D := by
  refine Prod.ext rfl (Prod.ext (funext fun a => funext fun b => ?_) rfl)
  rw [q_sI_I]
  split
  · next h => rw [h.1, h.2]
  · rfl
section ZSYN4
variable {D : QS} {n : Nat} {g : ZT}
theorem z_A_at (t : Nat) : (z_A D t).2.1 102 11 = nI t := by rw [z_A, q_sI_I, if_pos ⟨rfl, rfl⟩]
theorem z_A_D (hD : z_D D n g) (t : Nat) : z_D (z_A D t) n g := hD.sI (by decide)
theorem z_A_A (t t' : Nat) : q_sI (z_A D t) 102 11 (nI t') = z_A D t' := z_sIsI _ _ _ _ _
theorem z_takes (t : Nat) (b : Bool) : fX12_takes (z_A D t) b = some (b, z_A D (if b = true then t + 1 else t)) := by
  cases b with
  | false => rfl
  | true =>
    simp only [fX12_takes, if_true, z_A_at, nI_1, z_A_A, Option.bind_some]
def z_opL : List Int32 := [78, 45, 75, 75, 73, 45, 45, 45, 45, 45, 45, 45, 45, 45, 45, 45, 45, 45, 45, 76, 76, 76, 76, 76, 76, 76, 76, 76, 76, 76, 67, 69, 45, 45, 45, 70, 70, 84, 84, 70, 70, 45, 45, 45, 45, 45]
theorem z_sOpL : z_S 1000084 z_opL := ⟨by decide +kernel, by decide +kernel, by decide⟩
theorem z_sWords : z_S 1000082 (32 :: z_joinT z_words) := ⟨by decide +kernel, by decide +kernel, by decide +kernel⟩
theorem z_sCatch2 : z_S 1000080 w_catch := ⟨by decide +kernel, by decide +kernel, by decide⟩
theorem z_sColon : z_S 1000078 [58] := ⟨by decide +kernel, by decide +kernel, by decide⟩
theorem z_sInt2 : z_S 1000086 w_int := ⟨by decide +kernel, by decide +kernel, by decide⟩
theorem z_sClass2 : z_S 1000058 w_class := ⟨by decide +kernel, by decide +kernel, by decide⟩
theorem z_sOf2 : z_S 1000060 w_of := ⟨by decide +kernel, by decide +kernel, by decide⟩
theorem z_sOpen : z_S 1000062 [123] := ⟨by decide +kernel, by decide +kernel, by decide⟩
theorem z_sClose : z_S 1000064 [125] := ⟨by decide +kernel, by decide +kernel, by decide⟩
theorem z_sField2 : z_S 1000066 w_field := ⟨by decide +kernel, by decide +kernel, by decide⟩
theorem z_sStatic2 : z_S 1000068 w_static := ⟨by decide +kernel, by decide +kernel, by decide⟩
theorem z_sMethod2 : z_S 1000070 w_method := ⟨by decide +kernel, by decide +kernel, by decide⟩
theorem z_sPar : z_S 1000072 [40] := ⟨by decide +kernel, by decide +kernel, by decide⟩
theorem z_sEnd : z_S 1000074 [41] := ⟨by decide +kernel, by decide +kernel, by decide⟩
theorem z_sNone2 : z_S 1000076 w_none := ⟨by decide +kernel, by decide +kernel, by decide⟩
theorem z_opL_is : ∀ k : Fin 46, (z_opL.getD k 0 = 67 ∧ e_ops (nI k) = [67]) ∨ (z_opL.getD k 0 = 69 ∧ e_ops (nI k) = [69]) ∨ (z_opL.getD k 0 = 70 ∧ e_ops (nI k) = [70]) ∨ (z_opL.getD k 0 = 73 ∧ e_ops (nI k) = [78, 78]) ∨ ((z_opL.getD k 0 = 75 ∨ z_opL.getD k 0 = 78) ∧ e_ops (nI k) = [78]) ∨ (z_opL.getD k 0 = 76 ∧ e_ops (nI k) = [110]) ∨ (z_opL.getD k 0 = 84 ∧ e_ops (nI k) = [89]) ∨ (z_opL.getD k 0 = 45 ∧ e_ops (nI k) = []) := by decide +kernel
/-- of an answer of the reference's syntax: on it goes, or here is the fault -/
def z_ans (g : ZT) (t : Nat) (s s' : Nat × List Int32) (b : Bool) (t' : Nat) : Prop := t' ≤ g.1 ∧ ((b = true ∧ t < t' ∧ e_R g t s = e_R g t' s') ∨ (b = false ∧ e_R g t s = some t'))
end ZSYN4
