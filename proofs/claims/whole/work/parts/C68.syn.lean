/-! ===== the class's syntax is that machine ===== -/
theorem z_byte {k : Int32} (h1 : -128 ≤ k.toInt) (h2 : k.toInt ≤ 127) : vp_nar .byte k.toInt8.toInt32 = k := by
  rw [pk_vb]
  apply Int32.toInt_inj.mp
  rw [Int8.toInt_toInt32, Int32.toInt_toInt8, Int.bmod_eq_of_le (by omega) (by omega)]
theorem z_sR_R (S : QS) (o j r o' j' : Nat) : (q_sR S o j r).2.2.2 o' j' = if o' = o ∧ j' = j then r else S.2.2.2 o' j' := by
  by_cases h : o' = o
  · subst h
    by_cases h2 : j' = j
    · subst h2; simp [q_sR, va_up]
    · simp [q_sR, va_up, h2]
  · simp [q_sR, h]
theorem z_sR_I (S : QS) (o j r : Nat) : (q_sR S o j r).2.1 = S.2.1 := rfl
theorem z_sI_R (S : QS) (o j : Nat) (v : Int32) : (q_sI S o j v).2.2.2 = S.2.2.2 := rfl
/-- the syntax stands in a state -/
def z_sy (C : QS) (n : Nat) (g : ZT) (s : Nat × List Int32) : Prop := z_C C n g ∧ C.2.1 77 3 = nI s.1 ∧ s.1 ≤ 2 ∧ ∃ d bs, C.2.1 77 2 = nI d ∧ z_S (C.2.2.2 77 1) bs ∧ bs.drop d = s.2 ∧ d ≤ bs.length
section ZSYN2
variable {C : QS} {n : Nat} {g : ZT}
theorem z_expect {t s : Nat} {k : Int32} (ht : t < 16000) (h1 : -128 ≤ k.toInt) (h2 : k.toInt ≤ 127) : fX7_expect C (nI t) k s = some (q_sI (q_sR (q_sI C 6 t k) 77 1 s) 77 2 0) := by
  simp only [fX7_expect, z_inbN ht (by decide), if_true, z_cl (show t < 2147483648 by omega), Option.bind_some, z_byte h1 h2]
/-- what expect leaves -/
theorem z_sy_expect {t l s : Nat} {k : Int32} {bs : List Int32} (hC : z_C C n g) (hl : C.2.1 77 3 = nI l) (hl2 : l ≤ 2) (hs : z_S s bs) : z_sy (q_sI (q_sR (q_sI C 6 t k) 77 1 s) 77 2 0) n g (l, bs) := by
  refine ⟨((hC.sI (by decide)).sR).sI (by decide), ?_, hl2, 0, bs, ?_, ?_, rfl, Nat.zero_le _⟩
  · rw [q_sI_I, if_neg (by decide), z_sR_I, q_sI_I, if_neg (by omega)]; exact hl
  · rw [q_sI_I, if_pos ⟨rfl, rfl⟩]; rfl
  · rw [z_sI_R, z_sR_R, if_pos ⟨rfl, rfl⟩]; exact hs
theorem z_k_expect {t s : Nat} {k : Int32} : (q_sI (q_sR (q_sI C 6 t k) 77 1 s) 77 2 0).2.1 6 t = k ∧ ∀ i, i ≠ t → (q_sI (q_sR (q_sI C 6 t k) 77 1 s) 77 2 0).2.1 6 i = C.2.1 6 i := by
  refine ⟨?_, fun i hi => ?_⟩
  · rw [q_sI_I, if_neg (by omega), z_sR_I, q_sI_I, if_pos ⟨rfl, rfl⟩]
  · rw [q_sI_I, if_neg (by omega), z_sR_I, q_sI_I, if_neg (by omega)]
/-- an instruction's number -/
theorem z_wi_rng {B : Nat → Int32} {u v : Nat} : ∀ (ws : List (List Int32)) (i : Nat), z_wi B u v ws i = -1 ∨ ∃ k, i ≤ k ∧ k < i + ws.length ∧ z_wi B u v ws i = nI k ∧ ∃ w, ws[k - i]? = some w ∧ z_txt B u v w = true := by
  intro ws
  induction ws with
  | nil => intro i; exact .inl rfl
  | cons w ws ih =>
    intro i
    simp only [z_wi]
    by_cases q : z_txt B u v w = true
    · rw [if_pos q]
      exact .inr ⟨i, Nat.le_refl _, by simp, rfl, w, by simp, q⟩
    · rw [if_neg q]
      rcases ih (i + 1) with h | ⟨k, h1, h2, h3, w', h4, h5⟩
      · exact .inl h
      · refine .inr ⟨k, by omega, by simp only [List.length_cons]; omega, h3, w', ?_, h5⟩
        rw [show k - i = (k - (i + 1)) + 1 by omega]
        simpa using h4
theorem e_op_rng (g : ZT) (t : Nat) : e_op g t = -1 ∨ ∃ k, k < 46 ∧ e_op g t = nI k := by
  rcases z_wi_rng (B := g.2.1) (u := g.2.2.1 t) (v := g.2.2.2 t) z_words 0 with h | ⟨k, h1, h2, h3, -⟩
  · exact .inl h
  · have hw : z_words.length = 46 := by decide +kernel
    exact .inr ⟨k, by omega, h3⟩
def z_opS (x0 : Int32) : Nat :=
  if x0 = 0 ∨ x0 = 2 ∨ x0 = 3 then 1000034
  else if x0 = 4 then 1000036
  else if x0 = 30 then 1000038
  else if x0 = 31 then 1000040
  else if x0 = 35 ∨ x0 = 36 ∨ x0 = 39 ∨ x0 = 40 then 1000042
  else if x0 = 37 ∨ x0 = 38 then 1000044
  else if x0 < 19 then 1000000
  else if 29 < x0 then 1000000 else 1000046
theorem z_operands (x0 : Int32) : fX7_operandsOf C x0 = some (z_opS x0) ∧ z_S (z_opS x0) (e_ops x0) := by
  unfold fX7_operandsOf z_opS e_ops
  by_cases c1 : x0 = 0 ∨ x0 = 2 ∨ x0 = 3
  · simp only [if_pos c1]; exact ⟨trivial, z_sP34⟩
  simp only [if_neg c1]
  by_cases c2 : x0 = 4
  · simp only [if_pos c2]; exact ⟨trivial, z_sP36⟩
  simp only [if_neg c2]
  by_cases c3 : x0 = 30
  · simp only [if_pos c3]; exact ⟨trivial, z_sP38⟩
  simp only [if_neg c3]
  by_cases c4 : x0 = 31
  · simp only [if_pos c4]; exact ⟨trivial, z_sP40⟩
  simp only [if_neg c4]
  by_cases c5 : x0 = 35 ∨ x0 = 36 ∨ x0 = 39 ∨ x0 = 40
  · simp only [if_pos c5]; exact ⟨trivial, z_sP42⟩
  simp only [if_neg c5]
  by_cases c6 : x0 = 37 ∨ x0 = 38
  · simp only [if_pos c6]; exact ⟨trivial, z_sP44⟩
  simp only [if_neg c6]
  by_cases c7 : x0 < 19
  · simp only [if_pos c7]; exact ⟨trivial, z_sP0⟩
  simp only [if_neg c7]
  by_cases c8 : 29 < x0
  · simp only [if_pos c8]; exact ⟨trivial, z_sP0⟩
  simp only [if_neg c8]; exact ⟨trivial, z_sP46⟩
theorem z_beginsLine {t l : Nat} (hC : z_C C n g) (hG : z_G n g) (ht : t < g.1) (hl : C.2.1 77 3 = nI l) (hl2 : l ≤ 2) : ∃ C', fX7_beginsLine C (nI t) = some ((e_line g t).1, C') ∧ z_sy C' n g (l, (e_line g t).2.2) ∧ C'.2.1 6 t = (e_line g t).2.1 ∧ ∀ i, i ≠ t → C'.2.1 6 i = C.2.1 6 i := by
  have hn := hG.1
  have hT := hG.2.1
  have gt := hG.2.2.2 t ht
  have ht31 : t < 2147483648 := by omega
  have hname := z_isName hC hG ht31
  have hop : (if k_nam g.1 g.2.1 g.2.2.1 g.2.2.2 t 97 = true then (fX8_start C (nI t)).bind fun r3 => (fX8_stop C (nI t)).bind fun r5 => (fX8_numberIn C 1000026 r3 r5).bind fun r7 => some r7 else some (-1 : Int32)) = some (if k_nam g.1 g.2.1 g.2.2.1 g.2.2.2 t 97 = true then e_op g t else -1) := by
    by_cases q : k_nam g.1 g.2.1 g.2.2.1 g.2.2.2 t 97 = true
    · rw [if_pos q, if_pos q]
      simp only [z_start hC hG ht, z_stop hC hG ht, Option.bind_some, z_numberIn hC hG z_sIns z_wordsOk (by decide) (show g.2.2.1 t ≤ n by omega) (show g.2.2.2 t ≤ n by omega), e_op]
    · rw [if_neg q, if_neg q]
  simp only [fX7_beginsLine, hname, Option.bind_some, hop, z_isWord hC hG z_sCatch ht31, nI_1, z_isMark hC hG (show t + 1 < 2147483648 by omega), e_line, e_mark, e_nam, e_word]
  by_cases m : k_mark g.1 g.2.1 g.2.2.1 (t + 1) 58 = true
  · simp only [m, if_true, z_expect (show t < 16000 by omega) (show -128 ≤ (47 : Int32).toInt by decide) (by decide), Option.bind_some]
    exact ⟨_, rfl, z_sy_expect hC hl hl2 z_sP30, z_k_expect.1, z_k_expect.2⟩
  have m' := Bool.eq_false_iff.mpr m
  simp only [m', Bool.false_eq_true, if_false]
  by_cases c : k_word g.1 g.2.1 g.2.2.1 g.2.2.2 t w_catch = true
  · simp only [c, if_true, z_expect (show t < 16000 by omega) (show -128 ≤ (46 : Int32).toInt by decide) (by decide), Option.bind_some]
    refine ⟨_, ?_, z_sy_expect hC hl hl2 z_sP32, z_k_expect.1, z_k_expect.2⟩
    split <;> split <;> rfl
  have c' := Bool.eq_false_iff.mpr c
  simp only [c', Bool.false_eq_true, if_false]
  by_cases q : k_nam g.1 g.2.1 g.2.2.1 g.2.2.2 t 97 = true
  · simp only [q, if_true, true_and]
    rcases e_op_rng g t with h | ⟨k, hk, h⟩
    · simp only [h, if_true, z_expect (show t < 16000 by omega) (show -128 ≤ (47 : Int32).toInt by decide) (by decide), Option.bind_some, ne_eq, not_true_eq_false, if_false]
      exact ⟨_, rfl, z_sy_expect hC hl hl2 z_sP30, z_k_expect.1, z_k_expect.2⟩
    · obtain ⟨hs1, hs2⟩ := z_operands (C := C) (nI k)
      have hne : ¬ nI k = -1 := by rw [z_m1N (by omega)]; exact fun x => x
      have r1 : -128 ≤ (nI k).toInt := by rw [nI_toInt (by omega)]; omega
      have r2 : (nI k).toInt ≤ 127 := by rw [nI_toInt (by omega)]; omega
      simp only [h, if_neg hne, hs1, Option.bind_some, z_expect (show t < 16000 by omega) r1 r2, ne_eq, hne, not_false_eq_true, if_true]
      exact ⟨_, rfl, z_sy_expect hC hl hl2 hs2, z_k_expect.1, z_k_expect.2⟩
  · have q' := Bool.eq_false_iff.mpr q
    simp only [q', Bool.false_eq_true, if_true, z_expect (show t < 16000 by omega) (show -128 ≤ (47 : Int32).toInt by decide) (by decide), Option.bind_some, false_and, if_false]
    exact ⟨_, rfl, z_sy_expect hC hl hl2 z_sP30, z_k_expect.1, z_k_expect.2⟩
theorem z_beginsMember {t l : Nat} (hC : z_C C n g) (hG : z_G n g) (ht : t < g.1) (hl : C.2.1 77 3 = nI l) (hl2 : l ≤ 2) : ∃ C', fX7_beginsMember C (nI t) = some ((e_mem g t).1, C') ∧ z_sy C' n g (l, (e_mem g t).2.2) ∧ C'.2.1 6 t = (e_mem g t).2.1 ∧ ∀ i, i ≠ t → C'.2.1 6 i = C.2.1 6 i := by
  have hn := hG.1
  have hT := hG.2.1
  have ht31 : t < 2147483648 := by omega
  simp only [fX7_beginsMember, z_isWord hC hG z_sField ht31, z_isWord hC hG z_sStatic ht31, Option.bind_some, e_mem, e_word]
  by_cases f : k_word g.1 g.2.1 g.2.2.1 g.2.2.2 t w_field = true
  · simp only [f, if_true, z_expect (show t < 16000 by omega) (show -128 ≤ (49 : Int32).toInt by decide) (by decide), Option.bind_some]
    exact ⟨_, rfl, z_sy_expect hC hl hl2 z_sP18, z_k_expect.1, z_k_expect.2⟩
  have f' := Bool.eq_false_iff.mpr f
  simp only [f', Bool.false_eq_true, if_false]
  by_cases s : k_word g.1 g.2.1 g.2.2.1 g.2.2.2 t w_static = true
  · simp only [s, if_true, z_expect (show t < 16000 by omega) (show -128 ≤ (50 : Int32).toInt by decide) (by decide), Option.bind_some]
    exact ⟨_, rfl, z_sy_expect hC hl hl2 z_sP22, z_k_expect.1, z_k_expect.2⟩
  have s' := Bool.eq_false_iff.mpr s
  simp only [s', Bool.false_eq_true, if_false, z_expect (show t < 16000 by omega) (show -128 ≤ (51 : Int32).toInt by decide) (by decide), Option.bind_some]
  have sy := z_sy_expect (t := t) (k := 51) hC hl hl2 z_sP22
  refine ⟨_, ?_, sy, z_k_expect.1, z_k_expect.2⟩
  rw [z_isWord sy.1 hG z_sMethod ht31]
  simp only [Option.bind_some]
  cases k_word g.1 g.2.1 g.2.2.1 g.2.2.2 t w_method <;> rfl
theorem z_beginsClass {t l : Nat} (hC : z_C C n g) (hG : z_G n g) (ht : t < g.1) (hl : C.2.1 77 3 = nI l) (hl2 : l ≤ 2) : ∃ C', fX7_beginsClass C (nI t) = some (e_word g t w_class, C') ∧ z_sy C' n g (l, [67, 111, 67, 123]) ∧ C'.2.1 6 t = 48 ∧ ∀ i, i ≠ t → C'.2.1 6 i = C.2.1 6 i := by
  have hn := hG.1
  have hT := hG.2.1
  have ht31 : t < 2147483648 := by omega
  simp only [fX7_beginsClass, z_expect (show t < 16000 by omega) (show -128 ≤ (48 : Int32).toInt by decide) (by decide), Option.bind_some, e_word]
  have sy := z_sy_expect (t := t) (k := 48) hC hl hl2 z_sP12
  refine ⟨_, ?_, sy, z_k_expect.1, z_k_expect.2⟩
  rw [z_isWord sy.1 hG z_sClass ht31]
  rfl
theorem z_begins {t l : Nat} (hC : z_sy C n g (l, [])) (hG : z_G n g) (ht : t < g.1) : ∃ C', fX7_begins C (nI t) = some ((e_step g t (l, [])).1, C') ∧ z_sy C' n g (e_step g t (l, [])).2.2 ∧ C'.2.1 6 t = (e_step g t (l, [])).2.1 ∧ ∀ i, i ≠ t → C'.2.1 6 i = C.2.1 6 i := by
  have hn := hG.1
  have hT := hG.2.1
  have ht31 : t < 2147483648 := by omega
  obtain ⟨hC0, hl, hl2, d, bs, hd, hS, hdr, hdl⟩ := id hC
  simp only at hl hl2 hdr
  have h57 : ¬ (0 < l ∧ e_mark g t 125 = true) → ∃ C', fX7_begins_57 C (nI t) = some ((e_step g t (l, [])).1, C') ∧ z_sy C' n g (e_step g t (l, [])).2.2 ∧ C'.2.1 6 t = (e_step g t (l, [])).2.1 ∧ ∀ i, i ≠ t → C'.2.1 6 i = C.2.1 6 i := by
    intro nb
    simp only [fX7_begins_57, hl, e_step, if_neg nb]
    have c0 : (nI l = 0) = (l = 0) := z_eqN (b := 0) (by omega) (by omega)
    have c1 : (nI l = 1) = (l = 1) := z_eqN (b := 1) (by omega) (by omega)
    simp only [c0, c1]
    by_cases l0 : l = 0
    · simp only [if_pos l0]
      obtain ⟨C', h1, h2, h3, h4⟩ := z_beginsClass hC0 hG ht hl hl2
      rw [h1]
      exact ⟨C', rfl, by rw [l0] at h2; exact h2, h3, h4⟩
    simp only [if_neg l0]
    by_cases l1 : l = 1
    · simp only [if_pos l1]
      obtain ⟨C', h1, h2, h3, h4⟩ := z_beginsMember hC0 hG ht hl hl2
      rw [h1]
      exact ⟨C', rfl, by rw [l1] at h2; exact h2, h3, h4⟩
    simp only [if_neg l1]
    obtain ⟨C', h1, h2, h3, h4⟩ := z_beginsLine hC0 hG ht hl hl2
    rw [h1]
    exact ⟨C', rfl, h2, h3, h4⟩
  have cle : (nI l ≤ 0) = (l ≤ 0) := z_leN (b := 0) (by omega) (by omega)
  simp only [fX7_begins, hl, cle]
  by_cases l0 : l ≤ 0
  · rw [if_pos l0]
    exact h57 (by omega)
  · rw [if_neg l0]
    simp only [z_isMark hC0 hG ht31, Option.bind_some]
    by_cases m : k_mark g.1 g.2.1 g.2.2.1 t 125 = true
    · have hs1 : nI l - 1 = nI (l - 1) := z_sub1 (by omega)
      have hb : 0 < l ∧ e_mark g t 125 = true := ⟨by omega, m⟩
      have e1 : (q_sI C 77 3 (nI (l - 1))).2.1 77 3 = nI (l - 1) := by rw [q_sI_I, if_pos ⟨rfl, rfl⟩]
      have c1 : (nI (l - 1) = 1) = (l - 1 = 1) := z_eqN (b := 1) (by omega) (by omega)
      simp only [m, if_true, hs1, e1, c1, e_step, if_pos hb]
      have hk : ∀ kk : Int32, -128 ≤ kk.toInt → kk.toInt ≤ 127 → ∃ C', (if q_inb (nI t) 16000 = true then (some (q_sI (q_sI C 77 3 (nI (l - 1))) 6 (nI t).toNatClampNeg (vp_nar .byte kk.toInt8.toInt32))).bind fun S19 => some (true, S19) else none) = some (true, C') ∧ z_sy C' n g (l - 1, []) ∧ C'.2.1 6 t = kk ∧ ∀ i, i ≠ t → C'.2.1 6 i = C.2.1 6 i := by
        intro kk k1 k2
        rw [if_pos (z_inbN (by omega) (by decide)), z_cl ht31, z_byte k1 k2]
        refine ⟨_, rfl, ⟨(hC0.sI (by decide)).sI (by decide), ?_, by show l - 1 ≤ 2; omega, d, bs, ?_, hS, hdr, hdl⟩, ?_, fun i hi => ?_⟩
        · rw [q_sI_I, if_neg (by omega)]; exact e1
        · rw [q_sI_I, if_neg (by omega), q_sI_I, if_neg (by omega)]; exact hd
        · rw [q_sI_I, if_pos ⟨rfl, rfl⟩]
        · rw [q_sI_I, if_neg (by omega), q_sI_I, if_neg (by omega)]
      by_cases l2 : l = 2
      · have c2 : l - 1 = 1 := by omega
        simp only [if_pos c2, if_pos l2, Option.bind_some]
        exact hk 52 (by decide) (by decide)
      · have c2 : ¬ l - 1 = 1 := by omega
        simp only [if_neg c2, if_neg l2, Option.bind_some]
        exact hk 53 (by decide) (by decide)
    · rw [if_neg m]
      exact h57 (fun x => m x.2)
end ZSYN2
