/-! ===== the syntax of both sides ===== -/
def e_R (g : ZT) (t : Nat) (s : Nat × List Int32) : Option Nat := e_run g (g.1 - t) t s
theorem e_R_go {g : ZT} {t : Nat} {s : Nat × List Int32} (ht : t < g.1) : e_R g t s = if (e_step g t s).1 = true then e_R g (t + 1) (e_step g t s).2.2 else some t := by
  rw [e_R, show g.1 - t = (g.1 - (t + 1)) + 1 by omega]
  rfl
theorem e_R_end {g : ZT} {t : Nat} {s : Nat × List Int32} (ht : t = g.1) : e_R g t s = if s.1 = 0 ∧ s.2 = [] then none else some t := by
  rw [e_R, show g.1 - t = 0 by omega]
  rfl
theorem e_ops_123 (op : Int32) : (e_ops op).count 123 = 0 := by
  unfold e_ops
  by_cases c1 : op = 0 ∨ op = 2 ∨ op = 3
  · simp only [if_pos c1]; decide
  simp only [if_neg c1]
  by_cases c2 : op = 4
  · simp only [if_pos c2]; decide
  simp only [if_neg c2]
  by_cases c3 : op = 30
  · simp only [if_pos c3]; decide
  simp only [if_neg c3]
  by_cases c4 : op = 31
  · simp only [if_pos c4]; decide
  simp only [if_neg c4]
  by_cases c5 : op = 35 ∨ op = 36 ∨ op = 39 ∨ op = 40
  · simp only [if_pos c5]; decide
  simp only [if_neg c5]
  by_cases c6 : op = 37 ∨ op = 38
  · simp only [if_pos c6]; decide
  simp only [if_neg c6]
  by_cases c7 : op < 19
  · simp only [if_pos c7]; decide
  simp only [if_neg c7]
  by_cases c8 : 29 < op
  · simp only [if_pos c8]; decide
  simp only [if_neg c8]; decide
theorem e_line_123 (g : ZT) (t : Nat) : (e_line g t).2.2.count 123 = 0 := by
  simp only [e_line]
  split
  · exact (by decide : List.count (123 : Int32) [58] = 0)
  · split
    · exact (by decide : List.count (123 : Int32) [110, 110, 110, 67] = 0)
    · split
      · exact e_ops_123 _
      · exact (by decide : List.count (123 : Int32) [58] = 0)
theorem e_mem_123 (g : ZT) (t : Nat) : (e_mem g t).2.2.count 123 ≤ 1 := by
  simp only [e_mem]
  split
  · exact (by decide : List.count (123 : Int32) [110, 84] ≤ 1)
  · split <;> exact (by decide : List.count (123 : Int32) [110, 40, 80, 82, 78, 123] ≤ 1)
/-- how many stand open, and will be opened by what must follow -/
theorem e_step_lv (g : ZT) (t : Nat) (s : Nat × List Int32) (h : s.1 + s.2.count 123 ≤ 2) : (e_step g t s).2.2.1 + (e_step g t s).2.2.2.count 123 ≤ 2 := by
  obtain ⟨l, rs⟩ := s
  cases rs with
  | cons c cs =>
    simp only [e_step]
    simp only at h
    split
    · exact h
    · by_cases q : c = 123
      · subst q
        simp only [if_true, List.count_cons_self] at h ⊢
        omega
      · simp only [if_neg q, Nat.add_zero]
        rw [List.count_cons_of_ne q] at h
        exact h
  | nil =>
    simp only [e_step]
    simp only [List.count_nil, Nat.add_zero] at h
    split
    · simp only [List.count_nil]; omega
    · split
      · simp only
        decide
      · split
        · have := e_mem_123 g t
          simp only
          omega
        · rw [e_line_123]
          simp only
          omega
theorem e_st_lv (g : ZT) : ∀ t, (e_st g t).1 + (e_st g t).2.count 123 ≤ 2
  | 0 => (by decide : 0 + List.count (123 : Int32) [] ≤ 2)
  | t + 1 => e_step_lv g t _ (e_st_lv g t)
section ZSYN3
variable {C : QS} {n : Nat} {g : ZT}
theorem z_syn_loop (hG : z_G n g) : ∀ m t C, t + m = g.1 → z_sy C n g (e_st g t) → (∀ i, i < t → C.2.1 6 i = e_kind g i) → ∃ r, q_run tX7_firstFault_18 (nI t, C) = some r ∧ z_C r.2 n g ∧ ((∃ f, f ≤ g.1 ∧ r.1 = nI f ∧ e_R g t (e_st g t) = some f) ∨ (r.1 = -1 ∧ e_R g t (e_st g t) = none ∧ (∀ i, i < g.1 → r.2.2.1 6 i = e_kind g i) ∧ ∀ i, t ≤ i → i < g.1 → (e_step g i (e_st g i)).1 = true)) := by
  have hn := hG.1
  have hT := hG.2.1
  intro m
  induction m with
  | zero =>
    intro t C ht hS hK
    obtain ⟨hC, hl, hl2, d, bs, hd, hs, hdr, hdl⟩ := id hS
    have hbs := hs.2.2
    have e0 : t = g.1 := by omega
    rw [e_R_end e0]
    have c0 : (nI (e_st g t).1 = 0) = ((e_st g t).1 = 0) := z_eqN (b := 0) (by omega) (by omega)
    have cd : (nI d = nI bs.length) = (d = bs.length) := z_eqN (by omega) (by omega)
    have hr : ((e_st g t).2 = []) = (d = bs.length) := by
      rw [← hdr, List.drop_eq_nil_iff]
      exact propext ⟨fun x => by omega, fun x => by omega⟩
    refine ⟨(if (e_st g t).1 = 0 ∧ d = bs.length then -1 else nI g.1, C), q_run_ret ?_, hC, ?_⟩
    · have hle : nI g.1 ≤ nI t := by rw [e0]; exact nI_le (Nat.le_refl _) (by omega)
      simp only [tX7_firstFault_18, hC.2.1, if_pos hle, hl, c0, z_len hs, hd, Option.bind_some, cd]
      by_cases q : (e_st g t).1 = 0
      · by_cases q2 : d = bs.length <;> simp [q, q2]
      · simp [q]
    · by_cases q : (e_st g t).1 = 0 ∧ d = bs.length
      · rw [if_pos q, if_pos (show (e_st g t).1 = 0 ∧ (e_st g t).2 = [] by rw [hr]; exact q)]
        exact .inr ⟨rfl, rfl, fun i hi => hK i (by omega), fun i i1 i2 => by omega⟩
      · rw [if_neg q, if_neg (show ¬ ((e_st g t).1 = 0 ∧ (e_st g t).2 = []) by rw [hr]; exact q)]
        exact .inl ⟨g.1, Nat.le_refl _, rfl, by rw [e0]⟩
  | succ m ih =>
    intro t C ht hS hK
    obtain ⟨hC, hl, hl2, d, bs, hd, hs, hdr, hdl⟩ := id hS
    have hbs := hs.2.2
    have htT : t < g.1 := by omega
    have hgt : ¬ nI g.1 ≤ nI t := by rw [z_leN (by omega) (by omega)]; omega
    rw [e_R_go htT]
    -- the token's kind is PART at first
    have hC5 : z_sy (q_sI C 6 t 53) n g (e_st g t) := ⟨hC.sI (by decide), by rw [q_sI_I, if_neg (by omega)]; exact hl, hl2, d, bs, by rw [q_sI_I, if_neg (by omega)]; exact hd, hs, hdr, hdl⟩
    have k5 : (q_sI C 6 t 53).2.1 6 t = 53 := by rw [q_sI_I, if_pos ⟨rfl, rfl⟩]
    have k6 : ∀ i, i ≠ t → (q_sI C 6 t 53).2.1 6 i = C.2.1 6 i := fun i hi => by rw [q_sI_I, if_neg (by omega)]
    have e53 : vp_nar .byte (53 : Int32) = 53 := by decide
    generalize hCC : q_sI C 6 t 53 = C5 at hC5 k5 k6
    have main : ∃ C', tX7_firstFault_18 (nI t, C) = some (if (e_step g t (e_st g t)).1 = true then .inr (nI (t + 1), C') else .inl (nI t, C')) ∧ z_C C' n g ∧ ((e_step g t (e_st g t)).1 = true → z_sy C' n g (e_step g t (e_st g t)).2.2 ∧ C'.2.1 6 t = (e_step g t (e_st g t)).2.1 ∧ ∀ i, i ≠ t → C'.2.1 6 i = C5.2.1 6 i) := by
      obtain ⟨hC6, hl6, hl26, d6, bs6, hd6, hs6, hdr6, hdl6⟩ := id hC5
      have hbs6 := hs6.2.2
      simp only [tX7_firstFault_18, hC.2.1, if_neg hgt, z_inbN (show t < 16000 by omega) (by decide), if_true, z_cl (show t < 2147483648 by omega), e53, Option.bind_some, hCC, z_len hs6, hd6, nI_1, z_leN (show bs6.length < 2147483648 by omega) (show d6 < 2147483648 by omega)]
      cases hst : (e_st g t).2 with
      | nil =>
        have hle : bs6.length ≤ d6 := by rw [hst] at hdr6; exact List.drop_eq_nil_iff.mp hdr6
        rw [if_pos hle]
        have hst2 : e_st g t = ((e_st g t).1, []) := by rw [← hst]
        rw [hst2] at hC5 ⊢
        obtain ⟨C', h1, h2, h3, h4⟩ := z_begins hC5 hG htT
        rw [h1]
        refine ⟨C', ?_, h2.1, fun _ => ⟨h2, h3, h4⟩⟩
        simp only [Option.bind_some]
        by_cases q : (e_step g t ((e_st g t).1, [])).1 = true
        · rw [if_pos q, if_pos q]
        · rw [if_neg q, if_neg q]
      | cons c cs =>
        rw [hst] at hdr6
        have hlt : d6 < bs6.length := by
          rcases Nat.lt_or_ge d6 bs6.length with h | h
          · exact h
          · rw [List.drop_eq_nil_iff.mpr h] at hdr6; cases hdr6
        have hch : bs6.getD d6 0 = c := by
          have : bs6[d6]? = some c := by
            have h2 : (bs6.drop d6)[0]? = some c := by rw [hdr6]; rfl
            simpa using h2
          simp [List.getD, this]
        have hcs : bs6.drop (d6 + 1) = cs := by
          have : (bs6.drop d6).drop 1 = cs := by rw [hdr6]; rfl
          rw [List.drop_drop] at this
          exact this
        rw [if_neg (show ¬ bs6.length ≤ d6 by omega), z_chr hs6 hlt, hch]
        simp only [Option.bind_some]
        have hst2 : e_st g t = ((e_st g t).1, c :: cs) := by rw [← hst]
        have t28 := z_takes28 (c := c) hC6 hG (show t < 2147483648 by omega) hd6 hl6
        have hlv := e_st_lv g t
        rw [hst] at hlv
        have sy28 : z_sy (q_sI (q_sI C5 77 2 (nI (d6 + 1))) 77 3 (nI ((e_st g t).1 + (if c = 123 then 1 else 0)))) n g ((e_st g t).1 + (if c = 123 then 1 else 0), cs) := by
          refine ⟨(hC6.sI (by decide)).sI (by decide), by rw [q_sI_I, if_pos ⟨rfl, rfl⟩], ?_, d6 + 1, bs6, ?_, hs6, hcs, by omega⟩
          · show (e_st g t).1 + (if c = 123 then 1 else 0) ≤ 2
            by_cases q : c = 123
            · subst q
              rw [List.count_cons_self] at hlv
              rw [if_pos rfl]; omega
            · rw [if_neg q]; exact hl2
          · rw [q_sI_I, if_neg (by decide), q_sI_I, if_pos ⟨rfl, rfl⟩]
        have k28 : ∀ i, (q_sI (q_sI C5 77 2 (nI (d6 + 1))) 77 3 (nI ((e_st g t).1 + (if c = 123 then 1 else 0)))).2.1 6 i = C5.2.1 6 i := fun i => by rw [q_sI_I, if_neg (by omega), q_sI_I, if_neg (by omega)]
        have fin : ¬ (c = 80 ∧ e_mark g t 41 = false) → ∃ C', (((fX7_takesPart_28 C5 (nI t) c).bind fun r17 => some (r17.1, r17.2)).bind fun v20 => if v20.1 = true then some (Sum.inr (nI (t + 1), v20.2)) else some (Sum.inl (nI t, v20.2))) = some (if (e_step g t (e_st g t)).1 = true then .inr (nI (t + 1), C') else .inl (nI t, C')) ∧ z_C C' n g ∧ ((e_step g t (e_st g t)).1 = true → z_sy C' n g (e_step g t (e_st g t)).2.2 ∧ C'.2.1 6 t = (e_step g t (e_st g t)).2.1 ∧ ∀ i, i ≠ t → C'.2.1 6 i = C5.2.1 6 i) := by
          intro q
          have hstep : e_step g t (e_st g t) = (e_okp g t c, 53, (e_st g t).1 + (if c = 123 then 1 else 0), cs) := by
            rw [hst2]; simp only [e_step, if_neg q]
          rw [t28, hstep]
          refine ⟨_, ?_, sy28.1, fun _ => ⟨sy28, (k28 t).trans k5, fun i _ => k28 i⟩⟩
          simp only [Option.bind_some]
          by_cases q2 : e_okp g t c = true
          · rw [if_pos q2, if_pos q2]
          · rw [if_neg q2, if_neg q2]
        simp only [fX7_takesPart, z_isMark hC6 hG (show t < 2147483648 by omega), z_isType hC6 hG (show t < 2147483648 by omega), Option.bind_some]
        by_cases c80 : c = 80
        · rw [if_pos c80]
          by_cases mk : k_mark g.1 g.2.1 g.2.2.1 t 41 = true
          · rw [if_pos mk]
            exact fin (fun x => by have h2 := x.2; simp only [e_mark, mk] at h2; cases h2)
          · rw [if_neg mk]
            have mk' : e_mark g t 41 = false := Bool.eq_false_iff.mpr mk
            have hstep : e_step g t (e_st g t) = (e_typ g t, 53, (e_st g t).1, c :: cs) := by
              rw [hst2]; simp only [e_step, if_pos (show c = 80 ∧ e_mark g t 41 = false from ⟨c80, mk'⟩)]
            rw [hstep]
            refine ⟨C5, ?_, hC6, fun _ => ⟨by rw [← hst2]; exact hC5, k5, fun i _ => rfl⟩⟩
            show (if k_typ g.1 g.2.1 g.2.2.1 g.2.2.2 t = true then some (Sum.inr (nI (t + 1), C5)) else some (Sum.inl (nI t, C5))) = some (if k_typ g.1 g.2.1 g.2.2.1 g.2.2.2 t = true then .inr (nI (t + 1), C5) else .inl (nI t, C5))
            by_cases q2 : k_typ g.1 g.2.1 g.2.2.1 g.2.2.2 t = true
            · rw [if_pos q2, if_pos q2]
            · rw [if_neg q2, if_neg q2]
        · rw [if_neg c80]
          exact fin (fun x => c80 x.1)
    obtain ⟨C', h1, h2, h3⟩ := main
    by_cases q : (e_step g t (e_st g t)).1 = true
    · rw [if_pos q] at h1 ⊢
      obtain ⟨s1, s2, s3⟩ := h3 q
      rw [q_run_go h1]
      obtain ⟨r, r1, r2, r3⟩ := ih (t + 1) C' (by omega) s1 (fun i hi => by
        by_cases e : i = t
        · rw [e]; exact s2
        · rw [s3 i e, k6 i e]; exact hK i (by omega))
      refine ⟨r, r1, r2, ?_⟩
      rcases r3 with h | ⟨a1, a2, a3, a4⟩
      · exact .inl h
      · exact .inr ⟨a1, a2, a3, fun i i1 i2 => by
          by_cases e : i = t
          · rw [e]; exact q
          · exact a4 i (by omega) i2⟩
    · rw [if_neg q] at h1 ⊢
      exact ⟨_, q_run_ret h1, h2, .inl ⟨t, by omega, rfl, rfl⟩⟩
theorem z_syntax (hC : z_C C n g) (hG : z_G n g) : ∃ r, fX7_firstFault C = some r ∧ z_C r.2 n g ∧ ((∃ f, f ≤ g.1 ∧ r.1 = nI f ∧ e_R g 0 (0, []) = some f) ∨ (r.1 = -1 ∧ e_R g 0 (0, []) = none ∧ (∀ i, i < g.1 → r.2.2.1 6 i = e_kind g i) ∧ ∀ i, i < g.1 → (e_step g i (e_st g i)).1 = true)) := by
  simp only [fX7_firstFault, Option.bind_some, fX7_firstFault_18]
  have h0 : z_sy (q_sI (q_sI (q_sR C 77 1 1000000) 77 2 0) 77 3 0) n g (e_st g 0) := by
    refine ⟨((hC.sR).sI (by decide)).sI (by decide), by rw [q_sI_I, if_pos ⟨rfl, rfl⟩]; rfl, Nat.zero_le _, 0, [], ?_, ?_, rfl, Nat.le_refl _⟩
    · rw [q_sI_I, if_neg (by decide), q_sI_I, if_pos ⟨rfl, rfl⟩]; rfl
    · rw [z_sI_R, z_sI_R, z_sR_R, if_pos ⟨rfl, rfl⟩]; exact z_sP0
  obtain ⟨r, r1, r2, r3⟩ := z_syn_loop hG g.1 0 _ (Nat.zero_add _) h0 (fun i hi => absurd hi (by omega))
  refine ⟨r, r1, r2, ?_⟩
  rcases r3 with h | ⟨a1, a2, a3, a4⟩
  · exact .inl h
  · exact .inr ⟨a1, a2, a3, fun i hi => a4 i (Nat.zero_le _) hi⟩
end ZSYN3
