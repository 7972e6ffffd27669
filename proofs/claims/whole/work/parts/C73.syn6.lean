/-! ===== the reference's members, classes, program ===== -/
section ZSYN7
variable {D : QS} {n : Nat} {g : ZT}
theorem z_dMember {t : Nat} (hD : z_D D n g) (hG : z_G n g) (ht : t ≤ g.1) (hm : e_mark g t 125 = false) : z_Z D g (t + 1) t (1, []) (1, []) (fX12_isMember (z_A D t)) := by
  have b1 := hG.1
  have b2 := hG.2.1
  have ev : ((if e_word g t w_static = true then some true else if e_word g t w_method = true then some true else some false) : Option Bool) = some (e_word g t w_static || e_word g t w_method) := by
    cases e_word g t w_static <;> cases e_word g t w_method <;> rfl
  rw [fX12_isMember]
  simp only [z_A_at, z_aW hD hG z_sField2 (show t ≤ g.1 + 1 by omega), z_aW hD hG z_sStatic2 (show t ≤ g.1 + 1 by omega), z_aW hD hG z_sMethod2 (show t ≤ g.1 + 1 by omega), Option.bind_some, ev, z_takes, nI_1, z_A_A]
  by_cases h : t < g.1
  rotate_left
  · simp only [e_word_T h, Bool.false_eq_true, if_false, Bool.or_false]
    exact z_Z.bad ht (by rw [e_R_end (by omega)]; rfl)
  have hr := e_R_mem h hm
  by_cases c1 : e_word g t w_field = true
  · have hl : e_mem g t = (true, 49, [110, 84]) := by unfold e_mem; rw [if_pos c1]
    rw [hl] at hr
    dsimp only at hr
    rw [if_pos rfl] at hr
    rw [if_pos c1]
    refine z_Z.pre ?_ hr
    simp only [z_A_at, z_aN hD hG (show t + 1 ≤ g.1 + 1 by omega), Option.bind_some, z_takes]
    rcases z_par 110 1 [84] (show t + 1 ≤ g.1 by omega) (by decide) with ⟨p1, q1, r1⟩ | ⟨p1, r1⟩ <;> rw [e_okp_n] at p1
    rotate_left
    · simp only [p1, Bool.false_eq_true, if_false]
      exact z_Z.bad (by omega) r1
    refine z_Z.pre ?_ r1
    simp only [p1, if_true, z_A_at, z_aT hD hG (show t + 1 + 1 ≤ g.1 + 1 by omega), Option.bind_some, z_takes]
    rcases z_par 84 1 [] (show t + 1 + 1 ≤ g.1 by omega) (by decide) with ⟨p2, q2, r2⟩ | ⟨p2, r2⟩ <;> rw [e_okp_Ty] at p2
    rotate_left
    · simp only [p2, Bool.false_eq_true, if_false]
      exact z_Z.bad (by omega) r2
    simp only [p2, if_true]
    exact z_Z.fin (by omega) (by omega) r2
  have c1' := Bool.eq_false_iff.mpr c1
  have hl : ∃ k, e_mem g t = (e_word g t w_static || e_word g t w_method, k, [110, 40, 80, 82, 78, 123]) := by
    unfold e_mem
    rw [if_neg c1]
    by_cases c2 : e_word g t w_static = true
    · rw [if_pos c2, c2, Bool.true_or]
      exact ⟨_, rfl⟩
    · rw [if_neg c2, Bool.eq_false_iff.mpr c2, Bool.false_or]
      exact ⟨_, rfl⟩
  obtain ⟨k, hl⟩ := hl
  rw [hl] at hr
  dsimp only at hr
  rw [if_neg c1]
  by_cases c2 : (e_word g t w_static || e_word g t w_method) = true
  rotate_left
  · rw [if_neg c2] at hr
    simp only [Bool.eq_false_iff.mpr c2, Bool.false_eq_true, if_false]
    exact z_Z.bad ht hr
  rw [if_pos c2] at hr
  refine z_Z.pre ?_ hr
  simp only [c2, if_true, z_A_at, z_aN hD hG (show t + 1 ≤ g.1 + 1 by omega), Option.bind_some, z_takes]
  rcases z_par 110 1 [40, 80, 82, 78, 123] (show t + 1 ≤ g.1 by omega) (by decide) with ⟨p1, q1, r1⟩ | ⟨p1, r1⟩ <;> rw [e_okp_n] at p1
  rotate_left
  · simp only [p1, Bool.false_eq_true, if_false]
    exact z_Z.bad (by omega) r1
  refine z_Z.pre ?_ r1
  simp only [p1, if_true, z_A_at, z_aM hD hG z_sPar (by decide) (show t + 1 + 1 ≤ g.1 + 1 by omega), Option.bind_some, z_takes]
  rcases z_par 40 1 [80, 82, 78, 123] (show t + 1 + 1 ≤ g.1 by omega) (by decide) with ⟨p2, q2, r2⟩ | ⟨p2, r2⟩ <;> rw [e_okp_40] at p2
  rotate_left
  · simp only [p2, Bool.false_eq_true, if_false]
    exact z_Z.bad (by omega) r2
  refine z_Z.pre ?_ r2
  simp only [p2, if_true]
  exact (z_isPars hD hG (g.1 - (t + 1 + 1 + 1)) (t + 1 + 1 + 1) (by omega)).le (by omega)
theorem z_isMembers (hD : z_D D n g) (hG : z_G n g) : ∀ m t, t + m = g.1 → ∃ X t', q_run tX12_isProgram_99 (z_A D t) = some X ∧ t' ≤ g.1 ∧ ((X = .inr (z_A D t') ∧ t + 1 ≤ t' ∧ e_R g t (1, []) = e_R g t' (0, [])) ∨ (X = .inl (false, z_A D t') ∧ e_R g t (1, []) = some t')) := by
  have b1 := hG.1
  have b2 := hG.2.1
  intro m
  induction m using Nat.strongRecOn with
  | _ m ih =>
    intro t ht
    have e1 : fX12_is (z_A D t) (nI t) 1000064 = some (e_mark g t 125) := z_aM hD hG z_sClose (by decide) (by omega)
    by_cases c1 : e_mark g t 125 = true
    · obtain ⟨h1, h2⟩ := e_R_close (g := g) (t := t) (l := 1) (by decide) c1
      have e2 : tX12_isProgram_99 (z_A D t) = some (.inl (.inr (z_A D (t + 1)))) := by
        simp only [tX12_isProgram_99, z_A_at, e1, Option.bind_some, c1, if_true, z_A_at, nI_1, z_A_A]
      exact ⟨_, t + 1, q_run_ret e2, by omega, Or.inl ⟨rfl, by omega, h2⟩⟩
    · have c1' := Bool.eq_false_iff.mpr c1
      obtain ⟨b, t', h1, h2, h3⟩ := z_dMember hD hG (show t ≤ g.1 by omega) c1'
      rcases h3 with ⟨hb, h3, h4⟩ | ⟨hb, h4⟩
      · have e2 : tX12_isProgram_99 (z_A D t) = some (.inr (z_A D t')) := by
          simp only [tX12_isProgram_99, z_A_at, e1, Option.bind_some, c1', Bool.false_eq_true, if_false, h1, hb, if_true]
        rw [q_run_go e2]
        obtain ⟨X, t'', g1, g2, g3⟩ := ih (g.1 - t') (by omega) t' (by omega)
        exact ⟨X, t'', g1, g2, g3.imp (fun q => ⟨q.1, by omega, h4.trans q.2.2⟩) (fun q => ⟨q.1, h4.trans q.2⟩)⟩
      · have e2 : tX12_isProgram_99 (z_A D t) = some (.inl (.inl (false, z_A D t'))) := by
          simp only [tX12_isProgram_99, z_A_at, e1, Option.bind_some, c1', Bool.false_eq_true, if_false, h1, hb]
        exact ⟨_, t', q_run_ret e2, h2, Or.inr ⟨rfl, h4⟩⟩
theorem z_isClasses (hD : z_D D n g) (hG : z_G n g) : ∀ m t, t + m = g.1 → ∃ b t', q_run tX12_isProgram_5 (z_A D t) = some (b, z_A D t') ∧ t' ≤ g.1 ∧ ((b = true ∧ e_R g t (0, []) = none) ∨ (b = false ∧ e_R g t (0, []) = some t')) := by
  have b1 := hG.1
  have b2 := hG.2.1
  intro m
  induction m using Nat.strongRecOn with
  | _ m ih =>
    intro t ht
    have hT : (z_A D t).2.1 102 10 = nI g.1 := (z_A_D hD t).2.1
    by_cases h : t < g.1
    rotate_left
    · have e2 : tX12_isProgram_5 (z_A D t) = some (.inl (true, z_A D t)) := by
        simp only [tX12_isProgram_5, z_A_at, hT, z_leN (show g.1 < 2147483648 by omega) (show t < 2147483648 by omega), if_pos (show g.1 ≤ t by omega)]
      exact ⟨_, t, q_run_ret e2, by omega, Or.inl ⟨rfl, by rw [e_R_end (by omega)]; rfl⟩⟩
    have hr := e_R_cls h
    have e2 : tX12_isProgram_5 (z_A D t) = tX12_isProgram_5 (z_A D t) := rfl
    conv at e2 => rhs; unfold tX12_isProgram_5
    simp only [z_A_at, hT, z_leN (show g.1 < 2147483648 by omega) (show t < 2147483648 by omega), if_neg (show ¬ g.1 ≤ t by omega), z_aW hD hG z_sClass2 (show t ≤ g.1 + 1 by omega), Option.bind_some, z_takes] at e2
    by_cases c0 : e_word g t w_class = true
    rotate_left
    · rw [if_neg c0] at hr
      simp only [Bool.eq_false_iff.mpr c0, Bool.false_eq_true, if_false] at e2
      exact ⟨_, t, q_run_ret e2, by omega, Or.inr ⟨rfl, hr⟩⟩
    rw [if_pos c0] at hr
    simp only [c0, if_true, z_A_at, z_aC hD hG (show t + 1 ≤ g.1 + 1 by omega), Option.bind_some, z_takes] at e2
    rcases z_par 67 0 [111, 67, 123] (show t + 1 ≤ g.1 by omega) (by decide) with ⟨p1, q1, r1⟩ | ⟨p1, r1⟩ <;> rw [e_okp_C] at p1
    rotate_left
    · simp only [p1, Bool.false_eq_true, if_false] at e2
      exact ⟨_, t + 1, q_run_ret e2, by omega, Or.inr ⟨rfl, hr.trans r1⟩⟩
    simp only [p1, if_true, z_A_at, z_aW hD hG z_sOf2 (show t + 1 + 1 ≤ g.1 + 1 by omega), Option.bind_some, z_takes] at e2
    rcases z_par 111 0 [67, 123] (show t + 1 + 1 ≤ g.1 by omega) (by decide) with ⟨p2, q2, r2⟩ | ⟨p2, r2⟩ <;> rw [e_okp_o] at p2
    rotate_left
    · simp only [p2, Bool.false_eq_true, if_false] at e2
      exact ⟨_, t + 1 + 1, q_run_ret e2, by omega, Or.inr ⟨rfl, (hr.trans r1).trans r2⟩⟩
    simp only [p2, if_true, z_A_at, z_aC hD hG (show t + 1 + 1 + 1 ≤ g.1 + 1 by omega), Option.bind_some, z_takes] at e2
    rcases z_par 67 0 [123] (show t + 1 + 1 + 1 ≤ g.1 by omega) (by decide) with ⟨p3, q3, r3⟩ | ⟨p3, r3⟩ <;> rw [e_okp_C] at p3
    rotate_left
    · simp only [p3, Bool.false_eq_true, if_false] at e2
      exact ⟨_, t + 1 + 1 + 1, q_run_ret e2, by omega, Or.inr ⟨rfl, ((hr.trans r1).trans r2).trans r3⟩⟩
    simp only [p3, if_true, z_A_at, z_aM hD hG z_sOpen (by decide) (show t + 1 + 1 + 1 + 1 ≤ g.1 + 1 by omega), Option.bind_some, z_takes] at e2
    rcases z_par 123 0 [] (show t + 1 + 1 + 1 + 1 ≤ g.1 by omega) (by decide) with ⟨p4, q4, r4⟩ | ⟨p4, r4⟩ <;> rw [e_okp_123] at p4
    rotate_left
    · simp only [p4, Bool.false_eq_true, if_false] at e2
      exact ⟨_, t + 1 + 1 + 1 + 1, q_run_ret e2, by omega, Or.inr ⟨rfl, (((hr.trans r1).trans r2).trans r3).trans r4⟩⟩
    have hr5 := (((hr.trans r1).trans r2).trans r3).trans r4
    simp only [p4, if_true] at e2
    obtain ⟨X, t', g1, g2, g3⟩ := z_isMembers hD hG (g.1 - (t + 1 + 1 + 1 + 1 + 1)) (t + 1 + 1 + 1 + 1 + 1) (by omega)
    rw [uX12_isProgram_99, g1] at e2
    rcases g3 with ⟨hX, g4, g5⟩ | ⟨hX, g5⟩ <;> subst hX
    · rw [q_run_go e2]
      obtain ⟨b, t'', i1, i2, i3⟩ := ih (g.1 - t') (by omega) t' (by omega)
      refine ⟨b, t'', i1, i2, ?_⟩
      have hr6 : e_R g t (0, []) = e_R g t' (0, []) := hr5.trans g5
      rw [hr6]
      exact i3
    · exact ⟨_, t', q_run_ret e2, g2, Or.inr ⟨rfl, hr5.trans g5⟩⟩
/-- the reference's syntax: the machine's answer -/
theorem z_dSyntax (hD : z_D D n g) (hG : z_G n g) : ∃ b t', fX12_isProgram D = some (b, z_A D t') ∧ t' ≤ g.1 ∧ ((b = true ∧ e_R g 0 (0, []) = none) ∨ (b = false ∧ e_R g 0 (0, []) = some t')) := by
  have h := z_isClasses hD hG g.1 0 (Nat.zero_add _)
  rw [fX12_isProgram, Option.bind_some]
  exact h
end ZSYN7
