/-! ===== the reference's lines, members, classes: the machine's ===== -/
section ZSYN6
variable {D : QS} {n : Nat} {g : ZT}
theorem z_Z.fin {m t t' : Nat} {s s' : Nat × List Int32} (h1 : t' ≤ g.1) (h2 : m ≤ t') (h : e_R g t s = e_R g t' s') : z_Z D g m t s s' (some (true, z_A D t')) := ⟨true, t', rfl, h1, Or.inl ⟨rfl, h2, h⟩⟩
theorem z_Z.bad {m t t' : Nat} {s s' : Nat × List Int32} (h1 : t' ≤ g.1) (h : e_R g t s = some t') : z_Z D g m t s s' (some (false, z_A D t')) := ⟨false, t', rfl, h1, Or.inr ⟨rfl, h⟩⟩
theorem z_Z.le {m m' t : Nat} {s s' : Nat × List Int32} {X : Option (Bool × QS)} (h : z_Z D g m t s s' X) (hm : m' ≤ m) : z_Z D g m' t s s' X := by
  obtain ⟨b, t', h1, h2, h3⟩ := h
  exact ⟨b, t', h1, h2, h3.imp (fun q => ⟨q.1, by omega, q.2.2⟩) id⟩
theorem z_Z.pre {m t t1 : Nat} {s s1 s' : Nat × List Int32} {X : Option (Bool × QS)} (h : z_Z D g m t1 s1 s' X) (he : e_R g t s = e_R g t1 s1) : z_Z D g m t s s' X := by
  obtain ⟨b, t', h1, h2, h3⟩ := h
  exact ⟨b, t', h1, h2, h3.imp (fun q => ⟨q.1, q.2.1, he.trans q.2.2⟩) (fun q => ⟨q.1, he.trans q.2⟩)⟩
/-- one part alone -/
theorem z_Z.one {m t l : Nat} {c : Int32} {b : Bool} (hc : c ≠ 80) (hc2 : c ≠ 123) (ht : t ≤ g.1) (hm : m ≤ t + 1) (hb : b = e_okp g t c) : z_Z D g m t (l, [c]) (l, []) (some (b, z_A D (if b = true then t + 1 else t))) := by
  subst hb
  rcases z_par c l [] ht hc with ⟨h1, h2, h3⟩ | ⟨h1, h2⟩
  · rw [if_neg hc2] at h3
    rw [h1, if_pos rfl]
    exact z_Z.fin (by omega) hm h3
  · rw [h1, if_neg (by simp)]
    exact z_Z.bad ht h2
theorem z_isLine {t : Nat} (hD : z_D D n g) (hG : z_G n g) (ht : t ≤ g.1) (hm : e_mark g t 125 = false) : z_Z D g (t + 1) t (2, []) (2, []) (fX12_isLine (z_A D t)) := by
  have b1 := hG.1
  have b2 := hG.2.1
  have hT : (z_A D t).2.1 102 10 = nI g.1 := (z_A_D hD t).2.1
  rw [fX12_isLine]
  simp only [z_A_at, hT, z_ltN (show t < 2147483648 by omega) (show g.1 < 2147483648 by omega)]
  by_cases h : t < g.1
  rotate_left
  · rw [if_neg h]
    have e : t = g.1 := by omega
    exact z_Z.bad ht (by rw [e_R_end e]; rfl)
  rw [if_pos h]
  have hr := e_R_line (l := 2) h (Nat.le_refl _) hm
  simp only [z_aL hD hG ht, Option.bind_some, nI_1, z_A_A]
  by_cases c1 : e_mark g (t + 1) 58 = true
  · rw [if_pos c1]
    have hl : e_line g t = (e_nam g t 97, 47, [58]) := by unfold e_line; rw [if_pos c1]
    rw [hl] at hr
    dsimp only at hr
    have ht1 : t + 1 < g.1 := by
      refine Decidable.byContradiction (fun q => ?_)
      rw [e_mark_T q] at c1
      cases c1
    simp only [z_aN hD hG (show t ≤ g.1 + 1 by omega), Option.bind_some, z_takes]
    by_cases c2 : e_nam g t 97 = true
    · rw [if_pos c2] at hr
      simp only [c2, if_true, z_takes, Option.bind_some]
      rcases z_par 58 2 [] (show t + 1 ≤ g.1 by omega) (by decide) with ⟨_, _, hr2⟩ | ⟨hb, _⟩
      · exact z_Z.fin (by omega) (by omega) (hr.trans hr2)
      · rw [e_okp_58, c1] at hb
        cases hb
    · rw [if_neg c2] at hr
      simp only [Bool.eq_false_iff.mpr c2, Bool.false_eq_true, if_false]
      exact z_Z.bad ht hr
  rw [if_neg c1]
  simp only [z_aW hD hG z_sCatch2 (show t ≤ g.1 + 1 by omega), Option.bind_some]
  by_cases c2 : e_word g t w_catch = true
  · rw [if_pos c2]
    have hn : e_nam g t 97 = true := e_word_nam c2 (by decide)
    have hl : e_line g t = (e_nam g t 97, 46, [110, 110, 110, 67]) := by unfold e_line; rw [if_neg c1, if_pos c2]
    rw [hl] at hr
    dsimp only at hr
    rw [if_pos hn] at hr
    refine z_Z.pre ?_ hr
    simp only [z_A_at, z_aN hD hG (show t + 1 ≤ g.1 + 1 by omega), Option.bind_some, z_takes]
    rcases z_par 110 2 [110, 110, 67] (show t + 1 ≤ g.1 by omega) (by decide) with ⟨p1, q1, r1⟩ | ⟨p1, r1⟩ <;> rw [e_okp_n] at p1
    rotate_left
    · simp only [p1, Bool.false_eq_true, if_false]
      exact z_Z.bad (by omega) r1
    refine z_Z.pre ?_ r1
    simp only [p1, if_true, z_A_at, z_aN hD hG (show t + 1 + 1 ≤ g.1 + 1 by omega), Option.bind_some, z_takes]
    rcases z_par 110 2 [110, 67] (show t + 1 + 1 ≤ g.1 by omega) (by decide) with ⟨p2, q2, r2⟩ | ⟨p2, r2⟩ <;> rw [e_okp_n] at p2
    rotate_left
    · simp only [p2, Bool.false_eq_true, if_false]
      exact z_Z.bad (by omega) r2
    refine z_Z.pre ?_ r2
    simp only [p2, if_true, z_A_at, z_aN hD hG (show t + 1 + 1 + 1 ≤ g.1 + 1 by omega), Option.bind_some, z_takes]
    rcases z_par 110 2 [67] (show t + 1 + 1 + 1 ≤ g.1 by omega) (by decide) with ⟨p3, q3, r3⟩ | ⟨p3, r3⟩ <;> rw [e_okp_n] at p3
    rotate_left
    · simp only [p3, Bool.false_eq_true, if_false]
      exact z_Z.bad (by omega) r3
    refine z_Z.pre ?_ r3
    simp only [p3, if_true, z_A_at, z_aC hD hG (show t + 1 + 1 + 1 + 1 ≤ g.1 + 1 by omega), Option.bind_some, z_takes]
    rcases z_par 67 2 [] (show t + 1 + 1 + 1 + 1 ≤ g.1 by omega) (by decide) with ⟨p4, q4, r4⟩ | ⟨p4, r4⟩ <;> rw [e_okp_C] at p4
    rotate_left
    · simp only [p4, Bool.false_eq_true, if_false]
      exact z_Z.bad (by omega) r4
    simp only [p4, if_true]
    exact z_Z.fin (by omega) (by omega) r4
  rw [if_neg c2]
  simp only [z_aOp hD hG h, Option.bind_some]
  rcases e_op_rng g t with ho | ⟨k, hk, ho⟩
  · have hl : e_line g t = (e_nam g t 97, 47, [58]) := by unfold e_line; rw [if_neg c1, if_neg c2, if_neg (fun q => q.2 ho)]
    rw [hl] at hr
    dsimp only at hr
    rw [ho, if_neg (show ¬ (0 : Int32) ≤ -1 by decide)]
    simp only [z_aN hD hG (show t ≤ g.1 + 1 by omega), Option.bind_some, z_takes]
    by_cases c3 : e_nam g t 97 = true
    · rw [if_pos c3] at hr
      simp only [c3, if_true]
      rcases z_par 58 2 [] (show t + 1 ≤ g.1 by omega) (by decide) with ⟨hb, _, _⟩ | ⟨_, hr2⟩
      · rw [e_okp_58] at hb
        exact absurd hb c1
      · exact z_Z.bad (by omega) (hr.trans hr2)
    · rw [if_neg c3] at hr
      simp only [Bool.eq_false_iff.mpr c3, Bool.false_eq_true, if_false]
      exact z_Z.bad ht hr
  have hn : e_nam g t 97 = true := e_op_nam h ho (by omega)
  have hl : e_line g t = (true, e_op g t, e_ops (e_op g t)) := by
    unfold e_line
    rw [if_neg c1, if_neg c2, if_pos ⟨hn, by rw [ho]; exact fun q => by have := z_m1N (show k < 2147483648 by omega); rw [q] at this; exact this.mp rfl⟩]
  rw [hl] at hr
  dsimp only at hr
  rw [if_pos rfl, ho] at hr
  refine z_Z.pre ?_ hr
  rw [ho, if_pos (show (0 : Int32) ≤ nI k by have := z_leN (show 0 < 2147483648 by decide) (show k < 2147483648 by omega); rw [show (0 : Int32) = nI 0 from rfl, this]; exact Nat.zero_le _)]
  have hkl : k < z_opL.length := by
    have : z_opL.length = 46 := by decide
    omega
  simp only [z_chr z_sOpL hkl, Option.bind_some, z_A_at, z_aC hD hG (show t + 1 ≤ g.1 + 1 by omega), z_aW hD hG z_sInt2 (show t + 1 ≤ g.1 + 1 by omega), z_aF hD hG (show t + 1 ≤ g.1 + 1 by omega), z_aNum hD hG (show t + 1 ≤ g.1 + 1 by omega), z_aN hD hG (show t + 1 ≤ g.1 + 1 by omega), z_aT hD hG (show t + 1 ≤ g.1 + 1 by omega), z_takes]
  have hh := z_opL_is ⟨k, hk⟩
  dsimp only at hh
  rcases hh with ⟨x1, x2⟩ | ⟨x1, x2⟩ | ⟨x1, x2⟩ | ⟨x1, x2⟩ | ⟨x1, x2⟩ | ⟨x1, x2⟩ | ⟨x1, x2⟩ | ⟨x1, x2⟩
  · rw [x1, x2, if_pos rfl]
    exact z_Z.one (by decide) (by decide) (by omega) (by omega) rfl
  · rw [x1, x2, if_neg (by decide), if_pos rfl]
    have ho := z_Z.one (D := D) (g := g) (m := t + 1) (t := t + 1) (l := 2) (c := 69) (by decide) (by decide) (by omega) (by omega) rfl
    rw [e_okp_E] at ho
    cases w1 : e_word g (t + 1) w_int <;> cases w2 : e_nam g (t + 1) 65 <;> rw [w1, w2] at ho <;> exact ho
  · rw [x1, x2, if_neg (by decide), if_neg (by decide), if_pos rfl]
    exact z_Z.one (by decide) (by decide) (by omega) (by omega) rfl
  · rw [x1, x2, if_neg (by decide), if_neg (by decide), if_neg (by decide), if_pos rfl]
    rcases z_par 78 2 [78] (show t + 1 ≤ g.1 by omega) (by decide) with ⟨p1, q1, r1⟩ | ⟨p1, r1⟩ <;> rw [e_okp_N] at p1
    rotate_left
    · simp only [p1, Bool.false_eq_true, if_false]
      exact z_Z.bad (by omega) r1
    refine z_Z.pre ?_ r1
    simp only [p1, if_true, z_A_at, z_aNum hD hG (show t + 1 + 1 ≤ g.1 + 1 by omega), Option.bind_some, z_takes]
    rcases z_par 78 2 [] (show t + 1 + 1 ≤ g.1 by omega) (by decide) with ⟨p2, q2, r2⟩ | ⟨p2, r2⟩ <;> rw [e_okp_N] at p2
    rotate_left
    · simp only [p2, Bool.false_eq_true, if_false]
      exact z_Z.bad (by omega) r2
    simp only [p2, if_true]
    exact z_Z.fin (by omega) (by omega) r2
  · have x3 : ¬ z_opL.getD k 0 = 67 ∧ ¬ z_opL.getD k 0 = 69 ∧ ¬ z_opL.getD k 0 = 70 ∧ ¬ z_opL.getD k 0 = 73 := by rcases x1 with x1 | x1 <;> rw [x1] <;> decide
    rw [x2, if_neg x3.1, if_neg x3.2.1, if_neg x3.2.2.1, if_neg x3.2.2.2, if_pos x1]
    exact z_Z.one (by decide) (by decide) (by omega) (by omega) rfl
  · rw [x1, x2, if_neg (by decide), if_neg (by decide), if_neg (by decide), if_neg (by decide), if_neg (by decide), if_pos rfl]
    exact z_Z.one (by decide) (by decide) (by omega) (by omega) rfl
  · rw [x1, x2, if_neg (by decide), if_neg (by decide), if_neg (by decide), if_neg (by decide), if_neg (by decide), if_neg (by decide), if_pos rfl]
    have ho := z_Z.one (D := D) (g := g) (m := t + 1) (t := t + 1) (l := 2) (c := 89) (by decide) (by decide) (by omega) (by omega) rfl
    rw [e_okp_Y] at ho
    cases w1 : e_typ g (t + 1) <;> cases w2 : e_word g (t + 1) w_int <;> rw [w1, w2] at ho <;> exact ho
  · rw [x1, x2, if_neg (by decide), if_neg (by decide), if_neg (by decide), if_neg (by decide), if_neg (by decide), if_neg (by decide), if_neg (by decide)]
    exact z_Z.fin (by omega) (by omega) rfl
/-- the lines of a body, up to its end -/
theorem z_isBody (hD : z_D D n g) (hG : z_G n g) : ∀ m t, t + m = g.1 → z_Z D g (t + 1) t (2, []) (1, []) (q_run tX12_isMember_241 (z_A D t)) := by
  have b1 := hG.1
  have b2 := hG.2.1
  intro m
  induction m using Nat.strongRecOn with
  | _ m ih =>
    intro t ht
    have e1 : fX12_is (z_A D t) (nI t) 1000064 = some (e_mark g t 125) := z_aM hD hG z_sClose (by decide) (by omega)
    by_cases c1 : e_mark g t 125 = true
    · obtain ⟨h1, h2⟩ := e_R_close (g := g) (t := t) (l := 2) (by decide) c1
      have e2 : tX12_isMember_241 (z_A D t) = some (.inl (true, z_A D (t + 1))) := by
        simp only [tX12_isMember_241, z_A_at, e1, Option.bind_some, c1, if_true, z_A_at, nI_1, z_A_A]
      rw [q_run_ret e2]
      exact z_Z.fin (by omega) (by omega) h2
    · have c1' := Bool.eq_false_iff.mpr c1
      obtain ⟨b, t', h1, h2, h3⟩ := z_isLine hD hG (show t ≤ g.1 by omega) c1'
      rcases h3 with ⟨hb, h3, h4⟩ | ⟨hb, h4⟩
      · have e2 : tX12_isMember_241 (z_A D t) = some (.inr (z_A D t')) := by
          simp only [tX12_isMember_241, z_A_at, e1, Option.bind_some, c1', Bool.false_eq_true, if_false, h1, hb, if_true]
        rw [q_run_go e2]
        exact (z_Z.pre (ih (g.1 - t') (by omega) t' (by omega)) h4).le (by omega)
      · have e2 : tX12_isMember_241 (z_A D t) = some (.inl (false, z_A D t')) := by
          simp only [tX12_isMember_241, z_A_at, e1, Option.bind_some, c1', Bool.false_eq_true, if_false, h1, hb]
        rw [q_run_ret e2]
        exact z_Z.bad h2 h4
/-- from the parameters on -/
theorem z_isPars (hD : z_D D n g) (hG : z_G n g) : ∀ m t, t + m = g.1 → z_Z D g (t + 1) t (1, [80, 82, 78, 123]) (1, []) (q_run tX12_isMember_131 (z_A D t)) := by
  have b1 := hG.1
  have b2 := hG.2.1
  intro m
  induction m using Nat.strongRecOn with
  | _ m ih =>
    intro t ht
    have hr := e_R_P (g := g) (t := t) (l := 1) (cs := [82, 78, 123]) (by omega)
    have e1 : fX12_is (z_A D t) (nI t) 1000074 = some (e_mark g t 41) := z_aM hD hG z_sEnd (by decide) (by omega)
    by_cases c1 : e_mark g t 41 = true
    · have hlt : t < g.1 := by
        refine Decidable.byContradiction (fun q => ?_)
        rw [e_mark_T q] at c1
        cases c1
      rw [if_pos c1] at hr
      refine z_Z.pre ?_ hr
      have ev : ((if e_word g (t + 1) w_none = true then some true else if e_typ g (t + 1) = true then some true else some false) : Option Bool) = some (e_typ g (t + 1) || e_word g (t + 1) w_none) := by
        cases e_typ g (t + 1) <;> cases e_word g (t + 1) w_none <;> rfl
      have e2 : tX12_isMember_131 (z_A D t) = ((fX12_takes (z_A D (t + 1)) (e_typ g (t + 1) || e_word g (t + 1) w_none)).bind fun r19 =>
        if r19.1 = true then
          (fX12_isNumber r19.2 ((r19.2.2.1 102 11))).bind fun r22 =>
          (fX12_takes r19.2 r22).bind fun r24 =>
          if r24.1 = true then
            (fX12_is r24.2 ((r24.2.2.1 102 11)) 1000062).bind fun r27 =>
            (fX12_takes r24.2 r27).bind fun r29 =>
            if r29.1 = true then
              (fX12_isMember_241 r29.2).bind fun r32 => some (.inl (r32))
            else
              some (.inl (((false, r29.2))))
          else
            some (.inl (((false, r24.2))))
        else
          some (.inl (((false, r19.2))))) := by
        simp only [tX12_isMember_131, z_A_at, e1, Option.bind_some, c1, if_true, z_A_at, nI_1, z_A_A, z_aW hD hG z_sNone2 (show t + 1 ≤ g.1 + 1 by omega), z_aT hD hG (show t + 1 ≤ g.1 + 1 by omega), ev]
      simp only [z_takes, Option.bind_some] at e2
      rcases z_par 82 1 [78, 123] (show t + 1 ≤ g.1 by omega) (by decide) with ⟨p1, q1, r1⟩ | ⟨p1, r1⟩ <;> rw [e_okp_R] at p1
      rotate_left
      · simp only [p1, Bool.false_eq_true, if_false] at e2
        rw [q_run_ret e2]
        exact z_Z.bad (by omega) r1
      refine z_Z.pre ?_ r1
      simp only [p1, if_true, z_A_at, z_aNum hD hG (show t + 1 + 1 ≤ g.1 + 1 by omega), Option.bind_some, z_takes] at e2
      rcases z_par 78 1 [123] (show t + 1 + 1 ≤ g.1 by omega) (by decide) with ⟨p2, q2, r2⟩ | ⟨p2, r2⟩ <;> rw [e_okp_N] at p2
      rotate_left
      · simp only [p2, Bool.false_eq_true, if_false] at e2
        rw [q_run_ret e2]
        exact z_Z.bad (by omega) r2
      refine z_Z.pre ?_ r2
      simp only [p2, if_true, z_A_at, z_aM hD hG z_sOpen (by decide) (show t + 1 + 1 + 1 ≤ g.1 + 1 by omega), Option.bind_some, z_takes] at e2
      rcases z_par 123 1 [] (show t + 1 + 1 + 1 ≤ g.1 by omega) (by decide) with ⟨p3, q3, r3⟩ | ⟨p3, r3⟩ <;> rw [e_okp_123] at p3
      rotate_left
      · simp only [p3, Bool.false_eq_true, if_false] at e2
        rw [q_run_ret e2]
        exact z_Z.bad (by omega) r3
      refine z_Z.pre ?_ r3
      simp only [p3, if_true] at e2
      obtain ⟨b, t', h1, h2, h3⟩ := z_isBody hD hG (g.1 - (t + 1 + 1 + 1 + 1)) (t + 1 + 1 + 1 + 1) (by omega)
      rw [fX12_isMember_241, h1, Option.bind_some] at e2
      rw [q_run_ret e2]
      exact ⟨b, t', rfl, h2, h3.imp (fun q => ⟨q.1, by omega, q.2.2⟩) id⟩
    · have c1' := Bool.eq_false_iff.mpr c1
      rw [if_neg c1] at hr
      have e2 : tX12_isMember_131 (z_A D t) = (if e_typ g t = true then some (.inr (z_A D (if e_typ g t = true then t + 1 else t))) else some (.inl (false, z_A D (if e_typ g t = true then t + 1 else t)))) := by
        simp only [tX12_isMember_131, z_A_at, e1, Option.bind_some, c1', Bool.false_eq_true, if_false, z_A_at, z_aT hD hG (show t ≤ g.1 + 1 by omega), z_takes]
      by_cases c2 : e_typ g t = true
      · have hlt : t < g.1 := by
          refine Decidable.byContradiction (fun q => ?_)
          rw [e_typ_T q] at c2
          cases c2
        rw [if_pos c2] at hr
        rw [if_pos c2, if_pos c2] at e2
        rw [q_run_go e2]
        exact (z_Z.pre (ih (g.1 - (t + 1)) (by omega) (t + 1) (by omega)) hr).le (by omega)
      · rw [if_neg c2] at hr
        rw [if_neg c2, if_neg c2] at e2
        rw [q_run_ret e2]
        exact z_Z.bad (by omega) hr
end ZSYN6
