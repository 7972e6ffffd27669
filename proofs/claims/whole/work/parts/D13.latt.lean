/-! ===== the order of types ===== -/
section ZANC
variable {g : ZT} {K : ZK}
theorem k_anc_trans (hK : k_K g K) {e d : Nat} : ∀ c, c < K.cc → k_anc K.cp e d = true → k_anc K.cp d c = true → k_anc K.cp e c = true := by
  intro c
  induction c using Nat.strongRecOn with
  | _ c ih =>
    intro hc h1 h2
    by_cases c0 : d = c
    · subst c0; exact h1
    · by_cases z : c = 0
      · subst z; rw [k_anc_0 c0] at h2; cases h2
      · have hcp := hK.2.2.1 c (by omega) hc
        rw [k_anc_up c0 (by omega) hcp] at h2
        have := ih (K.cp c) hcp (by omega) h1 h2
        by_cases c1 : e = c
        · subst c1; exact k_anc_self _ _
        · rw [k_anc_up c1 (by omega) hcp]; exact this
theorem k_anc_cmp (hK : k_K g K) {e d : Nat} : ∀ c, c < K.cc → k_anc K.cp d c = true → k_anc K.cp e c = true → d ≤ e → k_anc K.cp d e = true := by
  intro c
  induction c using Nat.strongRecOn with
  | _ c ih =>
    intro hc h1 h2 hde
    by_cases c0 : e = c
    · subst c0; exact h1
    · by_cases z : c = 0
      · subst z; rw [k_anc_0 c0] at h2; cases h2
      · have hcp := hK.2.2.1 c (by omega) hc
        have l := k_anc_le c h2
        rw [k_anc_up c0 (by omega) hcp] at h2
        have c1 : d ≠ c := by omega
        rw [k_anc_up c1 (by omega) hcp] at h1
        exact ih (K.cp c) hcp (by omega) h1 h2 hde
theorem k_anc_root (hK : k_K g K) : ∀ c, c < K.cc → k_anc K.cp 0 c = true := by
  intro c
  induction c using Nat.strongRecOn with
  | _ c ih =>
    intro hc
    by_cases z : c = 0
    · subst z; exact k_anc_self _ _
    · have hcp := hK.2.2.1 c (by omega) hc
      rw [k_anc_up (by omega) (by omega) hcp]
      exact ih _ hcp (by omega)
/-- the nearest class above two -/
def k_nr (K : ZK) (a b : Nat) : Nat := (k_lst (fun d => k_anc K.cp d a && k_anc K.cp d b) 32).getD 0
theorem k_nr_is (hK : k_K g K) {a b : Nat} (ha : a < K.cc) (hb : b < K.cc) : k_anc K.cp (k_nr K a b) a = true ∧ k_anc K.cp (k_nr K a b) b = true ∧ ∀ d, k_anc K.cp d a = true → k_anc K.cp d b = true → d ≤ k_nr K a b := by
  have h32 := hK.2.1
  rw [k_nr]
  cases h : k_lst (fun d => k_anc K.cp d a && k_anc K.cp d b) 32 with
  | none =>
    have := k_lst_none _ h 0 (by omega)
    simp only [k_anc_root hK a ha, k_anc_root hK b hb] at this
    cases this
  | some d =>
    obtain ⟨x1, x2, x3⟩ := k_lst_some _ h
    rw [Bool.and_eq_true] at x2
    refine ⟨x2.1, x2.2, fun e e1 e2 => ?_⟩
    show e ≤ d
    have l := k_anc_le _ e1
    by_cases c : e ≤ d
    · exact c
    · have := x3 e (by omega) (by omega)
      simp only [e1, e2] at this
      cases this
theorem k_nr_lt (hK : k_K g K) {a b : Nat} (ha : a < K.cc) (hb : b < K.cc) : k_nr K a b < K.cc := by
  have := k_anc_le _ (k_nr_is hK ha hb).1
  omega
def k_cc (K : ZK) (d c : Nat) : Bool := decide (d < K.cc) && (decide (c < K.cc) && k_anc K.cp d c)
/-- is x below y -/
def k_blw (K : ZK) (x y : Nat) : Bool := decide (x = y) || (decide (y = 67) || (decide (x ≤ 65) && (decide (y ≤ 65) && (decide (x = 65) || (decide (y = 0) || (k_cc K y x || (decide (32 ≤ x) && (decide (32 ≤ y) && k_cc K (y - 32) (x - 32)))))))))
/-- types of values -/
def k_vt (K : ZK) (x : Nat) : Prop := k_tok K x ∨ x = 65 ∨ x = 67
def k_jn (K : ZK) (x y : Nat) : Nat := if k_blw K x y = true then y else if k_blw K y x = true then x else if 65 < x ∨ 65 < y then 67 else if x < 32 ∧ y < 32 then k_nr K x y else if (32 ≤ x ∧ x < 64) ∧ 32 ≤ y ∧ y < 64 then 32 + k_nr K (x - 32) (y - 32) else 0
theorem k_vt_lt (hK : k_K g K) {x : Nat} (h : k_vt K x) : x ≤ 67 := by
  rcases h with h | h | h
  · have := k_tok_lt hK h; omega
  · omega
  · omega
theorem k_blw_refl (x : Nat) : k_blw K x x = true := by rw [k_blw, decide_eq_true rfl]; rfl
theorem k_blw_67 (x : Nat) : k_blw K x 67 = true := by rw [k_blw, decide_eq_true (show 67 = 67 from rfl)]; simp
/-- the order, said plainly -/
theorem k_blw_iff {x y : Nat} : k_blw K x y = true ↔ x = y ∨ y = 67 ∨ (x ≤ 65 ∧ y ≤ 65 ∧ (x = 65 ∨ y = 0 ∨ (y < K.cc ∧ x < K.cc ∧ k_anc K.cp y x = true) ∨ (32 ≤ x ∧ 32 ≤ y ∧ y - 32 < K.cc ∧ x - 32 < K.cc ∧ k_anc K.cp (y - 32) (x - 32) = true))) := by
  simp only [k_blw, k_cc, Bool.or_eq_true, Bool.and_eq_true, decide_eq_true_eq]
theorem k_blw_trans (hK : k_K g K) {x y z : Nat} (h1 : k_blw K x y = true) (h2 : k_blw K y z = true) : k_blw K x z = true := by
  have h32 := hK.2.1
  rw [k_blw_iff] at h1 h2 ⊢
  rcases h2 with rfl | h2 | ⟨a1, a2, a3⟩
  · exact h1
  · exact Or.inr (Or.inl h2)
  · rcases h1 with rfl | h1 | ⟨b1, b2, b3⟩
    · exact Or.inr (Or.inr ⟨a1, a2, a3⟩)
    · omega
    · refine Or.inr (Or.inr ⟨b1, a2, ?_⟩)
      rcases a3 with a3 | a3 | ⟨c1, c2, c3⟩ | ⟨c1, c2, c3, c4, c5⟩
      · rcases b3 with b3 | b3 | ⟨d1, d2, d3⟩ | ⟨d1, d2, d3, d4, d5⟩
        · exact Or.inl b3
        · omega
        · omega
        · omega
      · exact Or.inr (Or.inl a3)
      · rcases b3 with b3 | b3 | ⟨d1, d2, d3⟩ | ⟨d1, d2, d3, d4, d5⟩
        · exact Or.inl b3
        · subst b3
          have := k_anc_le _ c3
          exact Or.inr (Or.inl (by omega))
        · exact Or.inr (Or.inr (Or.inl ⟨c1, d2, k_anc_trans hK x d2 c3 d3⟩))
        · omega
      · rcases b3 with b3 | b3 | ⟨d1, d2, d3⟩ | ⟨d1, d2, d3, d4, d5⟩
        · exact Or.inl b3
        · omega
        · omega
        · exact Or.inr (Or.inr (Or.inr ⟨d1, c2, c3, d4, k_anc_trans hK _ d4 c5 d5⟩))
theorem k_blw_anti {x y : Nat} (h1 : k_blw K x y = true) (h2 : k_blw K y x = true) : x = y := by
  rw [k_blw_iff] at h1 h2
  rcases h1 with h1 | h1 | ⟨a1, a2, a3⟩
  · exact h1
  · rcases h2 with h2 | h2 | ⟨b1, b2, b3⟩
    · exact h2.symm
    · omega
    · omega
  · rcases h2 with h2 | h2 | ⟨b1, b2, b3⟩
    · exact h2.symm
    · omega
    · rcases a3 with a3 | a3 | ⟨c1, c2, c3⟩ | ⟨c1, c2, c3, c4, c5⟩
      · rcases b3 with b3 | b3 | ⟨d1, d2, d3⟩ | ⟨d1, d2, d3, d4, d5⟩
        · omega
        · omega
        · have := k_anc_le _ d3; omega
        · have := k_anc_le _ d5; omega
      · rcases b3 with b3 | b3 | ⟨d1, d2, d3⟩ | ⟨d1, d2, d3, d4, d5⟩
        · omega
        · omega
        · have := k_anc_le _ d3; omega
        · omega
      · rcases b3 with b3 | b3 | ⟨d1, d2, d3⟩ | ⟨d1, d2, d3, d4, d5⟩
        · have := k_anc_le _ c3; omega
        · have := k_anc_le _ c3; omega
        · have := k_anc_le _ c3; have := k_anc_le _ d3; omega
        · have := k_anc_le _ c3; have := k_anc_le _ d5; omega
      · rcases b3 with b3 | b3 | ⟨d1, d2, d3⟩ | ⟨d1, d2, d3, d4, d5⟩
        · have := k_anc_le _ c5; omega
        · omega
        · have := k_anc_le _ c5; have := k_anc_le _ d3; omega
        · have := k_anc_le _ c5; have := k_anc_le _ d5; omega
theorem k_jn_vt (hK : k_K g K) {x y : Nat} (hx : k_vt K x) (hy : k_vt K y) : k_vt K (k_jn K x y) := by
  have h8 := hK.1
  have h32 := hK.2.1
  rw [k_jn]
  split
  · exact hy
  · split
    · exact hx
    · split
      · exact Or.inr (Or.inr rfl)
      · split
        · next h =>
          have hx' : x < K.cc := by
            rcases hx with (h' | h' | h' | h') | h' | h' <;> omega
          have hy' : y < K.cc := by
            rcases hy with (h' | h' | h' | h') | h' | h' <;> omega
          exact Or.inl (Or.inl (k_nr_lt hK hx' hy'))
        · split
          · next h =>
            have hx' : x - 32 < K.cc := by
              rcases hx with (h' | h' | h' | h') | h' | h' <;> omega
            have hy' : y - 32 < K.cc := by
              rcases hy with (h' | h' | h' | h') | h' | h' <;> omega
            have := k_nr_lt hK hx' hy'
            exact Or.inl (Or.inr (Or.inl ⟨by omega, by omega⟩))
          · exact Or.inl (Or.inl (by omega))
theorem k_jn_ub (hK : k_K g K) {x y : Nat} (hx : k_vt K x) (hy : k_vt K y) : k_blw K x (k_jn K x y) = true ∧ k_blw K y (k_jn K x y) = true := by
  have h8 := hK.1
  have h32 := hK.2.1
  rw [k_jn]
  split
  · next h => exact ⟨h, k_blw_refl _⟩
  · split
    · next h => exact ⟨k_blw_refl _, h⟩
    · split
      · exact ⟨k_blw_67 _, k_blw_67 _⟩
      · next n1 n2 n3 =>
        split
        · next h =>
          have hx' : x < K.cc := by
            rcases hx with (h' | h' | h' | h') | h' | h' <;> omega
          have hy' : y < K.cc := by
            rcases hy with (h' | h' | h' | h') | h' | h' <;> omega
          obtain ⟨z1, z2, z3⟩ := k_nr_is hK hx' hy'
          have z4 := k_nr_lt hK hx' hy'
          exact ⟨k_blw_iff.mpr (Or.inr (Or.inr ⟨by omega, by omega, Or.inr (Or.inr (Or.inl ⟨z4, hx', z1⟩))⟩)), k_blw_iff.mpr (Or.inr (Or.inr ⟨by omega, by omega, Or.inr (Or.inr (Or.inl ⟨z4, hy', z2⟩))⟩))⟩
        · split
          · next h =>
            have hx' : x - 32 < K.cc := by
              rcases hx with (h' | h' | h' | h') | h' | h' <;> omega
            have hy' : y - 32 < K.cc := by
              rcases hy with (h' | h' | h' | h') | h' | h' <;> omega
            obtain ⟨z1, z2, z3⟩ := k_nr_is hK hx' hy'
            have z4 := k_nr_lt hK hx' hy'
            exact ⟨k_blw_iff.mpr (Or.inr (Or.inr ⟨by omega, by omega, Or.inr (Or.inr (Or.inr ⟨by omega, by omega, by rw [Nat.add_sub_cancel_left]; exact z4, hx', by rw [Nat.add_sub_cancel_left]; exact z1⟩))⟩)), k_blw_iff.mpr (Or.inr (Or.inr ⟨by omega, by omega, Or.inr (Or.inr (Or.inr ⟨by omega, by omega, by rw [Nat.add_sub_cancel_left]; exact z4, hy', by rw [Nat.add_sub_cancel_left]; exact z2⟩))⟩))⟩
          · exact ⟨k_blw_iff.mpr (Or.inr (Or.inr ⟨by omega, by omega, Or.inr (Or.inl rfl)⟩)), k_blw_iff.mpr (Or.inr (Or.inr ⟨by omega, by omega, Or.inr (Or.inl rfl)⟩))⟩
theorem k_jn_lub (hK : k_K g K) {x y z : Nat} (hx : k_vt K x) (hy : k_vt K y) (h1 : k_blw K x z = true) (h2 : k_blw K y z = true) : k_blw K (k_jn K x y) z = true := by
  have h8 := hK.1
  have h32 := hK.2.1
  rw [k_jn]
  split
  · exact h2
  · split
    · exact h1
    · next n1 n2 =>
      have n1' : ¬ x = y := fun e => n1 (by rw [e]; exact k_blw_refl _)
      rw [k_blw_iff] at h1 h2
      rcases h1 with h1 | h1 | ⟨a1, a2, a3⟩
      · subst h1; exact absurd (k_blw_iff.mpr h2) n2
      · subst h1; exact k_blw_67 _
      · rcases h2 with h2 | h2 | ⟨b1, b2, b3⟩
        · subst h2; exact absurd (k_blw_iff.mpr (Or.inr (Or.inr ⟨a1, a2, a3⟩))) n1
        · subst h2; exact k_blw_67 _
        · rw [if_neg (by omega)]
          have hx65 : x ≠ 65 := fun e => n1 (k_blw_iff.mpr (Or.inr (Or.inr ⟨a1, b1, Or.inl e⟩)))
          have hy65 : y ≠ 65 := fun e => n2 (k_blw_iff.mpr (Or.inr (Or.inr ⟨b1, a1, Or.inl e⟩)))
          have go0 : z = 0 → ∀ w, w ≤ 65 → k_blw K w z = true := fun e w hw => k_blw_iff.mpr (Or.inr (Or.inr ⟨hw, a2, Or.inr (Or.inl e)⟩))
          split
          · next h =>
            have hx' : x < K.cc := by
              rcases hx with (h' | h' | h' | h') | h' | h' <;> omega
            have hy' : y < K.cc := by
              rcases hy with (h' | h' | h' | h') | h' | h' <;> omega
            have z4 := k_nr_lt hK hx' hy'
            by_cases z0 : z = 0
            · exact go0 z0 _ (by omega)
            · rcases a3 with a3 | a3 | ⟨c1, c2, c3⟩ | ⟨c1, -⟩
              · omega
              · omega
              · rcases b3 with b3 | b3 | ⟨d1, d2, d3⟩ | ⟨d1, -⟩
                · omega
                · omega
                · obtain ⟨e1, e2, e3⟩ := k_nr_is hK hx' hy'
                  exact k_blw_iff.mpr (Or.inr (Or.inr ⟨by omega, a2, Or.inr (Or.inr (Or.inl ⟨c1, z4, k_anc_cmp hK x hx' c3 e1 (e3 z c3 d3)⟩))⟩))
                · omega
              · omega
          · next nh =>
            split
            · next h =>
              have hx' : x - 32 < K.cc := by
                rcases hx with (h' | h' | h' | h') | h' | h' <;> omega
              have hy' : y - 32 < K.cc := by
                rcases hy with (h' | h' | h' | h') | h' | h' <;> omega
              have z4 := k_nr_lt hK hx' hy'
              by_cases z0 : z = 0
              · exact go0 z0 _ (by omega)
              · rcases a3 with a3 | a3 | ⟨c1, c2, c3⟩ | ⟨c1, c2, c3, c4, c5⟩
                · omega
                · omega
                · omega
                · rcases b3 with b3 | b3 | ⟨d1, d2, d3⟩ | ⟨d1, d2, d3, d4, d5⟩
                  · omega
                  · omega
                  · omega
                  · obtain ⟨e1, e2, e3⟩ := k_nr_is hK hx' hy'
                    exact k_blw_iff.mpr (Or.inr (Or.inr ⟨by omega, a2, Or.inr (Or.inr (Or.inr ⟨by omega, c2, c3, by rw [Nat.add_sub_cancel_left]; exact z4, by rw [Nat.add_sub_cancel_left]; exact k_anc_cmp hK _ hx' c5 e1 (e3 _ c5 d5)⟩))⟩))
            · next nh2 =>
              -- nothing but Object is above both
              by_cases z0 : z = 0
              · rw [z0]; exact k_blw_refl _
              · exfalso
                rcases a3 with a3 | a3 | ⟨c1, c2, c3⟩ | ⟨c1, c2, c3, c4, c5⟩
                · omega
                · omega
                · rcases b3 with b3 | b3 | ⟨d1, d2, d3⟩ | ⟨d1, d2, d3, d4, d5⟩ <;> omega
                · rcases b3 with b3 | b3 | ⟨d1, d2, d3⟩ | ⟨d1, d2, d3, d4, d5⟩ <;> omega
/-- how high a type stands -/
def k_rk (x : Nat) : Nat := if x = 65 then 0 else if x = 67 then 34 else if x = 66 then 1 else if x = 0 then 33 else if x < 32 then 32 - x else if x < 64 then 64 - x else 1
theorem k_rk_le (x : Nat) : k_rk x ≤ 34 := by
  rw [k_rk]
  repeat' split
  all_goals omega
theorem k_rk_33 {x : Nat} (h : x ≠ 67) : k_rk x ≤ 33 := by
  rw [k_rk, if_neg h]
  repeat' split
  all_goals omega
theorem k_rk_32 {x : Nat} (h : x ≠ 67) (h0 : x ≠ 0) : k_rk x ≤ 32 := by
  rw [k_rk, if_neg h, if_neg h0]
  repeat' split
  all_goals omega
theorem k_rk_0 {x : Nat} (h : x ≠ 65) : 0 < k_rk x := by
  rw [k_rk, if_neg h]
  repeat' split
  all_goals omega
theorem k_rk_c {x : Nat} (h : x < 32) (h0 : x ≠ 0) : k_rk x = 32 - x := by
  rw [k_rk, if_neg (by omega), if_neg (by omega), if_neg (by omega), if_neg h0, if_pos h]
theorem k_rk_a {x : Nat} (h : 32 ≤ x) (h0 : x < 64) : k_rk x = 64 - x := by
  rw [k_rk, if_neg (by omega), if_neg (by omega), if_neg (by omega), if_neg (by omega), if_neg (by omega), if_pos h0]
theorem k_rk_lt {x y : Nat} (hK : k_K g K) (h : k_blw K x y = true) (hne : x ≠ y) : k_rk x < k_rk y := by
  have h32 := hK.2.1
  rw [k_blw_iff] at h
  rcases h with h | h | ⟨a1, a2, a3⟩
  · exact absurd h hne
  · subst h
    have := k_rk_33 hne
    rw [show k_rk 67 = 34 from rfl]
    omega
  · rcases a3 with a3 | a3 | ⟨c1, c2, c3⟩ | ⟨c1, c2, c3, c4, c5⟩
    · subst a3
      rw [show k_rk 65 = 0 from rfl]
      exact k_rk_0 (fun e => hne e.symm)
    · subst a3
      have := k_rk_32 (x := x) (by omega) hne
      rw [show k_rk 0 = 33 from rfl]
      omega
    · have l := k_anc_le _ c3
      by_cases y0 : y = 0
      · subst y0
        have := k_rk_32 (x := x) (by omega) hne
        rw [show k_rk 0 = 33 from rfl]
        omega
      · rw [k_rk_c (by omega) (by omega), k_rk_c (by omega) y0]
        omega
    · have l := k_anc_le _ c5
      rw [k_rk_a c1 (by omega), k_rk_a c2 (by omega)]
      omega
end ZANC
