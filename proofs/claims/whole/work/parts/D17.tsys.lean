/-! ===== types: the system ===== -/
def k_rle (K : ZK) (w : Nat) (r r' : Nat → Nat) : Prop := ∀ s, s < w → k_blw K (r s) (r' s) = true
def k_rvt (K : ZK) (w : Nat) (r : Nat → Nat) : Prop := ∀ s, s < w → k_vt K (r s)
theorem k_rle.refl {K : ZK} {w : Nat} (r : Nat → Nat) : k_rle K w r r := fun _ _ => k_blw_refl _
theorem k_rle.trans {g : ZT} {K : ZK} {w : Nat} {r r' r'' : Nat → Nat} (hK : k_K g K) (h : k_rle K w r r') (h' : k_rle K w r' r'') : k_rle K w r r'' := fun s hs => k_blw_trans hK (h s hs) (h' s hs)
theorem k_rle.anti {K : ZK} {w : Nat} {r r' : Nat → Nat} (h : k_rle K w r r') (h' : k_rle K w r' r) : ∀ s, s < w → r s = r' s := fun s hs => k_blw_anti (h s hs) (h' s hs)
/-- the type of an array's elements -/
def k_el (x : Nat) : Nat := if x = 64 then 66 else if x = 65 then 68 else if 32 ≤ x ∧ x < 64 then x - 32 else 67
theorem k_el_vt {g : ZT} {K : ZK} {x : Nat} (hK : k_K g K) (h : k_vt K x) (hn : x ≠ 65) : k_vt K (k_el x) := by
  have h32 := hK.2.1
  rw [k_el]
  split
  · exact Or.inl (Or.inr (Or.inr (Or.inr rfl)))
  · split
    · next c => exact Or.inl (Or.inl ((k_vt_cl hK h).2 c.1 c.2))
    · exact Or.inr (Or.inr rfl)
theorem k_el_mono {g : ZT} {K : ZK} {x y : Nat} (hK : k_K g K) (h : k_blw K x y = true) (hn : x ≠ 65) (hv : k_vt K y) : k_blw K (k_el x) (k_el y) = true := by
  have h32 := hK.2.1
  have h' := k_blw_iff.mp h
  rcases h' with e | e | ⟨a1, a2, a3⟩
  · rw [e]; exact k_blw_refl _
  · rw [e]; exact k_blw_67 _
  · rcases a3 with a3 | a3 | ⟨c1, c2, c3⟩ | ⟨c1, c2, c3, c4, c5⟩
    · exact absurd a3 hn
    · rw [a3]; exact k_blw_67 _
    · rw [show k_el y = 67 by rw [k_el, if_neg (by omega), if_neg (by omega), if_neg (by omega)]]
      exact k_blw_67 _
    · rw [k_el, if_neg (by omega), if_neg (by omega), if_pos (by omega), k_el, if_neg (by omega), if_neg (by omega), if_pos (by omega)]
      exact k_blw_iff.mpr (Or.inr (Or.inr ⟨by omega, by omega, Or.inr (Or.inr (Or.inl ⟨c3, c4, c5⟩))⟩))
def k_xa (P : ZP) (i : Nat) : Nat := (P.xa i).toNatClampNeg
/-- the type that an instruction leaves, where it is told -/
def k_lf (M : ZM) (P : ZP) (i : Nat) : Nat := if P.op i = 1 then 65 else if P.op i = 30 ∨ P.op i = 31 ∨ P.op i = 37 then k_xa P i else if P.op i = 35 then M.ft (k_xa P i) else if P.op i = 39 ∨ P.op i = 40 then M.br (k_fb P i) else 66
def k_hN (hh : Nat → Int32) (i : Nat) : Nat := (hh i).toNatClampNeg
def k_wd (hh : Nat → Int32) (i : Nat) : Nat := 12 + k_hN hh i
/-- the row behind an instruction -/
def k_tr (M : ZM) (P : ZP) (hh : Nat → Int32) (i : Nat) (r : Nat → Nat) : Option (Nat → Nat) :=
  if P.op i = 2 then some (k_up r (k_wd hh i) (r (k_xa P i)))
  else if P.op i = 3 then some (k_up r (k_xa P i) (r (k_wd hh i - 1)))
  else if P.op i = 5 then some (k_up r (k_wd hh i) (r (k_wd hh i - 1)))
  else if P.op i = 7 then some (k_up (k_up r (k_wd hh i - 2) (r (k_wd hh i - 1))) (k_wd hh i - 1) (r (k_wd hh i - 2)))
  else if P.op i = 33 then (if r (k_wd hh i - 2) = 65 then none else some (k_up r (k_wd hh i - 2) (k_el (r (k_wd hh i - 2)))))
  else if k_lv M P i = 1 then some (k_up r (k_wd hh i - k_tk M P i) (k_lf M P i)) else some r
/-- the height is told, and right -/
def k_hi (M : ZM) (P : ZP) (hh : Nat → Int32) (i : Nat) : Prop := k_hN hh i ≤ 8 ∧ hh i = nI (k_hN hh i) ∧ k_tk M P i ≤ k_hN hh i ∧ k_hN hh i + k_lv M P i ≤ 8 + k_tk M P i
def k_w' (M : ZM) (P : ZP) (hh : Nat → Int32) (i : Nat) : Nat := k_wd hh i - k_tk M P i + k_lv M P i
section ZTR
variable {C D : QS} {n p q m : Nat} {g : ZT} {K : ZK} {M : ZM} {P : ZP} {hh : Nat → Int32} {i : Nat}
theorem k_tk_at (k : Nat) (h : P.op i = k) (h1 : k ≠ 39) (h2 : k ≠ 40) : k_tk M P i = tb_T.getD k 0 ∧ k_lv M P i = tb_L.getD k 0 := by
  rw [k_tk, k_lv, h, if_neg (by omega), if_neg (by omega)]
  exact ⟨rfl, rfl⟩
theorem k_lf_vt (hK : k_K g K) (N : s_N p q n g K M P m C D) (hi : i < P.n) (hl : k_lv M P i = 1) : k_vt K (k_lf M P i) := by
  have w := N.S.wI i hi
  have h32 := hK.2.1
  have h48 := N.S.mJ.mB.1
  have f48 := N.S.mJ.mF.1
  rw [k_lf]
  split
  · exact Or.inr (Or.inl rfl)
  · split
    · next c =>
      rcases c with c | c | c
      · obtain ⟨x, x1, x2, -⟩ := w.oN c
        rw [k_xa, x1, z_cl (by omega)]
        exact Or.inl (Or.inl x2)
      · obtain ⟨x, x1, x2, -⟩ := w.oA c
        rw [k_xa, x1, z_cl (by omega)]
        rcases x2 with x2 | x2
        · exact Or.inl (Or.inr (Or.inl x2))
        · exact Or.inl (Or.inr (Or.inr (Or.inl x2)))
      · obtain ⟨x, x1, x2, x3, -⟩ := w.oT (Or.inl c)
        have := k_tok_lt hK x3
        rw [k_xa, x1, z_cl (by omega)]
        exact Or.inl x3
    · split
      · next c =>
        obtain ⟨f, cc, x1, x2, x3, x4, -⟩ := w.oF (Or.inl c)
        rw [k_xa, x1, z_cl (by omega)]
        exact Or.inl (N.S.mJ.ft f x4)
      · split
        · next c =>
          obtain ⟨f, cc, x1, x2, x3, x4, -⟩ := w.oB c
          rw [k_lv, if_pos c, k_fb_of (by omega) x1] at hl
          rw [k_fb_of (by omega) x1]
          rcases k_br_rng hK N.S.mJ x4 with h | h
          · rw [if_pos h] at hl; cases hl
          · exact Or.inl h
        · exact Or.inl (Or.inr (Or.inr (Or.inr rfl)))
/-- locals that an instruction names are there -/
theorem k_xa_12 (N : s_N p q n g K M P m C D) (hi : i < P.n) (h : P.op i = 2 ∨ P.op i = 3 ∨ P.op i = 4) : k_xa P i < 12 ∧ P.xa i = nI (k_xa P i) ∧ P.ya i = nI (k_xa P i) := by
  have w := N.S.wI i hi
  obtain ⟨x1, k, x2, x3⟩ := w.oK h
  obtain ⟨e, H⟩ := N.S.mJ.hd (P.bd i) w.bd
  have := H.b12
  rw [k_xa, x2, z_cl (by omega)]
  exact ⟨by omega, rfl, x1 ▸ x2⟩
theorem k_tr_mono {r r' : Nat → Nat} (hK : k_K g K) (N : s_N p q n g K M P m C D) (hi : i < P.n) (hH : k_hi M P hh i) (hv : k_rvt K (k_wd hh i) r') (h : k_rle K (k_wd hh i) r r') {q1 : Nat → Nat} (ht : k_tr M P hh i r = some q1) : ∃ q2, k_tr M P hh i r' = some q2 ∧ k_rle K (k_w' M P hh i) q1 q2 := by
  obtain ⟨h1, h2, h3, h4⟩ := hH
  have hw : k_wd hh i = 12 + k_hN hh i := rfl
  have hw' : k_w' M P hh i = k_wd hh i - k_tk M P i + k_lv M P i := rfl
  rw [k_tr] at ht ⊢
  by_cases c2 : P.op i = 2
  · obtain ⟨t1, t2⟩ := k_tk_at (M := M) 2 c2 (by decide) (by decide)
    have t1 : k_tk M P i = 0 := t1
    have t2 : k_lv M P i = 1 := t2
    have a12 := (k_xa_12 N hi (Or.inl c2)).1
    rw [if_pos c2] at ht ⊢
    cases ht
    refine ⟨_, rfl, fun s hs => ?_⟩
    by_cases e : s = k_wd hh i
    · subst e; rw [k_up_eq, k_up_eq]; exact h _ (by omega)
    · rw [k_up_ne e, k_up_ne e]; exact h s (by omega)
  rw [if_neg c2] at ht ⊢
  by_cases c3 : P.op i = 3
  · obtain ⟨t1, t2⟩ := k_tk_at (M := M) 3 c3 (by decide) (by decide)
    have t1 : k_tk M P i = 1 := t1
    have t2 : k_lv M P i = 0 := t2
    rw [if_pos c3] at ht ⊢
    cases ht
    refine ⟨_, rfl, fun s hs => ?_⟩
    by_cases e : s = k_xa P i
    · subst e; rw [k_up_eq, k_up_eq]; exact h _ (by omega)
    · rw [k_up_ne e, k_up_ne e]; exact h s (by omega)
  rw [if_neg c3] at ht ⊢
  by_cases c5 : P.op i = 5
  · obtain ⟨t1, t2⟩ := k_tk_at (M := M) 5 c5 (by decide) (by decide)
    have t1 : k_tk M P i = 1 := t1
    have t2 : k_lv M P i = 2 := t2
    rw [if_pos c5] at ht ⊢
    cases ht
    refine ⟨_, rfl, fun s hs => ?_⟩
    by_cases e : s = k_wd hh i
    · subst e; rw [k_up_eq, k_up_eq]; exact h _ (by omega)
    · rw [k_up_ne e, k_up_ne e]; exact h s (by omega)
  rw [if_neg c5] at ht ⊢
  by_cases c7 : P.op i = 7
  · obtain ⟨t1, t2⟩ := k_tk_at (M := M) 7 c7 (by decide) (by decide)
    have t1 : k_tk M P i = 2 := t1
    have t2 : k_lv M P i = 2 := t2
    rw [if_pos c7] at ht ⊢
    cases ht
    refine ⟨_, rfl, fun s hs => ?_⟩
    by_cases e : s = k_wd hh i - 1
    · subst e; rw [k_up_eq, k_up_eq]; exact h _ (by omega)
    · rw [k_up_ne e, k_up_ne e]
      by_cases e2 : s = k_wd hh i - 2
      · subst e2; rw [k_up_eq, k_up_eq]; exact h _ (by omega)
      · rw [k_up_ne e2, k_up_ne e2]; exact h s (by omega)
  rw [if_neg c7] at ht ⊢
  by_cases c33 : P.op i = 33
  · obtain ⟨t1, t2⟩ := k_tk_at (M := M) 33 c33 (by decide) (by decide)
    have t1 : k_tk M P i = 2 := t1
    have t2 : k_lv M P i = 1 := t2
    rw [if_pos c33] at ht ⊢
    by_cases e65 : r (k_wd hh i - 2) = 65
    · rw [if_pos e65] at ht; cases ht
    · rw [if_neg e65] at ht
      cases ht
      have hb := h (k_wd hh i - 2) (by omega)
      have e65' : ¬ r' (k_wd hh i - 2) = 65 := by
        intro e
        rw [e, k_blw_iff] at hb
        rcases hb with x | x | ⟨x1, x2, x3⟩
        · exact e65 x
        · omega
        · have h32 := hK.2.1
          rcases x3 with x3 | x3 | x3 | x3 <;> omega
      rw [if_neg e65']
      refine ⟨_, rfl, fun s hs => ?_⟩
      by_cases e : s = k_wd hh i - 2
      · subst e; rw [k_up_eq, k_up_eq]; exact k_el_mono hK hb e65 (hv _ (by omega))
      · rw [k_up_ne e, k_up_ne e]; exact h s (by omega)
  rw [if_neg c33] at ht ⊢
  by_cases cl : k_lv M P i = 1
  · rw [if_pos cl] at ht ⊢
    cases ht
    refine ⟨_, rfl, fun s hs => ?_⟩
    by_cases e : s = k_wd hh i - k_tk M P i
    · subst e; rw [k_up_eq, k_up_eq]; exact k_blw_refl _
    · rw [k_up_ne e, k_up_ne e]; exact h s (by omega)
  · rw [if_neg cl] at ht ⊢
    cases ht
    have hl : k_lv M P i = 0 := by
      have hl2 := (k_tk_le N.S hi).2
      by_cases e : k_lv M P i = 2
      · exfalso
        have w := (N.S.wI i hi).op
        rw [k_lv] at e
        split at e
        · split at e <;> omega
        · have : ∀ k : Fin 46, tb_L.getD k 0 = 2 → k.1 = 5 ∨ k.1 = 7 := by decide +kernel
          rcases this ⟨P.op i, w⟩ e with h | h
          · exact c5 h
          · exact c7 h
      · omega
    exact ⟨_, rfl, fun s hs => h s (by omega)⟩
theorem k_tr_vt {r : Nat → Nat} (hK : k_K g K) (N : s_N p q n g K M P m C D) (hi : i < P.n) (hH : k_hi M P hh i) (hv : k_rvt K (k_wd hh i) r) {q1 : Nat → Nat} (ht : k_tr M P hh i r = some q1) : k_rvt K (k_w' M P hh i) q1 := by
  obtain ⟨h1, h2, h3, h4⟩ := hH
  have hw : k_wd hh i = 12 + k_hN hh i := rfl
  have hw' : k_w' M P hh i = k_wd hh i - k_tk M P i + k_lv M P i := rfl
  rw [k_tr] at ht
  by_cases c2 : P.op i = 2
  · obtain ⟨t1, t2⟩ := k_tk_at (M := M) 2 c2 (by decide) (by decide)
    have t1 : k_tk M P i = 0 := t1
    have t2 : k_lv M P i = 1 := t2
    have a12 := (k_xa_12 N hi (Or.inl c2)).1
    rw [if_pos c2] at ht
    cases ht
    intro s hs
    by_cases e : s = k_wd hh i
    · subst e; rw [k_up_eq]; exact hv _ (by omega)
    · rw [k_up_ne e]; exact hv s (by omega)
  rw [if_neg c2] at ht
  by_cases c3 : P.op i = 3
  · obtain ⟨t1, t2⟩ := k_tk_at (M := M) 3 c3 (by decide) (by decide)
    have t1 : k_tk M P i = 1 := t1
    have t2 : k_lv M P i = 0 := t2
    rw [if_pos c3] at ht
    cases ht
    intro s hs
    by_cases e : s = k_xa P i
    · subst e; rw [k_up_eq]; exact hv _ (by omega)
    · rw [k_up_ne e]; exact hv s (by omega)
  rw [if_neg c3] at ht
  by_cases c5 : P.op i = 5
  · obtain ⟨t1, t2⟩ := k_tk_at (M := M) 5 c5 (by decide) (by decide)
    have t1 : k_tk M P i = 1 := t1
    have t2 : k_lv M P i = 2 := t2
    rw [if_pos c5] at ht
    cases ht
    intro s hs
    by_cases e : s = k_wd hh i
    · subst e; rw [k_up_eq]; exact hv _ (by omega)
    · rw [k_up_ne e]; exact hv s (by omega)
  rw [if_neg c5] at ht
  by_cases c7 : P.op i = 7
  · obtain ⟨t1, t2⟩ := k_tk_at (M := M) 7 c7 (by decide) (by decide)
    have t1 : k_tk M P i = 2 := t1
    have t2 : k_lv M P i = 2 := t2
    rw [if_pos c7] at ht
    cases ht
    intro s hs
    by_cases e : s = k_wd hh i - 1
    · subst e; rw [k_up_eq]; exact hv _ (by omega)
    · rw [k_up_ne e]
      by_cases e2 : s = k_wd hh i - 2
      · subst e2; rw [k_up_eq]; exact hv _ (by omega)
      · rw [k_up_ne e2]; exact hv s (by omega)
  rw [if_neg c7] at ht
  by_cases c33 : P.op i = 33
  · obtain ⟨t1, t2⟩ := k_tk_at (M := M) 33 c33 (by decide) (by decide)
    have t1 : k_tk M P i = 2 := t1
    have t2 : k_lv M P i = 1 := t2
    rw [if_pos c33] at ht
    by_cases e65 : r (k_wd hh i - 2) = 65
    · rw [if_pos e65] at ht; cases ht
    · rw [if_neg e65] at ht
      cases ht
      intro s hs
      by_cases e : s = k_wd hh i - 2
      · subst e; rw [k_up_eq]; exact k_el_vt hK (hv _ (by omega)) e65
      · rw [k_up_ne e]; exact hv s (by omega)
  rw [if_neg c33] at ht
  by_cases cl : k_lv M P i = 1
  · rw [if_pos cl] at ht
    cases ht
    intro s hs
    by_cases e : s = k_wd hh i - k_tk M P i
    · subst e; rw [k_up_eq]; exact k_lf_vt hK N hi cl
    · rw [k_up_ne e]; exact hv s (by omega)
  · rw [if_neg cl] at ht
    cases ht
    have hl : k_lv M P i = 0 := by
      have hl2 := (k_tk_le N.S hi).2
      by_cases e : k_lv M P i = 2
      · exfalso
        have w := (N.S.wI i hi).op
        rw [k_lv] at e
        split at e
        · split at e <;> omega
        · have : ∀ k : Fin 46, tb_L.getD k 0 = 2 → k.1 = 5 ∨ k.1 = 7 := by decide +kernel
          rcases this ⟨P.op i, w⟩ e with h | h
          · exact c5 h
          · exact c7 h
      · omega
    exact fun s hs => hv s (by omega)
end ZTR
