/-! ===== texts and tokens, the same on both sides ===== -/
def z_tx (C D : QS) (n : Nat) (B : Nat → Int32) : Prop := C.2.1 2 1 = nI n ∧ D.2.1 102 7 = nI n ∧ n ≤ 16000 ∧ (∀ k, k < n → C.2.1 3 k = B k ∧ D.2.1 160 k = B k) ∧ ∀ k, q_byt (B k)
/-- the bytes of a token: none blank, a mark stands alone -/
def z_tb (B : Nat → Int32) (u v : Nat) : Prop := u < v ∧ ∀ i, u ≤ i → i < v → ¬ B i ≤ 32 ∧ (z_mk (B i) = true → v = u + 1)
def z_t1 (C D : QS) (B : Nat → Int32) (k t : Nat) : Prop := ∃ u v, C.2.1 4 t = nI u ∧ D.2.1 161 t = nI u ∧ C.2.1 5 t = nI v ∧ D.2.1 162 t = nI v ∧ v ≤ k ∧ z_tb B u v
def z_ts (C D : QS) (B : Nat → Int32) (k T : Nat) : Prop := C.2.1 2 5 = nI T ∧ D.2.1 102 10 = nI T ∧ T ≤ k ∧ ∀ t, t < T → z_t1 C D B k t
theorem z_tx.st {C D : QS} {n T k : Nat} {B : Nat → Int32} {r w : Bool} {c : Int32} (h : z_tx C D n B) : z_tx (z_stC C T k r w c) (z_stD D T k r w c) n B := by
  have e : ∀ o j, o ≠ 4 → o ≠ 5 → ¬ (o = 2 ∧ j = 5) → (z_stC C T k r w c).2.1 o j = C.2.1 o j := by
    intro o j h4 h5 h2
    simp only [z_stC, z_nC]
    split
    · rfl
    · split
      · simp [q_sI_I, h4, h5, h2]
      · simp [q_sI_I, h5]
  have e' : ∀ o j, o ≠ 161 → o ≠ 162 → ¬ (o = 102 ∧ j = 10) → (z_stD D T k r w c).2.1 o j = D.2.1 o j := by
    intro o j h4 h5 h2
    simp only [z_stD, z_nD]
    split
    · rfl
    · split
      · simp [q_sI_I, h4, h5, h2]
      · simp [q_sI_I, h5]
  obtain ⟨a, b, c, d, f⟩ := h
  refine ⟨by rw [e _ _ (by decide) (by decide) (by decide)]; exact a, by rw [e' _ _ (by decide) (by decide) (by decide)]; exact b, c, fun j hj => ?_, f⟩
  rw [e _ _ (by decide) (by decide) (by omega), e' _ _ (by decide) (by decide) (by omega)]
  exact d j hj
/-- what holds between two turns of the cutting loops -/
def z_cutI (n : Nat) (B : Nat → Int32) (m : Nat) (x : Int32 × Int32 × Int32 × QS) (y : Int32 × Int32 × Int32 × QS) : Prop := ∃ (k T : Nat) (r w : Bool) (C D : QS), x = (q_b r, q_b w, nI k, C) ∧ y = (q_b w, q_b r, nI k, D) ∧ m + k = n ∧ z_tx C D n B ∧ z_ts C D B k T ∧ (w = true → 0 < T ∧ ∃ u, C.2.1 4 (T - 1) = nI u ∧ D.2.1 161 (T - 1) = nI u ∧ u < k ∧ ∀ i, u ≤ i → i < k → ¬ B i ≤ 32 ∧ z_mk (B i) = false)
theorem z_t1.mono {C D C' D' : QS} {B : Nat → Int32} {k k' t : Nat} (h : z_t1 C D B k t) (hk : k ≤ k') (h1 : C'.2.1 4 t = C.2.1 4 t) (h2 : C'.2.1 5 t = C.2.1 5 t) (h3 : D'.2.1 161 t = D.2.1 161 t) (h4 : D'.2.1 162 t = D.2.1 162 t) : z_t1 C' D' B k' t := by
  obtain ⟨u, v, a, b, c, d, e, f⟩ := h
  exact ⟨u, v, h1.trans a, h3.trans b, h2.trans c, h4.trans d, by omega, f⟩
theorem z_cut_loops {n : Nat} {B : Nat → Int32} : ∀ m x y, z_cutI n B m x y → ∃ r r', q_run tX8_split_11 x = some r ∧ q_run tX12_cut_11 y = some r' ∧ (r.1 = r'.1 ∧ z_tx r.2 r'.2 n B ∧ ∃ T, z_ts r.2 r'.2 B n T) := by
  refine z_two (P := fun r r' : Bool × QS => r.1 = r'.1 ∧ z_tx r.2 r'.2 n B ∧ ∃ T, z_ts r.2 r'.2 B n T) (z_cutI n B) ?_
  rintro m x y ⟨k, T, r, w, C, D, rfl, rfl, hm, hx, hs, hw⟩
  obtain ⟨a1, a2, a3, a4, a5⟩ := id hx
  obtain ⟨s1, s2, s3, s4⟩ := id hs
  by_cases hk : k < n
  · have hb := a4 k hk
    have st1 := z_split_step (r := r) (w := w) a1 hk a3 s1 s3 (fun q => (hw q).1)
    have st2 := z_cut_step (r := r) (w := w) a2 hk a3 s2 s3 (fun q => (hw q).1) (by rw [hb.2]; exact a5 k)
    rw [hb.1] at st1
    rw [hb.2] at st2
    by_cases bad : z_bad (B k) = true
    · rw [if_pos bad] at st1 st2
      exact .inl ⟨_, _, st1, st2, rfl, hx, T, s1, s2, by omega, fun t ht => (s4 t ht).mono (by omega) rfl rfl rfl rfl⟩
    · rw [if_neg bad] at st1 st2
      refine .inr ⟨m - 1, _, _, by omega, st1, st2, ?_⟩
      by_cases bl : z_bl r (B k) = true
      · refine ⟨k + 1, T, z_rm r (B k), !z_bl r (B k) && !z_mk (B k), C, D, ?_, ?_, by omega, hx, ⟨s1, s2, by omega, fun t ht => (s4 t ht).mono (by omega) rfl rfl rfl rfl⟩, ?_⟩
        · simp [z_stC, bl]
        · simp [z_stD, bl]
        · intro q
          simp [bl] at q
      · have hgt : ¬ B k ≤ 32 := by
          intro q
          apply bl
          simp [z_bl, q]
        by_cases nw : (z_mk (B k) || !w) = true
        · refine ⟨k + 1, T + 1, z_rm r (B k), !z_bl r (B k) && !z_mk (B k), z_nC C T k, z_nD D T k, ?_, ?_, by omega, ?_, ⟨?_, ?_, by omega, ?_⟩, ?_⟩
          · simp only [z_stC, bl, nw, if_true]; rfl
          · simp only [z_stD, bl, nw, if_true]; rfl
          · have := hx.st (T := T) (k := k) (r := r) (w := w) (c := B k)
            simp only [z_stC, z_stD, bl, nw, if_true] at this
            exact this
          · simp [z_nC, q_sI_I]
          · simp [z_nD, q_sI_I]
          · intro t ht
            by_cases e : t = T
            · subst e
              refine ⟨k, k + 1, by simp [z_nC, q_sI_I], by simp [z_nD, q_sI_I], by simp [z_nC, q_sI_I], by simp [z_nD, q_sI_I], by omega, by omega, fun i i1 i2 => ?_⟩
              have : i = k := by omega
              subst this
              exact ⟨hgt, fun _ => rfl⟩
            · exact (s4 t (by omega)).mono (by omega) (by simp [z_nC, q_sI_I, e]) (by simp [z_nC, q_sI_I, e]) (by simp [z_nD, q_sI_I, e]) (by simp [z_nD, q_sI_I, e])
          · intro q
            have mk0 : z_mk (B k) = false := by
              cases hq : z_mk (B k) with
              | false => rfl
              | true => simp [hq] at q
            refine ⟨by omega, k, by simp [z_nC, q_sI_I], by simp [z_nD, q_sI_I], by omega, fun i i1 i2 => ?_⟩
            have : i = k := by omega
            subst this
            exact ⟨hgt, mk0⟩
        · have wt : w = true := by
            cases w with
            | true => rfl
            | false => simp at nw
          have mk0 : z_mk (B k) = false := by
            cases hq : z_mk (B k) with
            | false => rfl
            | true => simp [hq] at nw
          obtain ⟨hT0, u, u1, u2, u3, u4⟩ := hw wt
          have hall : ∀ i, u ≤ i → i < k + 1 → ¬ B i ≤ 32 ∧ z_mk (B i) = false := by
            intro i i1 i2
            by_cases e : i = k
            · subst e; exact ⟨hgt, mk0⟩
            · exact u4 i i1 (by omega)
          refine ⟨k + 1, T, z_rm r (B k), !z_bl r (B k) && !z_mk (B k), q_sI C 5 (T - 1) (nI (k + 1)), q_sI D 162 (T - 1) (nI (k + 1)), ?_, ?_, by omega, ?_, ⟨?_, ?_, by omega, ?_⟩, ?_⟩
          · simp only [z_stC, bl, nw]; rfl
          · simp only [z_stD, bl, nw]; rfl
          · have := hx.st (T := T) (k := k) (r := r) (w := w) (c := B k)
            simp only [z_stC, z_stD, bl, nw] at this
            exact this
          · simp [q_sI_I, s1]
          · simp [q_sI_I, s2]
          · intro t ht
            by_cases e : t = T - 1
            · subst e
              exact ⟨u, k + 1, by simp [q_sI_I, u1], by simp [q_sI_I, u2], by simp [q_sI_I], by simp [q_sI_I], by omega, by omega, fun i i1 i2 => ⟨(hall i i1 i2).1, fun q => by rw [(hall i i1 i2).2] at q; cases q⟩⟩
            · exact (s4 t (by omega)).mono (by omega) (by simp [q_sI_I]) (by simp [q_sI_I, e]) (by simp [q_sI_I]) (by simp [q_sI_I, e])
          · intro _
            exact ⟨hT0, u, by simp [q_sI_I, u1], by simp [q_sI_I, u2], by omega, hall⟩
  · have e : k = n := by omega
    subst e
    refine .inl ⟨(true, C), (true, D), ?_, ?_, rfl, hx, T, hs⟩
    · simp only [tX8_split_11, a1]
      rw [if_pos (by rw [z_leN (by omega) (by omega)]; exact Nat.le_refl _)]
    · simp only [tX12_cut_11, a2]
      rw [if_pos (by rw [z_leN (by omega) (by omega)]; exact Nat.le_refl _)]
theorem z_cut {C D : QS} {n : Nat} {B : Nat → Int32} (h : z_tx C D n B) : ∃ r r', fX8_split C = some r ∧ fX12_cut D = some r' ∧ r.1 = r'.1 ∧ z_tx r.2 r'.2 n B ∧ ∃ T, z_ts r.2 r'.2 B n T := by
  unfold fX8_split fX12_cut fX8_split_11 fX12_cut_11
  simp only [Option.bind_some]
  refine z_cut_loops n _ _ ⟨0, 0, false, false, q_sI C 2 5 0, q_sI D 102 10 0, rfl, rfl, rfl, ?_, ⟨by simp [q_sI_I]; rfl, by simp [q_sI_I]; rfl, Nat.le_refl _, fun t ht => absurd ht (by omega)⟩, fun q => by cases q⟩
  obtain ⟨a1, a2, a3, a4, a5⟩ := h
  exact ⟨by simp [q_sI_I, a1], by simp [q_sI_I, a2], a3, fun k hk => by simp [q_sI_I, a4 k hk], a5⟩
