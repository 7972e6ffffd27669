/-! ===== a body more ===== -/
section ZUP
variable {M : ZM} {w o a res l root rt : Nat} {m : Bool} {ps : Nat → Nat} {g : ZT} {K : ZK} {n p q : Nat}
theorem aB_fc : (M.addB w o m a ps res l root rt).fc = M.fc := rfl
theorem aB_fw : (M.addB w o m a ps res l root rt).fw = M.fw := rfl
theorem aB_fo : (M.addB w o m a ps res l root rt).fo = M.fo := rfl
theorem aB_ft : (M.addB w o m a ps res l root rt).ft = M.ft := rfl
theorem aB_fs : (M.addB w o m a ps res l root rt).fs = M.fs := rfl
theorem aB_bc : (M.addB w o m a ps res l root rt).bc = M.bc + 1 := rfl
theorem aB_bw : (M.addB w o m a ps res l root rt).bw = k_up M.bw M.bc w := rfl
theorem aB_bo : (M.addB w o m a ps res l root rt).bo = k_up M.bo M.bc o := rfl
theorem aB_bm : (M.addB w o m a ps res l root rt).bm = k_up M.bm M.bc m := rfl
theorem aB_ba : (M.addB w o m a ps res l root rt).ba = k_up M.ba M.bc a := rfl
theorem aB_bp : (M.addB w o m a ps res l root rt).bp = k_up M.bp M.bc ps := rfl
theorem aB_br : (M.addB w o m a ps res l root rt).br = k_up M.br M.bc res := rfl
theorem aB_bl : (M.addB w o m a ps res l root rt).bl = k_up M.bl M.bc l := rfl
theorem aB_bt : (M.addB w o m a ps res l root rt).bt = k_up M.bt M.bc root := rfl
theorem aB_rt : (M.addB w o m a ps res l root rt).rt = k_up M.rt M.bc rt := rfl
theorem m_H.up {b e : Nat} (hb : b < M.bc) (h : m_H g K M b e) : m_H g K (M.addB w o m a ps res l root rt) b e := by
  simpa only [m_H, m_n0, aB_bw, aB_bo, aB_bm, aB_ba, aB_bp, aB_br, aB_bl, aB_rt, k_up_lt hb] using h
theorem m_rep_up {b : Nat} (hb : b < M.bc) : m_rep g K (M.addB w o m a ps res l root rt) b = m_rep g K M b := by
  rw [m_rep, m_rep]
  simp only [aB_bw, aB_bo, k_up_lt hb]
  refine k_lst_congr b (fun i hi => ?_)
  simp only [k_bP, aB_bw, aB_bo, k_up_lt (show i < M.bc by omega)]
theorem m_O.up {b : Nat} (hb : b < M.bc) (h : m_O g K M b) : m_O g K (M.addB w o m a ps res l root rt) b := by
  rcases h with ⟨h1, h2⟩ | ⟨r, h1, h2, h3, h4, h5, h6⟩
  · refine Or.inl ⟨(m_rep_up hb).trans h1, ?_⟩
    rw [aB_bt, k_up_lt hb]
    exact h2
  · have hr : r < M.bc := by
      have := (k_lst_some b h1).1
      omega
    refine Or.inr ⟨r, (m_rep_up hb).trans h1, ?_, ?_, ?_, ?_, ?_⟩
    · rw [aB_bt, k_up_lt hb, k_up_lt hr]; exact h2
    · rw [aB_bm, k_up_lt hb]; exact h3
    · rw [aB_bm, k_up_lt hr]; exact h4
    · rw [aB_bo, k_up_lt hb, k_up_lt hr]; exact h5
    · rw [aB_bw, aB_rt, k_up_lt hb, k_up_lt hr, k_up_lt hb]; exact h6
theorem k_bod_up {c u v : Nat} : k_lst (k_bP g K (M.addB w o m a ps res l root rt) c u v) M.bc = k_bod g K M c u v := by
  rw [k_bod]
  refine k_lst_congr _ (fun i hi => ?_)
  simp only [k_bP, aB_bw, aB_bo, k_up_lt hi]
theorem m_B.up (h : m_B g K M) (hc : M.bc < 48) (hw : w < g.1) (ho : o < K.cc) (hob : ∀ b, b < M.bc → M.bo b ≤ o) (hn : ∀ b, b < M.bc → M.bo b = o → e_at g (g.2.2.1 (M.bw b)) (g.2.2.2 (M.bw b)) w = false) : m_B g K (M.addB w o m a ps res l root rt) := by
  obtain ⟨h1, h2, h3, h4⟩ := h
  refine ⟨by rw [aB_bc]; omega, fun b hb => ?_, fun b b' h hb => ?_, fun b b' h hb he => ?_⟩
  · rw [aB_bc] at hb
    rw [aB_bw, aB_bo]
    by_cases e : b = M.bc
    · subst e; rw [k_up_eq, k_up_eq]; exact ⟨hw, ho⟩
    · rw [k_up_ne e, k_up_ne e]; exact h2 b (by omega)
  · rw [aB_bc] at hb
    rw [aB_bo, k_up_lt (show b < M.bc by omega)]
    by_cases e : b' = M.bc
    · subst e; rw [k_up_eq]; exact hob b (by omega)
    · rw [k_up_ne e]; exact h3 b b' h (by omega)
  · rw [aB_bc] at hb
    rw [aB_bo, k_up_lt (show b < M.bc by omega)] at he
    rw [aB_bw, k_up_lt (show b < M.bc by omega)]
    by_cases e : b' = M.bc
    · subst e
      rw [k_up_eq] at he ⊢
      exact hn b (by omega) he
    · rw [k_up_ne e] at he ⊢; exact h4 b b' h (by omega) he
theorem m_ch_up {c r : Nat} (hc : c ≤ o) (hoK : o < K.cc) (hK : k_K g K) : k_lst (m_chP K (M.addB w o m a ps res l root rt) c r) (M.bc + 1) = if m = true ∧ c = o ∧ r = root then some M.bc else k_lst (m_chP K M c r) M.bc := by
  rw [k_lst]
  have e1 : m_chP K (M.addB w o m a ps res l root rt) c r M.bc = (m && (k_anc K.cp o c && decide (root = r))) := by
    simp only [m_chP, aB_bm, aB_bo, aB_bt, k_up_eq]
  have e2 : k_lst (m_chP K (M.addB w o m a ps res l root rt) c r) M.bc = k_lst (m_chP K M c r) M.bc := by
    refine k_lst_congr _ (fun i hi => ?_)
    simp only [m_chP, aB_bm, aB_bo, aB_bt, k_up_lt hi]
  rw [e1, e2]
  by_cases x : m = true ∧ c = o ∧ r = root
  · obtain ⟨rfl, rfl, rfl⟩ := x
    rw [if_pos (by simp [k_anc_self]), if_pos ⟨rfl, rfl, rfl⟩]
  · rw [if_neg x, if_neg]
    intro y
    simp only [Bool.and_eq_true, decide_eq_true_eq] at y
    exact x ⟨y.1, by have := k_anc_le c y.2.1; omega, y.2.2.symm⟩
end ZUP
