/-! ===== heads, with what they replace ===== -/
theorem z_qb0 (b : Bool) : (q_b b = 0) = (b = false) := by cases b <;> simp [q_b]
section ZHEAD3
variable {C D : QS} {n p q : Nat} {g : ZT} {K : ZK} {M : ZM}
def m_may (g : ZT) (M : ZM) (t e o : Nat) (m : Bool) (r : Nat) : Bool := m && (M.bm r && (!decide (M.bo r = o) && k_hd g (t + 1) (M.bw r) e (t + 2) (e - (t + 1))))
theorem e_hd_41 {t e x : Nat} (hd : e_hd g t e) (h1 : t + 1 < x) (h2 : x < e) : e_mark g x 41 = false := by
  obtain ⟨d1, d2, d3, d4, d5, -⟩ := hd
  by_cases c : x = t + 2
  · subst c
    rw [e_mark_iff (by omega), (e_mark_b0 d4).2]
    decide
  · exact (d5 x (by omega) h2).2
theorem e_hd_m {t e : Nat} (hd : e_hd g t e) : e_word g t w_method = !e_word g t w_static := by
  obtain ⟨d1, d2, d3, d4, d5, d6, d7, d8, d9, d10, d11, d12, d13, d14⟩ := hd
  cases hs : e_word g t w_static with
  | false => exact d12 hs
  | true =>
    cases hm : e_word g t w_method with
    | false => rfl
    | true =>
      have h1 := (e_word_b0 hs).2
      have h2 := (e_word_b0 hm).2
      rw [h1] at h2
      exact absurd h2 (by decide)
theorem z_mayReplace {t e o r : Nat} {m : Bool} (hG : z_G n g) (hK : k_K g K) (hd : e_hd g t e) (I : m_I p q n g K M o C D) (hm : m = !e_word g t w_static) (hr : r < M.bc) (hw : M.bw r < t + 1) : fX4_mayReplace C p (nI t) (nI o) (nI r) = some (m_may g M t e o m r) := by
  have b1 := hG.1
  have b2 := hG.2.1
  have hb := I.mB.1
  have h32 := hK.2.1
  have hoc := I.oc
  have hbo := (I.mB.2.1 r hr).2
  obtain ⟨d1, d2, d3, d4, d5, d6, d7, d8, d9, d10, d11, d12, d13, d14⟩ := id hd
  obtain ⟨x1, x2, x3, -⟩ := I.cB.2 r hr
  simp only [fX4_mayReplace, z_inbN (show t < 16000 by omega) (by decide), if_true, z_cl (show t < 2147483648 by omega), I.kd t (by omega), d11, z_inbN (show r < 48 by omega) (by decide), z_cl (show r < 2147483648 by omega), x1, x2, x3, z_qb0, z_eqN (show M.bo r < 2147483648 by omega) (show o < 2147483648 by omega), nI_1, z_hasSameHead I.hC hG hw (show e + 1 < g.1 by omega) (show t + 1 < e by omega) (fun x h1 h2 => e_hd_41 hd h1 h2) d6, Option.bind_some, m_may, hm]
  cases e_word g t w_static with
  | true => rfl
  | false =>
    cases M.bm r with
    | false => rfl
    | true =>
      by_cases c : M.bo r = o
      · simp [c]
      · cases k_hd g (t + 1) (M.bw r) e (t + 2) (e - (t + 1)) <;> simp [c]
theorem z_head {t e o : Nat} (hp : z_pp p) (hq : z_qq q) (hG : z_G n g) (hK : k_K g K) (hd : e_hd g t e) (I : m_I p q n g K M o C D) (h8 : 8 ≤ o) (hw : ∀ b, b < M.bc → M.bw b < t + 1) : ∃ r r', fX4_headFault C p (nI t) (nI o) = some r ∧ fX12_body D q (nI o) (nI t) = some r' ∧ z_offC p C r.2 ∧ z_offD q D r'.2 ∧ (z_flt g r r' ∨ (r.1 = -1 ∧ r'.1 = true ∧ ∃ M', m_I p q n g K M' o r.2 r'.2 ∧ M'.bc = M.bc + 1 ∧ M'.bw M.bc = t + 1 ∧ ∀ b, b < M.bc → M'.bw b = M.bw b)) := by
  have b1 := hG.1
  have b2 := hG.2.1
  have hb := I.mB.1
  have h32 := hK.2.1
  have hoc := I.oc
  obtain ⟨d1, d2, d3, d4, d5, d6, d7, d8, d9, d10, d11, d12, d13, d14⟩ := id hd
  have gt := hG.2.2.2 (t + 1) (by omega)
  have s1 := z_start I.hC hG (show t + 1 < g.1 by omega)
  have s2 := z_stop I.hC hG (show t + 1 < g.1 by omega)
  have s3 := z_bodyNamed I.hC hG hK I.kC I.cB I.mB hoc (show g.2.2.1 (t + 1) ≤ g.2.2.2 (t + 1) by omega) gt.2.1
  have s4 := z_bodyOf I.hD hG hK I.kD I.dB I.mB (show g.2.2.1 (t + 1) ≤ g.2.2.2 (t + 1) by omega) gt.2.1 o hoc
  have s5 : fX12_is D (nI t) 1000070 = some (!e_word g t w_static) := by rw [z_is I.hD hG z_sMethod2 (by omega)]; exact congrArg some (e_hd_m hd)
  have tD := I.hD.2.2.2 (t + 1) (by omega)
  have dM : fX12_body D q (nI o) (nI t) = (Option.bind (α := Bool) (if k_oI (k_bod g K M o (g.2.2.1 (t + 1)) (g.2.2.2 (t + 1))) < 0 then some false else some (m_may g M t e o (!e_word g t w_static) (k_oI (k_bod g K M o (g.2.2.1 (t + 1)) (g.2.2.2 (t + 1)))).toNatClampNeg)) fun v87 => if k_oI (k_bod g K M o (g.2.2.1 (t + 1)) (g.2.2.2 (t + 1))) < 0 then fX12_body_100 D q (nI o) (nI t) (q_b (!e_word g t w_static)) else if v87 = true then fX12_body_100 D q (nI o) (nI t) (q_b (!e_word g t w_static)) else some (false, q_sI D 102 12 (nI (t + 1)))) := by
    simp only [fX12_body, s5, nI_1, z_inbN (show t + 1 < 16002 by omega) (by decide), if_true, z_cl (show t + 1 < 2147483648 by omega), tD, Option.bind_some, s4, fX12_wrong]
    congr 1
    cases hk : k_bod g K M o (g.2.2.1 (t + 1)) (g.2.2.2 (t + 1)) with
    | none => rfl
    | some r =>
      have hr : r < M.bc := (k_lst_some _ hk).1
      have hbo := (I.mB.2.1 r hr).2
      obtain ⟨x1, x2, x3, -⟩ := I.dB.2 r hr
      have e2 : (nI t + 2 : Int32) = nI (t + 1 + 1) := by rw [show (2 : Int32) = nI 2 from rfl, nI_add]
      simp only [k_oI, z_negN (show r < 2147483648 by omega), if_false, z_inbN (show r < 48 by omega) (by decide), if_true, z_cl (show r < 2147483648 by omega), x1, x2, x3, z_qb0, z_eqN (show M.bo r < 2147483648 by omega) (show o < 2147483648 by omega), e2, nI_1, z_isSameRow I.hD hG (hw r hr) (show e + 1 < g.1 by omega) (show t + 1 < e by omega) (fun x h1 h2 => e_hd_41 hd h1 h2) d6, Option.bind_some, m_may]
      by_cases c : M.bo r = o
      · simp [c]
      · cases e_word g t w_static with
        | true => simp [c]
        | false =>
          cases M.bm r with
          | false => simp [c]
          | true => cases k_hd g (t + 1) (M.bw r) e (t + 2) (e - (t + 1)) <;> simp [c]
  have flt : ∃ r r', some (nI (t + 1), C) = some r ∧ some (false, q_sI D 102 12 (nI (t + 1))) = some r' ∧ z_offC p C r.2 ∧ z_offD q D r'.2 ∧ (z_flt g r r' ∨ (r.1 = -1 ∧ r'.1 = true ∧ ∃ M', m_I p q n g K M' o r.2 r'.2 ∧ M'.bc = M.bc + 1 ∧ M'.bw M.bc = t + 1 ∧ ∀ b, b < M.bc → M'.bw b = M.bw b)) := by
    refine ⟨_, _, rfl, rfl, z_offC.refl p C, (z_offD.refl q D).sI (by omega), Or.inl ⟨t + 1, by omega, rfl, rfl, ?_⟩⟩
    rw [q_sI_I, if_pos ⟨rfl, rfl⟩]
  have cM : fX4_headFault C p (nI t) (nI o) = if M.bc = 48 then some (nI (t + 1), C) else if k_oI (k_bod g K M o (g.2.2.1 (t + 1)) (g.2.2.2 (t + 1))) = -1 then fX4_headFault_57 C p (nI t) (nI o) (k_oI (k_bod g K M o (g.2.2.1 (t + 1)) (g.2.2.2 (t + 1)))) else (fX4_mayReplace C p (nI t) (nI o) (k_oI (k_bod g K M o (g.2.2.1 (t + 1)) (g.2.2.2 (t + 1))))).bind fun r39 => if r39 = true then fX4_headFault_57 C p (nI t) (nI o) (k_oI (k_bod g K M o (g.2.2.1 (t + 1)) (g.2.2.2 (t + 1)))) else some (nI (t + 1), C) := by
    simp only [fX4_headFault, nI_1, s1, s2, s3, Option.bind_some, I.cB.1, show (48 : Int32) = nI 48 from rfl, z_eqN (show M.bc < 2147483648 by omega) (show 48 < 2147483648 by omega)]
  rw [cM, dM]
  by_cases c48 : M.bc = 48
  · rw [if_pos c48]
    have h100 : ∀ y, fX12_body_100 D q (nI o) (nI t) y = some (false, q_sI D 102 12 (nI (t + 1))) := by
      intro y
      simp only [fX12_body_100, I.dB.1, c48, fX12_wrong, nI_1]
      rfl
    simp only [h100]
    have : (Option.bind (α := Bool) (if k_oI (k_bod g K M o (g.2.2.1 (t + 1)) (g.2.2.2 (t + 1))) < 0 then some false else some (m_may g M t e o (!e_word g t w_static) (k_oI (k_bod g K M o (g.2.2.1 (t + 1)) (g.2.2.2 (t + 1)))).toNatClampNeg)) fun v87 => if k_oI (k_bod g K M o (g.2.2.1 (t + 1)) (g.2.2.2 (t + 1))) < 0 then some (false, q_sI D 102 12 (nI (t + 1))) else if v87 = true then some (false, q_sI D 102 12 (nI (t + 1))) else some (false, q_sI D 102 12 (nI (t + 1)))) = some (false, q_sI D 102 12 (nI (t + 1))) := by
      split <;> simp
    rw [this]
    exact flt
  · rw [if_neg c48]
    cases hk : k_bod g K M o (g.2.2.1 (t + 1)) (g.2.2.2 (t + 1)) with
    | none =>
      have := z_head57 (rep := none) (rr := M.bc) hp hq hG hK hd I h8 (by omega) rfl hk (Or.inl ⟨rfl, rfl⟩)
      exact this
    | some r =>
      have hr : r < M.bc := (k_lst_some _ hk).1
      have nm : ¬ nI r = -1 := by rw [z_m1N (by omega)]; exact fun x => x
      simp only [k_oI, z_m1N (show r < 2147483648 by omega), z_negN (show r < 2147483648 by omega), if_false, z_cl (show r < 2147483648 by omega), Option.bind_some]
      rw [z_mayReplace hG hK hd I rfl hr (hw r hr), Option.bind_some]
      cases hy : m_may g M t e o (!e_word g t w_static) r with
      | false => exact flt
      | true =>
        simp only [m_may, Bool.and_eq_true, Bool.not_eq_true', decide_eq_false_iff_not] at hy
        have := z_head57 (rep := some r) (rr := M.bt r) hp hq hG hK hd I h8 (by omega) rfl hk (Or.inr ⟨r, rfl, rfl, by simpa using hy.1, hy.2.1, hy.2.2.1, hy.2.2.2⟩)
        exact this
end ZHEAD3
