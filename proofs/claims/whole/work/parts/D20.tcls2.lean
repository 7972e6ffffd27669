/-! ===== types: what an instruction does (class) ===== -/
section ZTC2
variable {C D : QS} {n p q m b : Nat} {g : ZT} {K : ZK} {M : ZM} {P : ZP} {hh : Nat → Int32}
theorem z_leftBy {i : Nat} (hG : z_G n g) (hK : k_K g K) (S : c_S p q n g K M P C D) (hi : i < P.n) : fX5_leftBy C p (nI i) = some (nI (k_lf M P i)) := by
  have w := S.wI i hi
  have h48 := S.mJ.mB.1
  have f48 := S.mJ.mF.1
  have bn := S.bn
  obtain ⟨y1, y2, -⟩ := S.iC i hi
  have hop := w.op
  have e1 : (nI (P.op i) = 1) = (P.op i = 1) := z_nk46 hop (m := 1) (by omega)
  have e30 : (nI (P.op i) = 30) = (P.op i = 30) := z_nk46 hop (m := 30) (by omega)
  have e31 : (nI (P.op i) = 31) = (P.op i = 31) := z_nk46 hop (m := 31) (by omega)
  have e37 : (nI (P.op i) = 37) = (P.op i = 37) := z_nk46 hop (m := 37) (by omega)
  have e35 : (nI (P.op i) = 35) = (P.op i = 35) := z_nk46 hop (m := 35) (by omega)
  have e39 : (nI (P.op i) = 39) = (P.op i = 39) := z_nk46 hop (m := 39) (by omega)
  have e40 : (nI (P.op i) = 40) = (P.op i = 40) := z_nk46 hop (m := 40) (by omega)
  simp only [fX5_leftBy, z_inbN (show i < 1024 by omega) (by decide), if_true, z_cl (show i < 2147483648 by omega), y1, y2, e1, e30, e31, e37, e35, e39, e40, k_lf]
  by_cases c1 : P.op i = 1
  · rw [if_pos c1, if_pos c1]; rfl
  rw [if_neg c1, if_neg c1]
  by_cases c2 : P.op i = 30 ∨ P.op i = 31 ∨ P.op i = 37
  · rw [if_pos c2, if_pos c2]
    obtain ⟨x, hx, hx2⟩ : ∃ x, P.xa i = nI x ∧ x < 2147483648 := by
      have h32 := hK.2.1
      rcases c2 with c | c | c
      · obtain ⟨x, x1, x2, -⟩ := w.oN c
        exact ⟨x, x1, by omega⟩
      · obtain ⟨x, x1, x2, -⟩ := w.oA c
        exact ⟨x, x1, by omega⟩
      · obtain ⟨x, x1, x2, x3, -⟩ := w.oT (Or.inl c)
        have := k_tok_lt hK x3
        exact ⟨x, x1, by omega⟩
    rw [k_xa, hx, z_cl hx2]
  rw [if_neg c2, if_neg c2]
  by_cases c3 : P.op i = 35
  · obtain ⟨f, cc, x1, x2, x3, x4, -⟩ := w.oF (Or.inl c3)
    rw [if_pos c3, if_pos c3, k_xa, x1, z_cl (show f < 2147483648 by omega), if_pos (z_inbN (show f < 48 by omega) (by decide)), (S.mJ.cF.2 f x4).2.2.1]
  rw [if_neg c3, if_neg c3]
  by_cases c4 : P.op i = 39 ∨ P.op i = 40
  · obtain ⟨f, cc, x1, x2, x3, x4, -⟩ := w.oB c4
    obtain ⟨r1, r2, r3, -⟩ := m_root hG S.mJ f x4
    rw [if_pos c4, if_pos c4, k_fb_of (by omega) x1, x2, z_cl (show M.bt f < 2147483648 by omega), if_pos (z_inbN (show M.bt f < 48 by omega) (by decide)), (S.mJ.cB.2 (M.bt f) (by omega)).2.2.2.2.1, r3]
  rw [if_neg c4, if_neg c4]
  rfl
theorem z_elementOf {x : Nat} (hx : x ≤ 67) : fX0_elementOf C p (nI x) = some (if x = 65 then 68 else nI (k_el x)) := by
  have e64 : (nI x = 64) = (x = 64) := by rw [show (64 : Int32) = nI 64 from rfl, z_eqN (by omega) (by decide)]
  have e65 : (nI x = 65) = (x = 65) := by rw [show (65 : Int32) = nI 65 from rfl, z_eqN (by omega) (by decide)]
  simp only [fX0_elementOf, e64, e65, z_isArr (show x ≤ 68 by omega), Option.bind_some, k_el]
  by_cases c1 : x = 64
  · rw [if_pos c1, if_neg (by omega), if_pos c1]; rfl
  rw [if_neg c1]
  by_cases c2 : x = 65
  · rw [if_pos c2, if_pos c2]
  rw [if_neg c2, if_neg c2, if_neg c1]
  by_cases c3 : 32 ≤ x ∧ x < 64
  · rw [if_pos (by rw [decide_eq_true c3.1, decide_eq_true (show x ≤ 64 by omega)]; rfl), if_neg c2, if_pos c3, show (32 : Int32) = nI 32 from rfl, z_subN c3.1]
  · rw [if_neg (by rw [Bool.and_eq_true, decide_eq_true_eq, decide_eq_true_eq]; omega), if_neg c2, if_neg c3]; rfl
/-- one slot of the row is set -/
def ty_p (C C' : QS) : Prop := (∀ y j, y ≠ 88 → C'.2.1 y j = C.2.1 y j) ∧ C'.1 = C.1 ∧ C'.2.2 = C.2.2 ∧ ∀ j, q_byt (C'.2.1 88 j)
theorem ty_p.set {k : Nat} {v : Int32} (hb : ∀ j, q_byt (C.2.1 88 j)) (hv : q_byt v) : ty_p C (q_sI C 88 k v) := by
  refine ⟨fun y j h => ?_, rfl, rfl, fun j => ?_⟩
  · rw [q_sI_I, if_neg (by omega)]
  · rw [q_sI_I]
    by_cases c : 88 = 88 ∧ j = k
    · rw [if_pos c]; exact hv
    · rw [if_neg c]; exact hb j
theorem ty_RW.set {w w' k x : Nat} {r : Nat → Nat} (h : ty_RW C w r) (hk : ∀ s, s < w' → s = k ∨ s < w) : ty_RW (q_sI C 88 k (nI x)) w' (k_up r k x) := by
  intro s hs
  rw [q_sI_I]
  by_cases e : s = k
  · rw [if_pos ⟨rfl, e⟩, e, k_up_eq]
  · rw [if_neg (by omega), k_up_ne e]
    rcases hk s hs with c | c
    · exact absurd c e
    · exact h s c
theorem z_perform {i : Nat} {r : Nat → Nat} (hG : z_G n g) (hK : k_K g K) (N : s_N p q n g K M P m C D) (hi : i < P.n) (hh1 : C.2.1 (p + 17) i = nI (k_hN hh i)) (hH : k_hi M P hh i) (hR : ty_RW C (k_wd hh i) r) (hv : k_rvt K (k_wd hh i) r) (hb : ∀ j, q_byt (C.2.1 88 j)) : ∃ x C', fX9_perform C p (nI i) = some (x, C') ∧ ty_p C C' ∧ (x = false → k_tr M P hh i r = none) ∧ (x = true → ∃ r', k_tr M P hh i r = some r' ∧ ty_RW C' (k_w' M P hh i) r') := by
  obtain ⟨h1, h2, h3, h4⟩ := hH
  have bn := N.S.bn
  have w := N.S.wI i hi
  have hop := w.op
  have hw : k_wd hh i = 12 + k_hN hh i := rfl
  have hw' : k_w' M P hh i = k_wd hh i - k_tk M P i + k_lv M P i := rfl
  obtain ⟨y1, y2, -⟩ := N.S.iC i hi
  have i1 := z_inbN (show i < 1024 by omega) (by decide)
  have c1 := z_cl (show i < 2147483648 by omega)
  have ew : (12 : Int32) + nI (k_hN hh i) = nI (k_wd hh i) := nI_add 12 _
  have es : nI (k_wd hh i) - nI (k_tk M P i) = nI (k_wd hh i - k_tk M P i) := z_subN (by omega)
  have e2 : (nI (P.op i) = 2) = (P.op i = 2) := z_nk46 hop (m := 2) (by omega)
  have e3 : (nI (P.op i) = 3) = (P.op i = 3) := z_nk46 hop (m := 3) (by omega)
  have e5 : (nI (P.op i) = 5) = (P.op i = 5) := z_nk46 hop (m := 5) (by omega)
  have e7 : (nI (P.op i) = 7) = (P.op i = 7) := z_nk46 hop (m := 7) (by omega)
  have e33 : (nI (P.op i) = 33) = (P.op i = 33) := z_nk46 hop (m := 33) (by omega)
  simp only [fX9_perform, i1, if_true, z_takes5 hG N.S hi, Option.bind_some, c1, y1, y2, e2, e3, e5, e7, e33, hh1, ew, es]
  rw [k_tr]
  have rb : ∀ s, s < k_wd hh i → C.2.1 88 s = nI (r s) ∧ vp_nar .byte (nI (r s)) = nI (r s) ∧ q_byt (nI (r s)) := by
    intro s hs
    have := k_vt_lt hK (hv s hs)
    have hb := z_bytN (show r s ≤ 127 by omega)
    exact ⟨hR s hs, z_bytn hb, hb⟩
  by_cases c2 : P.op i = 2
  · obtain ⟨t1, t2⟩ := k_tk_at (M := M) 2 c2 (by decide) (by decide)
    have t1 : k_tk M P i = 0 := t1
    have t2 : k_lv M P i = 1 := t2
    obtain ⟨a1, a2, -⟩ := k_xa_12 N hi (Or.inl c2)
    obtain ⟨b1, b2, b3⟩ := rb (k_xa P i) (by omega)
    rw [if_pos c2, if_pos c2, a2, if_pos (z_inbN (show k_xa P i < 20 by omega) (by decide)), if_pos (z_inbN (show k_wd hh i < 20 by omega) (by decide)), z_cl (show k_xa P i < 2147483648 by omega), z_cl (show k_wd hh i < 2147483648 by omega), b1, b2]
    refine ⟨true, _, rfl, ty_p.set hb b3, (fun h => by cases h), fun _ => ⟨_, rfl, hR.set (fun s hs => by omega)⟩⟩
  rw [if_neg c2, if_neg c2]
  by_cases c3 : P.op i = 3
  · obtain ⟨t1, t2⟩ := k_tk_at (M := M) 3 c3 (by decide) (by decide)
    have t1 : k_tk M P i = 1 := t1
    have t2 : k_lv M P i = 0 := t2
    obtain ⟨a1, a2, -⟩ := k_xa_12 N hi (Or.inr (Or.inl c3))
    obtain ⟨b1, b2, b3⟩ := rb (k_wd hh i - 1) (by omega)
    rw [if_pos c3, if_pos c3, a2, t1, if_pos (z_inbN (show k_wd hh i - 1 < 20 by omega) (by decide)), if_pos (z_inbN (show k_xa P i < 20 by omega) (by decide)), z_cl (show k_xa P i < 2147483648 by omega), z_cl (show k_wd hh i - 1 < 2147483648 by omega), b1, b2]
    refine ⟨true, _, rfl, ty_p.set hb b3, (fun h => by cases h), fun _ => ⟨_, rfl, hR.set (fun s hs => by omega)⟩⟩
  rw [if_neg c3, if_neg c3]
  by_cases c5 : P.op i = 5
  · obtain ⟨t1, t2⟩ := k_tk_at (M := M) 5 c5 (by decide) (by decide)
    have t1 : k_tk M P i = 1 := t1
    have t2 : k_lv M P i = 2 := t2
    obtain ⟨b1, b2, b3⟩ := rb (k_wd hh i - 1) (by omega)
    rw [if_pos c5, if_pos c5, t1, if_pos (z_inbN (show k_wd hh i - 1 < 20 by omega) (by decide)), if_pos (z_inbN (show k_wd hh i < 20 by omega) (by decide)), z_cl (show k_wd hh i < 2147483648 by omega), z_cl (show k_wd hh i - 1 < 2147483648 by omega), b1, b2]
    refine ⟨true, _, rfl, ty_p.set hb b3, (fun h => by cases h), fun _ => ⟨_, rfl, hR.set (fun s hs => by omega)⟩⟩
  rw [if_neg c5, if_neg c5]
  by_cases c7 : P.op i = 7
  · obtain ⟨t1, t2⟩ := k_tk_at (M := M) 7 c7 (by decide) (by decide)
    have t1 : k_tk M P i = 2 := t1
    have t2 : k_lv M P i = 2 := t2
    obtain ⟨b1, b2, b3⟩ := rb (k_wd hh i - 1) (by omega)
    obtain ⟨d1, d2, d3⟩ := rb (k_wd hh i - 2) (by omega)
    have hsw : fX9_swap C (nI (k_wd hh i - 2)) (nI (k_wd hh i - 1)) = some (q_sI (q_sI C 88 (k_wd hh i - 2) (nI (r (k_wd hh i - 1)))) 88 (k_wd hh i - 1) (nI (r (k_wd hh i - 2)))) := by
      simp only [fX9_swap, z_inbN (show k_wd hh i - 1 < 20 by omega) (by decide), z_inbN (show k_wd hh i - 2 < 20 by omega) (by decide), if_true, Option.bind_some, z_cl (show k_wd hh i - 1 < 2147483648 by omega), z_cl (show k_wd hh i - 2 < 2147483648 by omega), b1, b2, d1, d2]
    rw [if_pos c7, if_pos c7, t1, nI_1, show k_wd hh i - 2 + 1 = k_wd hh i - 1 by omega, hsw]
    have q1 := ty_p.set (k := k_wd hh i - 2) hb b3
    have q2 := ty_p.set (k := k_wd hh i - 1) q1.2.2.2 d3
    refine ⟨true, _, rfl, ⟨fun y j h => (q2.1 y j h).trans (q1.1 y j h), rfl, rfl, q2.2.2.2⟩, (fun h => by cases h), fun _ => ⟨_, rfl, (hR.set (w' := k_wd hh i) (fun s hs => by omega)).set (fun s hs => by omega)⟩⟩
  rw [if_neg c7, if_neg c7]
  by_cases c33 : P.op i = 33
  · obtain ⟨t1, t2⟩ := k_tk_at (M := M) 33 c33 (by decide) (by decide)
    have t1 : k_tk M P i = 2 := t1
    have t2 : k_lv M P i = 1 := t2
    obtain ⟨b1, b2, b3⟩ := rb (k_wd hh i - 2) (by omega)
    have hx := k_vt_lt hK (hv (k_wd hh i - 2) (by omega))
    rw [if_pos c33, if_pos c33, t1, z_cl (show k_wd hh i - 2 < 2147483648 by omega), b1, z_elementOf hx]
    simp only [z_inbN (show k_wd hh i - 2 < 20 by omega) (by decide), if_true, Option.bind_some]
    by_cases e65 : r (k_wd hh i - 2) = 65
    · rw [if_pos e65, if_pos e65]
      refine ⟨false, q_sI C 88 (k_wd hh i - 2) (vp_nar .byte (Int32.toInt8 68).toInt32), ?_, ty_p.set hb (by rw [vp_nar_byte]; exact (show q_byt 68 from z_bytN (k := 68) (by decide))), fun _ => rfl, (fun h => by cases h)⟩
      have : (q_sI C 88 (k_wd hh i - 2) (vp_nar .byte (Int32.toInt8 68).toInt32)).2.1 88 (k_wd hh i - 2) = 68 := by
        rw [q_sI_I, if_pos ⟨rfl, rfl⟩, vp_nar_byte]; rfl
      exact if_pos this
    · have hel : k_el (r (k_wd hh i - 2)) ≤ 67 := by
        rw [k_el, if_neg e65]
        split
        · omega
        · split <;> omega
      have hb2 := z_bytN (show k_el (r (k_wd hh i - 2)) ≤ 127 by omega)
      have h68 : ¬ nI (k_el (r (k_wd hh i - 2))) = 68 := by rw [show (68 : Int32) = nI 68 from rfl, z_eqN (by omega) (by decide)]; omega
      rw [if_neg e65, if_neg e65]
      refine ⟨true, q_sI C 88 (k_wd hh i - 2) (nI (k_el (r (k_wd hh i - 2)))), ?_, ty_p.set hb hb2, (fun h => by cases h), fun _ => ⟨_, rfl, hR.set (fun s hs => by omega)⟩⟩
      rw [z_bytv hb2, z_bytn hb2]
      have : ¬ (q_sI C 88 (k_wd hh i - 2) (nI (k_el (r (k_wd hh i - 2))))).2.1 88 (k_wd hh i - 2) = 68 := by
        rw [q_sI_I, if_pos ⟨rfl, rfl⟩]; exact h68
      exact if_neg this
  rw [if_neg c33, if_neg c33, z_leaves5 hG hK N.S hi]
  have l1 : (nI (k_lv M P i) = 1) = (k_lv M P i = 1) := by rw [show (1 : Int32) = nI 1 from rfl, z_eqN (by omega) (by decide)]
  simp only [Option.bind_some, l1]
  by_cases cl : k_lv M P i = 1
  · have hx := k_vt_lt hK (k_lf_vt hK N hi cl)
    have hb2 := z_bytN (show k_lf M P i ≤ 127 by omega)
    rw [if_pos cl, if_pos cl, z_leftBy hG hK N.S hi]
    simp only [Option.bind_some]
    rw [if_pos (z_inbN (show k_wd hh i - k_tk M P i < 20 by omega) (by decide)), z_cl (show k_wd hh i - k_tk M P i < 2147483648 by omega), z_bytv hb2, z_bytn hb2]
    exact ⟨true, _, rfl, ty_p.set hb hb2, (fun h => by cases h), fun _ => ⟨_, rfl, hR.set (fun s hs => by omega)⟩⟩
  · rw [if_neg cl, if_neg cl]
    have hl : k_lv M P i = 0 := by
      have hl2 := (k_tk_le N.S hi).2
      by_cases e : k_lv M P i = 2
      · exfalso
        rw [k_lv] at e
        split at e
        · split at e <;> omega
        · have : ∀ k : Fin 46, tb_L.getD k 0 = 2 → k.1 = 5 ∨ k.1 = 7 := by decide +kernel
          rcases this ⟨P.op i, hop⟩ e with h | h
          · exact c5 h
          · exact c7 h
      · omega
    exact ⟨true, C, rfl, ⟨fun _ _ _ => rfl, rfl, rfl, hb⟩, (fun h => by cases h), fun _ => ⟨r, rfl, fun s hs => hR s (by omega)⟩⟩
end ZTC2
