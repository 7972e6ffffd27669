/-! ===== types: what an instruction does (reference) ===== -/
section ZTR3
variable {C D : QS} {n p q m b : Nat} {g : ZT} {K : ZK} {M : ZM} {P : ZP} {hh : Nat → Int32}
def rt_b (D D' : QS) : Prop := (∀ y j, y ≠ 171 → ¬ (y = 102 ∧ j = 23) → D'.2.1 y j = D.2.1 y j) ∧ D'.1 = D.1 ∧ D'.2.2 = D.2.2
theorem rt_b.trans {D D' D'' : QS} (h : rt_b D D') (h' : rt_b D' D'') : rt_b D D'' := ⟨fun y j a b => (h'.1 y j a b).trans (h.1 y j a b), h'.2.1.trans h.2.1, h'.2.2.trans h.2.2⟩
theorem rt_b.top (D : QS) (v : Int32) : rt_b D (q_sI D 102 23 v) := ⟨fun y j _ a => by rw [q_sI_I, if_neg a], rfl, rfl⟩
theorem z_leave {t : Nat} {v : Int32} (h : D.2.1 102 23 = nI t) (ht : t < 24) : ∃ D', fX12_leave D v = some D' ∧ rt_b D D' ∧ D'.2.1 102 23 = nI (t + 1) ∧ ∀ j, D'.2.1 171 j = if j = t then v else D.2.1 171 j := by
  refine ⟨q_sI (q_sI D 171 t v) 102 23 (nI (t + 1)), ?_, ⟨fun y j a c => ?_, rfl, rfl⟩, ?_, fun j => ?_⟩
  · have e : (q_sI D 171 t v).2.1 102 23 = nI t := by rw [q_sI_I, if_neg (by omega)]; exact h
    simp only [fX12_leave, h, z_inbN ht (by decide), if_true, Option.bind_some, z_cl (show t < 2147483648 by omega), e, nI_1]
  · rw [q_sI_I, if_neg c, q_sI_I, if_neg (by omega)]
  · rw [q_sI_I, if_pos ⟨rfl, rfl⟩]
  · rw [q_sI_I, if_neg (by omega), q_sI_I]
    by_cases e : j = t
    · rw [if_pos ⟨rfl, e⟩, if_pos e]
    · rw [if_neg (by omega), if_neg e]
theorem rt_R.lv {D' : QS} {w w' t x : Nat} {r : Nat → Nat} (h : rt_R D w r) (hj : ∀ j, D'.2.1 171 j = if j = t then k_y x else D.2.1 171 j) (hk : ∀ s, s < w' → s = t ∨ s < w) : rt_R D' w' (k_up r t x) := by
  intro s hs
  rw [hj]
  by_cases e : s = t
  · rw [if_pos e, e, k_up_eq]
  · rw [if_neg e, k_up_ne e]
    rcases hk s hs with c | c
    · exact absurd c e
    · exact h s c
theorem z_elem12 {x : Nat} (hx : x ≤ 67) (h65 : x ≠ 65) (S : QS) : fX12_elementOf S (k_y x) = some (k_y (k_el x)) := by
  have : ∀ x : Fin 68, x.1 ≠ 65 → (if k_y x = 40 then (0 : Int32) else if k_y x < 48 then 2 else (k_y x - 48) + 8) = k_y (k_el x) := by decide +kernel
  have h := this ⟨x, by omega⟩ h65
  rw [fX12_elementOf]
  by_cases c1 : k_y x = 40
  · rw [if_pos c1] at h ⊢; rw [h]
  · rw [if_neg c1] at h ⊢
    by_cases c2 : k_y x < 48
    · rw [if_pos c2] at h ⊢; rw [h]
    · rw [if_neg c2] at h ⊢; rw [h]
theorem z_rtBehind {i : Nat} {r r' : Nat → Nat} (hp : z_pp p) (hq : z_qq q) (hK : k_K g K) (N : s_N p q n g K M P m C D) (hi : i < P.n) (hH : k_hi M P hh i) (hR : rt_R D (k_wd hh i) r) (hv : k_rvt K (k_wd hh i) r) (ht : D.2.1 102 23 = nI (k_wd hh i)) (hr : k_tr M P hh i r = some r') : ∃ D', fX12_typesBehind D q (nI i) = some D' ∧ rt_b D D' ∧ rt_R D' (k_w' M P hh i) r' := by
  obtain ⟨h1, h2, h3, h4⟩ := hH
  have bn := N.S.bn
  have w := N.S.wI i hi
  have hop := w.op
  have h48 := N.S.mJ.mB.1
  have f48 := N.S.mJ.mF.1
  have hw : k_wd hh i = 12 + k_hN hh i := rfl
  have hw' : k_w' M P hh i = k_wd hh i - k_tk M P i + k_lv M P i := rfl
  obtain ⟨y1, y2, -⟩ := N.S.iD i hi
  have i1 := z_inbN (show i < 1024 by omega) (by decide)
  have c1 := z_cl (show i < 2147483648 by omega)
  have es : nI (k_wd hh i) - nI (k_tk M P i) = nI (k_wd hh i - k_tk M P i) := z_subN (by omega)
  obtain ⟨v4, b4, g4⟩ : ∃ v4, (if nI (k_wd hh i) ≤ (12 : Int32) then some (2 : Int32) else if q_inb (nI (k_wd hh i) - (1 : Int32)) 24 = true then some (D.2.1 171 (nI (k_wd hh i) - (1 : Int32)).toNatClampNeg) else none) = some v4 ∧ (13 ≤ k_wd hh i → v4 = k_y (r (k_wd hh i - 1))) := by
    have le : (nI (k_wd hh i) ≤ (12 : Int32)) = (k_wd hh i ≤ 12) := by rw [show (12 : Int32) = nI 12 from rfl, z_leN (by omega) (by decide)]
    simp only [le]
    by_cases c : k_wd hh i ≤ 12
    · rw [if_pos c]; exact ⟨2, rfl, fun h => by omega⟩
    · rw [if_neg c, show (1 : Int32) = nI 1 from rfl, z_subN (by omega), if_pos (z_inbN (show k_wd hh i - 1 < 24 by omega) (by decide)), z_cl (by omega), hR _ (by omega)]
      exact ⟨_, rfl, fun _ => rfl⟩
  obtain ⟨v6, b6, g6⟩ : ∃ v6, (if nI (k_wd hh i) ≤ (13 : Int32) then some (2 : Int32) else if q_inb (nI (k_wd hh i) - (2 : Int32)) 24 = true then some (D.2.1 171 (nI (k_wd hh i) - (2 : Int32)).toNatClampNeg) else none) = some v6 ∧ (14 ≤ k_wd hh i → v6 = k_y (r (k_wd hh i - 2))) := by
    have le : (nI (k_wd hh i) ≤ (13 : Int32)) = (k_wd hh i ≤ 13) := by rw [show (13 : Int32) = nI 13 from rfl, z_leN (by omega) (by decide)]
    simp only [le]
    by_cases c : k_wd hh i ≤ 13
    · rw [if_pos c]; exact ⟨2, rfl, fun h => by omega⟩
    · rw [if_neg c, show (2 : Int32) = nI 2 from rfl, z_subN (by omega), if_pos (z_inbN (show k_wd hh i - 2 < 24 by omega) (by decide)), z_cl (by omega), hR _ (by omega)]
      exact ⟨_, rfl, fun _ => rfl⟩
  have e1 : (nI (P.op i) = 1) = (P.op i = 1) := z_nk46 hop (m := 1) (by omega)
  have e2 : (nI (P.op i) = 2) = (P.op i = 2) := z_nk46 hop (m := 2) (by omega)
  have e3 : (nI (P.op i) = 3) = (P.op i = 3) := z_nk46 hop (m := 3) (by omega)
  have e5 : (nI (P.op i) = 5) = (P.op i = 5) := z_nk46 hop (m := 5) (by omega)
  have e7 : (nI (P.op i) = 7) = (P.op i = 7) := z_nk46 hop (m := 7) (by omega)
  have e30 : (nI (P.op i) = 30) = (P.op i = 30) := z_nk46 hop (m := 30) (by omega)
  have e31 : (nI (P.op i) = 31) = (P.op i = 31) := z_nk46 hop (m := 31) (by omega)
  have e33 : (nI (P.op i) = 33) = (P.op i = 33) := z_nk46 hop (m := 33) (by omega)
  have e35 : (nI (P.op i) = 35) = (P.op i = 35) := z_nk46 hop (m := 35) (by omega)
  have e37 : (nI (P.op i) = 37) = (P.op i = 37) := z_nk46 hop (m := 37) (by omega)
  have e39 : (nI (P.op i) = 39) = (P.op i = 39) := z_nk46 hop (m := 39) (by omega)
  have e40 : (nI (P.op i) = 40) = (P.op i = 40) := z_nk46 hop (m := 40) (by omega)
  have f9 := rt_b.top D (nI (k_wd hh i - k_tk M P i))
  have N9 : s_N p q n g K M P m C (q_sI D 102 23 (nI (k_wd hh i - k_tk M P i))) := N.rf (F := 0) (E := 0) hp hq ⟨fun y j a c _ _ => f9.1 y j c a, rfl, rfl⟩
  have t9 : (q_sI D 102 23 (nI (k_wd hh i - k_tk M P i))).2.1 102 23 = nI (k_wd hh i - k_tk M P i) := by rw [q_sI_I, if_pos ⟨rfl, rfl⟩]
  have r9 : ∀ j, (q_sI D 102 23 (nI (k_wd hh i - k_tk M P i))).2.1 171 j = D.2.1 171 j := fun j => by rw [q_sI_I, if_neg (by omega)]
  simp only [fX12_typesBehind, i1, if_true, c1, ht, z_howMany N.S hi, Option.bind_some, es, y1, y2, e1, e2, e3, e5, e7, e30, e31, e33, e35, e37, e39, e40]
  rw [b4]
  simp only [Option.bind_some]
  rw [b6]
  simp only [Option.bind_some]
  generalize hD9 : q_sI D 102 23 (nI (k_wd hh i - k_tk M P i)) = D9 at f9 N9 t9 r9 ⊢
  have R9 : rt_R D9 (k_wd hh i) r := fun s hs => (r9 s).trans (hR s hs)
  -- where one type is left
  have fin : ∀ x, k_lv M P i = 1 → r' = k_up r (k_wd hh i - k_tk M P i) x → ∃ D', (fX12_leave D9 (k_y x)).bind some = some D' ∧ rt_b D D' ∧ rt_R D' (k_w' M P hh i) r' := by
    intro x hl hr'
    obtain ⟨D', z1, z2, z3, z4⟩ := z_leave (v := k_y x) t9 (by omega)
    refine ⟨D', by rw [z1]; rfl, f9.trans z2, ?_⟩
    rw [hr']
    exact R9.lv z4 (fun s hs => by omega)
  have lf : P.op i ≠ 2 → P.op i ≠ 3 → P.op i ≠ 5 → P.op i ≠ 7 → P.op i ≠ 33 → k_lv M P i = 1 → r' = k_up r (k_wd hh i - k_tk M P i) (k_lf M P i) := by
    intro n2 n3 n5 n7 n33 hl
    rw [k_tr, if_neg n2, if_neg n3, if_neg n5, if_neg n7, if_neg n33, if_pos hl] at hr
    cases hr; rfl
  by_cases q1 : P.op i = 1
  · have hl : k_lv M P i = 1 := (k_tk_at (M := M) 1 q1 (by decide) (by decide)).2
    rw [if_pos q1]
    exact fin 65 hl (by rw [lf (by omega) (by omega) (by omega) (by omega) (by omega) hl, k_lf, if_pos q1])
  rw [if_neg q1]
  by_cases c2 : P.op i = 2
  · obtain ⟨t1, t2⟩ := k_tk_at (M := M) 2 c2 (by decide) (by decide)
    have t1 : k_tk M P i = 0 := t1
    have t2 : k_lv M P i = 1 := t2
    obtain ⟨a1, a2, a3⟩ := k_xa_12 N hi (Or.inl c2)
    rw [k_tr, if_pos c2] at hr
    rw [if_pos c2, a3, if_pos (z_inbN (show k_xa P i < 24 by omega) (by decide)), z_cl (show k_xa P i < 2147483648 by omega), R9 _ (by omega)]
    refine fin _ t2 ?_
    cases hr
    rw [t1]; rfl
  rw [if_neg c2]
  by_cases c3 : P.op i = 3
  · obtain ⟨t1, t2⟩ := k_tk_at (M := M) 3 c3 (by decide) (by decide)
    have t1 : k_tk M P i = 1 := t1
    have t2 : k_lv M P i = 0 := t2
    obtain ⟨a1, a2, a3⟩ := k_xa_12 N hi (Or.inr (Or.inl c3))
    rw [k_tr, if_neg c2, if_pos c3] at hr
    cases hr
    rw [if_pos c3, a3, if_pos (z_inbN (show k_xa P i < 24 by omega) (by decide)), z_cl (show k_xa P i < 2147483648 by omega), g4 (by omega)]
    refine ⟨_, rfl, f9.trans ⟨fun y j a _ => by rw [q_sI_I, if_neg (by omega)], rfl, rfl⟩, ?_⟩
    intro s hs
    rw [q_sI_I]
    by_cases e : s = k_xa P i
    · rw [if_pos ⟨rfl, e⟩, e, k_up_eq]
    · rw [if_neg (by omega), k_up_ne e]; exact R9 s (by omega)
  rw [if_neg c3]
  by_cases c5 : P.op i = 5
  · obtain ⟨t1, t2⟩ := k_tk_at (M := M) 5 c5 (by decide) (by decide)
    have t1 : k_tk M P i = 1 := t1
    have t2 : k_lv M P i = 2 := t2
    rw [k_tr, if_neg c2, if_neg c3, if_pos c5] at hr
    cases hr
    rw [if_pos c5, g4 (by omega)]
    obtain ⟨D', z1, z2, z3, z4⟩ := z_leave (v := k_y (r (k_wd hh i - 1))) t9 (by omega)
    obtain ⟨D'', x1, x2, x3, x4⟩ := z_leave (v := k_y (r (k_wd hh i - 1))) z3 (by omega)
    refine ⟨D'', by rw [z1, Option.bind_some, x1]; rfl, (f9.trans z2).trans x2, fun s hs => ?_⟩
    rw [x4, z4]
    by_cases e : s = k_wd hh i
    · rw [if_pos (by omega), e, k_up_eq]
    · rw [if_neg (by omega), k_up_ne e]
      by_cases e' : s = k_wd hh i - k_tk M P i
      · rw [if_pos e', e', t1]
      · rw [if_neg e']; exact R9 s (by omega)
  rw [if_neg c5]
  by_cases c7 : P.op i = 7
  · obtain ⟨t1, t2⟩ := k_tk_at (M := M) 7 c7 (by decide) (by decide)
    have t1 : k_tk M P i = 2 := t1
    have t2 : k_lv M P i = 2 := t2
    rw [k_tr, if_neg c2, if_neg c3, if_neg c5, if_pos c7] at hr
    cases hr
    rw [if_pos c7, g4 (by omega), g6 (by omega)]
    obtain ⟨D', z1, z2, z3, z4⟩ := z_leave (v := k_y (r (k_wd hh i - 1))) t9 (by omega)
    obtain ⟨D'', x1, x2, x3, x4⟩ := z_leave (v := k_y (r (k_wd hh i - 2))) z3 (by omega)
    refine ⟨D'', by rw [z1, Option.bind_some, x1]; rfl, (f9.trans z2).trans x2, fun s hs => ?_⟩
    rw [x4, z4]
    by_cases e : s = k_wd hh i - 1
    · rw [if_pos (by omega), e, k_up_eq]
    · rw [if_neg (by omega), k_up_ne e]
      by_cases e' : s = k_wd hh i - 2
      · rw [if_pos (by omega), e', k_up_eq]
      · rw [if_neg (by omega), k_up_ne e']; exact R9 s (by omega)
  rw [if_neg c7]
  by_cases c30 : P.op i = 30 ∨ P.op i = 31
  · have hl : k_lv M P i = 1 := by
      rcases c30 with c | c
      · exact (k_tk_at (M := M) 30 c (by decide) (by decide)).2
      · exact (k_tk_at (M := M) 31 c (by decide) (by decide)).2
    have h32 := hK.2.1
    have bs := N.S.bs
    obtain ⟨x, x1, x2, x3, x4, x5⟩ : ∃ x, P.xa i = nI x ∧ x < 100 ∧ P.ya i = nI (P.si i) ∧ P.si i < P.ns ∧ P.st (P.si i) = x := by
      rcases c30 with c | c
      · obtain ⟨x, x1, x2, x3, x4, x5⟩ := w.oN c
        exact ⟨x, x1, by omega, x3, x4, x5⟩
      · obtain ⟨x, x1, x2, x3, x4, x5⟩ := w.oA c
        exact ⟨x, x1, by omega, x3, x4, x5⟩
    rw [if_pos c30, x3, if_pos (z_inbN (show P.si i < 54 by omega) (by decide)), z_cl (show P.si i < 2147483648 by omega), N9.S.sT _ x4, x5]
    exact fin x hl (by rw [lf c2 c3 c5 c7 (by omega) hl, k_lf, if_neg q1, if_pos (by omega), k_xa, x1, z_cl (by omega)])
  rw [if_neg c30]
  by_cases c33 : P.op i = 33
  · obtain ⟨t1, t2⟩ := k_tk_at (M := M) 33 c33 (by decide) (by decide)
    have t1 : k_tk M P i = 2 := t1
    have t2 : k_lv M P i = 1 := t2
    rw [k_tr, if_neg c2, if_neg c3, if_neg c5, if_neg c7, if_pos c33] at hr
    by_cases e65 : r (k_wd hh i - 2) = 65
    · rw [if_pos e65] at hr; cases hr
    · rw [if_neg e65] at hr
      cases hr
      rw [if_pos c33, g6 (by omega), z_elem12 (k_vt_lt hK (hv _ (by omega))) e65, Option.bind_some]
      exact fin _ t2 (by rw [t1])
  rw [if_neg c33]
  by_cases c35 : P.op i = 35
  · have hl : k_lv M P i = 1 := (k_tk_at (M := M) 35 c35 (by decide) (by decide)).2
    obtain ⟨f, cc, x1, x2, x3, x4, -⟩ := w.oF (Or.inl c35)
    rw [if_pos c35, x2, if_pos (z_inbN (show f < 48 by omega) (by decide)), z_cl (show f < 2147483648 by omega), (N9.S.mJ.dF.2 f x4).2.2]
    exact fin _ hl (by rw [lf c2 c3 c5 c7 c33 hl, k_lf, if_neg q1, if_neg (by omega), if_pos c35, k_xa, x1, z_cl (by omega)])
  rw [if_neg c35]
  by_cases c37 : P.op i = 37
  · have hl : k_lv M P i = 1 := (k_tk_at (M := M) 37 c37 (by decide) (by decide)).2
    obtain ⟨x, x1, x2, x3, -⟩ := w.oT (Or.inl c37)
    have := k_tok_lt hK x3
    rw [if_pos c37, x2]
    exact fin _ hl (by rw [lf c2 c3 c5 c7 c33 hl, k_lf, if_neg q1, if_pos (by omega), k_xa, x1, z_cl (by omega)])
  rw [if_neg c37]
  by_cases c39 : P.op i = 39 ∨ P.op i = 40
  · obtain ⟨f, cc, x1, x2, x3, x4, -⟩ := w.oB c39
    have hf := k_fb_of (P := P) (by omega) x1
    have hrng : M.br f < 69 := by
      rcases k_br_rng hK N.S.mJ x4 with h | h
      · omega
      · have := k_tok_lt hK h; omega
    rw [if_pos c39, x1, if_pos (z_inbN (show f < 48 by omega) (by decide)), z_cl (show f < 2147483648 by omega), (N9.S.mJ.dB.2 f x4).2.2.2.2.1]
    simp only [k_y_m1 hrng]
    by_cases e68 : M.br f = 68
    · have hl : k_lv M P i = 0 := by rw [k_lv, if_pos c39, hf, if_pos e68]
      rw [k_tr, if_neg c2, if_neg c3, if_neg c5, if_neg c7, if_neg c33, if_neg (by omega)] at hr
      cases hr
      rw [if_pos e68]
      exact ⟨_, rfl, f9, fun s hs => R9 s (by omega)⟩
    · have hl : k_lv M P i = 1 := by rw [k_lv, if_pos c39, hf, if_neg e68]
      rw [if_neg e68, if_pos (z_inbN (show f < 48 by omega) (by decide))]
      exact fin _ hl (by rw [lf c2 c3 c5 c7 c33 hl, k_lf, if_neg q1, if_neg (by omega), if_neg c35, if_pos c39, hf])
  rw [if_neg c39, z_leaves12 hK N9.S hi]
  have l1 : (nI (k_lv M P i) = 1) = (k_lv M P i = 1) := by rw [show (1 : Int32) = nI 1 from rfl, z_eqN (by have := (k_tk_le N.S hi).2; omega) (by decide)]
  simp only [Option.bind_some, l1]
  by_cases cl : k_lv M P i = 1
  · rw [if_pos cl]
    exact fin 66 cl (by rw [lf c2 c3 c5 c7 c33 cl, k_lf, if_neg q1, if_neg (by omega), if_neg c35, if_neg c39])
  · rw [k_tr, if_neg c2, if_neg c3, if_neg c5, if_neg c7, if_neg c33, if_neg cl] at hr
    cases hr
    have hl : k_lv M P i = 0 := by
      have hl2 := (k_tk_le N.S hi).2
      by_cases e : k_lv M P i = 2
      · exfalso
        rw [k_lv] at e
        split at e
        · split at e <;> omega
        · have : ∀ k : Fin 46, tb_L.getD k 0 = 2 → k.1 = 5 ∨ k.1 = 7 := by decide +kernel
          rcases this ⟨P.op i, hop⟩ e with h | h
          · exact c5 h
          · exact c7 h
      · omega
    rw [if_neg cl]
    exact ⟨_, rfl, f9, fun s hs => R9 s (by omega)⟩
end ZTR3
