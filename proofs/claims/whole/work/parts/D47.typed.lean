/-! ===== the run: frames that keep to their types ===== -/
/-- a frame that stands before instruction i -/
def r_tf (K : ZK) (P : ZP) (hh : Nat → Nat → Int32) (R : Nat → Nat → Bool) (T : Nat → Nat → Nat → Nat) (H : ZH) (i hf : Nat) (v : Nat → Nat × Int32) : Prop := i < P.n ∧ R (P.bd i) i = true ∧ hf = k_hN (hh (P.bd i)) i ∧ ∀ s, s < 12 + hf → r_vo H (v s) ∧ k_blw K (v s).1 (T (P.bd i) i s) = true
/-- a frame whose call at i has not come back -/
def r_lf (K : ZK) (M : ZM) (P : ZP) (hh : Nat → Nat → Int32) (R : Nat → Nat → Bool) (T : Nat → Nat → Nat → Nat) (H : ZH) (i hf : Nat) (v : Nat → Nat × Int32) (b : Nat) : Prop := i < P.n ∧ R (P.bd i) i = true ∧ (P.op i = 39 ∨ P.op i = 40) ∧ hf + k_tk M P i = k_hN (hh (P.bd i)) i ∧ M.br b = M.br (k_fb P i) ∧ ∀ s, s < 12 + hf → r_vo H (v s) ∧ k_blw K (v s).1 (T (P.bd i) i s) = true
section ZRT
variable {p q n m : Nat} {g : ZT} {K : ZK} {M : ZM} {P : ZP} {hh : Nat → Nat → Int32} {R : Nat → Nat → Bool} {T : Nat → Nat → Nat → Nat} {Cx Dx C D : QS} {d : Nat} {h : Nat → Nat} {V : Nat → Nat → Nat × Int32} {pa pd : Nat → Nat} {H : ZH} {X : ZX} {to pl : Nat}
theorem r_W.in (W : r_W p q n g K M P m hh R T Cx Dx) {i : Nat} (hi : i < P.n) : P.bd i < M.bc ∧ P.fi (P.bd i) ≤ i ∧ i < P.en (P.bd i) := ⟨(W.N.S.wI i hi).bd, (W.N.S.wI i hi).lo, (W.N.S.wI i hi).hi⟩
theorem r_W.hi (W : r_W p q n g K M P m hh R T Cx Dx) {i : Nat} (hi : i < P.n) (hR : R (P.bd i) i = true) : k_hi M P (hh (P.bd i)) i ∧ k_rvt K (k_wd (hh (P.bd i)) i) (T (P.bd i) i) := by
  obtain ⟨a, b, c⟩ := W.in hi
  exact (W.cl _ a).2.1 i b c hR
theorem r_W.fit (W : r_W p q n g K M P m hh R T Cx Dx) {i : Nat} (hi : i < P.n) (hR : R (P.bd i) i = true) : k_ft K M P (hh (P.bd i)) i (T (P.bd i) i) := by
  obtain ⟨a, b, c⟩ := W.in hi
  exact W.ft _ a i b c hR
/-- on to the next instruction, or to the label -/
theorem r_tf.go (W : r_W p q n g K M P m hh R T Cx Dx) {i j hf : Nat} {r : Nat → Nat} {v : Nat → Nat × Int32} (hi : i < P.n) (hR : R (P.bd i) i = true) (hj : (k_nx (P.op i) = true ∧ j = i + 1) ∨ (k_lb (P.op i) = true ∧ j = k_tg P i)) (ht : k_tr M P (hh (P.bd i)) i (T (P.bd i) i) = some r) (eh : hf = k_hN (hh (P.bd i)) i - k_tk M P i + k_lv M P i) (hv : ∀ s, s < 12 + hf → r_vo H (v s) ∧ k_blw K (v s).1 (r s) = true) : r_tf K P hh R T H j hf v := by
  obtain ⟨hb, h1, h2⟩ := W.in hi
  obtain ⟨hH, hvt⟩ := W.hi hi hR
  have B := W.N.B _ hb
  have hle := B.le
  obtain ⟨e1, e2, -⟩ := (W.ok _ hb).at h1 h2 hH
  obtain ⟨a1, a2, a3, a4⟩ := hH
  obtain ⟨j1, j2, ej, jR, jT⟩ : P.fi (P.bd i) ≤ j ∧ j < P.en (P.bd i) ∧ hh (P.bd i) j = nI (k_hN (hh (P.bd i)) i - k_tk M P i + k_lv M P i) ∧ R (P.bd i) j = true ∧ k_rle K (k_wd (hh (P.bd i)) j) r (T (P.bd i) j) := by
    have x6 := ((W.cl _ hb).2.2 i h1 h2 hR).1 r ht
    rcases hj with ⟨c, rfl⟩ | ⟨c, rfl⟩
    · obtain ⟨y1, y2⟩ := x6.1 c
      exact ⟨by omega, k_nx_in B h2 c, e1 c, y1, y2⟩
    · obtain ⟨y1, y2⟩ := x6.2 c
      obtain ⟨t1, t2, -⟩ := k_lb_in W.N hb h1 h2 c
      exact ⟨t1, t2, e2 c, y1, y2⟩
  have hbj := B.bd j j1 j2
  have hj8 := k_hN_of ej (by omega)
  rw [r_tf, hbj]
  refine ⟨by omega, jR, by omega, fun s hs => ⟨(hv s hs).1, k_blw_trans W.hK (hv s hs).2 (jT s ?_)⟩⟩
  rw [k_wd, hj8]; omega
/-- to the handler -/
theorem r_tf.catch (W : r_W p q n g K M P m hh R T Cx Dx) {i k : Nat} {v : Nat → Nat × Int32} (hi : i < P.n) (hR : R (P.bd i) i = true) (hk : k < P.nc) (hc : k_cov P k i = true) (hv : ∀ s, s < 12 → r_vo H (v s) ∧ k_blw K (v s).1 (T (P.bd i) i s) = true) (ho : r_vo H (v 12) ∧ k_blw K (v 12).1 (P.cl k) = true) : r_tf K P hh R T H (P.ca k) 1 v ∧ P.bd (P.ca k) = P.bd i := by
  obtain ⟨hb, h1, h2⟩ := W.in hi
  obtain ⟨hH, hvt⟩ := W.hi hi hR
  have B := W.N.B _ hb
  have hle := B.le
  obtain ⟨-, -, e3⟩ := (W.ok _ hb).at h1 h2 hH
  obtain ⟨j1, j2, -⟩ := k_cov_in W.N hb h1 h2 hk hc
  obtain ⟨y1, y2⟩ := ((W.cl _ hb).2.2 i h1 h2 hR).2 k hk hc
  have hbj := B.bd _ j1 j2
  have hj8 := k_hN_of (e3 k hk hc) (by omega)
  refine ⟨?_, hbj⟩
  rw [r_tf, hbj]
  refine ⟨by omega, y1, by omega, fun s hs => ?_⟩
  have yy := y2 s (by rw [k_wd, hj8]; omega)
  by_cases e : s = 12
  · subst e
    rw [k_up_eq] at yy
    exact ⟨ho.1, k_blw_trans W.hK ho.2 yy⟩
  · rw [k_up_ne e] at yy
    exact ⟨(hv s (by omega)).1, k_blw_trans W.hK (hv s (by omega)).2 yy⟩
/-- what a row that suits says of the values -/
theorem k_fit_dn {t x y : Nat} (W : r_W p q n g K M P m hh R T Cx Dx) (h : k_fit K t y = true) (hb : k_blw K x y = true) (hx : k_vt K x) : k_fit K t x = true := by
  rw [k_fit] at h ⊢
  by_cases c : t = 69
  · rw [if_pos c] at h ⊢
    rw [k_ar_iff] at h ⊢
    have h32 := W.hK.2.1
    have x67 := k_vt_lt W.hK hx
    rcases k_blw_iff.mp hb with e | e | ⟨a1, a2, a3⟩
    · rw [e]; exact h
    · omega
    · rcases a3 with a3 | a3 | a3 | a3 <;> omega
  · rw [if_neg c] at h ⊢
    exact k_blw_trans W.hK hb h
theorem r_tf.told (W : r_W p q n g K M P m hh R T Cx Dx) (B : r_ob K H) {i hf : Nat} {v : Nat → Nat × Int32} (t : r_tf K P hh R T H i hf v) (h2 : P.op i ≠ 2) (h4 : P.op i ≠ 4) (h43 : P.op i ≠ 43) : k_tk M P i ≤ hf ∧ hf ≤ 8 ∧ hf + k_lv M P i ≤ 8 + k_tk M P i ∧ ∀ j, j < k_tk M P i → k_fit K (k_told M P i j) (v (12 + hf - k_tk M P i + j)).1 = true := by
  obtain ⟨hi, hR, e, hv⟩ := t
  obtain ⟨⟨a1, a2, a3, a4⟩, -⟩ := W.hi hi hR
  have f := W.fit hi hR
  rw [k_ft, if_neg h2, if_neg h4, if_neg h43] at f
  refine ⟨by omega, by omega, by omega, fun j hj => ?_⟩
  obtain ⟨b1, b2⟩ := hv (12 + hf - k_tk M P i + j) (by omega)
  have f1 := f.1 j hj
  have hw : k_wd (hh (P.bd i)) i - k_tk M P i + j = 12 + hf - k_tk M P i + j := by rw [k_wd, e]
  rw [hw] at f1
  exact k_fit_dn W f1 b2 (b1.vt B)
theorem r_tf.h8 (W : r_W p q n g K M P m hh R T Cx Dx) {i hf : Nat} {v : Nat → Nat × Int32} (t : r_tf K P hh R T H i hf v) : k_tk M P i ≤ hf ∧ hf ≤ 8 ∧ hf + k_lv M P i ≤ 8 + k_tk M P i := by
  obtain ⟨hi, hR, e, hv⟩ := t
  obtain ⟨⟨a1, a2, a3, a4⟩, -⟩ := W.hi hi hR
  exact ⟨by omega, by omega, by omega⟩
/-- the class finds the frame right -/
theorem rC.noStray (W : r_W p q n g K M P m hh R T Cx Dx) (B : r_ob K H) (I : rC p Cx d h V pa H X to pl C) {i : Nat} (t : r_tf K P hh R T H i (h d) (V d)) : fX6_isStray C p (nI i) = some false := by
  have hi := t.1
  obtain ⟨hb, b1, b2⟩ := W.in hi
  obtain ⟨hH, hvt⟩ := W.hi hi t.2.1
  have bn := W.N.S.bn
  have hd := I.F.lt
  obtain ⟨y1, y2, -, -, y5, -⟩ := W.N.S.iC i hi
  have h17 : C.2.1 (p + 17) i = nI (h d) := by rw [I.g 17 (by decide), (W.hc _ hb i b1 b2).1, hH.2.1, t.2.2.1]
  obtain ⟨h8, eh⟩ := I.F.h d (Nat.le_refl _)
  obtain ⟨tk1, -, -⟩ := t.h8 W
  have hop := (W.N.S.wI i hi).op
  have tk := (r_takes I.g (nI i)).trans (z_takes5 W.hG W.N.S hi)
  have i1 := z_inbN (show i < 1024 by omega) (by decide)
  have c1 := z_cl (show i < 2147483648 by omega)
  have e20 : nI d * (20 : Int32) = nI (d * 20) := nI_mulN d 20
  have eb : nI (d * 20 + (12 + h d)) - nI (k_tk M P i) = nI (d * 20 + (12 + h d - k_tk M P i)) := by
    rw [z_subN (by omega)]; congr 1; omega
  have e2 : (nI (P.op i) = 2) = (P.op i = 2) := z_nk46 hop (m := 2) (by omega)
  have e4 : (nI (P.op i) = 4) = (P.op i = 4) := z_nk46 hop (m := 4) (by omega)
  have e43 : (nI (P.op i) = 43) = (P.op i = 43) := z_nk46 hop (m := 43) (by omega)
  have e34 : (nI (P.op i) = 34) = (P.op i = 34) := z_nk46 hop (m := 34) (by omega)
  have ft := W.fit hi t.2.1
  have su : fX5_suits C p (nI i) 97 1280 (nI (d * 20)) (nI (d * 20 + (12 + h d - k_tk M P i))) = some true := by
    simp only [fX5_suits, i1, if_true, c1, I.g 11 (by decide), I.g 12 (by decide), I.g 15 (by decide), I.g 27 (by decide), y1, y2, y5, e2, e4, e43, tk, Option.bind_some]
    by_cases q2 : P.op i = 2
    · obtain ⟨a1, a2, -⟩ := k_xa_12 W.N hi (Or.inl q2)
      rw [k_ft, if_pos q2] at ft
      obtain ⟨v1, v2⟩ := t.2.2.2 (k_xa P i) (by omega)
      have v3 : (V d (k_xa P i)).1 ≠ 67 := fun e => by
        rw [e] at v2
        rcases k_blw_iff.mp v2 with x | x | x
        · exact ft x.symm
        · exact ft x
        · omega
      obtain ⟨w1, w2, -⟩ := I.tv (show k_xa P i < 12 + h d by omega)
      rw [if_pos q2, a2, nI_add, if_pos (z_inbN (show d * 20 + k_xa P i < 1280 by omega) (by decide)), z_cl (show d * 20 + k_xa P i < 2147483648 by omega), w2, if_neg]
      rw [show (67 : Int32) = nI 67 from rfl, z_eqN (by omega) (by decide)]; exact v3
    rw [if_neg q2]
    by_cases q4 : P.op i = 4
    · obtain ⟨a1, a2, -⟩ := k_xa_12 W.N hi (Or.inr (Or.inr q4))
      rw [k_ft, if_neg q2, if_pos q4] at ft
      obtain ⟨v1, v2⟩ := t.2.2.2 (k_xa P i) (by omega)
      rw [ft] at v2
      have v3 := r_blw66 v2
      obtain ⟨w1, w2, -⟩ := I.tv (show k_xa P i < 12 + h d by omega)
      rw [if_pos q4, a2, nI_add, if_pos (z_inbN (show d * 20 + k_xa P i < 1280 by omega) (by decide)), z_cl (show d * 20 + k_xa P i < 2147483648 by omega), w2, v3]; rfl
    rw [if_neg q4]
    by_cases q43 : P.op i = 43
    · rw [k_ft, if_neg q2, if_neg q4, if_pos q43] at ft
      have h48 := W.N.S.mJ.mB.1
      rw [if_pos q43, if_pos (z_inbN (show P.bd i < 48 by omega) (by decide)), z_cl (show P.bd i < 2147483648 by omega), (W.N.S.mJ.cB.2 (P.bd i) hb).2.2.2.2.1, ft]; rfl
    rw [if_neg q43]
    obtain ⟨-, -, -, tt⟩ := t.told W B q2 q4 q43
    exact r_suits127 (r := fun j => (V d (12 + h d - k_tk M P i + j)).1) W I.g hi (by omega) (fun j hj => by
      obtain ⟨w1, w2, -⟩ := I.tv (show 12 + h d - k_tk M P i + j < 12 + h d by omega)
      exact ⟨by rw [Nat.add_assoc]; exact w2, w1⟩) tt (k_tk M P i) 0 (by omega)
  simp only [fX6_isStray, I.F.d, z_inbN hd (by decide), if_true, i1, z_cl (show d < 2147483648 by omega), c1, eh, h17, I.top, tk, Option.bind_some, e20, eb, su, I.g 11 (by decide), y1, e34]
  by_cases q34 : P.op i = 34
  · have t1 : k_tk M P i = 3 := (k_tk_at (M := M) 34 q34 (by decide) (by decide)).1
    obtain ⟨-, -, -, tt⟩ := t.told W B (by omega) (by omega) (by omega)
    rw [k_ft, if_neg (by omega), if_neg (by omega), if_neg (by omega)] at ft
    have f2 := ft.2 q34
    have f1 := ft.1 0 (by omega)
    have fa : k_fit K 69 (T (P.bd i) i (k_wd (hh (P.bd i)) i - 3)) = true := by
      rw [t1, Nat.add_zero, k_told, if_neg (by omega), if_neg (by omega), if_neg (by omega), if_neg (by omega), if_pos q34, if_pos rfl] at f1
      exact f1
    have hw : k_wd (hh (P.bd i)) i = 12 + h d := by rw [k_wd, t.2.2.1]
    rw [hw] at f2 fa
    obtain ⟨v1, v2⟩ := t.2.2.2 (12 + h d - 1) (by omega)
    obtain ⟨u1, u2⟩ := t.2.2.2 (12 + h d - 3) (by omega)
    obtain ⟨w1, w2, -⟩ := I.tv (show 12 + h d - 1 < 12 + h d by omega)
    obtain ⟨z1, z2, -⟩ := I.tv (show 12 + h d - 3 < 12 + h d by omega)
    have h32 := W.hK.2.1
    have vv := hvt (12 + h d - 1) (by omega)
    have va := hvt (12 + h d - 3) (by omega)
    have el : k_elm K (if 65 ≤ (V d (12 + h d - 1)).1 then (V d (12 + h d - 1)).1 else 65) (V d (12 + h d - 3)).1 = true := by
      rw [k_fit, if_pos rfl, k_ar_iff] at fa
      generalize (V d (12 + h d - 1)).1 = x at *
      generalize (V d (12 + h d - 3)).1 = a at *
      generalize T (P.bd i) i (12 + h d - 1) = tx at *
      generalize T (P.bd i) i (12 + h d - 3) = ta at *
      rw [k_elm] at f2 ⊢
      by_cases ca : a = 65
      · rw [if_pos ca]
        refine decide_eq_true (fun e67 => ?_)
        have x67 : x = 67 := by
          revert e67; split
          · exact id
          · omega
        rw [x67] at v2
        have tx67 : tx = 67 := by rcases k_blw_iff.mp v2 with e | e | e <;> omega
        by_cases cta : ta = 65
        · rw [if_pos cta, tx67] at f2; exact absurd f2 (by decide)
        · rw [if_neg cta, tx67] at f2
          have : k_el ta = 67 := by rcases k_blw_iff.mp f2 with e | e | e <;> omega
          rw [k_el] at this
          split at this
          · omega
          · split at this
            · omega
            · omega
      · rw [if_neg ca]
        have a67 : a ≤ 65 := r_blw65 u2 (by omega)
        have cta : ta ≠ 65 := fun e => by rw [e] at u2; exact ca (r_blwn h32 u2)
        rw [if_neg cta] at f2
        have f3 := k_blw_trans W.hK v2 f2
        rcases k_blw_iff.mp u2 with e | e | ⟨a1, a2, a3⟩
        · rw [e]
          by_cases c64 : ta = 64
          · rw [c64] at f3 ⊢
            have := r_blw66 (x := x) f3
            rw [if_pos (by omega)]; exact f3
          · have te : k_el ta = ta - 32 := by rw [k_el, if_neg c64, if_neg cta, if_pos (by omega)]
            rw [te] at f3 ⊢
            have := r_blw65 f3 (by omega)
            by_cases c65 : 65 ≤ x
            · rw [if_pos c65]; exact f3
            · rw [if_neg c65]
              exact k_blw_iff.mpr (Or.inr (Or.inr ⟨by omega, by omega, Or.inl rfl⟩))
        · omega
        · have a32 : 32 ≤ a ∧ 32 ≤ ta ∧ a < 64 ∧ ta < 64 := by rcases a3 with a3 | a3 | a3 | a3 <;> omega
          have te : k_el ta = ta - 32 := by rw [k_el, if_neg (by omega), if_neg cta, if_pos (by omega)]
          have ae : k_el a = a - 32 := by rw [k_el, if_neg (by omega), if_neg ca, if_pos (by omega)]
          rw [te] at f3
          rw [ae]
          have := r_blw65 f3 (by omega)
          have ex : (if 65 ≤ x then x else 65) = 65 := by split <;> omega
          rw [ex]
          exact k_blw_iff.mpr (Or.inr (Or.inr ⟨by omega, by omega, Or.inl rfl⟩))
    have e65 : ((65 : Int32) ≤ nI (V d (12 + h d - 1)).1) = (65 ≤ (V d (12 + h d - 1)).1) := by rw [show (65 : Int32) = nI 65 from rfl, z_leN (by decide) (by omega)]
    have eb2 : nI (d * 20 + (12 + h d - 3)) + (2 : Int32) = nI (d * 20 + (12 + h d - 1)) := by
      rw [show (2 : Int32) = nI 2 from rfl, nI_add]; congr 1; omega
    rw [if_pos q34, t1]
    simp only [eb2, z_inbN (show d * 20 + (12 + h d - 1) < 1280 by omega) (by decide), if_true, z_cl (show d * 20 + (12 + h d - 1) < 2147483648 by omega), w2, e65, z_inbN (show d * 20 + (12 + h d - 3) < 1280 by omega) (by decide), z_cl (show d * 20 + (12 + h d - 3) < 2147483648 by omega), z2]
    have fin : ∀ y, y ≤ 67 → k_elm K y (V d (12 + h d - 3)).1 = true → (Option.bind (α := Int32) (some (nI y)) fun v12 => (fX0_isElement C p v12 (nI (V d (12 + h d - 3)).1)).bind fun r14 => if r14 = true then some false else some true) = some false := by
      intro y hy he
      rw [Option.bind_some, z_isElem W.hK (r_kC W I.g) hy z1, he]; rfl
    by_cases c65 : 65 ≤ (V d (12 + h d - 1)).1
    · rw [if_pos c65] at el ⊢
      exact fin _ w1 el
    · rw [if_neg c65] at el ⊢
      exact fin 65 (by decide) el
  · rw [if_neg q34]
/-- the reference finds the frame right -/
theorem rD.holds (W : r_W p q n g K M P m hh R T Cx Dx) (B : r_ob K H) (I : rD q Dx d h V pd H X pl D) {i : Nat} (t : r_tf K P hh R T H i (h d) (V d)) : fX12_holds D q (nI i) = some true := by
  have hi := t.1
  obtain ⟨hb, b1, b2⟩ := W.in hi
  obtain ⟨hH, hvt⟩ := W.hi hi t.2.1
  have bn := W.N.S.bn
  have hd := I.F.lt
  obtain ⟨h8, eh⟩ := I.F.h d (Nat.le_refl _)
  obtain ⟨r1, r2⟩ := W.rs _ hb i b1 b2
  have hw : k_wd (hh (P.bd i)) i = 12 + h d := by rw [k_wd, t.2.2.1]
  have h19 : D.2.1 (q + 19) i = nI (h d) := by rw [I.g 19 (by decide), (W.hc _ hb i b1 b2).2, hH.2.1, t.2.2.1]
  have h27 : D.2.1 (q + 27) i = 1 := by rw [I.g 27 (by decide), r1, t.2.1]; rfl
  obtain ⟨y1, y2, -⟩ := W.N.S.iD i hi
  have i1 := z_inbN (show i < 1024 by omega) (by decide)
  have c1 := z_cl (show i < 2147483648 by omega)
  have hop := (W.N.S.wI i hi).op
  have e2 : (nI (P.op i) = 2) = (P.op i = 2) := z_nk46 hop (m := 2) (by omega)
  have loop : ∀ e s, s + e = 12 + h d → q_run (tX12_holds_38 D q (nI i)) (nI s) = some true := by
    intro e
    induction e with
    | zero =>
      intro s hs
      refine q_run_ret ?_
      have g1 : ((12 : Int32) + nI (h d) ≤ nI s) := by rw [show (12 : Int32) = nI 12 from rfl, nI_add, z_leN (by omega) (by omega)]; omega
      simp only [tX12_holds_38, i1, if_true, c1, h19, if_pos g1, I.g 15 (by decide), I.g 16 (by decide), y1, y2, e2]
      by_cases q2 : P.op i = 2
      · obtain ⟨a1, a2, a3⟩ := k_xa_12 W.N hi (Or.inl q2)
        have ft := W.fit hi t.2.1
        rw [k_ft, if_pos q2] at ft
        obtain ⟨v1, v2⟩ := t.2.2.2 (k_xa P i) (by omega)
        have v3 : (V d (k_xa P i)).1 ≠ 67 := fun e => by
          rw [e] at v2
          rcases k_blw_iff.mp v2 with x | x | x
          · exact ft x.symm
          · exact ft x
          · omega
        rw [if_pos q2, a3, I.loc (show k_xa P i < 12 by omega), Option.bind_some, if_neg]
        rw [lg_eq, i64_big.1]
        rcases v1 with v1 | v1 | ⟨o, o1, o2⟩
        · rw [r_e_i v1, i64_int]
          have := i32_rng (V d (k_xa P i)).2
          omega
        · exact absurd v1 v3
        · rw [o2, r_e_ri B o1]
          have := B.1
          omega
      · rw [if_neg q2]
    | succ e ih =>
      intro s hs
      refine (q_run_go ?_).trans (ih (s + 1) (by omega))
      have g1 : ¬ ((12 : Int32) + nI (h d) ≤ nI s) := by rw [show (12 : Int32) = nI 12 from rfl, nI_add, z_leN (by omega) (by omega)]; omega
      obtain ⟨v1, v2⟩ := t.2.2.2 s (by omega)
      have e26 : D.2.1 (q + 26) (i * 20 + s) = k_y (T (P.bd i) i s) := by rw [I.g 26 (by decide)]; exact r2 t.2.1 s (by omega)
      have isof := r_isOf W I.g B (fun o o1 o2 => (I.H.o o o1 o2).1) (hvt s (by omega)) v1 v2
      have e12 : ((12 : Int32) ≤ nI s) = (12 ≤ s) := by rw [show (12 : Int32) = nI 12 from rfl, z_leN (by decide) (by omega)]
      have ei : nI i * (20 : Int32) + nI s = nI (i * 20 + s) := by rw [show nI i * (20 : Int32) = nI (i * 20) from nI_mulN i 20, nI_add]
      simp only [tX12_holds_38, i1, if_true, c1, h19, if_neg g1, e12, I.dm, ei, z_inbN (show i * 20 + s < 20480 by omega) (by decide), z_cl (show i * 20 + s < 2147483648 by omega), e26]
      by_cases c : 12 ≤ s
      · have es : nI d * (8 : Int32) + nI s - (12 : Int32) = nI (d * 8 + (s - 12)) := by
          rw [show nI d * (8 : Int32) = nI (d * 8) from nI_mulN d 8, nI_add, show (12 : Int32) = nI 12 from rfl, z_subN (by omega)]; congr 1; omega
        have ev := I.F.s d (s - 12) (Nat.le_refl _) (by omega)
        rw [show 12 + (s - 12) = s by omega] at ev
        rw [if_pos c, es, if_pos (z_inbN (show d * 8 + (s - 12) < 512 by omega) (by decide)), z_cl (show d * 8 + (s - 12) < 2147483648 by omega), ev, Option.bind_some, isof, Option.bind_some, if_pos rfl, nI_1]
      · rw [if_neg c, I.loc (by omega), Option.bind_some, Option.bind_some, isof, Option.bind_some, if_pos rfl, nI_1]
  have ed := I.dm
  simp only [fX12_holds, i1, if_true, c1, h27, h19, ed, z_inbN hd (by decide), z_cl (show d < 2147483648 by omega), eh, fX12_holds_38]
  rw [if_neg (by decide)]
  exact loop (12 + h d) 0 (by omega)
end ZRT
