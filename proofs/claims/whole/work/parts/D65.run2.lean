/-! ===== the run: its start ===== -/
theorem nI_surj (x : Int32) : ∃ k, x = nI k := ⟨x.toBitVec.toNat, by
  apply Int32.toBitVec_inj.mp
  show x.toBitVec = BitVec.ofNat 32 _
  simp⟩
section ZRS2
variable {p q n m : Nat} {g : ZT} {K : ZK} {M : ZM} {P : ZP} {hh : Nat → Nat → Int32} {R : Nat → Nat → Bool} {T : Nat → Nat → Nat → Nat} {Cx Dx C D : QS}
theorem r_start {lim ni : Nat} (W : r_W p q n g K M P m hh R T Cx Dx) (hl : lim ≤ 20000) (gC : r_gC p Cx C) (gD : r_gD q Dx D) (hI : w_I C D ni) (hR : w_R C D) (l2 : D.2.1 102 2 = 1) : ∃ r r', fX6_outcomeOf C p (nI lim) = some r ∧ fX12_run D q (nI lim) = some r' ∧ r_ret p q Cx Dx r r' := by
  have hp := W.hp
  have hq := W.hq
  have hm := W.N.mb
  have h48 := W.N.S.mJ.mB.1
  have Bm := W.N.B m hm
  have hle := Bm.le
  have hlt := Bm.lt
  obtain ⟨pl0, epl⟩ := nI_surj (C.2.1 89 16)
  -- the class
  obtain ⟨S5, eS5⟩ : ∃ S5 : QS, S5 = q_sI (q_sI (q_sI (q_sI (q_sI (q_sI (q_sI (q_sI (q_sI (q_sI (q_sR (q_sR C 89 0 p) 89 1 (p + 10)) 90 5 0) 90 6 0) 91 0 65) 89 12 0) 89 14 0) 89 15 0) 89 17 (-1)) 89 8 (-1)) 89 9 0) 89 7 0 := ⟨_, rfl⟩
  obtain ⟨S', f1, f2, -⟩ := z_fillB (a := 97) (n0 := 1280) (lo := 0) (hi := 12) (k0 := 67) (by decide) (by decide) (by decide) (by decide) S5
  have s : ∀ y j, y ≠ 97 → S'.2.1 y j = S5.2.1 y j := fun y j hy => by rw [f2, if_neg (by omega)]
  have s7 : ∀ y j, y ≤ 76 → S'.2.1 y j = C.2.1 y j := fun y j hy => by
    rw [s y j (by omega), eS5]
    simp only [q_sI_I]
    simp (disch := omega) only [if_neg]; rfl
  have gS : r_gC p Cx S' := gC.of hp s7
  have e16 : (q_sI S' 99 0 0).2.1 p 16 = nI m := by
    rw [q_sI_I, if_neg (by rcases hp with h | h <;> omega), show S'.2.1 p = Cx.2.1 p from gS 0 (by decide)]; exact W.N.mC
  have e29 : (q_sI S' 99 0 0).2.1 (p + 29) m = nI (P.fi m) := by
    rw [q_sI_I, if_neg (by rcases hp with h | h <;> omega), gS 29 (by decide)]; exact Bm.C1
  have eC : fX6_outcomeOf C p (nI lim) = q_run (tX6_outcomeOf_97 p (nI lim)) (nI 0, q_sI (q_sI S' 99 0 0) 98 0 (nI (P.fi m))) := by
    have i0 : q_inb (0 : Int32) 64 = true := by decide
    have i1 : q_inb (0 : Int32) 2001 = true := by decide
    have f1' : fJ7_fill_eb02e S5 97 1280 0 12 67 = some S' := f1
    rw [eS5] at f1'
    simp only [fX6_outcomeOf, fX2_begin, i1, if_true, Option.bind_some]
    rw [show (0 : Int32).toNatClampNeg = 0 from rfl, f1', Option.bind_some, if_pos i0, e16, if_pos (z_inbN (show m < 48 by omega) (by decide)), if_pos i0, z_cl (show m < 2147483648 by omega), e29]
    rfl
  -- the reference
  obtain ⟨D5, eD5⟩ : ∃ D5 : QS, D5 = q_sI (q_sI (q_sI (q_sI (q_sI (q_sI (q_sI (q_sI D 102 36 0) 102 37 0) 102 39 0) 102 40 0) 102 41 0) 102 43 (-1)) 102 35 0) 102 44 (-1) := ⟨_, rfl⟩
  have t7 : ∀ y j, y ≠ 102 → D5.2.1 y j = D.2.1 y j := fun y j hy => by
    rw [eD5]
    simp only [q_sI_I]
    simp (disch := omega) only [if_neg]
  have tJ : D5.2.2.1 = D.2.2.1 := by rw [eD5]; rfl
  have gD5 : r_gD q Dx D5 := gD.of hq (fun o j a b => t7 o j (by omega))
  have e6 : D5.2.1 q 6 = nI m := by rw [show D5.2.1 q = Dx.2.1 q from gD5 0 (by decide)]; exact W.N.mD
  obtain ⟨D6, x1, x2, x3⟩ := r_enterD (D := D5) (d1 := 0) (b := m) (F := P.fi m) hq (by rw [eD5]; rfl) (by decide) (by omega) (by rw [gD5 12 (by decide)]; exact Bm.D1)
  have eD : fX12_run D q (nI lim) = q_run (tX12_run_71 q (nI lim)) D6 := by
    have h2 : ¬ (D.2.1 102 2 = 0) := by rw [l2]; decide
    have le : nI lim ≤ (20000 : Int32) := by rw [show (20000 : Int32) = nI 20000 from rfl, z_leN (by omega) (by decide)]; exact hl
    have x1' := x1
    rw [← e6, eD5] at x1'
    simp only [fX12_run, if_neg h2, z_negN (show lim < 2147483648 by omega), if_false, if_pos le, Option.bind_some]
    rw [x1', Option.bind_some]; rfl
  have u : ∀ y j, ¬ (y = 102 ∧ j = 35) → ¬ (y = 175 ∧ j = 0) → ¬ (y = 174 ∧ j = 0) → D6.2.1 y j = D5.2.1 y j := fun y j a b c => by rw [x2, if_neg a, if_neg b, if_neg c]
  obtain ⟨i1, i2, i3, i4⟩ := hI
  obtain ⟨-, -, -, -, -, -, w7, -⟩ := hR
  rw [eC, eD]
  refine r_all W hl lim 0 _ _ (by omega) (Or.inl ?_)
  let H0 : ZH := ((0, 0, fun _ => 0, fun _ => 0, fun _ => 0, fun _ => 0, fun _ => (0, 0)) : ZH0)
  let X0 : ZX := ((ni, fun i => C.2.1 100 i, 0, 0, fun _ => 0, 0, -1, -1, C.2.1 89 18) : ZX0)
  have IC : rC p Cx 0 (fun _ => 0) (fun _ _ => (67, 0)) (fun _ => P.fi m) H0 X0 0 pl0 (q_sI (q_sI S' 99 0 0) 98 0 (nI (P.fi m))) := by
    refine ⟨(gS.sI hp (by decide)).sI hp (by decide), ⟨?_, by decide, fun f hf => ?_, fun f t hf ht => ?_⟩, fun f hf => ?_, ⟨?_, Nat.zero_le _, ?_, Nat.zero_le _, ?_, fun o a b => ?_, fun c hc => absurd hc (Nat.not_lt_zero _)⟩, ⟨?_, i3, fun k hk => ?_, ?_, Nat.zero_le _, ?_, Nat.zero_le _, fun k a => absurd a (Nat.not_lt_zero _), ?_, Nat.zero_le _, ?_, ?_, ?_, ?_, ?_⟩⟩
    · exact (s 89 7 (by decide)).trans (by rw [eS5]; rfl)
    · have : f = 0 := by omega
      subst this
      exact ⟨by decide, rfl⟩
    · have : f = 0 := by omega
      subst this
      refine ⟨(show 67 ≤ 67 by decide), ?_, fun z => absurd rfl z⟩
      have ht : t < 12 + 0 := ht
      show S'.2.1 97 (0 * 20 + t) = nI 67
      rw [f2, if_pos (by omega)]
    · have : f = 0 := by omega
      subst this
      rfl
    · exact (s 90 5 (by decide)).trans (by rw [eS5]; rfl)
    · exact (s 90 6 (by decide)).trans (by rw [eS5]; rfl)
    · exact (s 91 0 (by decide)).trans (by rw [eS5]; rfl)
    · have b : o ≤ 0 := b
      omega
    · exact (s 89 11 (by decide)).trans (by rw [eS5]; exact i1)
    · exact (s 100 k (by decide)).trans (by rw [eS5]; rfl)
    · exact (s 89 12 (by decide)).trans (by rw [eS5]; rfl)
    · exact (s 89 14 (by decide)).trans (by rw [eS5]; rfl)
    · exact (s 89 15 (by decide)).trans (by rw [eS5]; rfl)
    · exact (s 89 8 (by decide)).trans (by rw [eS5]; rfl)
    · exact (s 89 17 (by decide)).trans (by rw [eS5]; rfl)
    · exact (s 89 18 (by decide)).trans (by rw [eS5]; rfl)
    · exact (s 89 9 (by decide)).trans (by rw [eS5]; rfl)
    · exact (s 89 16 (by decide)).trans (by rw [eS5]; exact epl)
  have ID : rD q Dx 0 (fun _ => 0) (fun _ _ => (67, 0)) (fun _ => P.fi m) H0 X0 0 D6 := by
    refine ⟨gD5.of hq (fun o j a b => u o j (by omega) (by omega) (by omega)), ⟨?_, by decide, fun f hf => ?_, fun f t hf ht => ?_, fun f t hf ht => absurd ht (Nat.not_lt_zero _)⟩, fun f hf => ?_, ⟨?_, ?_, fun o a b => ?_, fun c hc => absurd hc (Nat.not_lt_zero _)⟩, ⟨?_, fun k hk => ?_, ?_, ?_, fun k a => absurd a (Nat.not_lt_zero _), ?_, ?_, ?_, ?_, fun z => absurd rfl z⟩⟩
    · rw [x2, if_pos ⟨rfl, rfl⟩]
    · have : f = 0 := by omega
      subst this
      refine ⟨by decide, ?_⟩
      rw [x2, if_neg (by decide), if_neg (by decide), if_pos ⟨rfl, rfl⟩]; rfl
    · have : f = 0 := by omega
      subst this
      rw [x3, if_pos (by omega), r_e_u rfl]
    · have : f = 0 := by omega
      subst this
      rw [x2, if_neg (by decide), if_pos ⟨rfl, rfl⟩]
    · exact (u 102 36 (by decide) (by decide) (by decide)).trans (by rw [eD5]; rfl)
    · exact (u 102 37 (by decide) (by decide) (by decide)).trans (by rw [eD5]; rfl)
    · have b : o ≤ 0 := b
      omega
    · exact (u 102 38 (by decide) (by decide) (by decide)).trans (by rw [eD5]; exact i2)
    · exact (u 181 k (by omega) (by omega) (by omega)).trans ((t7 181 k (by decide)).trans (i4 k hk).symm)
    · refine (u 102 39 (by decide) (by decide) (by decide)).trans ?_
      show D5.2.1 102 39 = nI (min 0 ni)
      rw [eD5, Nat.zero_min]; rfl
    · exact (u 102 40 (by decide) (by decide) (by decide)).trans (by rw [eD5]; rfl)
    · exact (u 102 41 (by decide) (by decide) (by decide)).trans (by rw [eD5]; rfl)
    · exact (u 102 44 (by decide) (by decide) (by decide)).trans (by rw [eD5]; rfl)
    · exact (u 102 43 (by decide) (by decide) (by decide)).trans (by rw [eD5]; rfl)
    · exact (u 102 45 (by decide) (by decide) (by decide)).trans (by rw [eD5]; exact w7.symm)
  have hbF := Bm.bd (P.fi m) (Nat.le_refl _) hlt
  obtain ⟨cR, cT⟩ := (W.cl m hm).1
  have h0 : k_hN (hh m) (P.fi m) = 0 := k_hN_of (W.ok m hm).1 (by omega)
  refine ⟨0, _, _, _, _, H0, X0, 0, pl0, IC, ID, ?_, fun f hf => absurd hf (Nat.not_lt_zero _), ⟨Nat.zero_le _, fun o a b => ?_⟩, fun o a b => ?_, rfl, fun f hf => absurd hf (Nat.not_lt_zero _), rfl, rfl⟩
  · rw [r_tf, hbF]
    refine ⟨by omega, cR, by rw [h0], fun t ht => ⟨Or.inr (Or.inl rfl), ?_⟩⟩
    have ct := cT t (by omega)
    rw [k_ent, W.N.ma, if_neg (by omega)] at ct
    exact ct
  · have b : o ≤ 0 := b
    omega
  · have b : o ≤ 0 := b
    omega
theorem z_run {ps ni : Nat} (W : r_W p q n g K M P m hh R T Cx Dx) (gC : r_gC p Cx C) (gD : r_gD q Dx D) (hI : w_I C D ni) (hR : w_R C D) (l1 : C.2.1 0 11 = 1) (l2 : D.2.1 102 2 = 1) (x : Int32) : ∃ r r', fX10_run C p ps x = some r ∧ fX12_run D q x = some r' ∧ r.1 = r'.1 ∧ w_R r.2 r'.2 ∧ (∃ ni', w_I r.2 r'.2 ni') ∧ r_gC p Cx r.2 ∧ r_gD q Dx r'.2 := by
  have h1 : ¬ (C.2.1 0 11 = 0) := by rw [l1]; decide
  have h2 : ¬ (D.2.1 102 2 = 0) := by rw [l2]; decide
  by_cases c : x < 0
  · refine ⟨(-1, C), (-1, D), ?_, ?_, rfl, hR, ⟨ni, hI⟩, gC, gD⟩
    · rw [fX10_run, if_neg h1, if_pos c]
    · rw [fX12_run, if_neg h2, if_pos c]
  · by_cases c2 : x ≤ 20000
    · have cn' : 0 ≤ x.toInt := by
        rw [Int32.lt_iff_toInt_lt] at c
        have : (0 : Int32).toInt = 0 := rfl
        omega
      have ej := z_toN cn'
      have le : x.toInt.toNat ≤ 20000 := by
        rw [Int32.le_iff_toInt_le] at c2
        have : (20000 : Int32).toInt = 20000 := rfl
        omega
      generalize x.toInt.toNat = lim at ej le
      subst ej
      obtain ⟨r, r', e1, e2, e3, e4, e5, e6, e7⟩ := r_start W le gC gD hI hR l2
      refine ⟨r, r', ?_, e2, e3, e4, ⟨0, e5⟩, e6, e7⟩
      rw [fX10_run, if_neg h1, if_neg c, if_pos c2, e1]; rfl
    · refine ⟨(-1, C), (-1, D), ?_, ?_, rfl, hR, ⟨ni, hI⟩, gC, gD⟩
      · rw [fX10_run, if_neg h1, if_neg c, if_neg c2]
      · rw [fX12_run, if_neg h2, if_neg c, if_neg c2]
end ZRS2
