/-! ===== fields, and what a class takes from the one above it ===== -/
section ZFUP
variable {M : ZM} {w o x s : Nat} {g : ZT} {K : ZK}
theorem aF_fc : (M.addF w o x s).fc = M.fc + 1 := rfl
theorem aF_fw : (M.addF w o x s).fw = k_up M.fw M.fc w := rfl
theorem aF_fo : (M.addF w o x s).fo = k_up M.fo M.fc o := rfl
theorem aF_ft : (M.addF w o x s).ft = k_up M.ft M.fc x := rfl
theorem aF_fs : (M.addF w o x s).fs = k_up M.fs M.fc s := rfl
theorem aF_bc : (M.addF w o x s).bc = M.bc := rfl
theorem aF_bw : (M.addF w o x s).bw = M.bw := rfl
theorem m_sl_up {c : Nat} : k_cnt (m_slP K (M.addF w o x s) c) M.fc = k_cnt (m_slP K M c) M.fc := k_cnt_congr _ (fun i hi => by simp only [m_slP, aF_fo, k_up_lt hi])
end ZFUP
section ZFIELD
variable {C D : QS} {n p q : Nat} {g : ZT} {K : ZK} {M : ZM}
theorem z_field {t o : Nat} (h8 : 8 ≤ o) (hp : z_pp p) (hq : z_qq q) (hG : z_G n g) (hK : k_K g K) (ht : t + 2 < g.1) (hy : e_typ g (t + 2) = true) (I : m_I p q n g K M o C D) : ∃ r r', fX4_fieldFault C p (nI t) (nI o) = some r ∧ fX12_field D q (nI o) (nI t) = some r' ∧ z_offC p C r.2 ∧ z_offD q D r'.2 ∧ (z_flt g r r' ∨ (r.1 = -1 ∧ r'.1 = true ∧ ∃ M', m_I p q n g K M' o r.2 r'.2 ∧ M'.bc = M.bc ∧ M'.bw = M.bw)) := by
  have b1 := hG.1
  have b2 := hG.2.1
  have hf := I.mF.1
  have h32 := hK.2.1
  have hoc := I.oc
  have gt := hG.2.2.2 (t + 1) (by omega)
  have s1 := z_start I.hC hG (show t + 1 < g.1 by omega)
  have s2 := z_stop I.hC hG (show t + 1 < g.1 by omega)
  have s3 := z_fieldNamed I.hC hG hK I.kC I.cF I.mF hoc (show g.2.2.1 (t + 1) ≤ g.2.2.2 (t + 1) by omega) gt.2.1
  have s4 := z_fieldOf I.hD hG hK I.kD I.dF I.mF hoc (show g.2.2.1 (t + 1) ≤ g.2.2.2 (t + 1) by omega) gt.2.1
  have s5 := z_typeAt I.hC hG hK I.kC hy
  have s6 := z_typeOf I.hD hG hK I.kD hy
  have tD := I.hD.2.2.2 (t + 1) (by omega)
  have e2 : (nI t + 2 : Int32) = nI (t + 2) := by rw [show (2 : Int32) = nI 2 from rfl, nI_add]
  have e48 : (48 : Int32) = nI 48 := rfl
  have flt : ∀ f, f ≤ g.1 → ∃ r r', some (nI f, C) = some r ∧ some (false, q_sI D 102 12 (nI f)) = some r' ∧ z_offC p C r.2 ∧ z_offD q D r'.2 ∧ (z_flt g r r' ∨ (r.1 = -1 ∧ r'.1 = true ∧ ∃ M', m_I p q n g K M' o r.2 r'.2 ∧ M'.bc = M.bc ∧ M'.bw = M.bw)) := by
    intro f hf
    refine ⟨_, _, rfl, rfl, z_offC.refl p C, (z_offD.refl q D).sI (by omega), Or.inl ⟨f, hf, rfl, rfl, ?_⟩⟩
    rw [q_sI_I, if_pos ⟨rfl, rfl⟩]
  simp only [fX4_fieldFault, fX12_field, nI_1, s1, s2, s3, Option.bind_some, I.cF.1, I.dF.1, e48, z_eqN (show M.fc < 2147483648 by omega) (show 48 < 2147483648 by omega), fX12_wrong, z_inbN (show t + 1 < 16002 by omega) (by decide), if_true, z_cl (show t + 1 < 2147483648 by omega), tD, s4, e2, s5, s6]
  by_cases c48 : M.fc = 48
  · simp only [c48, if_true]
    have : (if k_oI (k_fld g K M o (g.2.2.1 (t + 1)) (g.2.2.2 (t + 1))) = -1 then some (nI (t + 1), C) else some (nI (t + 1), C)) = some (nI (t + 1), C) := by split <;> rfl
    rw [this]
    exact flt (t + 1) (by omega)
  · simp only [c48, if_false]
    cases hk : k_fld g K M o (g.2.2.1 (t + 1)) (g.2.2.2 (t + 1)) with
    | some f =>
      have hfl : f < M.fc := by
        have := z_ff_some _ _ hk
        omega
      simp only [k_oI, z_m1N (show f < 2147483648 by omega), z_negN (show f < 2147483648 by omega), if_false]
      exact flt (t + 1) (by omega)
    | none =>
      simp only [k_oI, if_true, show ((-1 : Int32) < 0) = True from propext ⟨fun _ => trivial, fun _ => by decide⟩]
      cases hty : k_ty g K (t + 2) with
      | none =>
        simp only [k_yo, show ((0 : Int32) ≤ -1) = False from propext ⟨fun h => absurd h (by decide), False.elim⟩, if_true, if_false]
        exact flt (t + 2) (by omega)
      | some x =>
        have hx := k_ty_rng hK.1 hty
        have hx' := k_tok_lt hK hx
        have hsl := I.sl o (Nat.le_refl _)
        have hcl := k_cnt_le (P := m_slP K M o) M.fc
        have i1 := z_inbN (show M.fc < 48 by omega) (by decide)
        have c1 := z_cl (show M.fc < 2147483648 by omega)
        have i2 := z_inbN (show o < 32 by omega) (by decide)
        have c2 := z_cl (show o < 2147483648 by omega)
        let C1 : QS := q_sI (q_sI (q_sI (q_sI (q_sI (q_sI C (p + 6) M.fc (nI (t + 1))) (p + 7) M.fc (nI o)) (p + 8) M.fc (nI x)) (p + 9) M.fc (nI (k_cnt (m_slP K M o) M.fc))) (p + 5) o (nI (k_cnt (m_slP K M o) M.fc + 1))) (p + 1) 5 (nI (M.fc + 1))
        let D1 : QS := q_sI (q_sI (q_sI (q_sI D 164 M.fc (nI (t + 1))) (q + 3) M.fc (nI o)) (q + 4) M.fc (k_y x)) q 1 (nI (M.fc + 1))
        have gC : ∀ y j, C1.2.1 y j = if y = p + 1 ∧ j = 5 then nI (M.fc + 1) else if y = p + 5 ∧ j = o then nI (k_cnt (m_slP K M o) M.fc + 1) else if y = p + 9 ∧ j = M.fc then nI (k_cnt (m_slP K M o) M.fc) else if y = p + 8 ∧ j = M.fc then nI x else if y = p + 7 ∧ j = M.fc then nI o else if y = p + 6 ∧ j = M.fc then nI (t + 1) else C.2.1 y j := by
          intro y j
          simp only [C1, q_sI_I]
        have gD : ∀ y j, D1.2.1 y j = if y = q ∧ j = 1 then nI (M.fc + 1) else if y = q + 4 ∧ j = M.fc then k_y x else if y = q + 3 ∧ j = M.fc then nI o else if y = 164 ∧ j = M.fc then nI (t + 1) else D.2.1 y j := by
          intro y j
          simp only [D1, q_sI_I]
        have hadd : fX0_addField C p (nI o) (nI (t + 1)) (nI x) = some C1 := by
          have r1 : ∀ v : Int32, (q_sI C (p + 6) M.fc v).2.1 (p + 1) 5 = nI M.fc := fun v => by rw [q_sI_I, if_neg (by omega)]; exact I.cF.1
          have r2 : ∀ v v' : Int32, (q_sI (q_sI C (p + 6) M.fc v) (p + 7) M.fc v').2.1 (p + 1) 5 = nI M.fc := fun v v' => by rw [q_sI_I, if_neg (by omega)]; exact r1 v
          have r3 : ∀ v v' v'' : Int32, (q_sI (q_sI (q_sI C (p + 6) M.fc v) (p + 7) M.fc v') (p + 8) M.fc v'').2.1 (p + 1) 5 = nI M.fc := fun v v' v'' => by rw [q_sI_I, if_neg (by omega)]; exact r2 v v'
          have r4 : ∀ v v' v'' : Int32, (q_sI (q_sI (q_sI C (p + 6) M.fc v) (p + 7) M.fc v') (p + 8) M.fc v'').2.1 (p + 5) o = nI (k_cnt (m_slP K M o) M.fc) := fun v v' v'' => by
            simp only [q_sI_I]; simp (disch := omega) only [if_neg]; exact hsl
          have r5 : ∀ v v' v'' v3 : Int32, (q_sI (q_sI (q_sI (q_sI C (p + 6) M.fc v) (p + 7) M.fc v') (p + 8) M.fc v'') (p + 9) M.fc v3).2.1 (p + 5) o = nI (k_cnt (m_slP K M o) M.fc) := fun v v' v'' v3 => by
            rw [q_sI_I, if_neg (by omega)]; exact r4 v v' v''
          have r6 : ∀ v v' v'' v3 v4 : Int32, (q_sI (q_sI (q_sI (q_sI (q_sI C (p + 6) M.fc v) (p + 7) M.fc v') (p + 8) M.fc v'') (p + 9) M.fc v3) (p + 5) o v4).2.1 (p + 1) 5 = nI M.fc := fun v v' v'' v3 v4 => by
            simp only [q_sI_I]; simp (disch := omega) only [if_neg]; exact I.cF.1
          simp only [fX0_addField, I.cF.1, if_neg (z_le48 (show M.fc < 48 by omega)), z_isClass I.kC h32 hoc, Option.bind_some, if_true, i1, c1, i2, c2, r1, r2, r3, r4, r5, r6, nI_1]
          rfl
        have rd : ∀ v, (q_sI D 164 M.fc v).2.1 q 1 = nI M.fc := fun v => by rw [q_sI_I, if_neg (by rcases hq with rfl | rfl <;> omega)]; exact I.dF.1
        have rd2 : ∀ v v', (q_sI (q_sI D 164 M.fc v) (q + 3) M.fc v').2.1 q 1 = nI M.fc := fun v v' => by rw [q_sI_I, if_neg (by omega)]; exact rd v
        have rd3 : ∀ v v' v'', (q_sI (q_sI (q_sI D 164 M.fc v) (q + 3) M.fc v') (q + 4) M.fc v'').2.1 q 1 = nI M.fc := fun v v' v'' => by rw [q_sI_I, if_neg (by omega)]; exact rd2 v v'
        simp only [z_m1N (show x < 2147483648 by omega), if_false, hadd, Option.bind_some, k_yo, if_pos (k_y_pos (show x < 68 by omega)), i1, if_true, c1, rd, rd2, rd3, nI_1]
        have oC : z_offC p C C1 := ((((((z_offC.refl p C).sI (by omega)).sI (by omega)).sI (by omega)).sI (by omega)).sI (by omega)).sI (by omega)
        have oD : z_offD q D D1 := ((((z_offD.refl q D).sI (by omega)).sI (by omega)).sI (by omega)).sI (by omega)
        have fC : ∀ y j, ¬ (y = p + 1 ∧ j = 5) → ¬ (y = p + 5 ∧ j = o) → ¬ (j = M.fc ∧ (y = p + 6 ∨ y = p + 7 ∨ y = p + 8 ∨ y = p + 9)) → C1.2.1 y j = C.2.1 y j := by
          intro y j g1 g2 g3
          rw [gC]; simp (disch := omega) only [if_neg]
        have fD : ∀ y j, ¬ (y = q ∧ j = 1) → ¬ (j = M.fc ∧ (y = q + 3 ∨ y = q + 4 ∨ y = 164)) → D1.2.1 y j = D.2.1 y j := by
          intro y j g1 g2
          rw [gD]; simp (disch := omega) only [if_neg]
        refine ⟨_, _, rfl, rfl, oC, oD, Or.inr ⟨rfl, rfl, M.addF (t + 1) o x (k_cnt (m_slP K M o) M.fc), ⟨?_, ?_, ?_, ?_, ?_, ?_, ?_, ?_, ?_, ?_, ?_, ?_, ?_, ?_, ?_, ?_, ?_, ?_, ?_, ?_, ?_, ?_, ?_, ?_, ?_⟩, rfl, rfl⟩⟩
        · exact I.hC.fr (fun y j h => fC y j (by rcases hp with rfl | rfl <;> omega) (by rcases hp with rfl | rfl <;> omega) (by rcases hp with rfl | rfl <;> omega))
        · exact I.hD.fr (fun y j h => fD y j (by rcases hq with rfl | rfl <;> omega) (by rcases hq with rfl | rfl <;> omega))
        · exact fun i hi => (fC 6 i (by rcases hp with rfl | rfl <;> omega) (by rcases hp with rfl | rfl <;> omega) (by rcases hp with rfl | rfl <;> omega)).trans (I.kd i hi)
        · exact I.kC.fr (fun y j h => fC y j (by omega) (by omega) (by omega))
        · exact I.kD.fr (fun y j h => fD y j (by rcases hq with rfl | rfl <;> omega) (by rcases hq with rfl | rfl <;> omega))
        · refine ⟨?_, fun f hf => ?_⟩
          · rw [gC, if_pos ⟨rfl, rfl⟩]; rfl
          · rw [aF_fc] at hf
            simp only [aF_fw, aF_fo, aF_ft, aF_fs]
            by_cases ef : f = M.fc
            · subst ef
              simp only [k_up_eq]
              refine ⟨?_, ?_, ?_, ?_⟩
              all_goals rw [gC]; simp (disch := omega) only [if_neg, and_self, if_true]
            · simp only [k_up_ne ef]
              obtain ⟨x1, x2, x3, x4⟩ := I.cF.2 f (by omega)
              exact ⟨(fC _ _ (by omega) (by omega) (by omega)).trans x1, (fC _ _ (by omega) (by omega) (by omega)).trans x2, (fC _ _ (by omega) (by omega) (by omega)).trans x3, (fC _ _ (by omega) (by omega) (by omega)).trans x4⟩
        · refine ⟨(fC _ _ (by omega) (by omega) (by omega)).trans I.cB.1, fun b hb => ?_⟩
          obtain ⟨x1, x2, x3, x4, x5, x6, x7, x8⟩ := I.cB.2 b hb
          exact ⟨(fC _ _ (by omega) (by omega) (by omega)).trans x1, (fC _ _ (by omega) (by omega) (by omega)).trans x2, (fC _ _ (by omega) (by omega) (by omega)).trans x3, (fC _ _ (by omega) (by omega) (by omega)).trans x4, (fC _ _ (by omega) (by omega) (by omega)).trans x5, (fC _ _ (by omega) (by omega) (by omega)).trans x6, (fC _ _ (by omega) (by omega) (by omega)).trans x7, fun k hk => (fC _ _ (by omega) (by omega) (by omega)).trans (x8 k hk)⟩
        · refine ⟨?_, fun f hf => ?_⟩
          · rw [gD, if_pos ⟨rfl, rfl⟩]; rfl
          · rw [aF_fc] at hf
            simp only [aF_fw, aF_fo, aF_ft]
            by_cases ef : f = M.fc
            · subst ef
              simp only [k_up_eq]
              refine ⟨?_, ?_, ?_⟩
              all_goals rw [gD]; rcases hq with rfl | rfl <;> simp (disch := omega) only [if_neg, and_self, if_true]
            · simp only [k_up_ne ef]
              obtain ⟨x1, x2, x3⟩ := I.dF.2 f (by omega)
              exact ⟨(fD _ _ (by rcases hq with rfl | rfl <;> omega) (by rcases hq with rfl | rfl <;> omega)).trans x1, (fD _ _ (by omega) (by rcases hq with rfl | rfl <;> omega)).trans x2, (fD _ _ (by omega) (by rcases hq with rfl | rfl <;> omega)).trans x3⟩
        · refine ⟨(fD _ _ (by omega) (by rcases hq with rfl | rfl <;> omega)).trans I.dB.1, fun b hb => ?_⟩
          obtain ⟨x1, x2, x3, x4, x5, x6, x7, x8⟩ := I.dB.2 b hb
          have hD1 : ∀ y j, (y = q + 6 ∨ y = q + 7 ∨ y = q + 8 ∨ y = q + 9 ∨ y = q + 10 ∨ y = q + 11 ∨ y = 165 ∨ y = 166) → D1.2.1 y j = D.2.1 y j := fun y j h => fD y j (by rcases hq with rfl | rfl <;> omega) (by rcases hq with rfl | rfl <;> omega)
          exact ⟨(hD1 _ _ (by omega)).trans x1, (hD1 _ _ (by omega)).trans x2, (hD1 _ _ (by omega)).trans x3, (hD1 _ _ (by omega)).trans x4, (hD1 _ _ (by omega)).trans x5, (hD1 _ _ (by omega)).trans x6, (hD1 _ _ (by omega)).trans x7, fun k hk => (hD1 _ _ (by omega)).trans (x8 k hk)⟩
        · refine ⟨by rw [aF_fc]; omega, fun f hf => ?_⟩
          rw [aF_fc] at hf
          rw [aF_fw, aF_fo]
          by_cases ef : f = M.fc
          · subst ef; rw [k_up_eq, k_up_eq]; exact ⟨by omega, hoc, h8⟩
          · rw [k_up_ne ef, k_up_ne ef]; exact I.mF.2 f (by omega)
        · exact I.mB
        · exact I.oB
        · exact I.o8
        · intro f hf
          rw [aF_fc] at hf
          rw [aF_fo]
          by_cases ef : f = M.fc
          · subst ef; rw [k_up_eq]; exact Nat.le_refl _
          · rw [k_up_ne ef]; exact I.oF f (by omega)
        · intro f f' h hf
          rw [aF_fc] at hf
          rw [aF_fo, k_up_lt (show f < M.fc by omega)]
          by_cases ef : f' = M.fc
          · subst ef; rw [k_up_eq]; exact I.oF f h
          · rw [k_up_ne ef]; exact I.mo f f' h (by omega)
        · exact hoc
        · exact I.o7
        · intro c hc
          rw [aF_fc, k_cnt, m_sl_up]
          have e1 : m_slP K (M.addF (t + 1) o x (k_cnt (m_slP K M o) M.fc)) c M.fc = k_anc K.cp o c := by rw [m_slP, aF_fo, k_up_eq]
          rw [e1, gC, if_neg (by omega)]
          by_cases ec : c = o
          · subst ec
            rw [if_pos ⟨rfl, rfl⟩, k_anc_self, if_pos rfl]
          · have : ¬ k_anc K.cp o c = true := fun h => by have := k_anc_le c h; omega
            rw [if_neg this, Nat.add_zero]
            simp (disch := omega) only [if_neg]
            exact I.sl c hc
        · intro c hc r hr
          exact (fC _ _ (by omega) (by omega) (by omega)).trans (I.ch c hc r hr)
        · intro f hf
          rw [aF_fc] at hf
          by_cases ef : f = M.fc
          · subst ef
            rw [aF_fs, k_up_eq, aF_fo, k_up_eq, m_sl_up]
          · rw [aF_fs, k_up_ne ef, aF_fo, k_up_ne ef, I.fs f (by omega)]
            exact (k_cnt_congr _ (fun i hi => by simp only [m_slP, aF_fo, k_up_lt (show i < M.fc by omega)])).symm
        · intro f hf
          rw [aF_fc] at hf
          rw [aF_ft]
          by_cases ef : f = M.fc
          · subst ef; rw [k_up_eq]; exact hx
          · rw [k_up_ne ef]; exact I.ft f (by omega)
        · exact I.hd
        · exact I.ov
        · exact I.bt
        · exact ⟨(fC _ _ (by omega) (by omega) (by omega)).trans I.z0.1, (fC _ _ (by omega) (by omega) (by omega)).trans I.z0.2.1, (fC _ _ (by omega) (by omega) (by omega)).trans I.z0.2.2.1, (fC _ _ (by omega) (by omega) (by omega)).trans I.z0.2.2.2⟩
/-- a class takes what the one above it has -/
theorem z_inherit {o : Nat} (hp : z_pp p) (hK : k_K g K) (ho : o + 1 < K.cc) (I : m_I p q n g K M o C D) : ∃ C', fX5_inherit C p (nI (o + 1)) = some C' ∧ z_offC p C C' ∧ m_I p q n g K M (o + 1) C' D := by
  have h32 := hK.2.1
  have hcp := hK.2.2.1 (o + 1) (by omega) ho
  have k3 := (I.kC.2 (o + 1) ho).2.1
  rw [if_neg (by omega)] at k3
  have e48 : (48 : Int32) = nI 48 := rfl
  have i1 := z_inbN (show o + 1 < 32 by omega) (by decide)
  have c1 := z_cl (show o + 1 < 2147483648 by omega)
  have i2 := z_inbN (show K.cp (o + 1) < 32 by omega) (by decide)
  have c2 := z_cl (show K.cp (o + 1) < 2147483648 by omega)
  have n1 : ¬ nI (o + 1) ≤ 0 := by rw [show (0 : Int32) = nI 0 from rfl, z_leN (by omega) (by decide)]; omega
  have n2 : nI (o + 1) < nI K.cc := by rw [z_ltN (by omega) (by omega)]; omega
  have m1 := z_cl (show K.cp (o + 1) * 48 < 2147483648 by omega)
  have m2 := z_cl (show (o + 1) * 48 < 2147483648 by omega)
  have hsl := I.sl (K.cp (o + 1)) (by omega)
  let C1 : QS := q_cpI (q_sI C (p + 5) (o + 1) (nI (k_cnt (m_slP K M (K.cp (o + 1))) M.fc))) (p + 34) (K.cp (o + 1) * 48) (p + 34) ((o + 1) * 48) 48
  have hok : q_cpok (q_sI C (p + 5) (o + 1) (nI (k_cnt (m_slP K M (K.cp (o + 1))) M.fc))) 0 (p + 34) 1536 (nI (K.cp (o + 1) * 48)) (nI ((o + 1) * 48)) (nI 48) (p + 34) 1536 = true := by
    simp only [q_cpok, m1, m2, z_cl (show 48 < 2147483648 by decide), z_negN (show K.cp (o + 1) * 48 < 2147483648 by omega), z_negN (show (o + 1) * 48 < 2147483648 by omega), z_negN (show 48 < 2147483648 by omega), decide_false, Bool.not_false, Bool.true_and, Bool.and_eq_true, decide_eq_true_eq, List.all_eq_true, List.mem_range]
    exact ⟨by omega, by omega, fun i hi => rfl⟩
  have hr : fX5_inherit C p (nI (o + 1)) = some C1 := by
    simp only [fX5_inherit, if_neg n1, I.kC.1, if_pos n2, i1, if_true, c1, k3, z_negN (show K.cp (o + 1) < 2147483648 by omega), if_false, i2, c2, hsl, Option.bind_some, e48, nI_mulN]
    rw [if_pos hok, m1, m2]
    rfl
  have gC : ∀ y j, C1.2.1 y j = if y = p + 34 ∧ (o + 1) * 48 ≤ j ∧ j < (o + 1) * 48 + 48 then C.2.1 (p + 34) (K.cp (o + 1) * 48 + (j - (o + 1) * 48)) else if y = p + 5 ∧ j = o + 1 then nI (k_cnt (m_slP K M (K.cp (o + 1))) M.fc) else C.2.1 y j := by
    intro y j
    simp only [C1, q_cpI_I, q_sI_I]
    simp (disch := omega) only [if_neg]
  have oC : z_offC p C C1 := by
    refine ⟨fun y j h1 h2 => ?_, rfl, rfl, fun _ _ _ => rfl⟩
    rw [gC, if_neg (by omega), if_neg (by omega)]
  have fC : ∀ y j, y ≠ p + 34 → y ≠ p + 5 → C1.2.1 y j = C.2.1 y j := by
    intro y j g1 g2
    rw [gC, if_neg (by omega), if_neg (by omega)]
  have anc : ∀ d, d ≤ o → k_anc K.cp d (o + 1) = k_anc K.cp d (K.cp (o + 1)) := fun d hd => k_anc_up (by omega) (by omega) hcp
  refine ⟨C1, hr, oC, ⟨?_, I.hD, ?_, ?_, I.kD, ?_, ?_, I.dF, I.dB, I.mF, I.mB, fun b hb => Nat.le_succ_of_le (I.oB b hb), I.o8, fun f hf => Nat.le_succ_of_le (I.oF f hf), I.mo, ho, Nat.le_succ_of_le I.o7, ?_, ?_, I.fs, I.ft, I.hd, I.ov, I.bt, ?_⟩⟩
  · exact I.hC.fr (fun y j h => fC y j (by rcases hp with rfl | rfl <;> omega) (by rcases hp with rfl | rfl <;> omega))
  · exact fun i hi => (fC 6 i (by rcases hp with rfl | rfl <;> omega) (by rcases hp with rfl | rfl <;> omega)).trans (I.kd i hi)
  · exact I.kC.fr (fun y j h => fC y j (by omega) (by omega))
  · refine ⟨(fC _ _ (by omega) (by omega)).trans I.cF.1, fun f hf => ?_⟩
    obtain ⟨x1, x2, x3, x4⟩ := I.cF.2 f hf
    exact ⟨(fC _ _ (by omega) (by omega)).trans x1, (fC _ _ (by omega) (by omega)).trans x2, (fC _ _ (by omega) (by omega)).trans x3, (fC _ _ (by omega) (by omega)).trans x4⟩
  · refine ⟨(fC _ _ (by omega) (by omega)).trans I.cB.1, fun b hb => ?_⟩
    obtain ⟨x1, x2, x3, x4, x5, x6, x7, x8⟩ := I.cB.2 b hb
    exact ⟨(fC _ _ (by omega) (by omega)).trans x1, (fC _ _ (by omega) (by omega)).trans x2, (fC _ _ (by omega) (by omega)).trans x3, (fC _ _ (by omega) (by omega)).trans x4, (fC _ _ (by omega) (by omega)).trans x5, (fC _ _ (by omega) (by omega)).trans x6, (fC _ _ (by omega) (by omega)).trans x7, fun k hk => (fC _ _ (by omega) (by omega)).trans (x8 k hk)⟩
  · intro c hc
    by_cases ec : c = o + 1
    · subst ec
      rw [gC, if_neg (by omega), if_pos ⟨rfl, rfl⟩]
      congr 1
      refine k_cnt_congr _ (fun f hf => ?_)
      rw [m_slP, m_slP, anc _ (I.oF f hf)]
    · rw [gC, if_neg (by omega), if_neg (by omega)]
      exact I.sl c (by omega)
  · intro c hc r hr
    by_cases ec : c = o + 1
    · subst ec
      rw [gC, if_pos ⟨rfl, by omega, by omega⟩, show K.cp (o + 1) * 48 + ((o + 1) * 48 + r - (o + 1) * 48) = K.cp (o + 1) * 48 + r by omega, I.ch _ (by omega) r hr]
      congr 1
      refine k_lst_congr _ (fun b hb => ?_)
      rw [m_chP, m_chP, anc _ (I.oB b hb)]
    · rw [gC, if_neg (by omega), if_neg (by omega)]
      exact I.ch c (by omega) r hr
  · exact ⟨(fC _ _ (by omega) (by omega)).trans I.z0.1, (fC _ _ (by omega) (by omega)).trans I.z0.2.1, (fC _ _ (by omega) (by omega)).trans I.z0.2.2.1, (fC _ _ (by omega) (by omega)).trans I.z0.2.2.2⟩
end ZFIELD
