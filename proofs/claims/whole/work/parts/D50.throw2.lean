/-! ===== the run: an error goes up, on both sides ===== -/
section ZRU2
variable {p q n m : Nat} {g : ZT} {K : ZK} {M : ZM} {P : ZP} {hh : Nat → Nat → Int32} {R : Nat → Nat → Bool} {T : Nat → Nat → Nat → Nat} {Cx Dx C D : QS} {d i : Nat} {h : Nat → Nat} {V : Nat → Nat → Nat × Int32} {pa pd : Nat → Nat} {H : ZH} {X : ZX} {to pl : Nat}
theorem r_up1 (W : r_W p q n g K M P m hh R T Cx Dx) (B : r_ob K H) (hc : r_hc K M H) {o : Nat} (o1 : 1 ≤ o) (o2 : o ≤ H.n) (IC : rC p Cx d h V pa H X 0 i C) (lo : ∀ f, f < d → r_lf K M P hh R T H (pd f) (h f) (V f) (P.bd (pd (f + 1)))) (el : ∀ f, f < d → pa f = pd f + 1) (oc : X.oc = -1) : ∀ f, f ≤ d → ∀ D, rD q Dx f h V pd H X pl D → ∀ j, pd f = j → j < P.n → R (P.bd j) j = true → (∀ s, s < 12 → r_vo H (V f s) ∧ k_blw K (V f s).1 (T (P.bd j) j s) = true) → r_res p q K M P hh R T Cx Dx X.sp (q_run (tX6_passUp_20 p (nI o)) (nI j, nI f, C)) (q_run (tX12_toss_11 q (r_e (r_th H o, nI o)) (nI i) (k_y (H.th o))) D) := by
  have hp := W.hp
  have hq := W.hq
  have hn := B.1
  obtain ⟨ot, o64⟩ := B.2 o o1 o2
  obtain ⟨c91, -, -, c94⟩ := IC.H.o o o1 o2
  have io := z_inbN (show o < 2001 by omega) (by decide)
  have co := z_cl (show o < 2147483648 by omega)
  intro f
  induction f with
  | zero =>
    intro hf D ID j ej hj hR hv
    have bn := W.N.S.bn
    have f0 : ¬ nI 0 < 0 := by decide
    by_cases ex : ∃ k, k < P.nc ∧ r_ct K P (H.th o) j k = true
    · obtain ⟨k0, k1, k2, k3⟩ := z_least _ ex
      have k3' : ∀ k, k < k0 → r_ct K P (H.th o) j k = false := fun k hk => by
        cases hr : r_ct K P (H.th o) j k with
        | false => rfl
        | true => exact absurd hr (k3 k hk)
      have hcl := k2
      rw [r_ct, Bool.and_eq_true] at hcl
      have hd := r_hdC W IC.g hj o64 (Or.inr ⟨k0, k1, k2, k3', rfl⟩)
      have IC2 := IC.down hp hf
      have IC3 := IC2.sh hp (Nat.zero_le _)
      have IC4 := IC3.jump hp (P.ca k0)
      obtain ⟨C5, e5, IC5⟩ := IC4.pushObj hp B (by rw [k_up_eq]; decide) o2
      have ID3 := ID.sh hq (Nat.zero_le _)
      obtain ⟨D1, e1, ID1⟩ := ID3.push hq (by rw [k_up_eq]; decide) (x := (r_th H o, nI o)) rfl
      have ID2 := ID1.jump hq (P.ca k0)
      have ca := (W.N.ct (i := j) k1).2.2
      have dm1 := ID.dm
      have dm2 := ID1.dm
      have hdD := r_hdD (w := r_e (r_th H o, nI o)) (y3 := nI i) W ID.g hj ot (z := .inl (q_sI D1 175 0 (nI (P.ca k0)))) (Or.inr ⟨k0, D1, k1, k2, k3', by rw [dm1]; rfl, by rw [dm1]; exact e1, by rw [dm2]; rfl, ID1.g 24 (by decide), by rw [dm2]; rfl⟩)
      have tc : r_tf K P hh R T H (P.ca k0) 1 ((r_uv V 0 12 (r_th H o, nI o)) 0) ∧ P.bd (P.ca k0) = P.bd j := r_tf.catch W hj hR k1 hcl.1 (fun s hs => by rw [r_uv_s (by omega)]; exact hv s hs) (by
        rw [r_uv_eq]
        refine ⟨Or.inr (Or.inr ⟨o, o2, rfl⟩), ?_⟩
        show k_blw K (r_th H o) _ = true
        rw [r_th_p o1]; exact hcl.2)
      refine ⟨C5, _, q_run_ret ?_, q_run_ret (r := q_sI D1 175 0 (nI (P.ca k0))) ?_, Or.inl ⟨0, _, _, _, _, H, X, pl, i, IC5, ID2, ?_, (fun f hf => by omega), B, hc, by rw [k_up_eq, k_up_eq], (fun f hf => by omega), oc, rfl⟩⟩
      · simp only [tX6_passUp_20, if_neg f0, io, if_true, co, c91, hd, Option.bind_some, z_m1N (show P.ca k0 < 2147483648 by omega), if_false, z_inbN (show 0 < 64 by decide) (by decide), z_cl (show 0 < 2147483648 by decide)]
        rw [show (0 : Int32) = nI 0 from rfl, e5, Option.bind_some]
      · have g0 : ¬ (D.2.1 102 35 ≤ 0) := by rw [ID.F.d]; decide
        have e175 : D.2.1 175 0 = nI j := by rw [ID.P 0 (Nat.le_refl _), ej]
        have i0 : q_inb (nI 0) 64 = true := by decide
        simp only [tX12_toss_11, if_neg g0, dm1, i0, if_true, z_cl (show 0 < 2147483648 by decide), e175, hdD]
      · rw [k_up_eq, k_up_eq, k_up_eq]; exact tc.1
    · have no : ∀ k, k < P.nc → r_ct K P (H.th o) j k = false := fun k hk => by
        cases hr : r_ct K P (H.th o) j k with
        | false => rfl
        | true => exact absurd ⟨k, hk, hr⟩ ex
      have hd := r_hdC W IC.g hj o64 (Or.inl ⟨rfl, no⟩)
      have dm1 := ID.dm
      have hdD := r_hdD (w := r_e (r_th H o, nI o)) (y3 := nI i) W ID.g hj ot (Or.inl ⟨no, rfl⟩)
      rw [dm1] at hdD
      obtain ⟨d76, -, -, d77⟩ := ID.H.o o o1 o2
      refine ⟨_, _, (q_run_go (y := (nI j, nI 0 - 1, C)) ?_).trans (q_run_ret (r := q_sI (q_sI C 89 8 1) 89 17 (H.si o)) ?_), (q_run_go (y := q_sI D 102 35 (nI 0)) ?_).trans (q_run_ret (r := q_sI (q_sI (q_sI (q_sI D 102 35 (nI 0)) 102 43 (H.si o)) 102 44 1) 102 42 (nI i)) ?_), Or.inr ⟨H, X.so 1 (H.si o), i, (IC.g.sI hp (by decide)).sI hp (by decide), r_gD.sI hq (r_gD.sI hq (r_gD.sI hq (ID.g.sI hq (by decide)) (by decide)) (by decide)) (by decide), IC.H, ID.H, IC.X.so 1 _, rD_X.so (D := q_sI D 102 35 (nI 0)) ⟨ID.X.ni, ID.X.inp, ID.X.nx, ID.X.w, ID.X.out, ID.X.sp, ID.X.oc, ID.X.ts, ID.X.sy, ID.X.pl⟩ 1 _, (show (0 : Int32) ≤ 1 by decide), rfl⟩⟩
      · have l0 : nI 0 ≤ (0 : Int32) := by decide
        simp only [tX6_passUp_20, if_neg f0, io, if_true, co, c91, hd, Option.bind_some, if_pos l0]
      · have ln : nI 0 - 1 < (0 : Int32) := by decide
        have c94' : (q_sI C 89 8 1).2.1 94 o = H.si o := c94
        simp only [tX6_passUp_20, if_pos ln, io, if_true, co, Option.bind_some, c94']
      · have g0 : ¬ (D.2.1 102 35 ≤ 0) := by rw [ID.F.d]; decide
        have e175 : D.2.1 175 0 = nI j := by rw [ID.P 0 (Nat.le_refl _), ej]
        have i0 : q_inb (nI 0) 64 = true := by decide
        simp only [tX12_toss_11, if_neg g0, dm1, i0, if_true, z_cl (show 0 < 2147483648 by decide), e175, hdD]
      · have g0 : (q_sI D 102 35 (nI 0)).2.1 102 35 ≤ 0 := by rw [q_sI_I, if_pos ⟨rfl, rfl⟩]; decide
        have d77' : (q_sI D 102 35 (nI 0)).2.1 177 (o - 1) = H.si o := d77
        simp only [tX12_toss_11, if_pos g0, r_e_obj B o2 o1, Option.bind_some, z_inbN (show o - 1 < 2000 by omega) (by decide), if_true, z_cl (show o - 1 < 2147483648 by omega), d77', fX12_ended]
  | succ f ih =>
    intro hf D ID j ej hj hR hv
    have bn := W.N.S.bn
    have hd64 := IC.F.lt
    have f0 : ¬ nI (f + 1) < 0 := by rw [z_negN (by omega)]; exact id
    have i64 := z_inbN (show f + 1 < 64 by omega) (by decide)
    have c64 := z_cl (show f + 1 < 2147483648 by omega)
    have dm1 := ID.dm
    have g0 : ¬ (D.2.1 102 35 ≤ 0) := by rw [ID.F.d, show (0 : Int32) = nI 0 from rfl, z_leN (by omega) (by decide)]; omega
    have e175 : D.2.1 175 (f + 1) = nI j := by rw [ID.P (f + 1) (Nat.le_refl _), ej]
    by_cases ex : ∃ k, k < P.nc ∧ r_ct K P (H.th o) j k = true
    · obtain ⟨k0, k1, k2, k3⟩ := z_least _ ex
      have k3' : ∀ k, k < k0 → r_ct K P (H.th o) j k = false := fun k hk => by
        cases hr : r_ct K P (H.th o) j k with
        | false => rfl
        | true => exact absurd hr (k3 k hk)
      have hcl := k2
      rw [r_ct, Bool.and_eq_true] at hcl
      have hd := r_hdC W IC.g hj o64 (Or.inr ⟨k0, k1, k2, k3', rfl⟩)
      have IC2 := IC.down hp hf
      have IC3 := IC2.sh hp (Nat.zero_le _)
      have IC4 := IC3.jump hp (P.ca k0)
      obtain ⟨C5, e5, IC5⟩ := IC4.pushObj hp B (by rw [k_up_eq]; decide) o2
      have ID3 := ID.sh hq (Nat.zero_le _)
      obtain ⟨D1, e1, ID1⟩ := ID3.push hq (by rw [k_up_eq]; decide) (x := (r_th H o, nI o)) rfl
      have ID2 := ID1.jump hq (P.ca k0)
      have ca := (W.N.ct (i := j) k1).2.2
      have dm2 := ID1.dm
      have hdD := r_hdD (w := r_e (r_th H o, nI o)) (y3 := nI i) W ID.g hj ot (z := .inl (q_sI D1 175 (f + 1) (nI (P.ca k0)))) (Or.inr ⟨k0, D1, k1, k2, k3', by rw [dm1]; exact i64, by rw [dm1, c64]; exact e1, by rw [dm2]; exact i64, ID1.g 24 (by decide), by rw [dm2, c64]⟩)
      have tc : r_tf K P hh R T H (P.ca k0) 1 ((r_uv V (f + 1) 12 (r_th H o, nI o)) (f + 1)) ∧ P.bd (P.ca k0) = P.bd j := r_tf.catch W hj hR k1 hcl.1 (fun s hs => by rw [r_uv_s (by omega)]; exact hv s hs) (by
        rw [r_uv_eq]
        refine ⟨Or.inr (Or.inr ⟨o, o2, rfl⟩), ?_⟩
        show k_blw K (r_th H o) _ = true
        rw [r_th_p o1]; exact hcl.2)
      refine ⟨C5, _, q_run_ret ?_, q_run_ret (r := q_sI D1 175 (f + 1) (nI (P.ca k0))) ?_, Or.inl ⟨f + 1, _, _, _, _, H, X, pl, i, IC5, ID2, ?_, fun f' hf' => ?_, B, hc, by rw [k_up_eq, k_up_eq], fun f' hf' => ?_, oc, rfl⟩⟩
      · simp only [tX6_passUp_20, if_neg f0, io, if_true, co, c91, hd, Option.bind_some, z_m1N (show P.ca k0 < 2147483648 by omega), if_false, i64, c64]
        rw [show (0 : Int32) = nI 0 from rfl, e5, Option.bind_some]
      · simp only [tX12_toss_11, if_neg g0, dm1, i64, if_true, c64, e175, hdD]
      · rw [k_up_eq, k_up_eq, k_up_eq]; exact tc.1
      · have x := lo f' (by omega)
        have ev : r_uv V (f + 1) (12 + k_up h (f + 1) 0 (f + 1)) (r_th H o, nI o) f' = V f' := by
          funext s; exact r_uv_f (by omega)
        rw [k_up_ne (show f' ≠ f + 1 by omega), k_up_ne (show f' ≠ f + 1 by omega), k_up_ne (show f' ≠ f + 1 by omega), ev]
        by_cases e : f' + 1 = f + 1
        · rw [e, k_up_eq, tc.2]
          rw [e, ej] at x; exact x
        · rw [k_up_ne e]; exact x
      · rw [k_up_ne (show f' ≠ f + 1 by omega), k_up_ne (show f' ≠ f + 1 by omega)]
        exact el f' (by omega)
    · have no : ∀ k, k < P.nc → r_ct K P (H.th o) j k = false := fun k hk => by
        cases hr : r_ct K P (H.th o) j k with
        | false => rfl
        | true => exact absurd ⟨k, hk, hr⟩ ex
      have hd := r_hdC W IC.g hj o64 (Or.inl ⟨rfl, no⟩)
      have hdD := r_hdD (w := r_e (r_th H o, nI o)) (y3 := nI i) W ID.g hj ot (Or.inl ⟨no, rfl⟩)
      rw [dm1] at hdD
      obtain ⟨l1, l2, l3, l4, l5, l6⟩ := lo f (by omega)
      have IH := ih (by omega) _ (ID.down hq (show f ≤ f + 1 by omega)) (pd f) rfl l1 l2 (fun s hs => l6 s (by omega))
      have s1 : tX6_passUp_20 p (nI o) (nI j, nI (f + 1), C) = some (.inr (nI (pd f), nI f, C)) := by
        have g1 : ¬ (nI (f + 1) ≤ 0) := by rw [show (0 : Int32) = nI 0 from rfl, z_leN (by omega) (by decide)]; omega
        have e98 : C.2.1 98 f = nI (pd f + 1) := by rw [IC.P f (by omega), el f (by omega)]
        have es : nI (f + 1) - (1 : Int32) = nI f := by rw [z_sub1 (by omega)]; rfl
        simp only [tX6_passUp_20, if_neg f0, io, if_true, co, c91, hd, Option.bind_some, if_neg g1, es, z_inbN (show f < 64 by omega) (by decide), z_cl (show f < 2147483648 by omega), e98, z_sub1 (show 0 < pd f + 1 by omega), Nat.add_sub_cancel]
      have s2 : tX12_toss_11 q (r_e (r_th H o, nI o)) (nI i) (k_y (H.th o)) D = some (.inr (q_sI D 102 35 (nI (f + 1)))) := by
        simp only [tX12_toss_11, if_neg g0, dm1, i64, if_true, c64, e175, hdD]
      rw [q_run_go s1, q_run_go s2]
      exact IH
theorem r_throw (W : r_W p q n g K M P m hh R T Cx Dx) (B : r_ob K H) (hc : r_hc K M H) {o : Nat} (o1 : 1 ≤ o) (o2 : o ≤ H.n) (IC : rC p Cx d h V pa H X o i C) (ID : rD q Dx d h V pd H X pl D) (hi : i < P.n) (hR : R (P.bd i) i = true) (hv : ∀ s, s < 12 → r_vo H (V d s) ∧ k_blw K (V d s).1 (T (P.bd i) i s) = true) (lo : ∀ f, f < d → r_lf K M P hh R T H (pd f) (h f) (V f) (P.bd (pd (f + 1)))) (ei : pd d = i) (el : ∀ f, f < d → pa f = pd f + 1) (oc : X.oc = -1) : r_res p q K M P hh R T Cx Dx X.sp (fX6_passUp C p) (fX12_toss D q (r_e (r_th H o, nI o)) (nI i)) := by
  have hn := B.1
  have IC1 := IC.sto W.hp 0
  have x := r_up1 W B hc o1 o2 IC1 lo el oc d (Nat.le_refl _) D ID i ei hi hR hv
  have e1 : fX6_passUp C p = q_run (tX6_passUp_20 p (nI o)) (nI i, nI d, q_sI C 89 9 (nI 0)) := by
    rw [fX6_passUp, Option.bind_some, IC.X.to, IC.X.pl, fX6_passUp_20]
    rw [show (q_sI C 89 9 0).2.1 89 7 = nI d from IC.F.d]; rfl
  have e2 : fX12_toss D q (r_e (r_th H o, nI o)) (nI i) = q_run (tX12_toss_11 q (r_e (r_th H o, nI o)) (nI i) (k_y (H.th o))) D := by
    simp only [fX12_toss, r_e_obj B o2 o1, Option.bind_some, z_inbN (show o - 1 < 2000 by omega) (by decide), if_true, z_cl (show o - 1 < 2147483648 by omega), (ID.H.o o o1 o2).1, fX12_toss_11]
  rw [e1, e2]; exact x
end ZRU2
