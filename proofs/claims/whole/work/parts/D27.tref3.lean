/-! ===== types: the reference spreads them ===== -/
section ZTR4
variable {C D : QS} {n p q m b : Nat} {g : ZT} {K : ZK} {M : ZM} {P : ZP} {hh : Nat → Int32} {R : Nat → Bool} {T : Nat → Nat → Nat}
theorem rt_I.bk {D' : QS} (hp : z_pp p) (hq : z_qq q) (I : rt_I p q n g K M P m b hh C D R T) (f : rt_b D D') : rt_I p q n g K M P m b hh C D' R T ∧ rt_f q (P.fi b) (P.en b) D D' := by
  have f' : rt_f q (P.fi b) (P.en b) D D' := ⟨fun y j a c _ _ => f.1 y j c a, f.2.1, f.2.2⟩
  refine ⟨⟨I.N.rf hp hq f', fun i a c => (f.1 _ _ ?_ ?_).trans (I.hc i a c), fun i a c => ⟨(f.1 _ _ ?_ ?_).trans (I.S i a c).1, fun h s hs => (f.1 _ _ ?_ ?_).trans ((I.S i a c).2 h s hs)⟩, I.sd, I.v⟩, f'⟩
  all_goals (rcases hq with rfl | rfl <;> omega)
theorem z_flag {f : Bool} : (q_b f = 0 ∨ q_b f = 1) ∧ decide (q_b f = 1) = f := by cases f <;> exact ⟨by decide, by decide⟩
theorem z_rtOnC {i : Nat} {s0 : Bool} (hp : z_pp p) (hq : z_qq q) (hK : k_K g K) (ok : h_ok M P b hh) (hb : b < M.bc) (h1 : P.fi b ≤ i) (h2 : i < P.en b) : ∀ d k D R T W f, k + d = P.nc → rt_I p q n g K M P m b hh C D R T → R i = true → ∃ D' R' T' W' f', q_run (tX12_typesOn_5 q (nI i)) (q_b f, nI k, D) = q_run (tX12_typesOn_5 q (nI i)) (q_b f', nI P.nc, D') ∧ rt_I p q n g K M P m b hh C D' R' T' ∧ ty_G K hh (P.fi b) (P.en b) R T W (f || s0) R' T' W' (f' || s0) ∧ (W' i = false → ∀ k', k ≤ k' → k' < P.nc → k_cov P k' i = true → R' (P.ca k') = true ∧ k_rle K (k_wd hh (P.ca k')) (k_up (T' i) 12 (P.cl k')) (T' (P.ca k'))) ∧ rt_f q (P.fi b) (P.en b) D D' := by
  intro d
  induction d with
  | zero =>
    intro k D R T W f hk I hR
    have : k = P.nc := by omega
    subst this
    exact ⟨D, R, T, W, f, rfl, I, ty_G.refl _ _ _ _ _ _ _ _, fun _ k' a b => by omega, rt_f.refl _ _⟩
  | succ d ih =>
    intro k D R T W f hk I hR
    have N := I.N
    have B := N.B b hb
    have bk := N.S.bk
    have bn := N.S.bn
    have hle := B.le
    have hkn : k < P.nc := by omega
    have g1 : ¬ nI P.nc ≤ nI k := by rw [z_leN (by omega) (by omega)]; omega
    have cv := z_covers N (show i < P.n by omega) hkn
    by_cases c : k_cov P k i = true
    · obtain ⟨a1, a2, a3, a4, a5, a6⟩ := ty_e_ca hK N ok hb h1 h2 I.sd I.v hR hkn c
      obtain ⟨D0, r1, I0, f0, r2, r3⟩ := z_rtAt hp hq ok hb I h1 h2 hR
      have hcl := (N.S.wK k hkn).cl
      have h32 := hK.2.1
      have ecl : (8 : Int32) + nI (P.cl k) = k_y (P.cl k) := by rw [k_y_c (by omega), show (8 : Int32) = nI 8 from rfl, nI_add, Nat.add_comm]
      have q1 : rt_b D0 (q_sI D0 171 12 (k_y (P.cl k))) := ⟨fun y j a _ => by rw [q_sI_I, if_neg (by omega)], rfl, rfl⟩
      obtain ⟨I1, f1⟩ := I0.bk hp hq q1
      obtain ⟨D1, ch, R1, T1, W1, y1, y2, y3, y4, y5, y6, y7, y8⟩ := z_rtArr (W := W) (s := f || s0) hp hq hK ok hb I1 a1 a2 a3 (r := k_up (T i) 12 (P.cl k)) (by
        intro s hs
        rw [a4] at hs
        have hw : k_wd hh i = 12 + k_hN hh i := rfl
        rw [q_sI_I]
        by_cases e : s = 12
        · rw [if_pos ⟨rfl, e⟩, e, k_up_eq]
        · rw [if_neg (by omega), k_up_ne e]; exact r2 s (by omega)) a5 a6
      have st : tX12_typesOn_5 q (nI i) (q_b f, nI k, D) = some (.inr (q_b (ch || f), nI (k + 1), D1)) := by
        have o12 : (12 : Int32).toNatClampNeg = 12 := rfl
        have i12 : q_inb (12 : Int32) 24 = true := by decide
        simp only [tX12_typesOn_5, N.S.cD, if_neg g1, cv, c, Option.bind_some, if_true, r1, z_inbN (show k < 64 by omega) (by decide), z_cl (show k < 2147483648 by omega), i12, o12, (I0.N.S.aD k hkn).2.2.2.2, ecl, (I1.N.S.aD k hkn).2.2.2.1, y1, nI_1]
        cases ch with
        | true => rfl
        | false => cases f <;> rfl
      obtain ⟨D', R', T', W', f', z1, z2, z3, z4, z5⟩ := ih (k + 1) D1 R1 T1 W1 (ch || f) (by omega) y2 (y3.g1 i hR).1
      rw [Bool.or_assoc] at z3
      refine ⟨D', R', T', W', f', (q_run_go st).trans z1, z2, y3.trans hK z3, fun hw k' k1 k2 k3 => ?_, ((f0.trans f1).trans y6).trans z5⟩
      by_cases e : k' = k
      · subst e
        obtain ⟨u1, u2⟩ := z3.g1 _ y4
        refine ⟨u1, k_rle.trans hK (k_rle.trans hK ?_ y5) u2⟩
        rw [a4]
        refine k_up_le (w := k_wd hh i) (fun s hs => ?_) (by rw [k_wd]; omega)
        obtain ⟨⟨-, v1⟩, v2⟩ := z3.g2 i hw
        obtain ⟨⟨-, v3⟩, -⟩ := y3.g2 i v2
        rw [v1 s hs, v3 s hs]; exact k_blw_refl _
      · exact z4 hw k' (by omega) k2 k3
    · have st : tX12_typesOn_5 q (nI i) (q_b f, nI k, D) = some (.inr (q_b f, nI (k + 1), D)) := by
        simp only [tX12_typesOn_5, N.S.cD, if_neg g1, cv, Bool.eq_false_iff.mpr c, Option.bind_some, Bool.false_eq_true, if_false, nI_1]
      obtain ⟨D', R', T', W', f', z1, z2, z3, z4, z5⟩ := ih (k + 1) D R T W f (by omega) I hR
      refine ⟨D', R', T', W', f', (q_run_go st).trans z1, z2, z3, fun hw k' k1 k2 k3 => ?_, z5⟩
      by_cases e : k' = k
      · subst e; exact absurd k3 c
      · exact z4 hw k' (by omega) k2 k3
theorem z_bindP {X : Option (Int32 × QS)} {Y : Int32 × QS} {β : Type} (k : Int32 × QS → Option β) (h : X = some Y) : Option.bind X k = k Y := by rw [h]; rfl
theorem z_rtOn119 {i : Nat} {f s0 : Bool} {W : Nat → Bool} {r : Nat → Nat} (hp : z_pp p) (hq : z_qq q) (hK : k_K g K) (ok : h_ok M P b hh) (hb : b < M.bc) (I : rt_I p q n g K M P m b hh C D R T) (h1 : P.fi b ≤ i) (h2 : i < P.en b) (hR : R i = true) (hrow : rt_R D (k_wd hh i) (T i)) (ht : D.2.1 102 23 = nI (k_wd hh i)) (tr : k_tr M P hh i (T i) = some r) : ∃ D' R' T' W' f', fX12_typesOn_119 D q (nI i) (q_b f) (nI (P.op i)) = some (f', D') ∧ rt_I p q n g K M P m b hh C D' R' T' ∧ ty_G K hh (P.fi b) (P.en b) R T W (f || s0) R' T' W' (f' || s0) ∧ ((k_nx (P.op i) = true → R' (i + 1) = true ∧ k_rle K (k_wd hh (i + 1)) r (T' (i + 1))) ∧ (k_lb (P.op i) = true → R' (k_tg P i) = true ∧ k_rle K (k_wd hh (k_tg P i)) r (T' (k_tg P i)))) ∧ rt_f q (P.fi b) (P.en b) D D' := by
  have N := I.N
  have B := N.B b hb
  have hle := B.le
  have bn := N.S.bn
  have hi : i < P.n := by omega
  have hop := (N.S.wI i hi).op
  obtain ⟨hH, hvi⟩ := I.v i h1 h2 hR
  obtain ⟨D0, p1, p2, p3⟩ := z_rtBehind hp hq hK N hi hH hrow hvi ht tr
  obtain ⟨I0, f0⟩ := I.bk hp hq p2
  -- next
  obtain ⟨D1, R1, T1, W1, f1, e1, I1, G1, A1, F1, Q1⟩ : ∃ D1 R1 T1 W1 f1, (if k_nx (P.op i) = true then (fX12_typesTo D0 q (nI (i + 1))).bind fun r6 => (Option.bind (α := Bool) (if r6.1 = true then some (true) else if q_b f = 0 then some (false) else some (true)) fun v9 => some (((q_b v9), r6.2))) else some ((q_b f, D0))) = some (q_b f1, D1) ∧ rt_I p q n g K M P m b hh C D1 R1 T1 ∧ ty_G K hh (P.fi b) (P.en b) R T W (f || s0) R1 T1 W1 (f1 || s0) ∧ (k_nx (P.op i) = true → R1 (i + 1) = true ∧ k_rle K (k_wd hh (i + 1)) r (T1 (i + 1))) ∧ rt_f q (P.fi b) (P.en b) D0 D1 ∧ ∀ k, D1.2.1 171 k = D0.2.1 171 k := by
    by_cases cn : k_nx (P.op i) = true
    · obtain ⟨j1, j2, j3, j4, j5, j6⟩ := ty_e_to hK N ok hb h1 h2 I.sd I.v hR tr (Or.inl ⟨cn, rfl⟩)
      obtain ⟨D1, ch, R1, T1, W1, y1, y2, y3, y4, y5, y6, y7, -⟩ := z_rtArr (W := W) (s := f || s0) hp hq hK ok hb I0 j1 j2 j3 (r := r) (by rw [j4]; exact p3) j5 j6
      rw [← Bool.or_assoc] at y3
      refine ⟨D1, R1, T1, W1, ch || f, ?_, y2, y3, fun _ => ⟨y4, y5⟩, y6, y7⟩
      rw [if_pos cn, y1]
      cases ch with
      | true => rfl
      | false => cases f <;> rfl
    · exact ⟨D0, R, T, W, f, by rw [if_neg cn], I0, ty_G.refl _ _ _ _ _ _ _ _, fun h => absurd h cn, rt_f.refl _ _, fun _ => rfl⟩
  simp only [fX12_typesOn_119, p1, Option.bind_some, (z_goesOn hop D0).2, nI_1]
  rw [z_bindP _ e1]
  simp only [(z_hasLabel hop D1).2, Option.bind_some]
  by_cases cl : k_lb (P.op i) = true
  · obtain ⟨j1, j2, j3, j4, j5, j6⟩ := ty_e_to hK N ok hb h1 h2 I.sd I.v hR tr (Or.inr ⟨cl, rfl⟩)
    obtain ⟨-, -, -, k4⟩ := k_lb_in N hb h1 h2 cl
    obtain ⟨D2, ch, R2, T2, W2, y1, y2, y3, y4, y5, y6, -, -⟩ := z_rtArr (W := W1) (s := f1 || s0) hp hq hK ok hb I1 j1 j2 j3 (r := r) (fun s hs => by rw [Q1]; rw [j4] at hs; exact p3 s hs) j5 j6
    rw [← Bool.or_assoc] at y3
    refine ⟨D2, R2, T2, W2, ch || f1, ?_, y2, G1.trans hK y3, ⟨fun c => ?_, fun _ => ⟨y4, y5⟩⟩, (f0.trans F1).trans y6⟩
    · rw [if_pos cl]
      simp only [z_inbN (show i < 1024 by omega) (by decide), if_true, z_cl (show i < 2147483648 by omega), (I1.N.S.iD i hi).2.1, k4, y1, Option.bind_some]
      cases ch with
      | true => rfl
      | false => cases f1 <;> rfl
    · obtain ⟨u1, u2⟩ := A1 c
      obtain ⟨v1, v2⟩ := y3.g1 _ u1
      exact ⟨v1, u2.trans hK v2⟩
  · refine ⟨D1, R1, T1, W1, f1, ?_, I1, G1, ⟨A1, fun c => absurd c cl⟩, f0.trans F1⟩
    rw [if_neg cl, if_pos z_flag.1, z_flag.2]
theorem z_rtOn {i : Nat} {s0 : Bool} {W : Nat → Bool} (hp : z_pp p) (hq : z_qq q) (hK : k_K g K) (ok : h_ok M P b hh) (hb : b < M.bc) (I : rt_I p q n g K M P m b hh C D R T) (h1 : P.fi b ≤ i) (h2 : i < P.en b) (hR : R i = true) : ∃ D' R' T' W' f', fX12_typesOn D q (nI i) = some (f', D') ∧ rt_I p q n g K M P m b hh C D' R' T' ∧ ty_G K hh (P.fi b) (P.en b) R T W s0 R' T' W' (f' || s0) ∧ (W' i = false → ty_cl K M P hh R' T' i) ∧ rt_f q (P.fi b) (P.en b) D D' := by
  obtain ⟨D1, R1, T1, W1, f1, z1, z2, z3, z4, z5⟩ := z_rtOnC (s0 := s0) hp hq hK ok hb h1 h2 P.nc 0 D R T W false (by omega) I hR
  rw [Bool.false_or] at z3
  have N := z2.N
  have B := N.B b hb
  have hle := B.le
  have bn := N.S.bn
  have bk := N.S.bk
  have hi : i < P.n := by omega
  have hop := (N.S.wI i hi).op
  have hR1 := (z3.g1 i hR).1
  obtain ⟨D2, r1, I2, f2, r2, r3⟩ := z_rtAt hp hq ok hb z2 h1 h2 hR1
  obtain ⟨hH, hvi⟩ := I2.v i h1 h2 hR1
  have hw : k_wd hh i = 12 + k_hN hh i := rfl
  have e33 : (nI (P.op i) = 33) = (P.op i = 33) := z_nk46 hop (m := 33) (by omega)
  have h8 := hH.1
  have h3 := hH.2.2.1
  have hst : fX12_typesOn D q (nI i) = (if P.op i = 33 then (if T1 i (k_wd hh i - 2) = 65 then some (f1, D2) else fX12_typesOn_119 D2 q (nI i) (q_b f1) (nI (P.op i))) else fX12_typesOn_119 D2 q (nI i) (q_b f1) (nI (P.op i))) := by
    show q_run (tX12_typesOn_5 q (nI i)) (q_b false, nI 0, D) = _
    rw [z1, q_run_step]
    have g1 : nI P.nc ≤ nI P.nc := by rw [z_leN (by omega) (by omega)]; exact Nat.le_refl _
    simp only [tX12_typesOn_5, N.S.cD, if_pos g1, r1, Option.bind_some, z_inbN (show i < 1024 by omega) (by decide), if_true, z_cl (show i < 2147483648 by omega), (I2.N.S.iD i hi).1, r3, e33]
    by_cases c33 : P.op i = 33
    · have t1 : k_tk M P i = 2 := (k_tk_at (M := M) 33 c33 (by decide) (by decide)).1
      have hx := k_vt_lt hK (hvi (k_wd hh i - 2) (by omega))
      have e1 : (k_y (T1 i (k_wd hh i - 2)) = 1) = (T1 i (k_wd hh i - 2) = 65) := by
        rw [← k_y_eq (show T1 i (k_wd hh i - 2) < 69 by omega) (show 65 < 69 by decide)]; rfl
      rw [if_pos c33, if_pos c33, show (2 : Int32) = nI 2 from rfl, z_subN (by omega), if_pos (z_inbN (show k_wd hh i - 2 < 24 by omega) (by decide)), z_cl (show k_wd hh i - 2 < 2147483648 by omega), r2 _ (by omega)]
      simp only [e1]
      by_cases c65 : T1 i (k_wd hh i - 2) = 65
      · rw [if_pos c65, if_pos c65, if_pos z_flag.1, z_flag.2]; rfl
      · rw [if_neg c65, if_neg c65]
        cases fX12_typesOn_119 D2 q (nI i) (q_b f1) (nI (P.op i)) <;> rfl
    · rw [if_neg c33, if_neg c33]
      cases fX12_typesOn_119 D2 q (nI i) (q_b f1) (nI (P.op i)) <;> rfl
  cases ht : k_tr M P hh i (T1 i) with
  | none =>
    refine ⟨D2, R1, T1, W1, f1, ?_, I2, z3, fun hw hRi => ⟨(fun r hr => by rw [ht] at hr; cases hr), fun k hk hc => z4 hw k (Nat.zero_le _) hk hc⟩, z5.trans f2⟩
    rw [hst]
    rw [k_tr] at ht
    by_cases c2 : P.op i = 2
    · rw [if_pos c2] at ht; cases ht
    rw [if_neg c2] at ht
    by_cases c3 : P.op i = 3
    · rw [if_pos c3] at ht; cases ht
    rw [if_neg c3] at ht
    by_cases c5 : P.op i = 5
    · rw [if_pos c5] at ht; cases ht
    rw [if_neg c5] at ht
    by_cases c7 : P.op i = 7
    · rw [if_pos c7] at ht; cases ht
    rw [if_neg c7] at ht
    by_cases c33 : P.op i = 33
    · rw [if_pos c33] at ht ⊢
      by_cases c65 : T1 i (k_wd hh i - 2) = 65
      · rw [if_pos c65]
      · rw [if_neg c65] at ht; cases ht
    rw [if_neg c33] at ht
    split at ht <;> cases ht
  | some r =>
    obtain ⟨D3, R3, T3, W3, f3, y1, y2, y3, y4, y5⟩ := z_rtOn119 (f := f1) (s0 := s0) (W := W1) hp hq hK ok hb I2 h1 h2 hR1 r2 r3 ht
    have G := z3.trans hK y3
    refine ⟨D3, R3, T3, W3, f3, ?_, y2, G, fun hw hRi => ⟨fun r' hr => ?_, fun k hk hc => ?_⟩, (z5.trans f2).trans y5⟩
    · rw [hst]
      by_cases c33 : P.op i = 33
      · rw [if_pos c33]
        rw [k_tr, if_neg (by omega), if_neg (by omega), if_neg (by omega), if_neg (by omega), if_pos c33] at ht
        by_cases c65 : T1 i (k_wd hh i - 2) = 65
        · rw [if_pos c65] at ht; cases ht
        · rw [if_neg c65]; exact y1
      · rw [if_neg c33]; exact y1
    · obtain ⟨⟨v0, v1⟩, -⟩ := y3.g2 i hw
      have he : k_rle K (k_wd hh i) (T3 i) (T1 i) := fun s hs => by rw [v1 s hs]; exact k_blw_refl _
      obtain ⟨q2, x1, x2⟩ := k_tr_mono hK N hi hH hvi he hr
      rw [ht] at x1
      cases x1
      refine ⟨fun c => ?_, fun c => ?_⟩
      · obtain ⟨j1, j2, j3, j4, j5, j6⟩ := ty_e_to hK N ok hb h1 h2 I2.sd I2.v hR1 ht (Or.inl ⟨c, rfl⟩)
        obtain ⟨u1, u2⟩ := y4.1 c
        exact ⟨u1, k_rle.trans hK (by rw [j4]; exact x2) u2⟩
      · obtain ⟨j1, j2, j3, j4, j5, j6⟩ := ty_e_to hK N ok hb h1 h2 I2.sd I2.v hR1 ht (Or.inr ⟨c, rfl⟩)
        obtain ⟨u1, u2⟩ := y4.2 c
        exact ⟨u1, k_rle.trans hK (by rw [j4]; exact x2) u2⟩
    · obtain ⟨⟨v0, v1⟩, v2⟩ := y3.g2 i hw
      obtain ⟨u1, u2⟩ := z4 v2 k (Nat.zero_le _) hk hc
      obtain ⟨w1, w2⟩ := y3.g1 _ u1
      obtain ⟨-, -, -, a4, -, -⟩ := ty_e_ca hK N ok hb h1 h2 I2.sd I2.v hR1 hk hc
      refine ⟨w1, k_rle.trans hK (k_rle.trans hK ?_ u2) w2⟩
      rw [a4]
      exact k_up_le (w := k_wd hh i) (fun s hs => by rw [v1 s hs]; exact k_blw_refl _) (by rw [k_wd]; omega)
theorem z_rtRound (hp : z_pp p) (hq : z_qq q) (hK : k_K g K) (ok : h_ok M P b hh) (hb : b < M.bc) : ∀ d i D R T W s, i + d = P.en b → P.fi b ≤ i → rt_I p q n g K M P m b hh C D R T → (∀ j, P.fi b ≤ j → j < i → W j = false → ty_cl K M P hh R T j) → ∃ D' R' T' W' s', q_run (tX12_types_113 q (nI b) (nI (P.fi b))) (q_b s, nI i, D) = some (.inr (q_b s', D')) ∧ rt_I p q n g K M P m b hh C D' R' T' ∧ ty_G K hh (P.fi b) (P.en b) R T W s R' T' W' s' ∧ (∀ j, P.fi b ≤ j → j < P.en b → W' j = false → ty_cl K M P hh R' T' j) ∧ rt_f q (P.fi b) (P.en b) D D' := by
  intro d
  induction d with
  | zero =>
    intro i D R T W s hi hF I hcl
    have B := I.N.B b hb
    have hle := B.le
    have bn := I.N.S.bn
    have h48 := I.N.S.mJ.mB.1
    refine ⟨D, R, T, W, s, q_run_ret ?_, I, ty_G.refl _ _ _ _ _ _ _ _, fun j j1 j2 => hcl j j1 (by omega), rt_f.refl _ _⟩
    simp only [tX12_types_113, z_inbN (show b < 48 by omega) (by decide), if_true, z_cl (show b < 2147483648 by omega), B.D2]
    rw [if_pos (by rw [z_leN (by omega) (by omega)]; omega)]
  | succ d ih =>
    intro i D R T W s hi hF I hcl
    have B := I.N.B b hb
    have hle := B.le
    have bn := I.N.S.bn
    have h48 := I.N.S.mJ.mB.1
    have hiE : i < P.en b := by omega
    have g1 : ¬ nI (P.en b) ≤ nI i := by rw [z_leN (by omega) (by omega)]; omega
    have i1 := z_inbN (show i < 1024 by omega) (by decide)
    have c1 := z_cl (show i < 2147483648 by omega)
    have ib := z_inbN (show b < 48 by omega) (by decide)
    have cb := z_cl (show b < 2147483648 by omega)
    have w27 := (I.S i hF hiE).1
    cases hR : R i with
    | false =>
      have st : tX12_types_113 q (nI b) (nI (P.fi b)) (q_b s, nI i, D) = some (.inr (q_b s, nI (i + 1), D)) := by
        simp only [tX12_types_113, ib, if_true, cb, B.D2, if_neg g1, i1, c1, w27, hR, nI_1]
        rfl
      rw [q_run_go st]
      refine ih (i + 1) D R T W s (by omega) (by omega) I (fun j j1 j2 hj => ?_)
      by_cases e : j = i
      · subst e; intro h; rw [hR] at h; cases h
      · exact hcl j j1 (by omega) hj
    | true =>
      obtain ⟨D2, R2, T2, W2, f2, z1, z2, z3, z4, z5⟩ := z_rtOn (s0 := s) (W := W) hp hq hK ok hb I hF hiE hR
      have st : tX12_types_113 q (nI b) (nI (P.fi b)) (q_b s, nI i, D) = some (.inr (q_b (f2 || s), nI (i + 1), D2)) := by
        have n1 : ¬ q_b true = 0 := by decide
        simp only [tX12_types_113, ib, if_true, cb, B.D2, if_neg g1, i1, c1, w27, hR, if_neg n1, z1, Option.bind_some, nI_1]
        cases f2 with
        | true => rfl
        | false => cases s <;> rfl
      rw [q_run_go st]
      obtain ⟨D', R', T', W', s', y1, y2, y3, y4, y5⟩ := ih (i + 1) D2 R2 T2 W2 (f2 || s) (by omega) (by omega) z2 (fun j j1 j2 hj => by
        by_cases e : j = i
        · subst e; exact z4 hj
        · obtain ⟨⟨q1, q1'⟩, q2⟩ := z3.g2 j hj
          exact (hcl j j1 (by omega) q2).grow hK I.N ok hb j1 (by omega) I.v q1 q1' z3.g1)
      exact ⟨D', R', T', W', s', y1, y2, z3.trans hK y3, y4, z5.trans y5⟩
/-- all rounds -/
theorem z_rtRounds (hp : z_pp p) (hq : z_qq q) (hK : k_K g K) (ok : h_ok M P b hh) (hb : b < M.bc) : ∀ d D R T s, 697345 - ty_mu hh (P.fi b) (P.en b) R T = d → rt_I p q n g K M P m b hh C D R T → (s = false → ∀ j, P.fi b ≤ j → j < P.en b → ty_cl K M P hh R T j) → ∃ D' R' T', q_run (tX12_types_102 q (nI b) (nI (P.fi b))) (q_b s, D) = fX12_types_168 D' q (nI b) (nI (P.fi b)) ∧ rt_I p q n g K M P m b hh C D' R' T' ∧ (∀ j, P.fi b ≤ j → j < P.en b → ty_cl K M P hh R' T' j) ∧ (∀ j, R j = true → R' j = true ∧ k_rle K (k_wd hh j) (T j) (T' j)) ∧ rt_f q (P.fi b) (P.en b) D D' := by
  intro d
  induction d using Nat.strongRecOn with
  | _ d ih =>
    intro D R T s hd I hcl
    have B := I.N.B b hb
    have hle := B.le
    have bn := I.N.S.bn
    have fin : ∀ D R T, rt_I p q n g K M P m b hh C D R T → (∀ j, P.fi b ≤ j → j < P.en b → ty_cl K M P hh R T j) → q_run (tX12_types_102 q (nI b) (nI (P.fi b))) (q_b false, D) = fX12_types_168 D q (nI b) (nI (P.fi b)) := by
      intro D R T I hcl
      rw [q_run_step]
      have z0 : q_b false = 0 := rfl
      simp only [tX12_types_102, z0, if_true]
      show Option.bind (Option.bind (fX12_types_168 D q (nI b) (nI (P.fi b))) _) _ = _
      cases fX12_types_168 D q (nI b) (nI (P.fi b)) <;> rfl
    cases hs : s with
    | false => exact ⟨D, R, T, fin D R T I (hcl hs), I, hcl hs, fun j h => ⟨h, k_rle.refl _⟩, rt_f.refl _ _⟩
    | true =>
      obtain ⟨D2, R2, T2, W2, s2, y1, y2, y3, y4, y5⟩ := z_rtRound hp hq hK ok hb (P.en b - P.fi b) (P.fi b) D R T (fun _ => false) false (by have := B.lt; omega) (Nat.le_refl _) I (fun j j1 j2 => by omega)
      have st : tX12_types_102 q (nI b) (nI (P.fi b)) (q_b true, D) = some (.inr (q_b s2, D2)) := by
        have n1 : ¬ q_b true = 0 := by decide
        simp only [tX12_types_102, if_neg n1]
        exact y1
      rw [q_run_go st]
      cases hs2 : s2 with
      | false =>
        have hc2 : ∀ j, P.fi b ≤ j → j < P.en b → ty_cl K M P hh R2 T2 j := fun j j1 j2 => by
          refine y4 j j1 j2 ?_
          cases hw : W2 j with
          | false => rfl
          | true =>
            rcases y3.g4 j hw with h | h
            · cases h
            · rw [hs2] at h; cases h
        exact ⟨D2, R2, T2, fin D2 R2 T2 y2 hc2, y2, hc2, y3.g1, y5⟩
      | true =>
        have hlt := y3.g6 rfl hs2
        have hmu2 := ty_mu_le (P.fi b) (P.en b) R2 T2 (by omega) (fun i a c => ok.h8 a c)
        obtain ⟨D', R', T', x1, x2, x4, x5, x6⟩ := ih (697345 - ty_mu hh (P.fi b) (P.en b) R2 T2) (by omega) D2 R2 T2 true rfl y2 (fun h => by cases h)
        refine ⟨D', R', T', x1, x2, x4, fun j h => ?_, y5.trans x6⟩
        obtain ⟨u1, u2⟩ := y3.g1 j h
        obtain ⟨v1, v2⟩ := x5 j u1
        exact ⟨v1, u2.trans hK v2⟩
end ZTR4
