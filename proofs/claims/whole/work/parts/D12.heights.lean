/-! ===== heights: both sides ===== -/
theorem z_fillR {a n0 lo hi : Nat} {v : Int32} (h1 : lo ≤ hi) (h2 : hi ≤ n0) (hn : n0 < 2147483648) (S : QS) : ∃ S', fJ7_fill_fda19 S a n0 (nI lo) (nI hi) v = some S' ∧ (∀ y j, S'.2.1 y j = if y = a ∧ lo ≤ j ∧ j < hi then v else S.2.1 y j) ∧ S'.1 = S.1 ∧ S'.2.2 = S.2.2 := by
  have rc : fJ7_rangeCheck_23922 S (nI n0) (nI lo) (nI hi) = some () := by
    rw [fJ7_rangeCheck_23922, if_pos (by rw [z_leN (by omega) (by omega)]; exact h1), if_pos (nI_pos' (by omega)), if_pos (by rw [z_leN (by omega) (by omega)]; exact h2)]
  have loop : ∀ d k S, k + d = hi → ∃ S', q_run (tJ7_fill_fda19_10 a n0 (nI hi) v) (nI k, S) = some S' ∧ (∀ y j, S'.2.1 y j = if y = a ∧ k ≤ j ∧ j < hi then v else S.2.1 y j) ∧ S'.1 = S.1 ∧ S'.2.2 = S.2.2 := by
    intro d
    induction d with
    | zero =>
      intro k S hk
      refine ⟨S, q_run_ret ?_, fun y j => by rw [if_neg (by omega)], rfl, rfl⟩
      simp only [tJ7_fill_fda19_10]
      rw [if_pos (by rw [z_leN (by omega) (by omega)]; omega)]
    | succ d ih =>
      intro k S hk
      have st : tJ7_fill_fda19_10 a n0 (nI hi) v (nI k, S) = some (.inr (nI (k + 1), q_sI S a k v)) := by
        simp only [tJ7_fill_fda19_10]
        rw [if_neg (by rw [z_leN (by omega) (by omega)]; omega), if_pos (z_inbN (by omega) (by omega)), z_cl (by omega), nI_1]
        rfl
      obtain ⟨S', y1, y2, y3, y4⟩ := ih (k + 1) (q_sI S a k v) (by omega)
      refine ⟨S', (q_run_go st).trans y1, fun y j => ?_, y3, y4⟩
      rw [y2, q_sI_I]
      by_cases e : y = a ∧ k + 1 ≤ j ∧ j < hi
      · rw [if_pos e, if_pos (by omega)]
      · rw [if_neg e]
        by_cases e2 : y = a ∧ j = k
        · rw [if_pos e2, if_pos (by omega)]
        · rw [if_neg e2, if_neg (by omega)]
  obtain ⟨S', y1, y2, y3, y4⟩ := loop (hi - lo) lo S (by omega)
  refine ⟨S', ?_, y2, y3, y4⟩
  rw [fJ7_fill_fda19, rc, Option.bind_some]
  exact y1
section ZHF
variable {C D : QS} {n p q m b : Nat} {g : ZT} {K : ZK} {M : ZM} {P : ZP}
def hy_f (q F E : Nat) (D D' : QS) : Prop := (∀ y j, ¬ (y = q + 19 ∧ F ≤ j ∧ j < E) → ¬ (y = 102 ∧ j = 12) → D'.2.1 y j = D.2.1 y j) ∧ D'.1 = D.1 ∧ D'.2.2 = D.2.2
theorem hx_f.refl (p F E : Nat) (C : QS) : hx_f p F E C C := ⟨fun _ _ _ => rfl, rfl, rfl⟩
theorem hy_f.refl (q F E : Nat) (D : QS) : hy_f q F E D D := ⟨fun _ _ _ _ => rfl, rfl, rfl⟩
theorem hx_f.trans {p F E : Nat} {C C' C'' : QS} (h : hx_f p F E C C') (h' : hx_f p F E C' C'') : hx_f p F E C C'' := ⟨fun y j a => (h'.1 y j a).trans (h.1 y j a), h'.2.1.trans h.2.1, h'.2.2.trans h.2.2⟩
theorem hy_f.trans {q F E : Nat} {D D' D'' : QS} (h : hy_f q F E D D') (h' : hy_f q F E D' D'') : hy_f q F E D D'' := ⟨fun y j a b => (h'.1 y j a b).trans (h.1 y j a b), h'.2.1.trans h.2.1, h'.2.2.trans h.2.2⟩
theorem s_N.hxy {C' D' : QS} {F E : Nat} (N : s_N p q n g K M P m C D) (hp : z_pp p) (hq : z_qq q) (h : hx_f p F E C C') (h' : hy_f q F E D D') : s_N p q n g K M P m C' D' := N.hx hp hq (fun y j _ b => h.1 y j (by omega)) (fun y j a _ c _ _ _ => h'.1 y j (by omega) (by omega))
/-- is the height of instruction j laid down on both sides -/
def h_done (p q : Nat) (M : ZM) (P : ZP) (X : Nat → Int32) (C D : QS) (j : Nat) : Prop := ∃ v, h_one (k_tk M P j) (k_lv M P j) (X j) v ∧ C.2.1 (p + 17) j = v ∧ D.2.1 (q + 19) j = v
theorem z_hfin {X : Nat → Int32} (hp : z_pp p) (hq : z_qq q) (hG : z_G n g) (hK : k_K g K) (hb : b < M.bc) (h9 : ∀ i, P.fi b ≤ i → i < P.en b → h_9 (X i)) : ∀ d i C D, i + d = P.en b → P.fi b ≤ i → s_N p q n g K M P m C D → (∀ j, P.fi b ≤ j → j < P.en b → C.2.1 82 j = X j ∧ D.2.1 170 j = X j) → (∀ j, P.fi b ≤ j → j < i → h_done p q M P X C D j) → ∃ r r', q_run (tX3_firstFault_107 p (nI (P.en b))) (nI i, C) = some r ∧ q_run (tX12_heights_232 q (nI b)) (nI i, D) = some r' ∧ hx_f p (P.fi b) (P.en b) C r.2 ∧ hy_f q (P.fi b) (P.en b) D r'.2 ∧ ((∃ i', P.fi b ≤ i' ∧ i' < P.en b ∧ r.1 = nI i' ∧ r'.1 = false ∧ r'.2.2.1 102 12 = nI (P.tk i')) ∨ (r.1 = -1 ∧ r'.1 = true ∧ ∀ j, P.fi b ≤ j → j < P.en b → h_done p q M P X r.2 r'.2 j)) := by
  intro d
  induction d with
  | zero =>
    intro i C D hi hF N hX hd
    have B := N.B b hb
    have hle := B.le
    have bn := N.S.bn
    have h48 := N.S.mJ.mB.1
    refine ⟨(-1, C), (true, D), q_run_ret ?_, q_run_ret ?_, hx_f.refl _ _ _ _, hy_f.refl _ _ _ _, Or.inr ⟨rfl, rfl, fun j j1 j2 => hd j j1 (by omega)⟩⟩
    · simp only [tX3_firstFault_107]
      rw [if_pos (by rw [z_leN (by omega) (by omega)]; omega)]
    · simp only [tX12_heights_232, z_inbN (show b < 48 by omega) (by decide), if_true, z_cl (show b < 2147483648 by omega), B.D2]
      rw [if_pos (by rw [z_leN (by omega) (by omega)]; omega)]
  | succ d ih =>
    intro i C D hi hF N hX hd
    have B := N.B b hb
    have hle := B.le
    have bn := N.S.bn
    have h48 := N.S.mJ.mB.1
    have hiE : i < P.en b := by omega
    have hin : i < P.n := by omega
    have g1 : ¬ nI (P.en b) ≤ nI i := by rw [z_leN (by omega) (by omega)]; omega
    have i1 := z_inbN (show i < 1024 by omega) (by decide)
    have c1 := z_cl (show i < 2147483648 by omega)
    have ib := z_inbN (show b < 48 by omega) (by decide)
    have cb := z_cl (show b < 2147483648 by omega)
    obtain ⟨ha, hl⟩ := k_tk_le N.S hin
    obtain ⟨x1, x2⟩ := hX i hF hiE
    have gd := z_goodOf hG hK N hin
    have gh := z_goodHeights hK N hin
    rw [x1] at gd
    rw [x2] at gh
    rcases h_look (a := k_tk M P i) (h9 i hF hiE) hl with ⟨v, v1, v2, v3, v4, v5⟩ | ⟨w1, w2⟩
    · obtain ⟨c, y1, y2⟩ := v3 C
      have sC : tX3_firstFault_107 p (nI (P.en b)) (nI i, C) = some (.inr (nI (i + 1), q_sI C (p + 17) i v)) := by
        simp only [tX3_firstFault_107, if_neg g1, i1, if_true, c1, gd, Option.bind_some, x1, if_pos v2, y1, if_pos y2, nI_1]
        by_cases z : X i = 0
        · rw [if_pos z]
          rcases v1 with ⟨-, e⟩ | ⟨h, e1, e2, -⟩
          · rw [e]
          · rw [z] at e2; exact absurd e2.symm (j_bit2 ⟨h, by omega⟩).2.1
        · rw [if_neg z, (v5 z).2 C]
          rfl
      obtain ⟨D1, sD, gD1, o1, o2⟩ : ∃ D1, tX12_heights_232 q (nI b) (nI i, D) = some (.inr (nI (i + 1), D1)) ∧ (∀ y j, D1.2.1 y j = if y = q + 19 ∧ j = i then v else D.2.1 y j) ∧ D1.1 = D.1 ∧ D1.2.2 = D.2.2 := by
        rcases v1 with ⟨z, e⟩ | ⟨h, e1, e2, e3, -⟩
        · have l := z_hd300z (q := q) (b := b) (show i < 1024 by omega) 9 0 (q_sI D (q + 19) i (-1)) rfl
          refine ⟨q_sI D (q + 19) i (-1), ?_, fun y j => by rw [q_sI_I, e], rfl, rfl⟩
          simp only [tX12_heights_232, ib, if_true, cb, B.D2, if_neg g1, i1, c1, x2, if_pos v4, if_pos z, Option.bind_some]
          rw [z]
          exact l
        · have nz : ¬ X i = 0 := by rw [e2]; exact (j_bit2 ⟨h, by omega⟩).2.1
          obtain ⟨D1, l1, l2, l3, l4⟩ := z_hd300 (q := q) (b := b) (show i < 1024 by omega) e1 9 0 (q_sI D (q + 19) i (-1)) rfl
          refine ⟨D1, ?_, fun y j => ?_, l3, l4⟩
          · simp only [tX12_heights_232, ib, if_true, cb, B.D2, if_neg g1, i1, c1, x2, if_pos v4, if_neg nz, gh, Option.bind_some, if_neg (v5 nz).1]
            rw [e2]
            exact l1
          · rw [l2, q_sI_I, e3]
            by_cases c : y = q + 19 ∧ j = i
            · rw [if_pos ⟨c.1, c.2, Nat.zero_le _⟩, if_pos c]
            · rw [if_neg (fun z => c ⟨z.1, z.2.1⟩), if_neg c, if_neg c]
      have fC : hx_f p (P.fi b) (P.en b) C (q_sI C (p + 17) i v) := ⟨fun y j a => by rw [q_sI_I, if_neg (by omega)], rfl, rfl⟩
      have fD : hy_f q (P.fi b) (P.en b) D D1 := ⟨fun y j a _ => by rw [gD1, if_neg (by omega)], o1, o2⟩
      obtain ⟨r, r', z1, z2, z3, z4, z5⟩ := ih (i + 1) (q_sI C (p + 17) i v) D1 (by omega) (by omega) (N.hxy hp hq fC fD) (fun j j1 j2 => by
        obtain ⟨y1, y2⟩ := hX j j1 j2
        rw [fC.1 82 j (by rcases hp with rfl | rfl <;> omega), fD.1 170 j (by rcases hq with rfl | rfl <;> omega) (by omega)]
        exact ⟨y1, y2⟩) (fun j j1 j2 => by
        by_cases e : j = i
        · subst e
          exact ⟨v, v1, by rw [q_sI_I, if_pos ⟨rfl, rfl⟩], by rw [gD1, if_pos ⟨rfl, rfl⟩]⟩
        · obtain ⟨u, u1, u2, u3⟩ := hd j j1 (by omega)
          exact ⟨u, u1, by rw [q_sI_I, if_neg (by omega)]; exact u2, by rw [gD1, if_neg (by omega)]; exact u3⟩)
      exact ⟨r, r', (q_run_go sC).trans z1, (q_run_go sD).trans z2, fC.trans z3, fD.trans z4, z5⟩
    · have sC : tX3_firstFault_107 p (nI (P.en b)) (nI i, C) = some (.inl (nI i, C)) := by
        by_cases e : X i = h_gd (X i) (k_tk M P i) (k_lv M P i)
        · obtain ⟨c, y1, y2⟩ := (w1.resolve_left (fun h => h e)) C
          simp only [tX3_firstFault_107, if_neg g1, i1, if_true, c1, gd, Option.bind_some, x1, if_pos e, y1, if_neg y2]
        · simp only [tX3_firstFault_107, if_neg g1, i1, if_true, c1, gd, Option.bind_some, x1, if_neg e]
      have tk := (N.S.iD i hin).2.2.2.1
      have sD : tX12_heights_232 q (nI b) (nI i, D) = some (.inl (false, q_sI D 102 12 (nI (P.tk i)))) := by
        rcases w2 with h | ⟨h, h', h''⟩
        · simp only [tX12_heights_232, ib, if_true, cb, B.D2, if_neg g1, i1, c1, x2, if_neg h, tk, fX12_wrong, Option.bind_some]
        · simp only [tX12_heights_232, ib, if_true, cb, B.D2, if_neg g1, i1, c1, x2, if_pos h, if_neg h', gh, if_pos h'', tk, fX12_wrong, Option.bind_some]
      refine ⟨_, _, q_run_ret sC, q_run_ret sD, hx_f.refl _ _ _ _, ⟨fun y j a b => by rw [q_sI_I, if_neg b], rfl, rfl⟩, Or.inl ⟨i, hF, hiE, rfl, rfl, ?_⟩⟩
      rw [q_sI_I, if_pos ⟨rfl, rfl⟩]
theorem h_cld_eq {X Y : Nat → Int32} (hb1 : h_snd M P b X) (hb2 : h_snd M P b Y) (c1 : h_cld M P b X) (c2 : h_cld M P b Y) : ∀ i, P.fi b ≤ i → i < P.en b → X i = Y i := fun i i1 i2 => h_sub_anti (hb1 Y c2 i i1 i2) (hb2 X c1 i i1 i2)
theorem h_one_sub {a l h : Nat} {w v : Int32} (h1 : h_one a l w v) (hh : h ≤ 8) (hs : h_sub (nI (2 ^ h)) w) : v = nI h := by
  have hb := h_sub_iff.mp hs h (by omega) (by rw [h_one_b (by omega)]; simp)
  rcases h1 with ⟨e, -⟩ | ⟨x, x1, x2, x3, -⟩
  · rw [e, b_0] at hb; cases hb
  · rw [x2, h_one_b (by omega)] at hb
    have : h = x := by simpa using hb
    rw [x3, this]
/-- nothing waits -/
def h_cln (C : QS) : Prop := (∀ i, i < 1024 → C.2.1 83 i = 0) ∧ C.2.1 81 4 = 0
theorem z_heights (hp : z_pp p) (hq : z_qq q) (hG : z_G n g) (hK : k_K g K) (N : s_N p q n g K M P m C D) (hb : b < M.bc) (hc : h_cln C) : ∃ r r', fX3_firstFault C p (nI b) = some r ∧ fX12_heights D q (nI b) = some r' ∧ h_cln r.2 ∧ (∀ y j, ¬ (y = p + 17 ∧ P.fi b ≤ j ∧ j < P.en b) → y ≠ 82 → y ≠ 83 → ¬ (y = 81 ∧ j = 4) → r.2.2.1 y j = C.2.1 y j) ∧ r.2.1 = C.1 ∧ r.2.2.2 = C.2.2 ∧ (∀ y j, ¬ (y = q + 19 ∧ P.fi b ≤ j ∧ j < P.en b) → ¬ (y = 102 ∧ j = 12) → y ≠ 170 → r'.2.2.1 y j = D.2.1 y j) ∧ r'.2.1 = D.1 ∧ r'.2.2.2 = D.2.2 ∧ ((∃ i, P.fi b ≤ i ∧ i < P.en b ∧ r.1 = nI i ∧ r'.1 = false ∧ r'.2.2.1 102 12 = nI (P.tk i)) ∨ (r.1 = -1 ∧ r'.1 = true ∧ ∃ hh, h_ok M P b hh ∧ ∀ i, P.fi b ≤ i → i < P.en b → r.2.2.1 (p + 17) i = hh i ∧ r'.2.2.1 (q + 19) i = hh i)) := by
  have B := N.B b hb
  have hle := B.le
  have hlt := B.lt
  have bn := N.S.bn
  have h48 := N.S.mJ.mB.1
  have ib := z_inbN (show b < 48 by omega) (by decide)
  have cb := z_cl (show b < 2147483648 by omega)
  let X0 : Nat → Int32 := fun _ => 0
  let X1 : Nat → Int32 := h_add X0 (P.fi b) 1
  have sn0 : h_snd M P b X0 := fun Y _ i _ _ => h_sub_0 _
  have sn1 : h_snd M P b X1 := sn0.add (fun Y hY => hY.1) (Nat.le_refl _) hlt
  have n9 : ∀ i, P.fi b ≤ i → i < P.en b → h_9 (X1 i) := fun i _ _ => by
    show h_9 (h_add X0 (P.fi b) 1 i)
    rw [h_add]
    by_cases e : i = P.fi b
    · subst e; rw [k_up_eq]; exact h_9_or h_9_0 h_9_1
    · rw [k_up_ne e]; exact h_9_0
  have x1f : X1 (P.fi b) = 1 := by
    show h_add X0 (P.fi b) 1 (P.fi b) = 1
    rw [h_add, k_up_eq]
    show (0 : Int32) ||| 1 = 1
    decide
  have x1o : ∀ i, i ≠ P.fi b → X1 i = 0 := fun i hi => by
    show h_add X0 (P.fi b) 1 i = 0
    rw [h_add, k_up_ne hi]
  -- the class
  obtain ⟨C1, a1, a2, a3, a4⟩ := z_fillR (a := 82) (n0 := 1024) (v := 0) (Nat.le_of_lt hlt) (show P.en b ≤ 1024 by omega) (by decide) C
  have f1 : h_f (P.fi b) (P.en b) C C1 := ⟨fun y j a _ => by rw [a2, if_neg (by omega)], a3, a4⟩
  have N1 := N.hf hp hq f1
  have S1 : h_S C1 (P.fi b) (P.en b) X0 (fun _ => false) false := by
    refine ⟨fun i i1 i2 => ⟨by rw [a2, if_pos ⟨rfl, i1, i2⟩], ?_⟩, ?_⟩
    · rw [a2, if_neg (by omega)]; exact hc.1 i (by omega)
    · rw [a2, if_neg (by omega)]; exact hc.2
  obtain ⟨C2, b1, b2, b3⟩ := z_arrive (v := 1) N1 hle (Nat.le_refl _) hlt S1
  have N2 := N1.hf hp hq b3
  have ne : ¬ X0 (P.fi b) ||| 1 = X0 (P.fi b) := by show ¬ (0 : Int32) ||| 1 = 0; decide
  rw [if_neg ne, if_neg ne] at b2
  have hmu1 : 1 ≤ h_mu (P.fi b) (P.en b) X1 := by
    have := k_sum_lt (f := fun _ => 0) (f' := fun i => h_pc (X1 i)) (lo := P.fi b) (j := P.fi b) (P.en b - P.fi b) (fun i => Nat.zero_le _) (Nat.le_refl _) (by omega) (by
      show 0 < h_pc (X1 (P.fi b))
      rw [x1f]; decide)
    rw [h_mu]
    omega
  obtain ⟨C3, X3, d1, d2, d3, d4, d5, d6, d7⟩ := z_rounds hp hq hG hK hb _ 0 C2 X1 (k_up (fun _ => false) (P.fi b) true) true rfl (fun _ => by omega) (by omega) N2 b2 sn1 (fun j j1 j2 hj => by
    have e : j ≠ P.fi b := fun e => by subst e; rw [k_up_eq] at hj; cases hj
    have ev : h_v M P X1 j = 0 := by
      rw [h_v, x1o j e]
      exact (h_gd_0 (k_tk_le N.S (show j < P.n by omega)).2).mp (h_gd_z _ _)
    exact ⟨fun _ => by rw [ev]; exact h_sub_0 _, fun _ => by rw [ev]; exact h_sub_0 _, fun x => absurd ev x⟩) (fun _ _ _ _ => rfl)
  have N3 := N2.hf hp hq d6
  have cl3 : h_cld M P b X3 := ⟨by have := d5 (P.fi b); rw [x1f] at this; exact this, d4⟩
  have f3 := (f1.trans b3).trans d6
  -- the reference
  have zl : ∀ d i D', i + d = P.en b → P.fi b ≤ i → hd_f (P.fi b) (P.en b) D D' → (∀ j, P.fi b ≤ j → j < i → D'.2.1 170 j = 0) → ∃ D'', q_run (tX12_heights_7 q (nI b)) (nI i, D') = q_run (tX12_heights_44 q (nI b)) (1, D'') ∧ hd_f (P.fi b) (P.en b) D D'' ∧ hd_S D'' (P.fi b) (P.en b) X1 := by
    intro d
    induction d with
    | zero =>
      intro i D' hi hF hf hz
      have N' := N.hfD hp hq hf
      have B' := N'.B b hb
      refine ⟨q_sI D' 170 (P.fi b) 1, ?_, hf.trans ⟨fun y j a => by rw [q_sI_I, if_neg (by omega)], rfl, rfl⟩, fun j j1 j2 => ?_⟩
      · rw [q_run_step]
        simp only [tX12_heights_7, ib, if_true, cb, B'.D2, B'.D1]
        rw [if_pos (by rw [z_leN (by omega) (by omega)]; omega), if_pos (z_inbN (by omega) (by decide)), z_cl (by omega)]
        show Option.bind (Option.bind (q_run (tX12_heights_44 q (nI b)) (1, q_sI D' 170 (P.fi b) 1)) _) _ = _
        cases q_run (tX12_heights_44 q (nI b)) (1, q_sI D' 170 (P.fi b) 1) <;> rfl
      · rw [q_sI_I]
        by_cases e : j = P.fi b
        · subst e; rw [if_pos ⟨rfl, rfl⟩, x1f]
        · rw [if_neg (by omega), x1o j e]; exact hz j j1 (by omega)
    | succ d ih =>
      intro i D' hi hF hf hz
      have N' := N.hfD hp hq hf
      have B' := N'.B b hb
      have st : tX12_heights_7 q (nI b) (nI i, D') = some (.inr (nI (i + 1), q_sI D' 170 i 0)) := by
        simp only [tX12_heights_7, ib, if_true, cb, B'.D2]
        rw [if_neg (by rw [z_leN (by omega) (by omega)]; omega), if_pos (z_inbN (by omega) (by decide)), z_cl (by omega), nI_1]
        rfl
      rw [q_run_go st]
      exact ih (i + 1) _ (by omega) (by omega) (hf.trans ⟨fun y j a => by rw [q_sI_I, if_neg (by omega)], rfl, rfl⟩) (fun j j1 j2 => by
        rw [q_sI_I]
        by_cases e : j = i
        · subst e; rw [if_pos ⟨rfl, rfl⟩]
        · rw [if_neg (by omega)]; exact hz j j1 (by omega))
  obtain ⟨D1, e1, e2, e3⟩ := zl (P.en b - P.fi b) (P.fi b) D (by omega) (Nat.le_refl _) (hd_f.refl _ _ _) (fun j j1 j2 => by omega)
  have ND1 := N3.hfD hp hq e2
  obtain ⟨D2, X2, k1, k2, k3, k4, k5, k6, k7⟩ := z_hd44 hp hq hK hb _ D1 X1 rfl ND1 e3 sn1
  have ND2 := ND1.hfD hp hq k6
  have cl2 : h_cld M P b X2 := ⟨by have := k5 (P.fi b); rw [x1f] at this; exact this, k4⟩
  have eqX := h_cld_eq d3 k3 cl3 cl2
  obtain ⟨r, r', z1, z2, z3, z4, z5⟩ := z_hfin hp hq hG hK hb (d7 n9) (P.en b - P.fi b) (P.fi b) C3 D2 (by omega) (Nat.le_refl _) ND2 (fun j j1 j2 => ⟨(d2.1 j j1 j2).1, by rw [k2 j j1 j2]; exact (eqX j j1 j2).symm⟩) (fun j j1 j2 => by omega)
  refine ⟨r, r', ?_, ?_, ⟨fun i hi => ?_, ?_⟩, fun y j y1 y2 y3 y4 => ?_, z3.2.1.trans f3.2.1, z3.2.2.trans f3.2.2, fun y j y1 y2 y3 => ?_, z4.2.1.trans (e2.trans k6).2.1, z4.2.2.trans (e2.trans k6).2.2, ?_⟩
  · simp only [fX3_firstFault, ib, if_true, cb, B.C1, B.C2, a1, Option.bind_some, b1]
    exact d1.trans z1
  · simp only [fX12_heights, ib, if_true, cb, B.D1]
    exact (e1.trans k1).trans z2
  · rw [z3.1 83 i (by rcases hp with rfl | rfl <;> omega)]
    by_cases c : P.fi b ≤ i ∧ i < P.en b
    · exact (d2.1 i c.1 c.2).2
    · rw [f3.1 83 i (by omega) (by omega)]; exact hc.1 i hi
  · rw [z3.1 81 4 (by rcases hp with rfl | rfl <;> omega)]; exact d2.2
  · rw [z3.1 y j y1, f3.1 y j (by omega) y4]
  · rw [z4.1 y j y1 y2, (e2.trans k6).1 y j (by omega)]
  · rcases z5 with h | ⟨h1, h2, h3⟩
    · exact Or.inl h
    · refine Or.inr ⟨h1, h2, fun i => r.2.2.1 (p + 17) i, ?_, fun i i1 i2 => ?_⟩
      · have hd : ∀ i, P.fi b ≤ i → i < P.en b → h_one (k_tk M P i) (k_lv M P i) (X3 i) (r.2.2.1 (p + 17) i) := fun i i1 i2 => by
          obtain ⟨v, v1, v2, -⟩ := h3 i i1 i2
          rw [v2]; exact v1
        refine ⟨h_one_sub (h := 0) (hd _ (Nat.le_refl _) hlt) (by omega) cl3.1, fun i i1 i2 => ?_⟩
        rcases hd i i1 i2 with ⟨-, e⟩ | ⟨h, x1, x2, x3, x4, x5⟩
        · exact Or.inl e
        · have cl := cl3.2 i i1 i2
          obtain ⟨-, hl⟩ := k_tk_le N.S (show i < P.n by omega)
          have ev : h_v M P X3 i = nI (2 ^ (h - k_tk M P i + k_lv M P i)) := by rw [h_v, x2, h_mv_one (by omega) hl, if_pos ⟨x4, x5⟩]
          refine Or.inr ⟨h, x1, x3, x4, x5, fun x => ?_, fun x => ?_, fun k hk hcv => ?_⟩
          · have := cl.1 x
            rw [ev] at this
            have hin := k_nx_in B i2 x
            exact h_one_sub (hd (i + 1) (by omega) hin) (by omega) this
          · have := cl.2.1 x
            rw [ev] at this
            obtain ⟨t1, t2, -⟩ := k_lb_in N hb i1 i2 x
            exact h_one_sub (hd _ t1 t2) (by omega) this
          · have nz : h_v M P X3 i ≠ 0 := by rw [ev]; exact (j_bit2 ⟨_, by omega⟩).2.1
            have := cl.2.2 nz k hk hcv
            obtain ⟨t1, t2, -⟩ := k_cov_in N hb i1 i2 hk hcv
            exact h_one_sub (h := 1) (hd _ t1 t2) (by omega) this
      · obtain ⟨v, v1, v2, v3⟩ := h3 i i1 i2
        exact ⟨rfl, v3.trans v2.symm⟩
end ZHF
