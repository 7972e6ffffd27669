/-! ===== all bodies ===== -/
section ZLINES
variable {C D : QS} {n p q : Nat} {g : ZT} {K : ZK} {M : ZM} {P : ZP}
theorem c_S.re {C' D' : QS} {P' : ZP} (S : c_S p q n g K M P C D) (hp : z_pp p) (hq : z_qq q) (fC : ∀ y j, (z_rC p y j ∨ y = p + 10 ∨ (p + 11 ≤ y ∧ y ≤ p + 16) ∨ (p + 18 ≤ y ∧ y ≤ p + 21)) → C'.2.1 y j = C.2.1 y j) (fD : ∀ y j, (z_rD q y j ∨ (y = q ∧ j ≤ 5) ∨ (q + 15 ≤ y ∧ y ≤ q + 18) ∨ (y = q + 20 ∧ j < 48) ∨ (q + 21 ≤ y ∧ y ≤ q + 25) ∨ y = 169) → D'.2.1 y j = D.2.1 y j) (h1 : P'.n = P.n) (h2 : P'.op = P.op) (h3 : P'.xa = P.xa) (h4 : P'.ya = P.ya) (h5 : P'.xb = P.xb) (h6 : P'.tk = P.tk) (h7 : P'.bd = P.bd) (h8 : P'.si = P.si) (h9 : P'.ns = P.ns) (h10 : P'.st = P.st) (h11 : P'.nc = P.nc) (h12 : P'.cb = P.cb) (h13 : P'.cf = P.cf) (h14 : P'.ct = P.ct) (h15 : P'.ca = P.ca) (h16 : P'.cl = P.cl) (hI : ∀ i, i < P.n → P'.fi (P.bd i) = P.fi (P.bd i) ∧ P'.en (P.bd i) = P.en (P.bd i)) (hK' : ∀ k, k < P.nc → P'.fi (P.cb k) = P.fi (P.cb k) ∧ P'.en (P.cb k) = P.en (P.cb k)) : c_S p q n g K M P' C' D' := by
  rw [c_S, h1, h2, h3, h4, h5, h6, h7, h8, h9, h10, h11, h12, h13, h14, h15, h16]
  refine ⟨S.mJ.fr hp hq (fun y j h => fC y j (Or.inl h)) (fun y j h => fD y j (Or.inl h)), (fC _ _ (by omega)).trans S.nC, (fD _ _ (by omega)).trans S.nD, (fC _ _ (by omega)).trans S.sC, (fD _ _ (by omega)).trans S.sD, (fC _ _ (by omega)).trans S.cC, (fD _ _ (by omega)).trans S.cD, fun i hi => ?_, fun i hi => ?_, fun s hs => (fD _ _ (by have := S.bs; omega)).trans (S.sT s hs), fun k hk => ?_, fun k hk => ?_, S.bn, S.bs, S.bk, fun i hi => ?_, S.tk, S.si, fun k hk => ?_⟩
  · obtain ⟨x1, x2, x3, x4, x5, x6⟩ := S.iC i hi
    exact ⟨(fC _ _ (by omega)).trans x1, (fC _ _ (by omega)).trans x2, (fC _ _ (by omega)).trans x3, (fC _ _ (by omega)).trans x4, (fC _ _ (by omega)).trans x5, (fC _ _ (by omega)).trans x6⟩
  · obtain ⟨x1, x2, x3, x4, x5⟩ := S.iD i hi
    exact ⟨(fD _ _ (by omega)).trans x1, (fD _ _ (by omega)).trans x2, (fD _ _ (by omega)).trans x3, (fD _ _ (by omega)).trans x4, (fD _ _ (by omega)).trans x5⟩
  · obtain ⟨x1, x2, x3, x4⟩ := S.aC k hk
    exact ⟨(fC _ _ (by omega)).trans x1, (fC _ _ (by omega)).trans x2, (fC _ _ (by omega)).trans x3, (fC _ _ (by omega)).trans x4⟩
  · obtain ⟨x1, x2, x3, x4, x5⟩ := S.aD k hk
    exact ⟨(fD _ _ (by omega)).trans x1, (fD _ _ (by omega)).trans x2, (fD _ _ (by omega)).trans x3, (fD _ _ (by omega)).trans x4, (fD _ _ (by omega)).trans x5⟩
  · refine (S.wI i hi).congr (by rw [h2]) (by rw [h3]) (by rw [h4]) (by rw [h5]) (by rw [h7]) (by rw [h8]) (hI i hi).1 (hI i hi).2 (by rw [h9]; exact Nat.le_refl _) (fun _ _ => by rw [h10])
  · have w := S.wK k hk
    rw [c_K, h12, h13, h14, h15, h16, (hK' k hk).1, (hK' k hk).2]
    exact w
theorem z_bodyAll {b e : Nat} (hp : z_pp p) (hq : z_qq q) (hG : z_G n g) (hK : k_K g K) (ho : e_ok g) (S : c_S p q n g K M P C D) (hB : ∀ c, c < b → c_B p q P c C D) (hbd : ∀ i, i < P.n → P.bd i < b) (hcb : ∀ k, k < P.nc → P.cb k < b) (h8 : C.2.1 78 8 + 1 = nI b) (hb : b < M.bc) (H : m_H g K M b e) : ∃ te, e_st g (te + 1) = (1, []) ∧ te < g.1 ∧ M.bw b ≤ te ∧ (∀ i, M.bw b ≤ i → i ≤ te → e_st g i ≠ (1, [])) ∧ ((∃ r r', q_run (tX4_lineFault_7 p) (nI (M.bw b - 1), C) = some r ∧ fX12_linesOf D q (nI b) = some r' ∧ z_offC p C r.2 ∧ z_offD q D r'.2 ∧ z_flt g r r') ∨ (∃ C' D' P', q_run (tX4_lineFault_7 p) (nI (M.bw b - 1), C) = q_run (tX4_lineFault_7 p) (nI (te + 1), C') ∧ fX12_linesOf D q (nI b) = some (true, D') ∧ z_offC p C C' ∧ z_offD q D D' ∧ c_S p q n g K M P' C' D' ∧ (∀ c, c < b + 1 → c_B p q P' c C' D') ∧ (∀ i, i < P'.n → P'.bd i < b + 1) ∧ (∀ k, k < P'.nc → P'.cb k < b + 1) ∧ C'.2.1 78 8 + 1 = nI (b + 1))) := by
  have b1 := hG.1
  have b2 := hG.2.1
  have hb48 := S.mJ.mB.1
  have hpos := H.pos
  have hn := S.bn
  have hnc := S.bk
  obtain ⟨d1, d2, d3, d4, d5, d6, d7, d8, d9, d10, d11, d12, d13, d14⟩ := H.hd
  generalize ht0 : M.bw b - 1 = t at d1 d2 d3 d4 d5 d6 d7 d8 d9 d10 d11 d12 d13 d14
  have ht : M.bw b = t + 1 := by omega
  rw [ht]
  obtain ⟨te, hbe⟩ := e_bend ho (g.1 - (e + 4)) (e + 4) (by omega) d10
  have hte := hbe.2.1
  have hle := hbe.1
  obtain ⟨hcl1, hcl2, hcl3⟩ := e_atc ho (show 0 < 2 by omega) hbe.2.2.1 hbe.2.2.2.1
  refine ⟨te, hcl3, hte, by omega, fun i i1 i2 hi => ?_, ?_⟩
  · by_cases c : i < e + 4
    · exact (d13 i (by omega) c).2.2 (by rw [hi])
    · by_cases c2 : i = te
      · rw [c2, hbe.2.2.1] at hi; exact absurd hi (by decide)
      · have := (hbe.2.2.2.2 i (by omega) (by omega)).1
        rw [hi] at this; exact absurd this (by decide)
  -- the two beginnings
  have ib := z_inbN (show b < 48 by omega) (by decide)
  have cb := z_cl (show b < 2147483648 by omega)
  have i0 := z_inbN (show t < 16000 by omega) (by decide)
  have c0 := z_cl (show t < 2147483648 by omega)
  let C2 : QS := q_sI (q_sI (q_sI (q_sI (q_sI C 78 8 (nI b)) (p + 29) b (nI P.n)) (p + 31) b (nI P.nc)) 78 6 0) 78 7 (nI P.n)
  have gC2 : ∀ y j, C2.2.1 y j = if y = 78 ∧ j = 7 then nI P.n else if y = 78 ∧ j = 6 then 0 else if y = p + 31 ∧ j = b then nI P.nc else if y = p + 29 ∧ j = b then nI P.n else if y = 78 ∧ j = 8 then nI b else C.2.1 y j := by
    intro y j; simp only [C2, q_sI_I]
  let D2 : QS := q_sI (q_sI D (q + 12) b (nI P.n)) 102 19 0
  have gD2 : ∀ y j, D2.2.1 y j = if y = 102 ∧ j = 19 then 0 else if y = q + 12 ∧ j = b then nI P.n else D.2.1 y j := by
    intro y j; simp only [D2, q_sI_I]
  have oC2 : z_offC p C C2 := (((((z_offC.refl p C).sI (by omega)).sI (by omega)).sI (by omega)).sI (by omega)).sI (by omega)
  have oD2 : z_offD q D D2 := ((z_offD.refl q D).sI (by omega)).sI (by omega)
  have hC2 := S.mJ.hC.off hp oC2
  have hD2 := S.mJ.hD.off hq oD2
  have kd2 : ∀ i, i < g.1 → C2.2.1 6 i = e_kind g i := fun i hi => by
    rw [oC2.1 6 i (by rcases hp with rfl | rfl <;> omega) (by omega)]; exact S.mJ.kd i hi
  have bg : fX4_beginBody C p (nI t) = q_run (tX4_beginBody_68 p) (nI (t + 1), C2) := by
    have r1 : (q_sI C 78 8 (nI b)).2.1 78 8 = nI b := by rw [q_sI_I, if_pos ⟨rfl, rfl⟩]
    have r2 : (q_sI C 78 8 (nI b)).2.1 (p + 10) 0 = nI P.n := by rw [q_sI_I, if_neg (by rcases hp with rfl | rfl <;> omega)]; exact S.nC
    have r3 : (q_sI (q_sI C 78 8 (nI b)) (p + 29) b (nI P.n)).2.1 78 8 = nI b := by rw [q_sI_I, if_neg (by rcases hp with rfl | rfl <;> omega)]; exact r1
    have r4 : (q_sI (q_sI C 78 8 (nI b)) (p + 29) b (nI P.n)).2.1 (p + 10) 9 = nI P.nc := by
      rw [q_sI_I, if_neg (by omega), q_sI_I, if_neg (by rcases hp with rfl | rfl <;> omega)]; exact S.cC
    have r5 : (q_sI (q_sI (q_sI (q_sI C 78 8 (nI b)) (p + 29) b (nI P.n)) (p + 31) b (nI P.nc)) 78 6 0).2.1 (p + 10) 0 = nI P.n := by
      rw [q_sI_I, if_neg (by rcases hp with rfl | rfl <;> omega), q_sI_I, if_neg (by omega), q_sI_I, if_neg (by omega)]; exact r2
    simp only [fX4_beginBody, h8, Option.bind_some, r1, ib, if_true, cb, r2, r3, r4, r5, nI_1]
    rfl
  have bg2 := z_gSkip (p := p) hC2.2.1 (by omega) kd2 (show e + 4 ≤ g.1 by omega) (e + 3 - t) (t + 1) (by omega) (fun i i1 i2 => Or.inl (d13 i (by omega) i2).1)
  have lb : fX12_linesOf D q (nI b) = q_run (tX12_linesOf_33 q (nI b) (nI (e + 4))) (nI P.n, nI (e + 4), D2) := by
    have rt : D.2.1 166 b = nI (e + 1) := by rw [(S.mJ.dB.2 b hb).2.2.2.2.2.2.1, H.rt]
    have r1 : (q_sI (q_sI D (q + 12) b (nI P.n)) 102 19 0).2.1 q 3 = nI P.n := by
      rw [q_sI_I, if_neg (by rcases hq with rfl | rfl <;> omega), q_sI_I, if_neg (by omega)]; exact S.nD
    have e3 : (nI (e + 1) + 3 : Int32) = nI (e + 4) := by rw [show (3 : Int32) = nI 3 from rfl, nI_add]
    simp only [fX12_linesOf, ib, if_true, cb, S.nD, Option.bind_some, r1, rt, e3]
    rfl
  have hcl := k_cnt_le (P := e_ik g) te
  obtain ⟨nl, lw, lp, C3, D3, g1, g2, g3, g4, g5, g6, g7, g8, g9, g10⟩ := z_gather (p := p) (q := q) (b := b) (F := P.n) (y3 := nI (e + 4)) hG ho (te - (e + 4)) (e + 4) P.n 0 (fun _ => 0) (fun _ => 0) C2 D2 rfl hbe d10 hC2 hD2 kd2 (by rw [gC2, if_pos ⟨rfl, rfl⟩]) ⟨by rw [gC2, if_neg (by omega), if_pos ⟨rfl, rfl⟩]; rfl, by rw [gD2, if_pos ⟨rfl, rfl⟩]; rfl, by omega, fun k hk => absurd hk (Nat.not_lt_zero _)⟩ (by omega) (by omega) (Nat.le_refl _)
  generalize hE : P.n + (k_cnt (e_ik g) te - k_cnt (e_ik g) (e + 4)) = E at g2 g3 g4
  have hE2 : E < 100000 := by omega
  let D4 : QS := q_sI D3 (q + 13) b (nI E)
  have oC3 : z_offC p C C3 := oC2.trans ⟨fun o j h1 h2 => g5 o j (by omega) (by omega) (by omega), g6, by rw [g7], fun o j _ => by rw [g7]⟩
  have oD3 : z_offD q D D3 := oD2.trans ⟨fun o j h1 h2 h3 => g8 o j (by omega) (by omega) (by omega), g9, g10⟩
  have oD4 : z_offD q D D4 := oD3.sI (by omega)
  have gC3 : ∀ y j, y ≠ 78 → y ≠ 79 → y ≠ 80 → ¬ (y = p + 31 ∧ j = b) → ¬ (y = p + 29 ∧ j = b) → C3.2.1 y j = C.2.1 y j := by
    intro y j y1 y2 y3 y4 y5
    rw [g5 y j y2 y3 (by omega), gC2]; simp (disch := omega) only [if_neg]
  have gD4 : ∀ y j, y ≠ 167 → y ≠ 168 → ¬ (y = 102 ∧ j = 19) → ¬ (y = q + 12 ∧ j = b) → ¬ (y = q + 13 ∧ j = b) → D4.2.1 y j = D.2.1 y j := by
    intro y j y1 y2 y3 y4 y5
    show (q_sI D3 (q + 13) b (nI E)).2.1 y j = _
    rw [q_sI_I, if_neg y5, g8 y j y1 y2 y3, gD2]; simp (disch := omega) only [if_neg]
  have l33 : q_run (tX12_linesOf_33 q (nI b) (nI (e + 4))) (nI E, nI te, D3) = q_run (tX12_linesOf_131 q (nI b) (nI E)) (nI (e + 4), D4) := by
    have hD3 := S.mJ.hD.off hq oD3
    rw [q_run_step]
    simp only [tX12_linesOf_33, z_dEnd hD3 hG (Nat.le_of_lt hte), hbe.2.2.2.1, Option.bind_some, if_true, ib, cb, fX12_linesOf_131]
    show (Option.bind (Option.bind (q_run (tX12_linesOf_131 q (nI b) (nI E)) (nI (e + 4), D4)) _) _) = _
    cases q_run (tX12_linesOf_131 q (nI b) (nI E)) (nI (e + 4), D4) <;> rfl
  have S4 : c_S p q n g K M (P.begB b E) C3 D4 := by
    refine S.re hp hq (fun y j h => gC3 y j ?_ ?_ ?_ ?_ ?_) (fun y j h => gD4 y j ?_ ?_ ?_ ?_ ?_) rfl rfl rfl rfl rfl rfl rfl rfl rfl rfl rfl rfl rfl rfl rfl rfl (fun i hi => ?_) (fun k hk => ?_)
    · rw [z_rC] at h; rcases hp with rfl | rfl <;> omega
    · rw [z_rC] at h; rcases hp with rfl | rfl <;> omega
    · rw [z_rC] at h; rcases hp with rfl | rfl <;> omega
    · rw [z_rC] at h; rcases hp with rfl | rfl <;> omega
    · rw [z_rC] at h; rcases hp with rfl | rfl <;> omega
    · rw [z_rD] at h; rcases hq with rfl | rfl <;> omega
    · rw [z_rD] at h; rcases hq with rfl | rfl <;> omega
    · rw [z_rD] at h; rcases hq with rfl | rfl <;> omega
    · rw [z_rD] at h; rcases hq with rfl | rfl <;> omega
    · rw [z_rD] at h; rcases hq with rfl | rfl <;> omega
    · have := hbd i hi
      rw [begB_fi, begB_en, k_up_lt this, k_up_lt this]; exact ⟨rfl, rfl⟩
    · have := hcb k hk
      rw [begB_fi, begB_en, k_up_lt this, k_up_lt this]; exact ⟨rfl, rfl⟩
  have U4 : c_U p q g M (P.begB b E) b P.n E nl lw lp C3 D4 := by
    have hL4 : c_L g nl lw lp P.n E C3 D4 := g4.fr (fun _ _ _ => rfl) (fun y j h => by
      show (q_sI D3 (q + 13) b (nI E)).2.1 y j = _
      rw [q_sI_I, if_neg (by rcases hq with rfl | rfl <;> omega)])
    refine ⟨hL4, ?_, g3, hb, ?_, ?_, ?_, ?_, ?_, ?_, Nat.le_refl _, hbd, fun i i1 i2 => ?_, ?_, fun k hk => ?_, fun k hk => ?_, fun c hc => ?_⟩
    · rw [g5 78 8 (by omega) (by omega) (by omega), gC2]; simp (disch := omega) only [if_neg, and_self, if_true]
      rw [if_neg (by rcases hp with rfl | rfl <;> omega), if_neg (by rcases hp with rfl | rfl <;> omega)]
    · rw [g5 _ _ (by rcases hp with rfl | rfl <;> omega) (by rcases hp with rfl | rfl <;> omega) (by rcases hp with rfl | rfl <;> omega), gC2]
      rcases hp with rfl | rfl <;> simp (disch := omega) only [if_neg, and_self, if_true]
    · rw [g5 _ _ (by rcases hp with rfl | rfl <;> omega) (by rcases hp with rfl | rfl <;> omega) (by rcases hp with rfl | rfl <;> omega), gC2, begB_fk, k_up_eq]
      rcases hp with rfl | rfl <;> simp (disch := omega) only [if_neg, and_self, if_true]
    · show (q_sI D3 (q + 13) b (nI E)).2.1 _ _ = _
      rw [q_sI_I, if_neg (by omega), g8 _ _ (by rcases hq with rfl | rfl <;> omega) (by rcases hq with rfl | rfl <;> omega) (by rcases hq with rfl | rfl <;> omega), gD2, if_neg (by rcases hq with rfl | rfl <;> omega), if_pos ⟨rfl, rfl⟩]
    · show (q_sI D3 (q + 13) b (nI E)).2.1 _ _ = _
      rw [q_sI_I, if_pos ⟨rfl, rfl⟩]
    · rw [begB_fi, k_up_eq]
    · rw [begB_en, k_up_eq]
    · rw [begB_n] at i2; omega
    · rw [begB_fk, k_up_eq]; exact Nat.le_refl _
    · rw [begB_nc] at hk
      rw [begB_cb, begB_fk, k_up_eq]
      have := hcb k hk
      omega
    · rw [begB_nc] at hk
      exact Nat.le_of_lt (hcb k hk)
    · refine (hB c hc).fr ?_ ?_ ?_ rfl (Nat.le_refl _) (Nat.le_refl _) (fun _ _ => ⟨rfl, rfl⟩) (fun _ _ => rfl) (fun k k1 k2 => by rw [begB_nc] at k2; omega) (fun y y1 y2 => gC3 y _ ?_ ?_ ?_ ?_ ?_) (fun y y1 y2 => gD4 y _ ?_ ?_ ?_ ?_ ?_)
      · rw [begB_fi, k_up_lt hc]
      · rw [begB_en, k_up_lt hc]
      · rw [begB_fk, k_up_lt hc]
      · rcases hp with rfl | rfl <;> omega
      · rcases hp with rfl | rfl <;> omega
      · rcases hp with rfl | rfl <;> omega
      · omega
      · omega
      · rcases hq with rfl | rfl <;> omega
      · rcases hq with rfl | rfl <;> omega
      · rcases hq with rfl | rfl <;> omega
      · omega
      · omega
  have e1 : ¬ nI g.1 ≤ nI t := by rw [z_leN (by omega) (by omega)]; omega
  have hst1 : tX4_lineFault_7 p (nI t, C) = some (.inr (nI (t + 1), C3)) := by
    have bgF : fX4_beginBody C p (nI t) = some C3 := by rw [bg, bg2]; exact g1
    have kk : ¬ e_kind g t = 46 ∧ ¬ e_kind g t = 47 ∧ ¬ (e_kind g t = 48 ∨ e_kind g t = 49 ∨ e_kind g t = 53) ∧ (e_kind g t = 50 ∨ e_kind g t = 51) := by
      rw [d11]; cases e_word g t w_static <;> decide
    simp only [tX4_lineFault_7, S.mJ.hC.2.1, if_neg e1, i0, if_true, c0, S.mJ.kd t (by omega), if_neg kk.1, if_neg kk.2.1, if_neg kk.2.2.1, if_pos kk.2.2.2, bgF, Option.bind_some, nI_1]
  have cl1 : q_run (tX4_lineFault_7 p) (nI t, C) = q_run (tX4_lineFault_7 p) (nI (e + 4), C3) := by
    rw [q_run_go hst1]
    exact z_lSkip S4.mJ.hC.2.1 (by omega) S4.mJ.kd (show e + 4 ≤ g.1 by omega) (e + 3 - t) (t + 1) (by omega) (fun i i1 i2 => Or.inl (d13 i (by omega) i2).1)
  rw [cl1, lb, g2, l33]
  rcases z_lineWalk hp hq hG hK ho hE2 (te - (e + 4)) (e + 4) C3 D4 (P.begB b E) rfl hbe d10 S4 U4 hE with ⟨r, r', y1, y2, y3, y4, y5⟩ | ⟨C5, D5, P5, y1, y2, y3, y4, S5, U5, y7⟩
  · exact Or.inl ⟨r, r', y1, y2, oC3.trans y3, oD4.trans y4, y5⟩
  · rw [y1, y2]
    have bn5 := S5.bn
    have bk5 := S5.bk
    have hFE := U5.nF
    rw [y7] at hFE
    have it := z_inbN (show te < 16000 by omega) (by decide)
    have ct := z_cl (show te < 2147483648 by omega)
    have e2 : ¬ nI g.1 ≤ nI te := by rw [z_leN (by omega) (by omega)]; omega
    have tm : ¬ nI te = -1 := by rw [z_m1N (by omega)]; exact fun x => x
    let C6 : QS := q_sI (q_sI C5 (p + 30) b (nI E)) (p + 32) b (nI P5.nc)
    have gC6 : ∀ y j, C6.2.1 y j = if y = p + 32 ∧ j = b then nI P5.nc else if y = p + 30 ∧ j = b then nI E else C5.2.1 y j := by
      intro y j; simp only [C6, q_sI_I]
    have oC6 : z_offC p C C6 := ((oC3.trans y3).sI (by omega)).sI (by omega)
    have oD5 : z_offD q D D5 := oD4.trans y4
    have op5 : ∀ i, i < P5.n → P5.op i < 46 := fun i hi => (S5.wI i hi).op
    -- does the body end well
    have hend : fX4_endFault C5 p (nI te) = if P.n < E ∧ (P5.op (E - 1) = 19 ∨ P5.op (E - 1) = 41 ∨ P5.op (E - 1) = 42 ∨ P5.op (E - 1) = 43) then some (-1, C6) else some (nI te, C6) := by
      have r1 : (q_sI C5 (p + 30) b (nI E)).2.1 78 8 = nI b := by rw [q_sI_I, if_neg (by rcases hp with rfl | rfl <;> omega)]; exact U5.h8
      have r2 : (q_sI C5 (p + 30) b (nI E)).2.1 (p + 10) 9 = nI P5.nc := by rw [q_sI_I, if_neg (by omega)]; exact S5.cC
      have r3 : C6.2.1 78 8 = nI b := by rw [gC6, if_neg (by rcases hp with rfl | rfl <;> omega), if_neg (by rcases hp with rfl | rfl <;> omega)]; exact U5.h8
      have r4 : C6.2.1 (p + 10) 0 = nI E := by rw [gC6, if_neg (by omega), if_neg (by omega), S5.nC, y7]
      have r5 : C6.2.1 (p + 29) b = nI P.n := by rw [gC6, if_neg (by omega), if_neg (by omega)]; exact U5.b1
      have nC5 : C5.2.1 (p + 10) 0 = nI E := by rw [S5.nC, y7]
      have h : fX4_endFault C5 p (nI te) = (Option.bind (α := Bool) (if nI E = nI P.n then some true else some false) fun v10 => if v10 = true then some (nI te, C6) else if q_inb (nI E - 1) 1024 = true then (fX1_goesOn C6 (C6.2.1 (p + 11) (nI E - 1).toNatClampNeg)).bind fun r12 => if r12 = true then some (nI te, C6) else some (-1, C6) else none) := by
        simp only [fX4_endFault, U5.h8, ib, if_true, cb, nC5, Option.bind_some, r1, r2]
        show (if q_inb (C6.2.1 78 8) 48 = true then (Option.bind (α := Bool) (if C6.2.1 (p + 10) 0 = C6.2.1 (p + 29) (C6.2.1 78 8).toNatClampNeg then some true else some false) fun v10 => if v10 = true then some (nI te, C6) else if q_inb (C6.2.1 (p + 10) 0 - 1) 1024 = true then (fX1_goesOn C6 (C6.2.1 (p + 11) (C6.2.1 (p + 10) 0 - 1).toNatClampNeg)).bind fun r12 => if r12 = true then some (nI te, C6) else some (-1, C6) else none) else none) = _
        rw [r3, ib, if_pos rfl, cb, r4, r5]
      rw [h]
      by_cases c : E = P.n
      · rw [if_pos (show nI E = nI P.n by rw [c]), if_neg (show ¬ (P.n < E ∧ (P5.op (E - 1) = 19 ∨ P5.op (E - 1) = 41 ∨ P5.op (E - 1) = 42 ∨ P5.op (E - 1) = 43)) by omega)]; rfl
      · rw [if_neg (show ¬ nI E = nI P.n from z_neN (by omega) (by omega) c), Option.bind_some, if_neg (by decide), z_sub1 (by omega), if_pos (z_inbN (by omega) (by decide)), z_cl (by omega)]
        have r6 : C6.2.1 (p + 11) (E - 1) = nI (P5.op (E - 1)) := by
          rw [gC6, if_neg (by omega), if_neg (by omega)]; exact (S5.iC (E - 1) (by omega)).1
        have ho46 := op5 (E - 1) (by omega)
        rw [r6]
        have gk : fX1_goesOn C6 (nI (P5.op (E - 1))) = some (!decide (P5.op (E - 1) = 19 ∨ P5.op (E - 1) = 41 ∨ P5.op (E - 1) = 42 ∨ P5.op (E - 1) = 43)) := by
          simp only [fX1_goesOn, show (19 : Int32) = nI 19 from rfl, show (41 : Int32) = nI 41 from rfl, show (42 : Int32) = nI 42 from rfl, show (43 : Int32) = nI 43 from rfl, z_eqN (show P5.op (E - 1) < 2147483648 by omega) (show 19 < 2147483648 by decide), z_eqN (show P5.op (E - 1) < 2147483648 by omega) (show 41 < 2147483648 by decide), z_eqN (show P5.op (E - 1) < 2147483648 by omega) (show 42 < 2147483648 by decide), z_eqN (show P5.op (E - 1) < 2147483648 by omega) (show 43 < 2147483648 by decide)]
          by_cases x1 : P5.op (E - 1) = 19
          · simp [x1]
          · by_cases x2 : P5.op (E - 1) = 41
            · simp [x2]
            · by_cases x3 : P5.op (E - 1) = 42
              · simp [x3]
              · by_cases x4 : P5.op (E - 1) = 43
                · simp [x4]
                · simp [x1, x2, x3, x4]
        rw [gk, Option.bind_some]
        by_cases x : P5.op (E - 1) = 19 ∨ P5.op (E - 1) = 41 ∨ P5.op (E - 1) = 42 ∨ P5.op (E - 1) = 43
        · rw [decide_eq_true x, if_pos (show (P.n < E ∧ (P5.op (E - 1) = 19 ∨ P5.op (E - 1) = 41 ∨ P5.op (E - 1) = 42 ∨ P5.op (E - 1) = 43)) from ⟨by omega, x⟩)]; rfl
        · rw [decide_eq_false x, if_neg (show ¬ (P.n < E ∧ (P5.op (E - 1) = 19 ∨ P5.op (E - 1) = 41 ∨ P5.op (E - 1) = 42 ∨ P5.op (E - 1) = 43)) from fun z => x z.2)]; rfl
    have hdnd : q_run (tX12_linesOf_131 q (nI b) (nI E)) (nI te, D5) = if P.n < E ∧ (P5.op (E - 1) = 19 ∨ P5.op (E - 1) = 41 ∨ P5.op (E - 1) = 42 ∨ P5.op (E - 1) = 43) then some (true, D5) else some (false, q_sI D5 102 12 (nI te)) := by
      have hh : ∀ B : Bool, (Option.bind (α := Bool) (if nI E ≤ nI P.n then some false else some true) fun v4 => (Option.bind (α := Bool) (if v4 = true then if q_inb (nI E - 1) 1024 = true then (Option.bind (α := Bool) (if (D5.2.1 (q + 15) (nI E - 1).toNatClampNeg) = (19 : Int32) then some true else if (D5.2.1 (q + 15) (nI E - 1).toNatClampNeg) = (41 : Int32) then some true else if (D5.2.1 (q + 15) (nI E - 1).toNatClampNeg) = (42 : Int32) then some true else if (D5.2.1 (q + 15) (nI E - 1).toNatClampNeg) = (43 : Int32) then some true else some false) fun v6 => some v6) else none else some v4) fun v7 => some v7)) = some B → tX12_linesOf_131 q (nI b) (nI E) (nI te, D5) = if B = true then some (.inl (true, D5)) else some (.inl (false, q_sI D5 102 12 (nI te))) := by
        intro B hB
        simp only [tX12_linesOf_131, z_dEnd S5.mJ.hD hG (Nat.le_of_lt hte), hbe.2.2.2.1, Option.bind_some, if_true, ib, cb, U5.d1, fX12_wrong, Bool.false_eq_true, if_false]
        have assoc : ∀ (X : Option Bool) (f : Bool → Option Bool) (k : Bool → Option ((Bool × QS) ⊕ (Int32 × QS))), (X.bind fun v => (f v).bind fun w => some w) = some B → (X.bind fun v => (f v).bind k) = k B := by
          intro X f k h
          cases X with
          | none => cases h
          | some v =>
            simp only [Option.bind_some] at h ⊢
            cases hf : f v with
            | none => rw [hf] at h; cases h
            | some w => rw [hf] at h; simp only [Option.bind_some, Option.some.injEq] at h; rw [h]; rfl
        rw [assoc _ _ _ hB]
      have hB : ∃ B : Bool, B = decide (P.n < E ∧ (P5.op (E - 1) = 19 ∨ P5.op (E - 1) = 41 ∨ P5.op (E - 1) = 42 ∨ P5.op (E - 1) = 43)) := ⟨_, rfl⟩
      obtain ⟨B, hB⟩ := hB
      have := hh B (by
        by_cases c : E ≤ P.n
        · rw [if_pos (show nI E ≤ nI P.n by rw [z_leN (by omega) (by omega)]; exact c), hB, decide_eq_false (by omega)]; rfl
        · rw [if_neg (show ¬ nI E ≤ nI P.n by rw [z_leN (by omega) (by omega)]; exact c), Option.bind_some, if_pos rfl, z_sub1 (by omega), if_pos (z_inbN (by omega) (by decide)), z_cl (by omega), (S5.iD (E - 1) (by omega)).1]
          have ho46 := op5 (E - 1) (by omega)
          rw [hB]
          simp only [show (19 : Int32) = nI 19 from rfl, show (41 : Int32) = nI 41 from rfl, show (42 : Int32) = nI 42 from rfl, show (43 : Int32) = nI 43 from rfl, z_eqN (show P5.op (E - 1) < 2147483648 by omega) (show 19 < 2147483648 by decide), z_eqN (show P5.op (E - 1) < 2147483648 by omega) (show 41 < 2147483648 by decide), z_eqN (show P5.op (E - 1) < 2147483648 by omega) (show 42 < 2147483648 by decide), z_eqN (show P5.op (E - 1) < 2147483648 by omega) (show 43 < 2147483648 by decide)]
          have hc : P.n < E := by omega
          by_cases x1 : P5.op (E - 1) = 19
          · simp [x1, hc]
          · by_cases x2 : P5.op (E - 1) = 41
            · simp [x2, hc]
            · by_cases x3 : P5.op (E - 1) = 42
              · simp [x3, hc]
              · by_cases x4 : P5.op (E - 1) = 43
                · simp [x4, hc]
                · simp [x1, x2, x3, x4])
      by_cases ok : P.n < E ∧ (P5.op (E - 1) = 19 ∨ P5.op (E - 1) = 41 ∨ P5.op (E - 1) = 42 ∨ P5.op (E - 1) = 43)
      · rw [decide_eq_true ok] at hB
        subst hB
        rw [if_pos ok]
        exact q_run_ret this
      · rw [decide_eq_false ok] at hB
        subst hB
        rw [if_neg ok]
        exact q_run_ret this
    have k52 : e_kind g te = 52 := hcl2
    by_cases ok : P.n < E ∧ (P5.op (E - 1) = 19 ∨ P5.op (E - 1) = 41 ∨ P5.op (E - 1) = 42 ∨ P5.op (E - 1) = 43)
    · rw [if_pos ok] at hend hdnd
      have sE : tX4_lineFault_7 p (nI te, C5) = some (.inr (nI (te + 1), C6)) := by
        simp only [tX4_lineFault_7, S5.mJ.hC.2.1, if_neg e2, it, if_true, ct, S5.mJ.kd te hte, k52, hend, nI_1]
        rfl
      have S6 : c_S p q n g K M (P5.endB b) C6 D5 := by
        refine S5.re hp hq (fun y j h => ?_) (fun _ _ _ => rfl) rfl rfl rfl rfl rfl rfl rfl rfl rfl rfl rfl rfl rfl rfl rfl rfl (fun _ _ => ⟨rfl, rfl⟩) (fun _ _ => ⟨rfl, rfl⟩)
        rw [gC6, if_neg (by rw [z_rC] at h; rcases hp with rfl | rfl <;> omega), if_neg (by rw [z_rC] at h; rcases hp with rfl | rfl <;> omega)]
      refine Or.inr ⟨C6, D5, P5.endB b, q_run_go sE, hdnd, oC6, oD5, S6, fun c hc => ?_, fun i hi => ?_, fun k hk => ?_, ?_⟩
      · by_cases ec : c = b
        · subst ec
          have kn := U5.kn
          refine ⟨?_, ?_, ?_, ?_, ?_, ?_, ?_, ?_, fun i i1 i2 => ?_, ?_, ?_, ?_, fun k hk => ?_⟩
          · rw [gC6, if_neg (by omega), if_neg (by omega), U5.b1, endB_fi, U5.fi]
          · rw [gC6, if_neg (by omega), if_pos ⟨rfl, rfl⟩, endB_en, U5.en]
          · rw [gC6, if_neg (by omega), if_neg (by omega), U5.b2, endB_fk]
          · rw [gC6, if_pos ⟨rfl, rfl⟩, endB_sk, k_up_eq]
          · rw [U5.d1, endB_fi, U5.fi]
          · rw [U5.d2, endB_en, U5.en]
          · rw [endB_fi, endB_en, U5.fi, U5.en]; exact ok.1
          · rw [endB_en, U5.en, endB_n, y7]; exact Nat.le_refl _
          · rw [endB_fi, U5.fi] at i1
            rw [endB_en, U5.en] at i2
            rw [endB_bd]
            exact U5.bdh i i1 (by omega)
          · rw [endB_en, U5.en, endB_op]; exact ok.2
          · rw [endB_fk, endB_sk, k_up_eq]; exact kn
          · rw [endB_sk, k_up_eq, endB_nc]; exact Nat.le_refl _
          · rw [endB_nc] at hk
            rw [endB_cb, endB_fk, endB_sk, k_up_eq, U5.ck k hk]
            exact ⟨fun h => ⟨h, hk⟩, fun h => h.1⟩
        · refine (U5.cB c (by omega)).fr rfl rfl rfl ?_ (Nat.le_refl _) (Nat.le_refl _) (fun _ _ => ⟨rfl, rfl⟩) (fun _ _ => rfl) (fun k k1 k2 => by rw [endB_nc] at k2; omega) (fun y y1 y2 => ?_) (fun _ _ _ => rfl)
          · rw [endB_sk, k_up_ne ec]
          · rw [gC6, if_neg (by omega), if_neg (by omega)]
      · rw [endB_bd]
        rw [endB_n] at hi
        by_cases c : i < P.n
        · have := U5.bdl i c; omega
        · have := U5.bdh i (by omega) hi; omega
      · rw [endB_cb]
        rw [endB_nc] at hk
        have := U5.cl k hk
        omega
      · rw [gC6, if_neg (by rcases hp with rfl | rfl <;> omega), if_neg (by rcases hp with rfl | rfl <;> omega), U5.h8, nI_1]
    · rw [if_neg ok] at hend hdnd
      have sE : tX4_lineFault_7 p (nI te, C5) = some (.inl (nI te, C6)) := by
        simp only [tX4_lineFault_7, S5.mJ.hC.2.1, if_neg e2, it, if_true, ct, S5.mJ.kd te hte, k52, hend]
        show (if nI te = -1 then _ else _) = _
        rw [if_neg tm]
      refine Or.inl ⟨_, _, q_run_ret sE, hdnd, oC6, oD5.sI (by omega), te, by omega, rfl, rfl, ?_⟩
      rw [q_sI_I, if_pos ⟨rfl, rfl⟩]
end ZLINES
