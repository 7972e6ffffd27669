/-! ===== heights: the reference's way ===== -/
def hd_S (D : QS) (F E : Nat) (X : Nat → Int32) : Prop := ∀ i, F ≤ i → i < E → D.2.1 170 i = X i
def hd_f (F E : Nat) (D D' : QS) : Prop := (∀ y j, ¬ (y = 170 ∧ F ≤ j ∧ j < E) → D'.2.1 y j = D.2.1 y j) ∧ D'.1 = D.1 ∧ D'.2.2 = D.2.2
theorem hd_f.refl (F E : Nat) (D : QS) : hd_f F E D D := ⟨fun _ _ _ => rfl, rfl, rfl⟩
theorem hd_f.trans {F E : Nat} {D D' D'' : QS} (h : hd_f F E D D') (h' : hd_f F E D' D'') : hd_f F E D D'' := ⟨fun y j a => (h'.1 y j a).trans (h.1 y j a), h'.2.1.trans h.2.1, h'.2.2.trans h.2.2⟩
/-- the masks have grown -/
def hd_G (F : Nat) (E : Nat) (X : Nat → Int32) (c : Bool) (X' : Nat → Int32) (c' : Bool) : Prop := (∀ i, h_sub (X i) (X' i)) ∧ (c' = false → X' = X ∧ c = false) ∧ (h_mu F E X ≤ h_mu F E X') ∧ (c = false → c' = true → h_mu F E X < h_mu F E X') ∧ ((∀ i, F ≤ i → i < E → h_9 (X i)) → ∀ i, F ≤ i → i < E → h_9 (X' i))
theorem hd_G.g1 {F : Nat} {E : Nat} {X : Nat → Int32} {c : Bool} {X' : Nat → Int32} {c' : Bool} (I : hd_G F E X c X' c') : ∀ i, h_sub (X i) (X' i) := I.1
theorem hd_G.g2 {F : Nat} {E : Nat} {X : Nat → Int32} {c : Bool} {X' : Nat → Int32} {c' : Bool} (I : hd_G F E X c X' c') : c' = false → X' = X ∧ c = false := I.2.1
theorem hd_G.g5 {F : Nat} {E : Nat} {X : Nat → Int32} {c : Bool} {X' : Nat → Int32} {c' : Bool} (I : hd_G F E X c X' c') : h_mu F E X ≤ h_mu F E X' := I.2.2.1
theorem hd_G.g6 {F : Nat} {E : Nat} {X : Nat → Int32} {c : Bool} {X' : Nat → Int32} {c' : Bool} (I : hd_G F E X c X' c') : c = false → c' = true → h_mu F E X < h_mu F E X' := I.2.2.2.1
theorem hd_G.g7 {F : Nat} {E : Nat} {X : Nat → Int32} {c : Bool} {X' : Nat → Int32} {c' : Bool} (I : hd_G F E X c X' c') : (∀ i, F ≤ i → i < E → h_9 (X i)) → ∀ i, F ≤ i → i < E → h_9 (X' i) := I.2.2.2.2
theorem hd_G.refl (F E : Nat) (X : Nat → Int32) (c : Bool) : hd_G F E X c X c := ⟨fun _ => h_sub.refl _, fun h => ⟨rfl, h⟩, Nat.le_refl _, (fun h h' => by rw [h] at h'; cases h'), id⟩
theorem hd_G.trans {F E : Nat} {X X' X'' : Nat → Int32} {c c' c'' : Bool} (h : hd_G F E X c X' c') (h' : hd_G F E X' c' X'' c'') : hd_G F E X c X'' c'' := by
  refine ⟨fun i => (h.g1 i).trans (h'.g1 i), fun x => ?_, Nat.le_trans h.g5 h'.g5, fun x y => ?_, fun x => h'.g7 (h.g7 x)⟩
  · obtain ⟨a, b⟩ := h'.g2 x
    obtain ⟨d, e⟩ := h.g2 b
    exact ⟨a.trans d, e⟩
  · cases hs : c' with
    | true => exact Nat.lt_of_lt_of_le (h.g6 x hs) h'.g5
    | false => exact Nat.lt_of_le_of_lt h.g5 (h'.g6 hs y)
theorem hd_G.add {F E j : Nat} {X : Nat → Int32} {c : Bool} {m : Int32} (h1 : F ≤ j) (h2 : j < E) (h9 : h_9 m) : hd_G F E X c (h_add X j m) (!decide (X j ||| m = X j) || c) := by
  by_cases e : X j ||| m = X j
  · have ee : h_add X j m = X := by
      funext i
      rw [h_add]
      by_cases e' : i = j
      · subst e'; rw [k_up_eq]; exact e
      · rw [k_up_ne e']
    rw [decide_eq_true e, ee]
    exact hd_G.refl F E X c
  · have hmu : h_mu F E X < h_mu F E (h_add X j m) := by
      refine k_sum_lt (j := j) _ (fun i => ?_) h1 (by omega) ?_
      · rw [h_add]
        by_cases e' : i = j
        · subst e'; rw [k_up_eq]; exact Nat.le_of_lt (h_pc_lt h9 e)
        · rw [k_up_ne e']; exact Nat.le_refl _
      · rw [h_add, k_up_eq]; exact h_pc_lt h9 e
    rw [decide_eq_false e]
    refine ⟨h_add_sub, (fun h => by cases h), Nat.le_of_lt hmu, fun _ _ => hmu, fun h i i1 i2 => ?_⟩
    rw [h_add]
    by_cases e' : i = j
    · subst e'; rw [k_up_eq]; exact h_9_or (h i i1 i2) h9
    · rw [k_up_ne e']; exact h i i1 i2
section ZHD
variable {C D : QS} {n p q m b : Nat} {g : ZT} {K : ZK} {M : ZM} {P : ZP}
theorem s_N.hfD {D' : QS} (N : s_N p q n g K M P m C D) (hp : z_pp p) (hq : z_qq q) {F E : Nat} (h : hd_f F E D D') : s_N p q n g K M P m C D' := by
  have gD : ∀ y j, y ≠ 170 → D'.2.1 y j = D.2.1 y j := fun y j hy => h.1 y j (by omega)
  refine ⟨N.S.re hp hq (fun _ _ _ => rfl) (fun y j h => gD y j ?_) rfl rfl rfl rfl rfl rfl rfl rfl rfl rfl rfl rfl rfl rfl rfl rfl (fun _ _ => ⟨rfl, rfl⟩) (fun _ _ => ⟨rfl, rfl⟩), fun c hc => (N.B c hc).fr rfl rfl rfl rfl (Nat.le_refl _) (Nat.le_refl _) (fun _ _ => ⟨rfl, rfl⟩) (fun _ _ => rfl) (fun k k1 k2 => by omega) (fun _ _ _ => rfl) (fun y y1 y2 => gD y _ (by rcases hq with rfl | rfl <;> omega)), N.mb, N.mm, N.ma, N.mr, N.mC, (gD _ _ (by rcases hq with rfl | rfl <;> omega)).trans N.mD, ⟨fun c h => (gD _ _ (by rcases hq with rfl | rfl <;> omega)).trans (N.sI.1 c h), fun f h1 h2 => (gD _ _ (by rcases hq with rfl | rfl <;> omega)).trans (N.sI.2.1 f h1 h2), fun c h b hb => (gD _ _ (by rcases hq with rfl | rfl <;> omega)).trans (N.sI.2.2 c h b hb)⟩⟩
  rw [z_rD] at h; rcases hq with rfl | rfl <;> omega
theorem z_added {j F E : Nat} {X : Nat → Int32} {v : Int32} (hE : E ≤ 1024) (h1 : F ≤ j) (h2 : j < E) (h : hd_S D F E X) : ∃ D', fX12_added D (nI j) v = some (!decide (X j ||| v = X j), D') ∧ hd_S D' F E (h_add X j v) ∧ hd_f F E D D' := by
  have i1 := z_inbN (show j < 1024 by omega) (by decide)
  have c1 := z_cl (show j < 2147483648 by omega)
  have x := h j h1 h2
  refine ⟨q_sI D 170 j (X j ||| v), ?_, fun i a b => ?_, fun y i a => ?_, rfl, rfl⟩
  · simp only [fX12_added, i1, if_true, c1, x]
    by_cases c : X j ||| v = X j
    · rw [if_pos c, decide_eq_true c]; rfl
    · rw [if_neg c, decide_eq_false c]; rfl
  · rw [q_sI_I, h_add]
    by_cases e : i = j
    · subst e; rw [if_pos ⟨rfl, rfl⟩, k_up_eq]
    · rw [if_neg (by omega), k_up_ne e]; exact h i a b
  · rw [q_sI_I, if_neg (by omega)]
theorem z_goodHeights {i : Nat} (hK : k_K g K) (N : s_N p q n g K M P m C D) (hi : i < P.n) : fX12_goodHeights D q (nI i) = some (h_mv (D.2.1 170 i) (k_tk M P i) (k_lv M P i)) := by
  have bn := N.S.bn
  obtain ⟨ha, hl⟩ := k_tk_le N.S hi
  have t5 := z_howMany N.S hi
  have l5 := z_leaves12 hK N.S hi
  generalize ha' : k_tk M P i = a at ha t5
  generalize hl' : k_lv M P i = l at hl l5
  have i1 := z_inbN (show i < 1024 by omega) (by decide)
  have c1 := z_cl (show i < 2147483648 by omega)
  simp only [fX12_goodHeights, fX12_goodHeights_5]
  have loop : ∀ d h acc, h + d = 9 → (∀ e, b_t acc e = (decide (e < 9) && (decide (l ≤ e) && (decide (e - l + a < h) && b_t (D.2.1 170 i) (e - l + a))))) → q_run (tX12_goodHeights_5 D q (nI i)) (acc, nI h) = some (h_mv (D.2.1 170 i) a l) := by
    intro d
    induction d with
    | zero =>
      intro h acc hh hacc
      refine q_run_ret ?_
      have : acc = h_mv (D.2.1 170 i) a l := by
        apply b_ext
        intro e he
        rw [hacc, h_mv_b]
        by_cases c : e - l + a ≤ 8
        · rw [decide_eq_true c, decide_eq_true (show e - l + a < h by omega)]
        · rw [decide_eq_false c, decide_eq_false (show ¬ e - l + a < h by omega)]
      simp only [tX12_goodHeights_5]
      rw [if_pos (by rw [show (8 : Int32) = nI 8 from rfl, z_ltN (by omega) (by omega)]; omega), this]
    | succ d ih =>
      intro h acc hh hacc
      have g8 : ¬ (8 : Int32) < nI h := by rw [show (8 : Int32) = nI 8 from rfl, z_ltN (by omega) (by omega)]; omega
      have bit : (((D.2.1 170 i) >>> (nI h &&& 31)) &&& (1 : Int32) = 1) = (b_t (D.2.1 170 i) h = true) := by
        have h0 := z_bit (x := D.2.1 170 i) (d := h) (by omega)
        refine propext ⟨fun e => ?_, fun e => ?_⟩
        · cases hx : b_t (D.2.1 170 i) h with
          | true => rfl
          | false => rw [h0.mpr hx] at e; exact absurd e (by decide)
        · apply b_ext
          intro d hd
          rw [b_and]
          have one : ∀ d, b_t 1 d = decide (d = 0) := fun d => by
            have : (1 : Int32) = (1 : Int32) <<< (nI 0 &&& 31) := by decide
            rw [this, b_sh (by omega)]
          rw [one]
          by_cases d0 : d = 0
          · subst d0
            rw [decide_eq_true rfl, Bool.and_true]
            cases hy : b_t (D.2.1 170 i >>> (nI h &&& 31)) 0 with
            | true => rfl
            | false =>
              have : (D.2.1 170 i >>> (nI h &&& 31)) &&& 1 = 0 := z_and1.mpr hy
              have := h0.mp this
              rw [b_t, this] at e
              cases e
          · rw [decide_eq_false d0, Bool.and_false]
      have st : ∃ acc', tX12_goodHeights_5 D q (nI i) (acc, nI h) = some (.inr (acc', nI (h + 1))) ∧ ∀ e, b_t acc' e = (b_t acc e || (decide (e < 9) && (decide (l ≤ e) && (decide (e - l + a = h) && b_t (D.2.1 170 i) h)))) := by
        simp only [tX12_goodHeights_5, if_neg g8, t5, Option.bind_some, i1, if_true, c1, bit, nI_1, l5]
        by_cases cb : b_t (D.2.1 170 i) h = true
        · rw [if_pos cb]
          by_cases ca : a ≤ h
          · rw [z_subN ca, if_neg (nI_pos (by omega)), nI_add]
            by_cases c8 : 8 < h - a + l
            · rw [if_pos (by rw [show (8 : Int32) = nI 8 from rfl, z_ltN (by omega) (by omega)]; exact c8)]
              refine ⟨acc, rfl, fun e => ?_⟩
              by_cases x1 : e < 9 ∧ l ≤ e ∧ e - l + a = h
              · omega
              · by_cases y1 : e < 9
                · by_cases y2 : l ≤ e
                  · simp [y1, y2, show ¬ e - l + a = h from fun z => x1 ⟨y1, y2, z⟩]
                  · simp [y2]
                · simp [y1]
            · rw [if_neg (by rw [show (8 : Int32) = nI 8 from rfl, z_ltN (by omega) (by omega)]; exact c8)]
              refine ⟨_, rfl, fun e => ?_⟩
              rw [b_or, b_sh (by omega), cb]
              by_cases x1 : e = h - a + l
              · subst x1
                simp only [decide_true, Bool.or_true, decide_eq_true (show h - a + l < 9 by omega), decide_eq_true (show l ≤ h - a + l by omega), decide_eq_true (show h - a + l - l + a = h by omega), Bool.and_true]
              · by_cases y2 : l ≤ e
                · simp [x1, show ¬ e - l + a = h by omega]
                · simp [x1, y2]
          · rw [if_pos (z_subL (by omega) (by omega))]
            refine ⟨acc, rfl, fun e => ?_⟩
            simp [show ¬ e - l + a = h by omega]
        · rw [if_neg cb]
          exact ⟨acc, rfl, fun e => by simp [Bool.eq_false_iff.mpr cb]⟩
      obtain ⟨acc', s1, s2⟩ := st
      rw [q_run_go s1]
      refine ih (h + 1) acc' (by omega) (fun e => ?_)
      rw [s2, hacc]
      by_cases c1 : e - l + a < h
      · simp [c1, show e - l + a < h + 1 by omega, show ¬ e - l + a = h by omega]
      · by_cases c2 : e - l + a = h
        · simp [c2]
        · simp [c1, c2, show ¬ e - l + a < h + 1 by omega]
  exact loop 9 0 0 rfl (fun e => by rw [b_0]; simp)
theorem z_qbT (c : Bool) : (q_b c = 0) = (c = false) := z_qb0 c
theorem z_hd164 {i : Nat} (hp : z_pp p) (hq : z_qq q) (hb : b < M.bc) (h1 : P.fi b ≤ i) (h2 : i < P.en b) : ∀ d k D X c, k + d = P.nc → s_N p q n g K M P m C D → hd_S D (P.fi b) (P.en b) X → h_snd M P b X → (∀ Y, h_cld M P b Y → h_v M P Y i ≠ 0) → ∃ D' X' c', q_run (tX12_heights_164 q (nI b)) (q_b c, nI i, nI k, D) = some (.inr (q_b c', nI (i + 1), D')) ∧ hd_S D' (P.fi b) (P.en b) X' ∧ hd_G (P.fi b) (P.en b) X c X' c' ∧ h_snd M P b X' ∧ (∀ k', k ≤ k' → k' < P.nc → k_cov P k' i = true → h_sub 2 (X' (P.ca k'))) ∧ hd_f (P.fi b) (P.en b) D D' := by
  intro d
  induction d with
  | zero =>
    intro k D X c hk N hS hs hv
    have bk := N.S.bk
    refine ⟨D, X, c, q_run_ret ?_, hS, hd_G.refl _ _ _ _, hs, fun k' a b => by omega, hd_f.refl _ _ _⟩
    simp only [tX12_heights_164, N.S.cD]
    rw [if_pos (by rw [z_leN (by omega) (by omega)]; omega), nI_1]
  | succ d ih =>
    intro k D X c hk N hS hs hv
    have bk := N.S.bk
    have bn := N.S.bn
    have B := N.B b hb
    have hle := B.le
    have hkn : k < P.nc := by omega
    have ic := z_covers N (show i < P.n by omega) hkn
    have g1 : ¬ nI P.nc ≤ nI k := by rw [z_leN (by omega) (by omega)]; omega
    by_cases cc : k_cov P k i = true
    · obtain ⟨a1, a2, -⟩ := k_cov_in N hb h1 h2 hkn cc
      obtain ⟨D1, y1, y2, y3⟩ := z_added (v := 2) (show P.en b ≤ 1024 by omega) a1 a2 hS
      have gr := hd_G.add (X := X) (c := c) a1 a2 h_9_2
      have hs1 := hs.add (m := 2) (fun Y hY => (hY.2 i h1 h2).2.2 (hv Y hY) k hkn cc) a1 a2
      have st : tX12_heights_164 q (nI b) (q_b c, nI i, nI k, D) = some (.inr (q_b (!decide (X (P.ca k) ||| 2 = X (P.ca k)) || c), nI i, nI (k + 1), D1)) := by
        simp only [tX12_heights_164, N.S.cD, if_neg g1, ic, cc, Option.bind_some, if_true, z_inbN (show k < 64 by omega) (by decide), z_cl (show k < 2147483648 by omega), (N.S.aD k hkn).2.2.2.1, y1, nI_1, z_qb0]
        cases !decide (X (P.ca k) ||| 2 = X (P.ca k)) <;> cases c <;> rfl
      obtain ⟨D', X', c', z1, z2, z3, z4, z5, z6⟩ := ih (k + 1) D1 _ _ (by omega) (N.hfD hp hq y3) y2 hs1 hv
      refine ⟨D', X', c', (q_run_go st).trans z1, z2, gr.trans z3, z4, fun k' k1 k2 k3 => ?_, y3.trans z6⟩
      by_cases e : k' = k
      · subst e
        refine h_sub.trans ?_ (z3.g1 _)
        rw [h_add, k_up_eq]
        exact h_sub_r _ _
      · exact z5 k' (by omega) k2 k3
    · have st : tX12_heights_164 q (nI b) (q_b c, nI i, nI k, D) = some (.inr (q_b c, nI i, nI (k + 1), D)) := by
        simp only [tX12_heights_164, N.S.cD, if_neg g1, ic, Bool.eq_false_iff.mpr cc, Option.bind_some, Bool.false_eq_true, if_false, nI_1]
      obtain ⟨D', X', c', z1, z2, z3, z4, z5, z6⟩ := ih (k + 1) D X c (by omega) N hS hs hv
      refine ⟨D', X', c', (q_run_go st).trans z1, z2, z3, z4, fun k' k1 k2 k3 => ?_, z6⟩
      by_cases e : k' = k
      · subst e; exact absurd k3 cc
      · exact z5 k' (by omega) k2 k3
theorem z_hd58 (hp : z_pp p) (hq : z_qq q) (hK : k_K g K) (hb : b < M.bc) : ∀ d i D X c, i + d = P.en b → P.fi b ≤ i → s_N p q n g K M P m C D → hd_S D (P.fi b) (P.en b) X → h_snd M P b X → ∃ D' X' c', q_run (tX12_heights_58 q (nI b)) (q_b c, nI i, D) = some (.inr (q_b c', D')) ∧ hd_S D' (P.fi b) (P.en b) X' ∧ hd_G (P.fi b) (P.en b) X c X' c' ∧ h_snd M P b X' ∧ (c' = false → ∀ j, i ≤ j → j < P.en b → h_cl M P X' j) ∧ hd_f (P.fi b) (P.en b) D D' := by
  intro d
  induction d with
  | zero =>
    intro i D X c hi hF N hS hs
    have B := N.B b hb
    have hle := B.le
    have bn := N.S.bn
    have h48 := N.S.mJ.mB.1
    refine ⟨D, X, c, q_run_ret ?_, hS, hd_G.refl _ _ _ _, hs, fun _ j j1 j2 => by omega, hd_f.refl _ _ _⟩
    simp only [tX12_heights_58, z_inbN (show b < 48 by omega) (by decide), if_true, z_cl (show b < 2147483648 by omega), B.D2]
    rw [if_pos (by rw [z_leN (by omega) (by omega)]; omega)]
  | succ d ih =>
    intro i D X c hi hF N hS hs
    have B := N.B b hb
    have hle := B.le
    have bn := N.S.bn
    have h48 := N.S.mJ.mB.1
    have hiE : i < P.en b := by omega
    have hin : i < P.n := by omega
    have g1 : ¬ nI (P.en b) ≤ nI i := by rw [z_leN (by omega) (by omega)]; omega
    have i1 := z_inbN (show i < 1024 by omega) (by decide)
    have c1 := z_cl (show i < 2147483648 by omega)
    have ib := z_inbN (show b < 48 by omega) (by decide)
    have cb := z_cl (show b < 2147483648 by omega)
    have hop := (N.S.wI i hin).op
    have gh := z_goodHeights hK N hin
    rw [hS i hF hiE] at gh
    have gh : fX12_goodHeights D q (nI i) = some (h_v M P X i) := gh
    by_cases c0 : h_v M P X i = 0
    · have st : tX12_heights_58 q (nI b) (q_b c, nI i, D) = some (.inr (q_b c, nI (i + 1), D)) := by
        simp only [tX12_heights_58, ib, if_true, cb, B.D2, if_neg g1, gh, Option.bind_some, if_pos c0, nI_1]
      obtain ⟨D', X', c', z1, z2, z3, z4, z5, z6⟩ := ih (i + 1) D X c (by omega) (by omega) N hS hs
      refine ⟨D', X', c', (q_run_go st).trans z1, z2, z3, z4, fun hc j j1 j2 => ?_, z6⟩
      by_cases e : j = i
      · subst e
        have ex := (z3.g2 hc).1
        rw [ex]
        exact ⟨fun _ => by rw [c0]; exact h_sub_0 _, fun _ => by rw [c0]; exact h_sub_0 _, fun x => absurd c0 x⟩
      · exact z5 hc j (by omega) j2
    · have hv : ∀ Y, h_cld M P b Y → h_v M P Y i ≠ 0 := fun Y hY => h_sub_ne (h_mv_mono (hs Y hY i hF hiE)) c0
      have hvs : ∀ Y, h_cld M P b Y → h_sub (h_v M P X i) (h_v M P Y i) := fun Y hY => h_mv_mono (hs Y hY i hF hiE)
      obtain ⟨D1, X1, c1', e1, S1, G1, Sn1, F1, A1⟩ : ∃ D1 X1 c1', (Option.bind (α := Int32 × QS) (if k_nx (P.op i) = true then (fX12_added D (nI (i + 1)) (h_v M P X i)).bind fun r37 => (Option.bind (α := Bool) (if r37.1 = true then some true else if c = false then some false else some true) fun v40 => some (q_b v40, r37.2)) else some (q_b c, D)) some) = some (q_b c1', D1) ∧ hd_S D1 (P.fi b) (P.en b) X1 ∧ hd_G (P.fi b) (P.en b) X c X1 c1' ∧ h_snd M P b X1 ∧ hd_f (P.fi b) (P.en b) D D1 ∧ (k_nx (P.op i) = true → h_sub (h_v M P X i) (X1 (i + 1))) := by
        by_cases cn : k_nx (P.op i) = true
        · have hin2 := k_nx_in B hiE cn
          obtain ⟨D1, y1, y2, y3⟩ := z_added (v := h_v M P X i) (show P.en b ≤ 1024 by omega) (show P.fi b ≤ i + 1 by omega) hin2 hS
          refine ⟨D1, _, _, ?_, y2, hd_G.add (by omega) hin2 h_9_mv, hs.add (fun Y hY => (hvs Y hY).trans ((hY.2 i hF hiE).1 cn)) (by omega) hin2, y3, fun _ => ?_⟩
          · rw [if_pos cn, y1, Option.bind_some]
            cases !decide (X (i + 1) ||| h_v M P X i = X (i + 1)) <;> cases c <;> rfl
          · rw [h_add, k_up_eq]; exact h_sub_r _ _
        · exact ⟨D, X, c, by rw [if_neg cn]; rfl, hS, hd_G.refl _ _ _ _, hs, hd_f.refl _ _ _, fun h => absurd h cn⟩
      have N1 := N.hfD hp hq F1
      have hbind : ∀ (X : Option (Int32 × QS)) (Y : Int32 × QS) (k : Int32 × QS → Option (((Bool × QS) ⊕ (Int32 × QS)) ⊕ (Int32 × Int32 × QS))), Option.bind X some = some Y → Option.bind X k = k Y := by
        intro X Y k h
        cases X with
        | none => cases h
        | some x => cases h; rfl
      obtain ⟨D2, X2, c2, e2, S2, G2, Sn2, F2, A2⟩ : ∃ D2 X2 c2, tX12_heights_58 q (nI b) (q_b c, nI i, D) = q_run (tX12_heights_164 q (nI b)) (q_b c2, nI i, nI 0, D2) ∧ hd_S D2 (P.fi b) (P.en b) X2 ∧ hd_G (P.fi b) (P.en b) X1 c1' X2 c2 ∧ h_snd M P b X2 ∧ hd_f (P.fi b) (P.en b) D1 D2 ∧ (k_lb (P.op i) = true → h_sub (h_v M P X i) (X2 (k_tg P i))) := by
        have o1 := (N.S.iD i hin).1
        have o2 := N1.S.iD i hin
        have start : tX12_heights_58 q (nI b) (q_b c, nI i, D) = if k_lb (P.op i) = true then (fX12_added D1 (P.ya i) (h_v M P X i)).bind fun r47 => if r47.1 = true then uX12_heights_164 r47.2 q (nI b) 1 (nI i) 0 else if c1' = false then uX12_heights_164 r47.2 q (nI b) 0 (nI i) 0 else uX12_heights_164 r47.2 q (nI b) 1 (nI i) 0 else uX12_heights_164 D1 q (nI b) (q_b c1') (nI i) 0 := by
          simp only [tX12_heights_58, ib, if_true, cb, B.D2, if_neg g1, gh, Option.bind_some, if_neg c0, i1, c1, o1, (z_goesOn hop D).2, nI_1, z_qb0]
          rw [hbind _ _ _ e1]
          simp only [o2.1, o2.2.1, (z_hasLabel hop D1).2, Option.bind_some, z_qb0]
        by_cases cl : k_lb (P.op i) = true
        · obtain ⟨t1, t2, t3, t4⟩ := k_lb_in N hb hF hiE cl
          obtain ⟨D2, y1, y2, y3⟩ := z_added (v := h_v M P X i) (show P.en b ≤ 1024 by omega) t1 t2 S1
          refine ⟨D2, _, _, ?_, y2, hd_G.add t1 t2 h_9_mv, Sn1.add (fun Y hY => (hvs Y hY).trans ((hY.2 i hF hiE).2.1 cl)) t1 t2, y3, fun _ => ?_⟩
          · rw [start, if_pos cl, t4, y1, Option.bind_some]
            cases !decide (X1 (k_tg P i) ||| h_v M P X i = X1 (k_tg P i)) <;> cases c1' <;> rfl
          · rw [h_add, k_up_eq]; exact h_sub_r _ _
        · exact ⟨D1, X1, c1', by rw [start, if_neg cl]; rfl, S1, hd_G.refl _ _ _ _, Sn1, hd_f.refl _ _ _, fun h => absurd h cl⟩
      have N2 := N1.hfD hp hq F2
      obtain ⟨D3, X3, c3, w1, w2, w3, w4, w5, w6⟩ := z_hd164 hp hq hb hF hiE P.nc 0 D2 X2 c2 (Nat.zero_add _) N2 S2 Sn2 hv
      have N3 := N2.hfD hp hq w6
      have G3 := (G1.trans G2).trans w3
      obtain ⟨D', X', c', z1, z2, z3, z4, z5, z6⟩ := ih (i + 1) D3 X3 c3 (by omega) (by omega) N3 w2 w4
      refine ⟨D', X', c', ?_, z2, G3.trans z3, z4, fun hc j j1 j2 => ?_, ((F1.trans F2).trans w6).trans z6⟩
      · rw [q_run_step, e2, w1]
        exact z1
      · by_cases e : j = i
        · subst e
          obtain ⟨x1, x2⟩ := z3.g2 hc
          obtain ⟨x3, x4⟩ := G3.g2 x2
          have ev : h_v M P X' j = h_v M P X j := by rw [x1, x3]
          rw [h_cl, ev]
          refine ⟨fun x => ?_, fun x => ?_, fun x k hk hcv => ?_⟩
          · exact (((A1 x).trans (G2.g1 _)).trans (w3.g1 _)).trans (z3.g1 _)
          · exact ((A2 x).trans (w3.g1 _)).trans (z3.g1 _)
          · exact (w5 k (Nat.zero_le _) hk hcv).trans (z3.g1 _)
        · exact z5 hc j (by omega) j2
theorem z_hd44 (hp : z_pp p) (hq : z_qq q) (hK : k_K g K) (hb : b < M.bc) : ∀ d D X, 9217 - h_mu (P.fi b) (P.en b) X = d → s_N p q n g K M P m C D → hd_S D (P.fi b) (P.en b) X → h_snd M P b X → ∃ D' X', q_run (tX12_heights_44 q (nI b)) (1, D) = fX12_heights_232 D' q (nI b) (nI (P.fi b)) ∧ hd_S D' (P.fi b) (P.en b) X' ∧ h_snd M P b X' ∧ (∀ j, P.fi b ≤ j → j < P.en b → h_cl M P X' j) ∧ (∀ j, h_sub (X j) (X' j)) ∧ hd_f (P.fi b) (P.en b) D D' ∧ ((∀ i, P.fi b ≤ i → i < P.en b → h_9 (X i)) → ∀ i, P.fi b ≤ i → i < P.en b → h_9 (X' i)) := by
  intro d
  induction d using Nat.strongRecOn with
  | _ d ih =>
    intro D X hd N hS hs
    have B := N.B b hb
    have hle := B.le
    have hlt := B.lt
    have bn := N.S.bn
    have h48 := N.S.mJ.mB.1
    have ib := z_inbN (show b < 48 by omega) (by decide)
    have cb := z_cl (show b < 2147483648 by omega)
    have hmu := h_mu_le (P.fi b) (P.en b) X (by omega)
    obtain ⟨D1, X1, c1, y1, y2, y3, y4, y5, y6⟩ := z_hd58 hp hq hK hb (P.en b - P.fi b) (P.fi b) D X false (by omega) (Nat.le_refl _) N hS hs
    have N1 := N.hfD hp hq y6
    have st : tX12_heights_44 q (nI b) (1, D) = some (.inr (q_b c1, D1)) := by
      simp only [tX12_heights_44]
      rw [if_neg (by decide), if_pos ib, cb, B.D1]
      exact y1
    rw [q_run_go st]
    cases hc : c1 with
    | true =>
      have hlt2 := y3.g6 rfl hc
      have hmu2 := h_mu_le (P.fi b) (P.en b) X1 (by omega)
      obtain ⟨D', X', x1, x2, x3, x4, x5, x6, x7⟩ := ih (9217 - h_mu (P.fi b) (P.en b) X1) (by omega) D1 X1 rfl N1 y2 y4
      exact ⟨D', X', x1, x2, x3, x4, fun j => (y3.g1 j).trans (x5 j), y6.trans x6, fun h => x7 (y3.g7 h)⟩
    | false =>
      refine ⟨D1, X1, ?_, y2, y4, fun j j1 j2 => y5 hc j j1 j2, y3.g1, y6, y3.g7⟩
      rw [q_run_step]
      simp only [tX12_heights_44]
      rw [if_pos (show q_b false = 0 from rfl), if_pos ib, cb, (N1.B b hb).D1]
      cases fX12_heights_232 D1 q (nI b) (nI (P.fi b)) <;> rfl
end ZHD
