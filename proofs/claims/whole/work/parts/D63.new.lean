/-! ===== the run: new objects and arrays ===== -/
/-- the first cells of a new object -/
noncomputable def r_nf (K : ZK) (M : ZM) (H : ZH) (t : Nat) : Nat → Nat × Int32 := fun c => if c < H.u then H.hp c else @ite _ (∃ f, f < M.fc ∧ M.ft f = 66 ∧ k_anc K.cp (M.fo f) t = true ∧ c = H.u + M.fs f) (Classical.propDecidable _) (66, 0) (65, 0)
def r_na (H : ZH) (t : Nat) : Nat → Nat × Int32 := fun c => if c < H.u then H.hp c else if t = 64 then (66, 0) else (65, 0)
section ZRW
variable {p q n m : Nat} {g : ZT} {K : ZK} {M : ZM} {P : ZP} {hh : Nat → Nat → Int32} {R : Nat → Nat → Bool} {T : Nat → Nat → Nat → Nat} {Cx Dx C D : QS} {d i k : Nat} {h h' : Nat → Nat} {V : Nat → Nat → Nat × Int32} {pa pd : Nat → Nat} {H H' : ZH} {X : ZX} {to pl : Nat}
theorem r_nf_lo {t c : Nat} (hc : c < H.u) : r_nf K M H t c = H.hp c := if_pos hc
theorem r_nf_i {t f : Nat} (hf : f < M.fc) (h66 : M.ft f = 66) (ha : k_anc K.cp (M.fo f) t = true) : r_nf K M H t (H.u + M.fs f) = (66, 0) := by
  rw [r_nf, if_neg (by omega)]
  exact if_pos ⟨f, hf, h66, ha, rfl⟩
theorem r_nf_n {t c : Nat} (hc : H.u ≤ c) (hn : ¬ ∃ f, f < M.fc ∧ M.ft f = 66 ∧ k_anc K.cp (M.fo f) t = true ∧ c = H.u + M.fs f) : r_nf K M H t c = (65, 0) := by
  rw [r_nf, if_neg (by omega)]
  exact if_neg hn
theorem r_nf_2 {t c : Nat} (hc : H.u ≤ c) : (r_nf K M H t c).2 = 0 := by
  by_cases e : ∃ f, f < M.fc ∧ M.ft f = 66 ∧ k_anc K.cp (M.fo f) t = true ∧ c = H.u + M.fs f
  · obtain ⟨f, f1, f2, f3, f4⟩ := e
    rw [f4, r_nf_i f1 f2 f3]
  · rw [r_nf_n hc e]
theorem r_na_hi {t c : Nat} (hc : H.u ≤ c) : r_na H t c = if t = 64 then (66, 0) else (65, 0) := if_neg (by omega)
theorem r_vo0 : r_vo H (66, 0) ∧ r_vo H (65, 0) := ⟨Or.inl rfl, Or.inr (Or.inr ⟨0, Nat.zero_le _, rfl⟩)⟩
/-- the loop that clears the new cells -/
theorem r_mk93 {op : Nat} {y4 : Int32} {y6 : Int64} {l u : Nat} {w0 : Int64} (hop : op = 30 ∨ op = 31) (hw : w0 = if op = 31 ∧ y4 = 40 then 0 else 1099511627776) (hul : u + l ≤ 12000) : ∀ e k D, k + e = l → ∃ D', q_run (tX12_make_93 q (nI op) y4 (nI l) y6 (nI u)) (nI k, D) = q_run (tX12_make_93 q (nI op) y4 (nI l) y6 (nI u)) (nI l, D') ∧ D'.2.1 = D.2.1 ∧ ∀ y j, D'.2.2.1 y j = if y = 180 ∧ u + k ≤ j ∧ j < u + l then w0 else D.2.2.1 y j := by
  intro e
  induction e with
  | zero =>
    intro k D hk
    have : k = l := by omega
    subst this
    exact ⟨D, rfl, rfl, fun y j => by rw [if_neg (by omega)]⟩
  | succ e ih =>
    intro k D hk
    have g1 : ¬ (nI l ≤ nI k) := by rw [z_leN (by omega) (by omega)]; omega
    have e31 : (nI op = 31) = (op = 31) := by rw [show (31 : Int32) = nI 31 from rfl, z_eqN (by omega) (by decide)]
    obtain ⟨D', y1, y2, y3⟩ := ih (k + 1) (q_sJ D 180 (u + k) w0) (by omega)
    refine ⟨D', (q_run_go ?_).trans y1, y2, fun y j => ?_⟩
    · have i1 := z_inbN (show u + k < 12000 by omega) (show 12000 < 2147483648 by decide)
      have c1 := z_cl (show u + k < 2147483648 by omega)
      simp only [tX12_make_93, if_neg g1, nI_add, i1, if_true, c1, Option.bind_some, nI_1, e31]
      by_cases c : op = 31
      · rw [if_pos c]
        by_cases c4 : y4 = 40
        · rw [if_pos c4, hw, if_pos ⟨c, c4⟩]
        · rw [if_neg c4, hw, if_neg (fun z => c4 z.2)]
      · rw [if_neg c, hw, if_neg (fun z => c z.1)]
    · rw [y3, q_sJ_J]
      by_cases c : y = 180 ∧ u + (k + 1) ≤ j ∧ j < u + l
      · rw [if_pos c, if_pos (by omega)]
      · rw [if_neg c]
        by_cases c2 : y = 180 ∧ j = u + k
        · rw [if_pos c2, if_pos (by omega)]
        · rw [if_neg c2, if_neg (by omega)]
/-- the loop that sets the int fields -/
theorem r_mk145 {t u : Nat} {y6 : Int64} (W : r_W p q n g K M P m hh R T Cx Dx) (ht : t < K.cc) (hu : ∀ f, f < M.fc → k_anc K.cp (M.fo f) t = true → u + M.fs f < 12000) : ∀ e k D, k + e = M.fc → r_gD q Dx D → ∃ D', q_run (tX12_make_145 q (k_y t) y6 (nI u)) (nI k, D) = q_run (tX12_make_145 q (k_y t) y6 (nI u)) (nI M.fc, D') ∧ D'.2.1 = D.2.1 ∧ (∀ f, k ≤ f → f < M.fc → M.ft f = 66 → k_anc K.cp (M.fo f) t = true → D'.2.2.1 180 (u + M.fs f) = 0) ∧ ∀ y j, (∀ f, k ≤ f → f < M.fc → M.ft f = 66 → k_anc K.cp (M.fo f) t = true → ¬ (y = 180 ∧ j = u + M.fs f)) → D'.2.2.1 y j = D.2.2.1 y j := by
  have f48 := W.N.S.mJ.mF.1
  have h32 := W.hK.2.1
  intro e
  induction e with
  | zero =>
    intro k D hk _
    have : k = M.fc := by omega
    subst this
    exact ⟨D, rfl, rfl, fun f a b => by omega, fun y j _ => rfl⟩
  | succ e ih =>
    intro k D hk gD
    have hkf : k < M.fc := by omega
    have e1 : D.2.1 q 1 = nI M.fc := by rw [show D.2.1 q = Dx.2.1 q from gD 0 (by decide)]; exact W.N.S.mJ.dF.1
    obtain ⟨-, e3, e4⟩ := W.N.S.mJ.dF.2 k hkf
    have hfo := (W.N.S.mJ.mF.2 k hkf).2.1
    have e5 := W.N.sI.2.1 k hkf hfo
    have g1 : ¬ (nI M.fc ≤ nI k) := by rw [z_leN (by omega) (by omega)]; omega
    have i1 := z_inbN (show k < 48 by omega) (show 48 < 2147483648 by decide)
    have c1 := z_cl (show k < 2147483648 by omega)
    have ft := k_tok_lt W.hK (W.N.S.mJ.ft k hkf)
    have ft67 : M.ft k ≤ 67 := by rcases W.N.S.mJ.ft k hkf with z | z | z | z <;> omega
    have ey : k_y t - (8 : Int32) = nI t := by
      rw [k_y_c (by omega), show (8 : Int32) = nI 8 from rfl, z_subN (by omega)]; congr 1
    have anc := z_isAtOrBelow W.hK W.N.S.mJ.kD hfo t ht
    rw [← r_isAtOr gD] at anc
    have y0 := k_y_0 ft67
    by_cases c66 : M.ft k = 66
    · have y00 : k_y (M.ft k) = 0 := by rw [c66]; rfl
      by_cases ca : k_anc K.cp (M.fo k) t = true
      · have hlt := hu k hkf ca
        obtain ⟨D', y1, y2, y3, y4⟩ := ih (k + 1) (q_sJ D 180 (u + M.fs k) 0) (by omega) gD
        refine ⟨D', (q_run_go ?_).trans y1, y2, fun f a b c d => ?_, fun y j hy => ?_⟩
        · simp only [tX12_make_145, e1, if_neg g1, i1, if_true, c1, gD 4 (by decide), gD 3 (by decide), gD 5 (by decide), e4, y00, ey, e3, anc, ca, Option.bind_some, e5, nI_add, z_inbN hlt (show 12000 < 2147483648 by decide), z_cl (show u + M.fs k < 2147483648 by omega), nI_1]
        · by_cases ef : f = k
          · subst ef
            by_cases ex : ∃ f', f + 1 ≤ f' ∧ f' < M.fc ∧ M.ft f' = 66 ∧ k_anc K.cp (M.fo f') t = true ∧ M.fs f' = M.fs f
            · obtain ⟨f', g1, g2, g3, g4, g5⟩ := ex
              rw [← g5]; exact y3 f' g1 g2 g3 g4
            · rw [y4 180 (u + M.fs f) (fun f' g1 g2 g3 g4 g5 => ex ⟨f', g1, g2, g3, g4, by omega⟩), q_sJ_J, if_pos ⟨rfl, rfl⟩]
          · exact y3 f (by omega) b c d
        · rw [y4 y j (fun f a b c d => hy f (by omega) b c d), q_sJ_J, if_neg (hy k (Nat.le_refl _) hkf c66 ca)]
      · obtain ⟨D', y1, y2, y3, y4⟩ := ih (k + 1) D (by omega) gD
        have ca' : k_anc K.cp (M.fo k) t = false := by cases hx : k_anc K.cp (M.fo k) t with | false => rfl | true => exact absurd hx ca
        refine ⟨D', (q_run_go ?_).trans y1, y2, fun f a b c d => ?_, fun y j hy => ?_⟩
        · simp only [tX12_make_145, e1, if_neg g1, i1, if_true, c1, gD 4 (by decide), gD 3 (by decide), e4, y00, ey, e3, anc, ca', Option.bind_some, nI_1, Bool.false_eq_true, if_false]
        · exact y3 f (by rcases Nat.lt_or_eq_of_le a with z | z; exact z; exact absurd (z ▸ d) ca) b c d
        · exact y4 y j (fun f a b c d => hy f (by omega) b c d)
    · obtain ⟨D', y1, y2, y3, y4⟩ := ih (k + 1) D (by omega) gD
      refine ⟨D', (q_run_go ?_).trans y1, y2, fun f a b c d => ?_, fun y j hy => ?_⟩
      · simp only [tX12_make_145, e1, if_neg g1, i1, if_true, c1, gD 4 (by decide), e4, y0, if_neg c66, nI_1]
      · exact y3 f (by rcases Nat.lt_or_eq_of_le a with z | z; exact z; exact absurd (z ▸ c) c66) b c d
      · exact y4 y j (fun f a b c d => hy f (by omega) b c d)
/-- the end of an instruction that makes -/
theorem r_M.finMk {C1 D1 : QS} {j t l : Nat} {s : Int32} {hp' : Nat → Nat × Int32} {c c' : Option QS} (Z : r_M p q n g K M P m hh R T Cx Dx d h V pa pd H X pl i C D) (hop : P.op i = 30 ∨ P.op i = 31) (k2 : k_lv M P i = 1) (ej : j = h d - k_tk M P i) (hn : H.n < 2000) (ht : k_tok K t) (ht2 : t ≤ 64) (hlf : k_lf M P i = t) (hc' : r_hc K M (H.add t l s hp')) (IC : rC p Cx d (k_up h d j) V pa (H.add t l s hp') X 0 i C1) (ID : rD q Dx d (k_up h d j) V pd (H.add t l s hp') X pl D1) (ec : c = fX6_pushObject C1 (nI (H.n + 1))) (ed : c' = (fX12_push D1 ((1099511627776 : Int64) + (nI (H.n + 1)).toInt64)).bind fun r => (fX12_next r).bind fun y => some y) : r_res p q K M P hh R T Cx Dx X.sp (c.bind (r_pu p)) c' := by
  have B' : r_ob K (H.add t l s hp') := add_ob Z.B hn ht ht2
  have h8 := Z.t.h8 Z.W
  have u : r_up H (H.add t l s hp') := add_up
  obtain ⟨C2, e2, IC2⟩ := IC.pushObjN Z.W.hp B' (by omega) (o := H.n + 1) (Nat.le_refl _)
  obtain ⟨D2, f2, ID2⟩ := ID.pushN Z.W.hq (by omega) (x := (r_th (H.add t l s hp') (H.n + 1), nI (H.n + 1))) rfl
  rw [r_e_r (o := H.n + 1) B' (Nat.le_refl _)] at f2
  obtain ⟨r, r1, r2⟩ := Z.ty1 (H' := H.add t l s hp') (v := r_uv V d (12 + j) (r_th (H.add t l s hp') (H.n + 1), nI (H.n + 1)) d) (by omega) (by omega) (by omega) (by omega) (by omega) k2 u (fun s hs => r_uv_s (by omega)) (by
    rw [← ej, r_uv_eq, hlf]
    refine ⟨Or.inr (Or.inr ⟨H.n + 1, Nat.le_refl _, rfl⟩), ?_⟩
    show k_blw K (r_th (H.add t l s hp') (H.n + 1)) t = true
    rw [r_th_p (by omega), add_th, k_up_eq]; exact k_blw_refl _)
  have hnx : k_nx (P.op i) = true := by rcases hop with hop | hop <;> rw [hop] <;> rfl
  obtain ⟨D3, f3, ID3⟩ := ID2.next Z.W.hq
  rw [Z.ei] at ID3
  have e0 : h d - k_tk M P i + k_lv M P i = j + 1 := by omega
  have t' := r_tf.go (H := H.add t l s hp') (v := r_uv V d (12 + j) (r_th (H.add t l s hp') (H.n + 1), nI (H.n + 1)) d) (hf := j + 1) Z.W Z.t.1 Z.t.2.1 (j := i + 1) (Or.inl ⟨hnx, rfl⟩) r1 (by rw [← Z.t.2.2.1]; omega) (by rw [← e0]; exact r2)
  exact Z.fin (ec.trans e2) (by rw [ed, f2, Option.bind_some, f3]; rfl) IC2 ID3 (by rw [k_up_eq]; exact t') Z.ea (by rw [k_up_eq]) (fun f hf => ⟨k_up_ne (by omega), r_uv_F (by omega), rfl, k_up_ne (by omega)⟩) (Z.nx' hnx) u B' hc' Z.oc rfl
/-- no room -/
theorem r_M.full {C1 : QS} {j l : Nat} {s t' : Int32} {c : Option QS} {D1 : QS} (Z : r_M p q n g K M P m hh R T Cx Dx d h V pa pd H X pl i C D) (IC : rC p Cx d (k_up h d j) V pa H X 0 i C1) (ID : rD q Dx d (k_up h d j) V pd H X pl D1) (hl2 : l < 2147483648) (hf : ¬ (H.n < 2000 ∧ l ≤ 12000 - H.u)) (ec : c = fX6_pushMade C1 t' (nI l) s) : r_res p q K M P hh R T Cx Dx X.sp (c.bind (r_pu p)) (some (q_sI (q_sI D1 102 44 3) 102 42 (nI i))) := by
  refine ⟨q_sI C1 89 8 3, _, ?_, rfl, Or.inr (r_end1 Z.W.hp Z.W.hq IC ID 3 (by decide))⟩
  rw [ec, fX6_pushMade, IC.make0 hl2 hf]
  simp only [Option.bind_some, if_true]
  rw [r_pu, if_pos (show (q_sI C1 89 8 3).2.1 89 9 = 0 from IC.X.to)]
theorem r_op30 (Z : r_M p q n g K M P m hh R T Cx Dx d h V pa pd H X pl i C D) (hop : P.op i = 30) : r_res p q K M P hh R T Cx Dx X.sp ((fX6_useArray C p (nI i)).bind (r_pu p)) (fX12_step D q (nI i)) := by
  obtain ⟨i1, c1, d1, d2, d3⟩ := Z.rdD
  obtain ⟨p11, p12, p13, p16⟩ := Z.rdC
  obtain ⟨k1, k2⟩ := k_tk_at (M := M) 30 hop (by decide) (by decide)
  have k1 : k_tk M P i = 0 := k1
  have k2 : k_lv M P i = 1 := k2
  have hC : C.2.1 (p + 11) i = 30 := by rw [p11, hop]; rfl
  have hn := Z.B.1
  have h32 := Z.W.hK.2.1
  have u2 := Z.C.H.u2
  have bs := Z.W.N.S.bs
  have J := Z.W.N.S.mJ
  have f48 := J.mF.1
  obtain ⟨HC, HD⟩ := Z.hk
  obtain ⟨t, x1, x2, x3, x4, x5⟩ := (Z.W.N.S.wI i Z.t.1).oN hop
  have sT := Z.W.N.S.sT (P.si i) x4
  rw [x5] at sT
  have cnt := k_cnt_le (P := m_slP K M t) M.fc
  have sl := J.sl t x2
  have slD := Z.W.N.sI.1 t x2
  generalize hl : k_cnt (m_slP K M t) M.fc = l at *
  have ey : k_y t - (8 : Int32) = nI t := by
    rw [k_y_c (by omega), show (8 : Int32) = nI 8 from rfl, z_subN (by omega)]; congr 1
  have hlf : k_lf M P i = t := by rw [k_lf, if_neg (by omega), if_pos (Or.inl hop), k_xa, x1, z_cl (by omega)]
  have eC : fX6_useArray C p (nI i) = fX6_pushMade C (nI t) (nI l) (nI (P.si i)) := by
    simp (decide := true) only [fX6_useArray, i1, if_true, c1, hC, p12, x1, z_inbN (show t < 32 by omega) (show 32 < 2147483648 by decide), z_cl (show t < 2147483648 by omega), Z.C.g 5 (by decide), sl, p16, o_bs]
  have g12 : ¬ ((12001 : Int32) < nI l) := by rw [show (12001 : Int32) = nI 12001 from rfl, z_ltN (by decide) (by omega)]; omega
  have eD : fX12_objectStep D q 30 (P.ya i) (nI i) = (fX12_object D (k_y t) (nI (P.si i)) (nI l) (nI i)).bind fun r43 => if (lg_cmp r43.1 (0 : Int64)) = 0 then some (r43.2) else (fX12_objectOf r43.2 r43.1).bind fun r46 => if q_inb r46 2000 = true then fX12_make_93 r43.2 q 30 (k_y t) (nI l) r43.1 ((r43.2.2.1 178 r46.toNatClampNeg)) ((0 : Int32)) else none := by
    simp (decide := true) only [fX12_objectStep, if_true, if_false, fX12_make, x3, z_inbN (show P.si i < 54 by omega) (show 54 < 2147483648 by decide), z_cl (show P.si i < 2147483648 by omega), Z.D.g 20 (by decide), sT, ey, z_inbN (show t < 32 by omega) (show 32 < 2147483648 by decide), z_cl (show t < 2147483648 by omega), Z.D.g 2 (by decide), slD, Option.bind_some, nI_pos' (show l < 2147483648 by omega), if_neg g12, o_bs]
  rw [r_stepOb Z (by omega) (by omega), hop]
  show r_res p q K M P hh R T Cx Dx X.sp _ (fX12_objectStep D q 30 (P.ya i) (nI i))
  rw [eD]
  by_cases full : H.n < 2000 ∧ l ≤ 12000 - H.u
  · obtain ⟨hn', hlu⟩ := full
    obtain ⟨C1, e1, IC1⟩ := HC.make Z.W.hp (t := t) (l := l) (s := nI (P.si i)) (hp' := r_nf K M H t) hn' hlu (fun c hc => r_nf_lo hc) (fun c a b => r_nf_2 a)
    obtain ⟨D1, e2, e3, gD⟩ := HD.obj (t := t) (l := l) (s := nI (P.si i)) (y := nI i) u2 hn' hlu
    have gD1 : r_gD q Dx D1 := Z.D.g.of Z.W.hq (fun o j a b => by rw [gD]; simp (disch := omega) only [if_neg])
    obtain ⟨D2, m1, m2, m3⟩ := r_mk93 (q := q) (op := 30) (y4 := k_y t) (y6 := (1099511627776 : Int64) + (nI (H.n + 1)).toInt64) (l := l) (u := H.u) (w0 := 1099511627776) (Or.inl rfl) (by rw [if_neg (fun z => by omega)]) (by omega) l 0 D1 (by omega)
    have gD2 : r_gD q Dx D2 := fun k hk => by rw [m2]; exact gD1 k hk
    obtain ⟨D3, n1, n2, n3, n4⟩ := r_mk145 (u := H.u) (y6 := (1099511627776 : Int64) + (nI (H.n + 1)).toInt64) Z.W x2 (fun f hf ha => by have := r_slot Z.W hf x2 ha; omega) M.fc 0 D2 (by omega) gD2
    have hit : ∀ f, f < M.fc → k_anc K.cp (M.fo f) t = true → M.fs f < l := fun f hf ha => by have := r_slot Z.W hf x2 ha; omega
    have ID3 := HD.mk Z.W.hq (D' := D3) (hp' := r_nf K M H t) gD (by rw [n2, m2]) (fun o j ho => by
      rw [n4 o j (fun f _ _ _ _ z => by omega), m3, if_neg (by omega), e3]) (fun c hc => by
      by_cases cu : c < H.u
      · rw [n4 180 c (fun f _ _ _ _ z => by omega), m3, if_neg (by omega), e3, r_nf_lo cu]; exact HD.H.c c cu
      · by_cases ex : ∃ f, f < M.fc ∧ M.ft f = 66 ∧ k_anc K.cp (M.fo f) t = true ∧ c = H.u + M.fs f
        · obtain ⟨f, f1, f2, f3, f4⟩ := ex
          rw [f4, n3 f (Nat.zero_le _) f1 f2 f3, r_nf_i f1 f2 f3]; rfl
        · rw [n4 180 c (fun f _ a b c' z => ex ⟨f, a, b, c', z.2⟩), m3, if_pos (by omega), r_nf_n (by omega) ex]; rfl)
    have hcn : r_hc K M (H.add t l (nI (P.si i)) (r_nf K M H t)) := add_hc Z.hc (fun c hc => r_nf_lo hc) (fun a => by omega) (fun a f hf ha => by
      refine ⟨hit f hf ha, ?_⟩
      by_cases c66 : M.ft f = 66
      · rw [r_nf_i hf c66 ha, c66]; exact ⟨r_vo0.1, k_blw_refl _⟩
      · rw [r_nf_n (by omega) (fun ⟨f', f1, f2, f3, f4⟩ => by
          rcases Nat.lt_trichotomy f f' with z | z | z
          · have := r_slots Z.W z f1 x2 ha f3; omega
          · exact c66 (z ▸ f2)
          · have := r_slots Z.W z hf x2 f3 ha; omega)]
        have ft65 : M.ft f ≤ 64 := by rcases J.ft f hf with z | z | z | z <;> omega
        exact ⟨r_vo0.2, k_blw_iff.mpr (Or.inr (Or.inr ⟨by decide, by omega, Or.inl rfl⟩))⟩)
    have ne : ¬ (nI (H.n + 1) = 0) := by rw [show (0 : Int32) = nI 0 from rfl, z_eqN (by omega) (by decide)]; omega
    refine Z.finMk (Or.inl hop) k2 (by omega) hn' (Or.inl x2) (by omega) hlf hcn IC1 ID3 ?_ ?_
    · rw [eC, fX6_pushMade, e1, Option.bind_some, if_neg ne, o_bs]
    · have B' : r_ob K (H.add t l (nI (P.si i)) (r_nf K M H t)) := add_ob Z.B hn' (Or.inl x2) (by omega)
      have obj := r_e_obj (S := D1) B' (o := H.n + 1) (Nat.le_refl _) (by omega)
      rw [r_e_r (o := H.n + 1) B' (Nat.le_refl _), Nat.add_sub_cancel] at obj
      have d178 : D1.2.1 178 H.n = nI H.u := by rw [gD]; simp (disch := omega) only [if_neg, and_self, if_true]
      have push3 : ∃ D4 D5, fX12_push D3 ((1099511627776 : Int64) + (nI (H.n + 1)).toInt64) = some D4 ∧ fX12_next D4 = some D5 := by
        have h8 := Z.t.h8 Z.W
        obtain ⟨D4, g1, ID4⟩ := ID3.pushN Z.W.hq (by omega) (x := (r_th (H.add t l (nI (P.si i)) (r_nf K M H t)) (H.n + 1), nI (H.n + 1))) rfl
        rw [r_e_r (o := H.n + 1) B' (Nat.le_refl _)] at g1
        obtain ⟨D5, g2, -⟩ := ID4.next Z.W.hq
        exact ⟨D4, D5, g1, g2⟩
      obtain ⟨D4, D5, g1, g2⟩ := push3
      rw [e2, Option.bind_some]
      simp only [lg_eq, i64_ref (show H.n + 1 ≤ 2000 by omega), i64_big.2.2]
      rw [if_neg (by omega), obj, Option.bind_some, if_pos (z_inbN (show H.n < 2000 by omega) (by decide)), z_cl (show H.n < 2147483648 by omega), d178, fX12_make_93, show (0 : Int32) = nI 0 from rfl, show (30 : Int32) = nI 30 from rfl, m1, g1, Option.bind_some, g2]
      refine q_run_ret ?_
      have le : nI l ≤ nI l := by rw [z_leN (by omega) (by omega)]; exact Nat.le_refl _
      have e1fc : D3.2.1 q 1 = nI M.fc := by rw [n2, show D2.2.1 q = Dx.2.1 q from gD2 0 (by decide)]; exact J.dF.1
      have fin145 : q_run (tX12_make_145 q (k_y t) ((1099511627776 : Int64) + (nI (H.n + 1)).toInt64) (nI H.u)) (nI 0, D2) = some D5 := by
        rw [n1]
        refine q_run_ret ?_
        simp only [tX12_make_145, e1fc]
        rw [if_pos (by rw [z_leN (by omega) (by omega)]; exact Nat.le_refl _), g1, Option.bind_some, g2]; rfl
      simp only [tX12_make_93, if_pos le, fX12_make_145]
      rw [if_pos (show nI 30 = (30 : Int32) from rfl), show (0 : Int32) = nI 0 from rfl, fin145]; rfl
  · have e2 := HD.obj0 Z.B u2 (l := l) (s := nI (P.si i)) (t' := k_y t) (y := nI i) (by omega) full
    rw [e2, Option.bind_some, if_pos (by rw [lg_eq])]
    exact Z.full HC HD (by omega) full eC
theorem r_op31 (Z : r_M p q n g K M P m hh R T Cx Dx d h V pa pd H X pl i C D) (hop : P.op i = 31) : r_res p q K M P hh R T Cx Dx X.sp ((fX6_useArray C p (nI i)).bind (r_pu p)) (fX12_step D q (nI i)) := by
  obtain ⟨i1, c1, d1, d2, d3⟩ := Z.rdD
  obtain ⟨p11, p12, p13, p16⟩ := Z.rdC
  obtain ⟨k1, k2⟩ := k_tk_at (M := M) 31 hop (by decide) (by decide)
  have k1 : k_tk M P i = 1 := k1
  have k2 : k_lv M P i = 1 := k2
  have hC : C.2.1 (p + 11) i = 31 := by rw [p11, hop]; rfl
  have h8 := Z.t.h8 Z.W
  have hn := Z.B.1
  have h32 := Z.W.hK.2.1
  have u2 := Z.C.H.u2
  have bs := Z.W.N.S.bs
  obtain ⟨t, x1, x2, x3, x4, x5⟩ := (Z.W.N.S.wI i Z.t.1).oA hop
  have tok : k_tok K t := by rcases x2 with z | z; exact Or.inr (Or.inl z); exact Or.inr (Or.inr (Or.inl z))
  have t64 : 32 ≤ t ∧ t ≤ 64 := by omega
  have sT := Z.W.N.S.sT (P.si i) x4
  rw [x5] at sT
  have hlf : k_lf M P i = t := by rw [k_lf, if_neg (by omega), if_pos (Or.inr (Or.inl hop)), k_xa, x1, z_cl (by omega)]
  obtain ⟨j, hj⟩ : ∃ j, h d = j + 1 := ⟨h d - 1, by omega⟩
  obtain ⟨HC, HD⟩ := Z.hk
  rw [hj] at HC HD
  have v66 := Z.int (j := 0) (by omega) (by omega) (by omega) (by omega) (k_told66 (by omega))
  rw [k1, show 12 + h d - 1 + 0 = 12 + j by omega] at v66
  obtain ⟨C1, v, e1, ev, IC1, -⟩ := HC.popN Z.W.hp
  have ev := ev (by omega)
  obtain ⟨D1, f1, ID1⟩ := HD.popN Z.W.hq
  rw [r_e_i v66, ← ev] at f1
  rw [r_stepOb Z (by omega) (by omega), hop]
  show r_res p q K M P hh R T Cx Dx X.sp _ (fX12_objectStep D q 31 (P.ya i) (nI i))
  have eD : fX12_objectStep D q 31 (P.ya i) (nI i) = if 0 ≤ v then (fX12_object D1 (k_y t) (nI (P.si i)) (if (12001 : Int32) < v then (12001 : Int32) else v) (nI i)).bind fun r43 => if (lg_cmp r43.1 (0 : Int64)) = 0 then some (r43.2) else (fX12_objectOf r43.2 r43.1).bind fun r46 => if q_inb r46 2000 = true then fX12_make_93 r43.2 q 31 (k_y t) v r43.1 ((r43.2.2.1 178 r46.toNatClampNeg)) ((0 : Int32)) else none else (fX12_raise D1 q ((2 : Int32)) (nI i)).bind fun r49 => some (r49) := by
    simp (decide := true) only [fX12_objectStep, if_true, if_false, fX12_make, x3, z_inbN (show P.si i < 54 by omega) (show 54 < 2147483648 by decide), z_cl (show P.si i < 2147483648 by omega), Z.D.g 20 (by decide), sT, f1, Option.bind_some, i64_back, o_bs]
  rw [eD]
  by_cases cn : 0 ≤ v
  · have cn' : 0 ≤ v.toInt := by
      rw [Int32.le_iff_toInt_le] at cn
      have : (0 : Int32).toInt = 0 := rfl
      omega
    have ej := z_toN cn'
    have jb := (i32_rng v).2
    generalize hjj : v.toInt.toNat = l at ej
    have lb : l < 2147483648 := by omega
    subst ej
    have xa2 : C1.2.1 (p + 12) i = nI t := by rw [IC1.g 12 (by decide), ← Z.C.g 12 (by decide), p12, x1]
    have si2 : C1.2.1 (p + 16) i = nI (P.si i) := by rw [IC1.g 16 (by decide), ← Z.C.g 16 (by decide), p16]
    have eC : fX6_useArray C p (nI i) = fX6_pushMade C1 (nI t) (nI l) (nI (P.si i)) := by
      simp (decide := true) only [fX6_useArray, i1, if_true, if_false, c1, hC, Option.bind_some, e1, if_pos cn, xa2, si2, o_bs]
    have e12 : (if (12001 : Int32) < nI l then (12001 : Int32) else nI l) = nI (min l 12001) := by
      have : ((12001 : Int32) < nI l) = (12001 < l) := by rw [show (12001 : Int32) = nI 12001 from rfl, z_ltN (by decide) lb]
      by_cases z : 12001 < l
      · rw [if_pos (by rw [this]; exact z), show min l 12001 = 12001 by omega]; rfl
      · rw [if_neg (by rw [this]; exact z), show min l 12001 = l by omega]
    rw [if_pos cn, e12]
    by_cases full : H.n < 2000 ∧ l ≤ 12000 - H.u
    · obtain ⟨hn', hlu⟩ := full
      rw [show min l 12001 = l by omega]
      obtain ⟨C2, e2, IC2⟩ := IC1.make Z.W.hp (t := t) (l := l) (s := nI (P.si i)) (hp' := r_na H t) hn' hlu (fun c hc => if_pos hc) (fun c a b => by rw [r_na_hi a]; split <;> rfl)
      obtain ⟨D2, f2, f3, gD⟩ := ID1.obj (t := t) (l := l) (s := nI (P.si i)) (y := nI i) u2 hn' hlu
      obtain ⟨D3, m1, m2, m3⟩ := r_mk93 (q := q) (op := 31) (y4 := k_y t) (y6 := (1099511627776 : Int64) + (nI (H.n + 1)).toInt64) (l := l) (u := H.u) (w0 := if 31 = 31 ∧ k_y t = 40 then 0 else 1099511627776) (Or.inr rfl) rfl (by omega) l 0 D2 (by omega)
      have e40 : (k_y t = 40) = (t = 64) := by rw [show (40 : Int32) = k_y 64 from rfl, k_y_eq (by omega) (by decide)]
      have ID3 := ID1.mk Z.W.hq (D' := D3) (hp' := r_na H t) gD m2 (fun o j ho => by rw [m3, if_neg (by omega), f3]) (fun c hc => by
        rw [m3]
        by_cases cu : c < H.u
        · rw [if_neg (by omega), f3, show r_na H t c = H.hp c from if_pos cu]; exact ID1.H.c c cu
        · rw [if_pos (by omega), r_na_hi (by omega)]
          by_cases c64 : t = 64
          · rw [if_pos ⟨rfl, by rw [e40]; exact c64⟩, if_pos c64]; rfl
          · rw [if_neg (fun z => c64 (by rw [← e40]; exact z.2)), if_neg c64]; rfl)
      have hcn : r_hc K M (H.add t l (nI (P.si i)) (r_na H t)) := add_hc Z.hc (fun c hc => if_pos hc) (fun a jx hjx => by
        rw [r_na_hi (by omega)]
        by_cases c64 : t = 64
        · rw [if_pos c64, c64]; exact ⟨r_vo0.1, k_blw_refl _⟩
        · rw [if_neg c64, k_el, if_neg c64, if_neg (by omega), if_pos (by omega)]
          exact ⟨r_vo0.2, k_blw_iff.mpr (Or.inr (Or.inr ⟨by decide, by omega, Or.inl rfl⟩))⟩) (fun a => by omega)
      have ne : ¬ (nI (H.n + 1) = 0) := by rw [show (0 : Int32) = nI 0 from rfl, z_eqN (by omega) (by decide)]; omega
      refine Z.finMk (Or.inr hop) k2 (by omega) hn' tok t64.2 hlf hcn IC2 ID3 ?_ ?_
      · rw [eC, fX6_pushMade, e2, Option.bind_some, if_neg ne, o_bs]
      · have B' : r_ob K (H.add t l (nI (P.si i)) (r_na H t)) := add_ob Z.B hn' tok t64.2
        have obj := r_e_obj (S := D2) B' (o := H.n + 1) (Nat.le_refl _) (by omega)
        rw [r_e_r (o := H.n + 1) B' (Nat.le_refl _), Nat.add_sub_cancel] at obj
        have d178 : D2.2.1 178 H.n = nI H.u := by rw [gD]; simp (disch := omega) only [if_neg, and_self, if_true]
        have push3 : ∃ D4 D5, fX12_push D3 ((1099511627776 : Int64) + (nI (H.n + 1)).toInt64) = some D4 ∧ fX12_next D4 = some D5 := by
          obtain ⟨D4, g1, ID4⟩ := ID3.pushN Z.W.hq (by omega) (x := (r_th (H.add t l (nI (P.si i)) (r_na H t)) (H.n + 1), nI (H.n + 1))) rfl
          rw [r_e_r (o := H.n + 1) B' (Nat.le_refl _)] at g1
          obtain ⟨D5, g2, -⟩ := ID4.next Z.W.hq
          exact ⟨D4, D5, g1, g2⟩
        obtain ⟨D4, D5, g1, g2⟩ := push3
        rw [f2, Option.bind_some]
        simp only [lg_eq, i64_ref (show H.n + 1 ≤ 2000 by omega), i64_big.2.2]
        rw [if_neg (by omega), obj, Option.bind_some, if_pos (z_inbN (show H.n < 2000 by omega) (by decide)), z_cl (show H.n < 2147483648 by omega), d178, fX12_make_93, show (0 : Int32) = nI 0 from rfl, show (31 : Int32) = nI 31 from rfl, m1, g1, Option.bind_some, g2]
        refine q_run_ret ?_
        have le : nI l ≤ nI l := by rw [z_leN (by omega) (by omega)]; exact Nat.le_refl _
        simp only [tX12_make_93, if_pos le]
        rw [if_neg (show ¬ (nI 31 = (30 : Int32)) by decide), g1, Option.bind_some, g2]; rfl
    · have e2 := ID1.obj0 Z.B u2 (l := min l 12001) (s := nI (P.si i)) (t' := k_y t) (y := nI i) (by omega) (fun z => full ⟨z.1, by omega⟩)
      rw [e2, Option.bind_some, if_pos (by rw [lg_eq])]
      exact Z.full IC1 ID1 lb full eC
  · have x := Z.raise (x := 4) (by decide) (by decide) IC1 ID1
    have a1 : fX6_useArray C p (nI i) = fX6_raise C1 (nI 4) := by
      simp (decide := true) only [fX6_useArray, i1, if_true, if_false, c1, hC, Option.bind_some, e1, if_neg cn, o_bs]; rfl
    rw [a1, if_neg cn, o_bs]; exact x
end ZRW
