/-! ===== the run: numbers and branches ===== -/
theorem i32_and31 (b : Int32) : (b &&& 31) &&& 31 = b &&& 31 := by
  rw [Int32.and_assoc]; rfl
/-- the two sides calculate alike -/
theorem r_calc {k : Nat} (h1 : 8 ≤ k) (h2 : k ≤ 17) (a b : Int32) (hb : k = 11 ∨ k = 12 → b ≠ 0) : ∃ z, (∀ C, fX6_calculate_45 C (nI k) b a = fX6_pushInt C z) ∧ ∀ D q, fX12_reckon_36 D q (nI k) b a = (fX12_push D z.toInt64).bind fun r4 => (fX12_next r4).bind fun r7 => some r7 := by
  have : k = 8 ∨ k = 9 ∨ k = 10 ∨ k = 11 ∨ k = 12 ∨ k = 13 ∨ k = 14 ∨ k = 15 ∨ k = 16 ∨ k = 17 := by omega
  rcases this with rfl | rfl | rfl | rfl | rfl | rfl | rfl | rfl | rfl | rfl
  · refine ⟨a + b, fun C => ?_, fun D q => ?_⟩
    · simp (decide := true) only [fX6_calculate_45, if_true, if_false, o_bs]
    · simp (decide := true) only [fX12_reckon_36, if_true, if_false, Option.bind_some]
  · refine ⟨a - b, fun C => ?_, fun D q => ?_⟩
    · simp (decide := true) only [fX6_calculate_45, if_true, if_false, o_bs]
    · simp (decide := true) only [fX12_reckon_36, if_true, if_false, Option.bind_some]
  · refine ⟨a * b, fun C => ?_, fun D q => ?_⟩
    · simp (decide := true) only [fX6_calculate_45, if_true, if_false, o_bs]
    · simp (decide := true) only [fX12_reckon_36, if_true, if_false, Option.bind_some]
  · have hb := hb (Or.inl rfl)
    refine ⟨a / b, fun C => ?_, fun D q => ?_⟩
    · simp (decide := true) only [fX6_calculate_45, if_true, if_false, o_bs, hb, not_false_eq_true]
    · simp (decide := true) only [fX12_reckon_36, if_true, if_false, Option.bind_some, hb, not_false_eq_true]
  · have hb := hb (Or.inr rfl)
    refine ⟨a - a / b * b, fun C => ?_, fun D q => ?_⟩
    · simp (decide := true) only [fX6_calculate_45, if_true, if_false, o_bs, hb, not_false_eq_true]
    · simp (decide := true) only [fX12_reckon_36, if_true, if_false, Option.bind_some, hb, not_false_eq_true]
  · refine ⟨a &&& b, fun C => ?_, fun D q => ?_⟩
    · simp (decide := true) only [fX6_calculate_45, if_true, if_false, o_bs]
    · simp (decide := true) only [fX12_reckon_36, if_true, if_false, Option.bind_some]
  · refine ⟨a ||| b, fun C => ?_, fun D q => ?_⟩
    · simp (decide := true) only [fX6_calculate_45, if_true, if_false, o_bs]
    · simp (decide := true) only [fX12_reckon_36, if_true, if_false, Option.bind_some]
  · refine ⟨a ^^^ b, fun C => ?_, fun D q => ?_⟩
    · simp (decide := true) only [fX6_calculate_45, if_true, if_false, o_bs]
    · simp (decide := true) only [fX12_reckon_36, if_true, if_false, Option.bind_some]
  · refine ⟨a <<< (b &&& 31), fun C => ?_, fun D q => ?_⟩
    · simp (decide := true) only [fX6_calculate_45, if_true, if_false, o_bs]
    · simp (decide := true) only [fX12_reckon_36, if_true, if_false, Option.bind_some, i32_and31]
  · refine ⟨a >>> (b &&& 31), fun C => ?_, fun D q => ?_⟩
    · simp (decide := true) only [fX6_calculate_45, if_true, if_false, o_bs]
    · simp (decide := true) only [fX12_reckon_36, if_true, if_false, Option.bind_some, i32_and31]
section ZRK
variable {p q n m : Nat} {g : ZT} {K : ZK} {M : ZM} {P : ZP} {hh : Nat → Nat → Int32} {R : Nat → Nat → Bool} {T : Nat → Nat → Nat → Nat} {Cx Dx C D : QS} {d i k : Nat} {h : Nat → Nat} {V : Nat → Nat → Nat × Int32} {pa pd : Nat → Nat} {H H' : ZH} {X : ZX} {to pl : Nat}
/-- an error inside of a step -/
theorem r_M.raise {C1 D1 : QS} {hk : Nat} (Z : r_M p q n g K M P m hh R T Cx Dx d h V pa pd H X pl i C D) {x : Nat} (x2 : 2 ≤ x) (x7 : x ≤ 7) (IC : rC p Cx d (k_up h d hk) V pa H X 0 i C1) (ID : rD q Dx d (k_up h d hk) V pd H X pl D1) : r_res p q K M P hh R T Cx Dx X.sp ((fX6_raise C1 (nI x)).bind (r_pu p)) (fX12_raise D1 q (nI (x - 2)) (nI i)) :=
  r_raise Z.W Z.B Z.hc x2 x7 IC ID Z.t.1 Z.t.2.1 (fun s hs => Z.t.2.2.2 s (by omega)) (fun f hf => by rw [k_up_ne (by omega)]; exact Z.lo f hf) Z.ei Z.el Z.oc
theorem r_M.int (Z : r_M p q n g K M P m hh R T Cx Dx d h V pa pd H X pl i C D) (h2 : P.op i ≠ 2) (h4 : P.op i ≠ 4) (h43 : P.op i ≠ 43) {j : Nat} (hj : j < k_tk M P i) (e : k_told M P i j = 66) : (V d (12 + h d - k_tk M P i + j)).1 = 66 := by
  obtain ⟨-, -, -, t⟩ := Z.t.told Z.W Z.B h2 h4 h43
  have := t j hj
  rw [e] at this
  exact k_fit66.mp this
theorem r_M.ref (Z : r_M p q n g K M P m hh R T Cx Dx d h V pa pd H X pl i C D) (h2 : P.op i ≠ 2) (h4 : P.op i ≠ 4) (h43 : P.op i ≠ 43) {j : Nat} (hj : j < k_tk M P i) (e : k_told M P i j ≤ 65) : ∃ o, o ≤ H.n ∧ V d (12 + h d - k_tk M P i + j) = (r_th H o, nI o) ∧ k_blw K (r_th H o) (k_told M P i j) = true := by
  obtain ⟨t1, -, -, t⟩ := Z.t.told Z.W Z.B h2 h4 h43
  have := t j hj
  rw [k_fit, if_neg (by omega)] at this
  obtain ⟨v1, -⟩ := Z.t.2.2.2 (12 + h d - k_tk M P i + j) (by omega)
  obtain ⟨o, o1, o2⟩ := v1.ref (r_blw65 this e)
  rw [o2] at this
  exact ⟨o, o1, o2, this⟩
theorem r_op18 (Z : r_M p q n g K M P m hh R T Cx Dx d h V pa pd H X pl i C D) (hop : P.op i = 18) : r_res p q K M P hh R T Cx Dx X.sp ((fX6_calculate C 18).bind (r_pu p)) (fX12_step D q (nI i)) := by
  obtain ⟨i1, c1, d1, d2, d3⟩ := Z.rdD
  obtain ⟨k1, k2⟩ := k_tk_at (M := M) 18 hop (by decide) (by decide)
  have k1 : k_tk M P i = 1 := k1
  have k2 : k_lv M P i = 1 := k2
  have h8 := Z.t.h8 Z.W
  obtain ⟨j, hj⟩ : ∃ j, h d = j + 1 := ⟨h d - 1, by omega⟩
  obtain ⟨HC, HD⟩ := Z.hk
  rw [hj] at HC HD
  have v66 := Z.int (j := 0) (by omega) (by omega) (by omega) (by omega) (k_told66 (by omega))
  rw [k1, show 12 + h d - 1 + 0 = 12 + j by omega] at v66
  obtain ⟨C1, c, e1, ec, IC1, -⟩ := HC.popN Z.W.hp
  have ec := ec (by omega)
  obtain ⟨D1, e2, ID1⟩ := HD.popN Z.W.hq
  obtain ⟨C2, e3, IC2⟩ := IC1.pushIntN Z.W.hp (by omega) (-c)
  obtain ⟨D2, e4, ID2⟩ := ID1.pushN Z.W.hq (by omega) (x := (66, -c)) (w := (-c).toInt64) rfl
  obtain ⟨r, r1, r2⟩ := Z.ty1 (v := r_uv V d (12 + j) (66, -c) d) (by omega) (by omega) (by omega) (by omega) (by omega) k2 (r_up.refl H) (fun s hs => r_uv_s (by omega)) (by
    rw [k1, show h d - 1 = j by omega, r_uv_eq, k_lf]
    simp only [hop]
    exact ⟨Or.inl rfl, k_blw_refl _⟩)
  refine Z.fin1 (by rw [hop]; rfl) ?_ ?_ IC2 ID2 (fun f hf => ⟨k_up_ne (by omega), r_uv_F (by omega)⟩) r1 (by rw [k_up_eq]; omega) (by rw [k_up_eq, show j + 1 = h d - k_tk M P i + k_lv M P i by omega]; exact r2)
  · simp only [fX6_calculate, e1, Option.bind_some, if_true, e3]
  · have hD : D.2.1 (q + 15) i = 18 := by rw [d1, hop]; rfl
    have eb : (r_e (V d (12 + j))).toInt32 = c := by rw [r_e_i v66, i64_back, ec]
    simp (decide := true) only [fX12_step, i1, if_true, if_false, c1, hD, e2, eb, e4, Option.bind_some]
theorem r_op8 (Z : r_M p q n g K M P m hh R T Cx Dx d h V pa pd H X pl i C D) (h1 : 8 ≤ P.op i) (h2 : P.op i ≤ 17) : r_res p q K M P hh R T Cx Dx X.sp ((fX6_calculate C (nI (P.op i))).bind (r_pu p)) (fX12_step D q (nI i)) := by
  obtain ⟨i1, c1, d1, d2, d3⟩ := Z.rdD
  obtain ⟨k1, k2⟩ : k_tk M P i = 2 ∧ k_lv M P i = 1 := by
    obtain ⟨a, b⟩ := k_tk_at (M := M) (P.op i) rfl (by omega) (by omega)
    have : ∀ x : Fin 18, 8 ≤ x.1 → tb_T.getD x 0 = 2 ∧ tb_L.getD x 0 = 1 := by decide
    have := this ⟨P.op i, by omega⟩ h1
    exact ⟨a.trans this.1, b.trans this.2⟩
  have h8 := Z.t.h8 Z.W
  obtain ⟨j, hj⟩ : ∃ j, h d = j + 1 + 1 := ⟨h d - 2, by omega⟩
  obtain ⟨HC, HD⟩ := Z.hk
  rw [hj] at HC HD
  have va := Z.int (j := 0) (by omega) (by omega) (by omega) (by omega) (k_told66 (by omega))
  have vb := Z.int (j := 1) (by omega) (by omega) (by omega) (by omega) (k_told66 (by omega))
  rw [k1, show 12 + h d - 2 + 0 = 12 + j by omega] at va
  rw [k1, show 12 + h d - 2 + 1 = 12 + (j + 1) by omega] at vb
  obtain ⟨C1, b, e1, eb, IC1, -⟩ := HC.popN Z.W.hp
  have eb := eb (by omega)
  obtain ⟨C2, a, e2, ea, IC2, -⟩ := IC1.popN Z.W.hp
  have ea := ea (by omega)
  obtain ⟨D1, f1, ID1⟩ := HD.popN Z.W.hq
  obtain ⟨D2, f2, ID2⟩ := ID1.popN Z.W.hq
  have wb : (r_e (V d (12 + (j + 1)))).toInt32 = b := by rw [r_e_i vb, i64_back, eb]
  have wa : (r_e (V d (12 + j))).toInt32 = a := by rw [r_e_i va, i64_back, ea]
  have hop46 : P.op i < 46 := by omega
  have e18 : (nI (P.op i) = 18) = (P.op i = 18) := z_nk46 hop46 (m := 18) (by omega)
  have e11 : (nI (P.op i) = 11) = (P.op i = 11) := z_nk46 hop46 (m := 11) (by omega)
  have e12 : (nI (P.op i) = 12) = (P.op i = 12) := z_nk46 hop46 (m := 12) (by omega)
  have eD : fX12_step D q (nI i) = fX12_reckon D q (nI (P.op i)) (nI i) := by
    have ex : ∀ m, m < 100 → (nI (P.op i) = nI m) = (P.op i = m) := fun m hm => z_nk46 hop46 hm
    have l8 : (nI (P.op i) < 8) = (P.op i < 8) := by rw [show (8 : Int32) = nI 8 from rfl, z_ltN (by omega) (by decide)]
    have l17 : ((17 : Int32) < nI (P.op i)) = (17 < P.op i) := by rw [show (17 : Int32) = nI 17 from rfl, z_ltN (by decide) (by omega)]
    simp only [fX12_step, i1, if_true, c1, d1, show (nI (P.op i) = 0) = (P.op i = 0) from ex 0 (by decide), show (nI (P.op i) = 1) = (P.op i = 1) from ex 1 (by decide), show (nI (P.op i) = 2) = (P.op i = 2) from ex 2 (by decide), show (nI (P.op i) = 3) = (P.op i = 3) from ex 3 (by decide), show (nI (P.op i) = 4) = (P.op i = 4) from ex 4 (by decide), show (nI (P.op i) = 5) = (P.op i = 5) from ex 5 (by decide), show (nI (P.op i) = 6) = (P.op i = 6) from ex 6 (by decide), show (nI (P.op i) = 7) = (P.op i = 7) from ex 7 (by decide), e18, show (nI (P.op i) = 19) = (P.op i = 19) from ex 19 (by decide), show (nI (P.op i) = 44) = (P.op i = 44) from ex 44 (by decide), show (nI (P.op i) = 45) = (P.op i = 45) from ex 45 (by decide), l8, l17]
    simp (disch := omega) only [if_neg, o_bs]
  have eC : fX6_calculate C (nI (P.op i)) = if P.op i = 11 ∨ P.op i = 12 then fX6_calculate_35 C2 (nI (P.op i)) b a else fX6_calculate_45 C2 (nI (P.op i)) b a := by
    simp only [fX6_calculate, e1, Option.bind_some, e18, if_neg (show ¬ P.op i = 18 by omega), e2, e11, e12]
    by_cases c : P.op i = 11
    · rw [if_pos c, if_pos (Or.inl c)]
    · rw [if_neg c]
      by_cases c' : P.op i = 12
      · rw [if_pos c', if_pos (Or.inr c')]
      · rw [if_neg c', if_neg (by omega)]
  have eD2 : fX12_reckon D q (nI (P.op i)) (nI i) = if P.op i = 11 ∨ P.op i = 12 then fX12_reckon_25 D2 q (nI (P.op i)) (nI i) b a else fX12_reckon_36 D2 q (nI (P.op i)) b a := by
    simp only [fX12_reckon, f1, f2, Option.bind_some, wa, wb, e11, e12]
    by_cases c : P.op i = 11
    · rw [if_pos c, if_pos (Or.inl c)]
    · rw [if_neg c]
      by_cases c' : P.op i = 12
      · rw [if_pos c', if_pos (Or.inr c')]
      · rw [if_neg c', if_neg (by omega)]
  have good : (P.op i = 11 ∨ P.op i = 12 → b ≠ 0) → r_res p q K M P hh R T Cx Dx X.sp ((fX6_calculate_45 C2 (nI (P.op i)) b a).bind (r_pu p)) (fX12_reckon_36 D2 q (nI (P.op i)) b a) := by
    intro hb
    obtain ⟨z, z1, z2⟩ := r_calc h1 h2 a b hb
    obtain ⟨C3, e3, IC3⟩ := IC2.pushIntN Z.W.hp (by omega) z
    obtain ⟨D3, f3, ID3⟩ := ID2.pushN Z.W.hq (by omega) (x := (66, z)) (w := z.toInt64) rfl
    obtain ⟨r, r1, r2⟩ := Z.ty1 (v := r_uv V d (12 + j) (66, z) d) (by omega) (by omega) (by omega) (by omega) (by omega) k2 (r_up.refl H) (fun s hs => r_uv_s (by omega)) (by
      rw [k1, show h d - 2 = j by omega, r_uv_eq, k_lf, if_neg (by omega), if_neg (by omega), if_neg (by omega), if_neg (by omega)]
      exact ⟨Or.inl rfl, k_blw_refl _⟩)
    refine Z.fin1 (by rw [k_nx]; simp only [Bool.not_eq_true', decide_eq_false_iff_not]; omega) ?_ ?_ IC3 ID3 (fun f hf => ⟨k_up_ne (by omega), r_uv_F (by omega)⟩) r1 (by rw [k_up_eq]; omega) (by rw [k_up_eq, show j + 1 = h d - k_tk M P i + k_lv M P i by omega]; exact r2)
    · rw [z1, e3]
    · rw [z2, f3, Option.bind_some]
  rw [eD, eD2, eC]
  by_cases c : P.op i = 11 ∨ P.op i = 12
  · rw [if_pos c, if_pos c, fX6_calculate_35, fX12_reckon_25]
    by_cases c0 : b = 0
    · rw [if_pos c0, if_pos c0, o_bs, o_bs]
      exact Z.raise (x := 5) (by decide) (by decide) IC2 ID2
    · rw [if_neg c0, if_neg c0]; exact good (fun _ => c0)
  · rw [if_neg c, if_neg c]; exact good (fun h => absurd h c)
/-- the end of a branch -/
theorem r_M.fin2 {C1 D1 : QS} {hk : Nat} {z : Bool} {c c' : Option QS} (Z : r_M p q n g K M P m hh R T Cx Dx d h V pa pd H X pl i C D) (hn : 20 ≤ P.op i) (hn2 : P.op i ≤ 29) (hl : k_lv M P i = 0) (IC : rC p Cx d (k_up h d hk) V pa H X 0 i C1) (ID : rD q Dx d (k_up h d hk) V pd H X pl D1) (ek : hk = h d - k_tk M P i) (ec : c = if z = true then some (q_sI C1 98 d (P.xa i)) else some C1) (ed : c' = if z = true then some (q_sI D1 175 d (P.ya i)) else (fX12_next D1).bind fun r => some r) : r_res p q K M P hh R T Cx Dx X.sp (c.bind (r_pu p)) c' := by
  obtain ⟨hb, h1, h2⟩ := Z.W.in Z.t.1
  obtain ⟨r, r1, r2⟩ := Z.ty0 (v := V d) (by omega) (by omega) (by omega) (by omega) (by omega) hl (r_up.refl H) (fun s hs => rfl)
  have e0 : h d - k_tk M P i + k_lv M P i = hk := by omega
  cases z with
  | false =>
    rw [if_neg (by decide)] at ec ed
    exact Z.fin1 (by rw [k_nx]; simp only [Bool.not_eq_true', decide_eq_false_iff_not]; omega) ec ed IC ID (fun f hf => ⟨k_up_ne (by omega), rfl⟩) r1 (by rw [k_up_eq]; omega) (by rw [k_up_eq, ← e0]; exact r2)
  | true =>
    rw [if_pos rfl] at ec ed
    have lb : k_lb (P.op i) = true := by rw [k_lb, decide_eq_true_eq]; omega
    obtain ⟨t1, t2, t3, t4⟩ := k_lb_in Z.W.N hb h1 h2 lb
    rw [t3] at ec
    rw [t4] at ed
    have t' := r_tf.go (H := H) (v := V d) (hf := hk) Z.W Z.t.1 Z.t.2.1 (j := k_tg P i) (Or.inr ⟨lb, rfl⟩) r1 (by rw [ek, hl, Z.t.2.2.1]; rfl) (by rw [← e0]; exact r2)
    exact Z.fin ec ed (IC.jump Z.W.hp _) (ID.jump Z.W.hq _) (by rw [k_up_eq]; exact t') (by rw [k_up_eq]) (by rw [k_up_eq]) (fun f hf => ⟨k_up_ne (by omega), rfl, k_up_ne (by omega), k_up_ne (by omega)⟩) ((Z.W.N.B _ hb).bd _ t1 t2) (r_up.refl H) Z.B Z.hc Z.oc rfl
end ZRK
