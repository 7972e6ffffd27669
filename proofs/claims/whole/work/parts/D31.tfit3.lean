/-! ===== types: the reference's look at a row ===== -/
section ZTF3
variable {C D : QS} {n p q m b : Nat} {g : ZT} {K : ZK} {M : ZM} {P : ZP} {hh : Nat → Int32} {R : Nat → Bool} {T : Nat → Nat → Nat}
theorem z_bt (x : Bool) (D : QS) (A : Prop) (h : x = true ↔ A) : ∃ y, some (x, D) = some (y, D) ∧ (y = true ↔ A) := ⟨x, rfl, h⟩
theorem z_if2 {c A : Prop} [Decidable c] (D : QS) (h : c ↔ A) : ∃ y, (if c then some (true, D) else some (false, D)) = some (y, D) ∧ (y = true ↔ A) := by
  by_cases x : c
  · rw [if_pos x]; exact ⟨true, rfl, ⟨fun _ => h.mp x, fun _ => rfl⟩⟩
  · rw [if_neg x]; exact ⟨false, rfl, ⟨(fun h => by cases h), fun a => absurd (h.mpr a) x⟩⟩
theorem z_if3 {c d A : Prop} [Decidable c] [Decidable d] (D : QS) (h : c ∧ d ↔ A) : ∃ y, (if c then if d then some (true, D) else some (false, D) else some (false, D)) = some (y, D) ∧ (y = true ↔ A) := by
  by_cases x : c
  · rw [if_pos x]; exact z_if2 D ⟨fun a => h.mp ⟨x, a⟩, fun a => (h.mpr a).2⟩
  · rw [if_neg x]; exact ⟨false, rfl, ⟨(fun h => by cases h), fun a => absurd (h.mpr a).1 x⟩⟩
theorem z_fits12 {i : Nat} (hp : z_pp p) (hq : z_qq q) (hK : k_K g K) (ok : h_ok M P b hh) (hb : b < M.bc) (I : rt_I p q n g K M P m b hh C D R T) (h1 : P.fi b ≤ i) (h2 : i < P.en b) (hR : R i = true) : ∃ D', rt_I p q n g K M P m b hh C D' R T ∧ rt_f q (P.fi b) (P.en b) D D' ∧ ∃ x, fX12_fits D q (nI i) = some (x, D') ∧ (x = true ↔ k_ft K M P hh i (T i)) := by
  have hle := (I.N.B b hb).le
  have bn := I.N.S.bn
  have hi : i < P.n := by omega
  obtain ⟨D1, r1, I1, f1, r2, r3⟩ := z_rtAt hp hq ok hb I h1 h2 hR
  refine ⟨D1, I1, f1, ?_⟩
  obtain ⟨hH, hv⟩ := I1.v i h1 h2 hR
  obtain ⟨a1, a2, a3, a4⟩ := hH
  have N := I1.N
  have w := N.S.wI i hi
  have hop := w.op
  have h48 := N.S.mJ.mB.1
  have f48 := N.S.mJ.mF.1
  have h32 := hK.2.1
  have h8 := hK.1
  have hw : k_wd hh i = 12 + k_hN hh i := rfl
  obtain ⟨y1, y2, y3, -, y5⟩ := N.S.iD i hi
  have i1 := z_inbN (show i < 1024 by omega) (by decide)
  have c1 := z_cl (show i < 2147483648 by omega)
  have tk12 := (k_tk_le N.S hi).1
  generalize hr : T i = r at hv r2 ⊢
  have hl : ∀ s, s < k_wd hh i → r s ≤ 67 := fun s hs => k_vt_lt hK (hv s hs)
  obtain ⟨v9, b9, g9⟩ : ∃ v9, (if nI (k_tk M P i) ≤ 0 then some (2 : Int32) else if q_inb (nI (k_wd hh i) - (1 : Int32)) 24 = true then some (D1.2.1 171 (nI (k_wd hh i) - (1 : Int32)).toNatClampNeg) else none) = some v9 ∧ (1 ≤ k_tk M P i → v9 = k_y (r (k_wd hh i - 1))) := by
    have le : (nI (k_tk M P i) ≤ (0 : Int32)) = (k_tk M P i ≤ 0) := by rw [show (0 : Int32) = nI 0 from rfl, z_leN (by omega) (by decide)]
    simp only [le]
    by_cases c : k_tk M P i ≤ 0
    · rw [if_pos c]; exact ⟨2, rfl, fun h => by omega⟩
    · rw [if_neg c, show (1 : Int32) = nI 1 from rfl, z_subN (by omega), if_pos (z_inbN (show k_wd hh i - 1 < 24 by omega) (by decide)), z_cl (by omega), r2 _ (by omega)]
      exact ⟨_, rfl, fun _ => rfl⟩
  obtain ⟨v11, b11, g11⟩ : ∃ v11, (if nI (k_tk M P i) ≤ (1 : Int32) then some (2 : Int32) else if q_inb (nI (k_wd hh i) - (2 : Int32)) 24 = true then some (D1.2.1 171 (nI (k_wd hh i) - (2 : Int32)).toNatClampNeg) else none) = some v11 ∧ (2 ≤ k_tk M P i → v11 = k_y (r (k_wd hh i - 2))) := by
    have le : (nI (k_tk M P i) ≤ (1 : Int32)) = (k_tk M P i ≤ 1) := by rw [show (1 : Int32) = nI 1 from rfl, z_leN (by omega) (by decide)]
    simp only [le]
    by_cases c : k_tk M P i ≤ 1
    · rw [if_pos c]; exact ⟨2, rfl, fun h => by omega⟩
    · rw [if_neg c, show (2 : Int32) = nI 2 from rfl, z_subN (by omega), if_pos (z_inbN (show k_wd hh i - 2 < 24 by omega) (by decide)), z_cl (by omega), r2 _ (by omega)]
      exact ⟨_, rfl, fun _ => rfl⟩
  have e : ∀ m, m < 100 → (nI (P.op i) = nI m) = (P.op i = m) := fun m hm => z_nk46 hop hm
  have e2 : (nI (P.op i) = 2) = (P.op i = 2) := e 2 (by decide)
  have e4 : (nI (P.op i) = 4) = (P.op i = 4) := e 4 (by decide)
  have e18 : (nI (P.op i) = 18) = (P.op i = 18) := e 18 (by decide)
  have e31 : (nI (P.op i) = 31) = (P.op i = 31) := e 31 (by decide)
  have e45 : (nI (P.op i) = 45) = (P.op i = 45) := e 45 (by decide)
  have e26 : (nI (P.op i) = 26) = (P.op i = 26) := e 26 (by decide)
  have e27 : (nI (P.op i) = 27) = (P.op i = 27) := e 27 (by decide)
  have e28 : (nI (P.op i) = 28) = (P.op i = 28) := e 28 (by decide)
  have e29 : (nI (P.op i) = 29) = (P.op i = 29) := e 29 (by decide)
  have e37 : (nI (P.op i) = 37) = (P.op i = 37) := e 37 (by decide)
  have e38 : (nI (P.op i) = 38) = (P.op i = 38) := e 38 (by decide)
  have e32 : (nI (P.op i) = 32) = (P.op i = 32) := e 32 (by decide)
  have e33 : (nI (P.op i) = 33) = (P.op i = 33) := e 33 (by decide)
  have e34 : (nI (P.op i) = 34) = (P.op i = 34) := e 34 (by decide)
  have e35 : (nI (P.op i) = 35) = (P.op i = 35) := e 35 (by decide)
  have e36 : (nI (P.op i) = 36) = (P.op i = 36) := e 36 (by decide)
  have e39 : (nI (P.op i) = 39) = (P.op i = 39) := e 39 (by decide)
  have e40 : (nI (P.op i) = 40) = (P.op i = 40) := e 40 (by decide)
  have e41 : (nI (P.op i) = 41) = (P.op i = 41) := e 41 (by decide)
  have e42 : (nI (P.op i) = 42) = (P.op i = 42) := e 42 (by decide)
  have e43 : (nI (P.op i) = 43) = (P.op i = 43) := e 43 (by decide)
  have l8 : (nI (P.op i) < 8) = (P.op i < 8) := by rw [show (8 : Int32) = nI 8 from rfl, z_ltN (by omega) (by decide)]
  have l20 : (nI (P.op i) < 20) = (P.op i < 20) := by rw [show (20 : Int32) = nI 20 from rfl, z_ltN (by omega) (by decide)]
  have l25 : ((25 : Int32) < nI (P.op i)) = (25 < P.op i) := by rw [show (25 : Int32) = nI 25 from rfl, z_ltN (by decide) (by omega)]
  have l17 : (nI (P.op i) ≤ 17) = (P.op i ≤ 17) := by rw [show (17 : Int32) = nI 17 from rfl, z_leN (by omega) (by decide)]
  simp only [fX12_fits, r1, Option.bind_some, i1, if_true, c1, z_howMany N.S hi, r3, y1, y2, y3, y5, e2, e4, e18, e31, e45, e26, e27, e28, e29, e37, e38, e32, e33, e34, e35, e36, e39, e40, e41, e42, e43, l8, l20, l25, l17]
  rw [b9]
  simp only [Option.bind_some]
  rw [b11]
  simp only [Option.bind_some]
  by_cases q2 : P.op i = 2
  · obtain ⟨x1, x2, x3⟩ := k_xa_12 N hi (Or.inl q2)
    rw [if_pos q2, x3, if_pos (z_inbN (show k_xa P i < 24 by omega) (by decide)), z_cl (show k_xa P i < 2147483648 by omega), r2 _ (by omega)]
    simp only [k_y_2 (hl (k_xa P i) (by omega)), k_ft, if_pos q2]
    by_cases c : r (k_xa P i) = 67
    · rw [if_pos c]; exact ⟨false, rfl, ⟨(fun h => by cases h), fun h => absurd c h⟩⟩
    · rw [if_neg c]; exact ⟨true, rfl, ⟨fun _ => c, fun _ => rfl⟩⟩
  rw [if_neg q2]
  by_cases q4 : P.op i = 4
  · obtain ⟨x1, x2, x3⟩ := k_xa_12 N hi (Or.inr (Or.inr q4))
    rw [if_pos q4, x3, if_pos (z_inbN (show k_xa P i < 24 by omega) (by decide)), z_cl (show k_xa P i < 2147483648 by omega), r2 _ (by omega)]
    simp only [k_y_0 (hl (k_xa P i) (by omega)), k_ft, if_neg q2, if_pos q4]
    exact z_if2 _ Iff.rfl
  rw [if_neg q4]
  by_cases qA : P.op i = 18 ∨ P.op i = 31 ∨ P.op i = 45
  · have t1 : k_tk M P i = 1 := by
      rcases qA with c | c | c
      · exact (k_tk_at (M := M) 18 c (by decide) (by decide)).1
      · exact (k_tk_at (M := M) 31 c (by decide) (by decide)).1
      · exact (k_tk_at (M := M) 45 c (by decide) (by decide)).1
    rw [if_pos qA, g9 (by omega)]
    simp only [k_y_0 (hl (k_wd hh i - 1) (by omega))]
    refine z_if2 _ ?_
    rw [k_ft_1 q2 q4 (by omega) (by omega) t1 (by omega), k_told66 (by omega), k_fit66]
  rw [if_neg qA]
  by_cases qB : P.op i = 26 ∨ P.op i = 27 ∨ P.op i = 37 ∨ P.op i = 38
  · have t1 : k_tk M P i = 1 := by
      rcases qB with c | c | c | c
      · exact (k_tk_at (M := M) 26 c (by decide) (by decide)).1
      · exact (k_tk_at (M := M) 27 c (by decide) (by decide)).1
      · exact (k_tk_at (M := M) 37 c (by decide) (by decide)).1
      · exact (k_tk_at (M := M) 38 c (by decide) (by decide)).1
    rw [if_pos qB, g9 (by omega), z_isRef (hl _ (by omega)), Option.bind_some]
    refine z_bt _ _ _ ?_
    rw [k_ft_1 q2 q4 (by omega) (by omega) t1 (by omega), k_told0 (by omega), k_fit0 (hl _ (by omega)), decide_eq_true_eq]
  rw [if_neg qB]
  by_cases qC : P.op i = 28 ∨ P.op i = 29
  · have t1 : k_tk M P i = 2 := by
      rcases qC with c | c
      · exact (k_tk_at (M := M) 28 c (by decide) (by decide)).1
      · exact (k_tk_at (M := M) 29 c (by decide) (by decide)).1
    rw [if_pos qC, g9 (by omega), g11 (by omega), z_isRef (hl _ (by omega)), z_isRef (hl _ (by omega))]
    simp only [Option.bind_some, decide_eq_true_eq]
    refine z_if3 _ ?_
    rw [k_ft_2 q2 q4 (by omega) (by omega) t1 (by omega), k_told0 (by omega), k_told0 (by omega), k_fit0 (hl _ (by omega)), k_fit0 (hl _ (by omega))]
    exact And.comm
  rw [if_neg qC]
  by_cases q32 : P.op i = 32
  · have t1 : k_tk M P i = 1 := (k_tk_at (M := M) 32 q32 (by decide) (by decide)).1
    have td : k_told M P i 0 = 69 := by rw [k_told, if_neg (by omega), if_neg (by omega), if_pos q32]
    rw [if_pos q32, g9 (by omega), z_isArr12 (hl _ (by omega))]
    simp only [Option.bind_some, k_y_1 (hl (k_wd hh i - 1) (by omega)), Bool.and_eq_true, decide_eq_true_eq]
    rw [k_ft_1 q2 q4 (by omega) (by omega) t1 (by omega), td, k_fit69, k_ar_iff]
    by_cases c : r (k_wd hh i - 1) = 65
    · rw [if_pos c]; exact ⟨true, rfl, ⟨fun _ => Or.inl c, fun _ => rfl⟩⟩
    · rw [if_neg c]
      exact z_if2 _ ⟨fun h => Or.inr h, fun h => h.resolve_left c⟩
  rw [if_neg q32]
  by_cases q33 : P.op i = 33
  · have t1 : k_tk M P i = 2 := (k_tk_at (M := M) 33 q33 (by decide) (by decide)).1
    have td : k_told M P i 0 = 69 := by rw [k_told, if_neg (by omega), if_neg (by omega), if_neg (by omega), if_pos q33, if_pos rfl]
    have td1 : k_told M P i 1 = 66 := by rw [k_told, if_neg (by omega), if_neg (by omega), if_neg (by omega), if_pos q33, if_neg (by decide)]
    rw [if_pos q33, g9 (by omega), g11 (by omega), z_isArr12 (hl _ (by omega))]
    simp only [Option.bind_some, k_y_0 (hl (k_wd hh i - 1) (by omega)), k_y_1 (hl (k_wd hh i - 2) (by omega)), Bool.and_eq_true, decide_eq_true_eq]
    rw [k_ft_2 q2 q4 (by omega) (by omega) t1 (by omega), td, td1, k_fit69, k_ar_iff, k_fit66]
    by_cases c0 : r (k_wd hh i - 1) = 66
    · rw [if_pos c0]
      by_cases c : r (k_wd hh i - 2) = 65
      · rw [if_pos c]; exact ⟨true, rfl, ⟨fun _ => ⟨Or.inl c, c0⟩, fun _ => rfl⟩⟩
      · rw [if_neg c]
        exact z_if2 _ ⟨fun h => ⟨Or.inr h, c0⟩, fun h => h.1.resolve_left c⟩
    · rw [if_neg c0]; exact ⟨false, rfl, ⟨(fun h => by cases h), fun h => absurd h.2 c0⟩⟩
  rw [if_neg q33]
  by_cases q34 : P.op i = 34
  · have t1 : k_tk M P i = 3 := (k_tk_at (M := M) 34 q34 (by decide) (by decide)).1
    have td : ∀ j, k_told M P i j = if j = 0 then 69 else if j = 1 then 66 else 67 := fun j => by rw [k_told, if_neg (by omega), if_neg (by omega), if_neg (by omega), if_neg (by omega), if_pos q34]
    have hel : fX12_isElement D1 q (k_y (r (k_wd hh i - 3))) (k_y (r (k_wd hh i - 1))) = some (k_ar (r (k_wd hh i - 3)) && k_elm K (r (k_wd hh i - 1)) (r (k_wd hh i - 3))) := by
      have ha := hl (k_wd hh i - 3) (by omega)
      have hvv := hl (k_wd hh i - 1) (by omega)
      have va := hv (k_wd hh i - 3) (by omega)
      have vv := hv (k_wd hh i - 1) (by omega)
      simp only [fX12_isElement, k_y_1 ha, k_y_2 hvv, z_isArr12 ha, Option.bind_some, k_ar, k_elm]
      by_cases c : r (k_wd hh i - 3) = 65
      · rw [if_pos c, if_pos c, decide_eq_true c, Bool.true_or, Bool.true_and]
        by_cases c2 : r (k_wd hh i - 1) = 67
        · rw [if_pos c2, decide_eq_false (fun h => h c2)]
        · rw [if_neg c2, decide_eq_true c2]
      · rw [if_neg c, if_neg c, decide_eq_false c, Bool.false_or, z_elem12 ha c]
        simp only [Option.bind_some, z_isBelow12 hK N.S.mJ.kD vv (k_el_vt hK va c)]
        cases (decide (32 ≤ r (k_wd hh i - 3)) && decide (r (k_wd hh i - 3) ≤ 64)) with
        | false => rfl
        | true => cases k_blw K (r (k_wd hh i - 1)) (k_el (r (k_wd hh i - 3))) <;> rfl
    rw [if_pos q34, g9 (by omega), g11 (by omega), show (3 : Int32) = nI 3 from rfl, z_subN (show 3 ≤ k_wd hh i by omega), z_cl (show k_wd hh i - 3 < 2147483648 by omega), r2 _ (show k_wd hh i - 3 < k_wd hh i by omega), hel]
    simp only [z_inbN (show k_wd hh i - 3 < 24 by omega) (by decide), if_true, Option.bind_some, k_y_0 (hl (k_wd hh i - 2) (by omega)), Bool.and_eq_true]
    refine z_if3 _ ?_
    rw [k_ft, if_neg q2, if_neg q4, if_neg (show ¬ P.op i = 43 by omega), t1]
    constructor
    · rintro ⟨x1, x2, x3⟩
      refine ⟨fun j hj => ?_, fun _ => x3⟩
      rw [td]
      by_cases j0 : j = 0
      · rw [if_pos j0, j0, k_fit69]; exact x2
      · rw [if_neg j0]
        by_cases j1 : j = 1
        · rw [if_pos j1, j1, k_fit66, show k_wd hh i - 3 + 1 = k_wd hh i - 2 by omega]; exact x1
        · rw [if_neg j1]; exact k_fit67 _
    · rintro ⟨x1, x2⟩
      have y0 := x1 0 (by omega)
      have y1 := x1 1 (by omega)
      rw [td, if_pos rfl, k_fit69] at y0
      rw [td, if_neg (by decide), if_pos rfl, k_fit66, show k_wd hh i - 3 + 1 = k_wd hh i - 2 by omega] at y1
      exact ⟨y1, y0, x2 q34⟩
  rw [if_neg q34]
  by_cases q35 : P.op i = 35
  · have t1 : k_tk M P i = 1 := (k_tk_at (M := M) 35 q35 (by decide) (by decide)).1
    obtain ⟨f, cc, x1, x2, x3, x4, x5, -⟩ := w.oF (Or.inl q35)
    have td : k_told M P i 0 = cc := by rw [k_told, if_neg (by omega), if_neg (by omega), if_neg (by omega), if_neg (by omega), if_neg (by omega), if_pos q35, k_xb, x3, z_cl (by omega)]
    have e8 : (8 : Int32) + nI cc = k_y cc := by rw [k_y_c (by omega), show (8 : Int32) = nI 8 from rfl, nI_add, Nat.add_comm]
    rw [if_pos q35, g9 (by omega), x3, e8, z_isBelow12 hK N.S.mJ.kD (hv _ (by omega)) (Or.inl (Or.inl x5)), Option.bind_some]
    refine z_bt _ _ _ ?_
    rw [k_ft_1 q2 q4 (by omega) (by omega) t1 (by omega), td, k_fit, if_neg (by omega)]
  rw [if_neg q35]
  by_cases q36 : P.op i = 36
  · have t1 : k_tk M P i = 2 := (k_tk_at (M := M) 36 q36 (by decide) (by decide)).1
    obtain ⟨f, cc, x1, x2, x3, x4, x5, -⟩ := w.oF (Or.inr q36)
    have hft := N.S.mJ.ft f x4
    have hf66 := k_tok_lt hK hft
    have td : k_told M P i 0 = cc := by rw [k_told, if_neg (by omega), if_neg (by omega), if_neg (by omega), if_neg (by omega), if_neg (by omega), if_neg (by omega), if_pos q36, if_pos rfl, k_xb, x3, z_cl (by omega)]
    have td1 : k_told M P i 1 = M.ft f := by rw [k_told, if_neg (by omega), if_neg (by omega), if_neg (by omega), if_neg (by omega), if_neg (by omega), if_neg (by omega), if_pos q36, if_neg (by decide), k_xa, x1, z_cl (by omega)]
    have e8 : (8 : Int32) + nI cc = k_y cc := by rw [k_y_c (by omega), show (8 : Int32) = nI 8 from rfl, nI_add, Nat.add_comm]
    rw [if_pos q36, g9 (by omega), g11 (by omega), x3, e8, x2, z_cl (show f < 2147483648 by omega), (N.S.mJ.dF.2 f x4).2.2, z_isBelow12 hK N.S.mJ.kD (hv (k_wd hh i - 2) (by omega)) (Or.inl (Or.inl x5)), z_isBelow12 hK N.S.mJ.kD (hv (k_wd hh i - 1) (by omega)) (Or.inl hft)]
    simp only [Option.bind_some, z_inbN (show f < 48 by omega) (by decide), if_true]
    refine z_if3 _ ?_
    rw [k_ft_2 q2 q4 (by omega) (by omega) t1 (by omega), td, td1, k_fit, if_neg (by omega), k_fit, if_neg (by omega)]
  rw [if_neg q36]
  by_cases q39 : P.op i = 39 ∨ P.op i = 40
  · obtain ⟨f, cc, x1, x2, x3, x4, x5, -⟩ := w.oB q39
    have hfb' := k_fb_of (P := P) (by omega) x1
    have hba : k_tk M P i = M.ba f := by rw [k_tk, if_pos q39, hfb']
    obtain ⟨x, z1, z2⟩ := z_areArgs hK N.S hi q39 x1 x4 r3 (by omega) (by omega) r2 hv (k_tk M P i) 0 (by omega) (fun j hj => by omega)
    have hag : fX12_areArguments D1 q (nI i) (nI f) = some x := by
      simp only [fX12_areArguments, z_inbN (show f < 48 by omega) (by decide), if_true, z_cl (show f < 2147483648 by omega), (N.S.mJ.dB.2 f x4).2.2.2.1, ← hba]
      exact z1
    rw [if_pos q39, x1, hag, Option.bind_some]
    refine z_bt _ _ _ ?_
    rw [k_ft_o q2 q4 (by omega) (by omega)]
    exact z2
  rw [if_neg q39]
  by_cases q41 : P.op i = 41
  · have t1 : k_tk M P i = 1 := (k_tk_at (M := M) 41 q41 (by decide) (by decide)).1
    have td : k_told M P i 0 = 1 := by rw [k_told, if_neg (by omega), if_neg (by omega), if_neg (by omega), if_neg (by omega), if_neg (by omega), if_neg (by omega), if_neg (by omega), if_neg (by omega), if_neg (by omega), if_pos q41]
    have isb := z_isBelow12 hK N.S.mJ.kD (hv (k_wd hh i - 1) (by omega)) (show k_vt K 1 from Or.inl (Or.inl (by omega)))
    have e9 : k_y 1 = 9 := rfl
    rw [e9] at isb
    rw [if_pos q41, g9 (by omega), isb, Option.bind_some]
    refine z_bt _ _ _ ?_
    rw [k_ft_1 q2 q4 (by omega) (by omega) t1 (by omega), td, k_fit, if_neg (by decide)]
  rw [if_neg q41]
  have hbd := w.bd
  have hrg : M.br (P.bd i) < 69 := by
    rcases k_br_rng hK N.S.mJ hbd with h | h
    · omega
    · have := k_tok_lt hK h; omega
  by_cases q42 : P.op i = 42
  · have t1 : k_tk M P i = 1 := (k_tk_at (M := M) 42 q42 (by decide) (by decide)).1
    have td : k_told M P i 0 = M.br (P.bd i) := by rw [k_told, if_neg (by omega), if_neg (by omega), if_neg (by omega), if_neg (by omega), if_neg (by omega), if_neg (by omega), if_neg (by omega), if_neg (by omega), if_neg (by omega), if_neg (by omega), if_pos q42]
    rw [k_ft_1 q2 q4 (by omega) (by omega) t1 (by omega), td, k_fit, if_neg (show ¬ M.br (P.bd i) = 69 by omega)]
    rw [if_pos q42, g9 (by omega), if_pos (z_inbN (show P.bd i < 48 by omega) (by decide)), z_cl (show P.bd i < 2147483648 by omega), (N.S.mJ.dB.2 (P.bd i) hbd).2.2.2.2.1]
    simp only [k_y_m1 hrg]
    by_cases c : M.br (P.bd i) = 68
    · rw [if_pos c]
      refine ⟨false, rfl, ⟨(fun h => by cases h), fun h => ?_⟩⟩
      rw [c, k_blw_iff] at h
      have := hl (k_wd hh i - 1) (by omega)
      omega
    · have htok : k_tok K (M.br (P.bd i)) := (k_br_rng hK N.S.mJ hbd).resolve_left c
      simp only [if_neg c, z_inbN (show P.bd i < 48 by omega) (by decide), if_true, z_isBelow12 hK N.S.mJ.kD (hv (k_wd hh i - 1) (by omega)) (Or.inl htok), Option.bind_some]
      exact z_if2 _ Iff.rfl
  rw [if_neg q42]
  by_cases q43 : P.op i = 43
  · rw [if_pos q43, if_pos (z_inbN (show P.bd i < 48 by omega) (by decide)), z_cl (show P.bd i < 2147483648 by omega), (N.S.mJ.dB.2 (P.bd i) hbd).2.2.2.2.1]
    simp only [k_y_m1 hrg, k_ft, if_neg q2, if_neg q4, if_pos q43]
    exact z_if2 _ Iff.rfl
  rw [if_neg q43]
  have tkt : k_tk M P i = tb_T.getD (P.op i) 0 := by rw [k_tk, if_neg q39]
  have tt : ∀ k : Fin 46, ((8 ≤ k.1 ∧ k.1 ≤ 17) ∨ (20 ≤ k.1 ∧ k.1 ≤ 25) → tb_T.getD k 0 = 2) ∧ (k.1 = 0 ∨ k.1 = 1 ∨ k.1 = 19 ∨ k.1 = 30 ∨ k.1 = 44 → tb_T.getD k 0 = 0) := by decide +kernel
  have two : (8 ≤ P.op i ∧ P.op i ≤ 17) ∨ (20 ≤ P.op i ∧ P.op i ≤ 25) → ∃ y, (if v9 = 0 then if v11 = 0 then some (true, D1) else some (false, D1) else some (false, D1)) = some (y, D1) ∧ (y = true ↔ k_ft K M P hh i r) := by
    intro hh2
    have t2 : k_tk M P i = 2 := tkt.trans ((tt ⟨P.op i, hop⟩).1 hh2)
    rw [g9 (by omega), g11 (by omega)]
    simp only [k_y_0 (hl (k_wd hh i - 1) (by omega)), k_y_0 (hl (k_wd hh i - 2) (by omega))]
    refine z_if3 _ ?_
    rw [k_ft_2 q2 q4 q43 q34 t2 (by omega), k_told66 (by omega), k_told66 (by omega), k_fit66, k_fit66]
    exact And.comm
  have yes : (P.op i < 8 ∨ (17 < P.op i ∧ P.op i < 20) ∨ 25 < P.op i) → ∃ y, some (true, D1) = some (y, D1) ∧ (y = true ↔ k_ft K M P hh i r) := by
    intro hh2
    refine ⟨true, rfl, ⟨fun _ => ?_, fun _ => rfl⟩⟩
    by_cases c : P.op i = 3 ∨ P.op i = 5 ∨ P.op i = 6 ∨ P.op i = 7
    · rw [k_ft_o q2 q4 q43 q34]
      intro j hj
      rw [k_told67 c]; exact k_fit67 _
    · exact k_ft_0 q2 q4 q43 q34 (tkt.trans ((tt ⟨P.op i, hop⟩).2 (show P.op i = 0 ∨ P.op i = 1 ∨ P.op i = 19 ∨ P.op i = 30 ∨ P.op i = 44 by omega)))
  by_cases c8 : P.op i < 8
  · rw [if_pos c8, if_pos (show P.op i < 20 by omega)]
    exact yes (Or.inl c8)
  rw [if_neg c8]
  by_cases c17 : P.op i ≤ 17
  · rw [if_pos c17]; exact two (Or.inl ⟨by omega, c17⟩)
  rw [if_neg c17]
  by_cases c20 : P.op i < 20
  · rw [if_pos c20]; exact yes (Or.inr (Or.inl ⟨by omega, c20⟩))
  rw [if_neg c20]
  by_cases c25 : 25 < P.op i
  · rw [if_pos c25]; exact yes (Or.inr (Or.inr c25))
  rw [if_neg c25]
  exact two (Or.inr ⟨by omega, by omega⟩)
end ZTF3
