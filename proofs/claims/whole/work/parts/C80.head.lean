/-! ===== the head of a body ===== -/
section EHEAD
variable {g : ZT}
theorem e_params {l : Nat} {cs : List Int32} (ho : e_ok g) : ∀ m k, k + m = g.1 → e_st g k = (l, 80 :: cs) → ∃ e, k ≤ e ∧ e < g.1 ∧ (∀ i, k ≤ i → i < e → e_typ g i = true ∧ e_mark g i 41 = false ∧ e_kind g i = 53 ∧ e_st g i = (l, 80 :: cs)) ∧ e_mark g e 41 = true ∧ e_kind g e = 53 ∧ e_st g e = (l, 80 :: cs) ∧ e_st g (e + 1) = (l, cs) := by
  intro m
  induction m with
  | zero =>
    intro k hk h
    have := (e_atP ho (by omega) h).1
    omega
  | succ m ih =>
    intro k hk h
    obtain ⟨h1, h2, h3⟩ := e_atP ho (show k ≤ g.1 by omega) h
    rcases h3 with ⟨q1, q2⟩ | ⟨q1, q2, q3⟩
    · exact ⟨k, Nat.le_refl _, h1, fun i i1 i2 => by omega, q1, h2, h, q2⟩
    · obtain ⟨e, r1, r2, r3, r4⟩ := ih (k + 1) (by omega) q3
      refine ⟨e, by omega, r2, fun i i1 i2 => ?_, r4⟩
      by_cases x : i = k
      · rw [x]; exact ⟨q2, q1, h2, h⟩
      · exact r3 i (by omega) i2
/-- e is the end of the parameters of the body at t -/
def e_hd (g : ZT) (t e : Nat) : Prop := t + 3 ≤ e ∧ e + 3 < g.1 ∧ e_nam g (t + 1) 97 = true ∧ e_mark g (t + 2) 40 = true ∧ (∀ k, t + 3 ≤ k → k < e → e_typ g k = true ∧ e_mark g k 41 = false) ∧ e_mark g e 41 = true ∧ (e_typ g (e + 1) = true ∨ e_word g (e + 1) w_none = true) ∧ e_num g (e + 2) = true ∧ e_mark g (e + 3) 123 = true ∧ e_st g (e + 4) = (2, []) ∧ e_kind g t = (if e_word g t w_static = true then 50 else 51) ∧ (e_word g t w_static = false → e_word g t w_method = true) ∧ (∀ i, t < i → i < e + 4 → e_kind g i = 53 ∧ (e_st g i).1 = 1 ∧ (e_st g i).2 ≠ []) ∧ e_st g t = (1, [])
theorem e_head {t : Nat} (ho : e_ok g) (ht : t ≤ g.1) (h : e_st g t = (1, [])) (hm : e_mark g t 125 = false) (hf : e_word g t w_field = false) : ∃ e, e_hd g t e := by
  obtain ⟨a1, a2, a3, a4⟩ := e_at1 ho ht h hm
  have hmem : e_mem g t = if e_word g t w_static = true then (true, 50, [110, 40, 80, 82, 78, 123]) else (e_word g t w_method, 51, [110, 40, 80, 82, 78, 123]) := by
    rw [e_mem, if_neg (by rw [hf]; simp)]
  have hl : (e_mem g t).2.2 = [110, 40, 80, 82, 78, 123] := by rw [hmem]; split <;> rfl
  have hk : e_kind g t = (if e_word g t w_static = true then 50 else 51) := by rw [a3, hmem]; split <;> rfl
  have hw : e_word g t w_static = false → e_word g t w_method = true := by
    intro x
    rw [hmem, if_neg (by rw [x]; simp)] at a2
    exact a2
  rw [hl] at a4
  obtain ⟨c1, c2, c3, c4⟩ := e_part ho (show t + 1 ≤ g.1 by omega) a4 (by decide)
  obtain ⟨d1, d2, d3, d4⟩ := e_part ho (show t + 1 + 1 ≤ g.1 by omega) c3 (by decide)
  obtain ⟨e, r1, r2, r3, r4, r5, r6, r7⟩ := e_params ho (g.1 - (t + 1 + 1 + 1)) (t + 1 + 1 + 1) (by omega) d3
  obtain ⟨f1, f2, f3, f4⟩ := e_part ho (show e + 1 ≤ g.1 by omega) r7 (by decide)
  obtain ⟨i1, i2, i3, i4⟩ := e_part ho (show e + 1 + 1 ≤ g.1 by omega) f3 (by decide)
  obtain ⟨j1, j2, j3, j4⟩ := e_part ho (show e + 1 + 1 + 1 ≤ g.1 by omega) i3 (by decide)
  rw [e_okp_R, Bool.or_eq_true] at f2
  refine ⟨e, r1, j1, c2, d2, fun k k1 k2 => ⟨(r3 k k1 k2).1, (r3 k k1 k2).2.1⟩, r4, f2, i2, j2, j3, hk, hw, fun i i5 i6 => ?_, h⟩
  by_cases x1 : i = t + 1
  · rw [x1]; exact ⟨c4, by rw [a4], by rw [a4]; simp⟩
  by_cases x2 : i = t + 1 + 1
  · rw [x2]; exact ⟨d4, by rw [c3]; rfl, by rw [c3]; simp⟩
  by_cases x3 : i < e
  · obtain ⟨-, -, y1, y2⟩ := r3 i (by omega) x3
    exact ⟨y1, by rw [y2]; rfl, by rw [y2]; simp⟩
  by_cases x4 : i = e
  · rw [x4]; exact ⟨r5, by rw [r6]; rfl, by rw [r6]; simp⟩
  by_cases x5 : i = e + 1
  · rw [x5]; exact ⟨f4, by rw [r7]; rfl, by rw [r7]; simp⟩
  by_cases x6 : i = e + 1 + 1
  · rw [x6]; exact ⟨i4, by rw [f3]; rfl, by rw [f3]; simp⟩
  have x7 : i = e + 1 + 1 + 1 := by omega
  rw [x7]; exact ⟨j4, by rw [i3]; rfl, by rw [i3]; simp⟩
end EHEAD
theorem nI_mulN (a b : Nat) : nI a * nI b = nI (a * b) := (Int32.ofNat_mul a b).symm
/-- the number at a token -/
def e_val (g : ZT) (t : Nat) : Int32 := (k_val g.2.1 g.2.2.1 g.2.2.2 t).toInt32
section ZHEAD
variable {C D : QS} {n p q : Nat} {g : ZT} {K : ZK} {M : ZM}
theorem z_cNum {t : Nat} (hC : z_C C n g) (hG : z_G n g) (h : e_num g t = true) : fX8_number C (nI t) = some (e_val g t) := z_num32 hC hG h
theorem z_dNum {t : Nat} (hD : z_D D n g) (hG : z_G n g) (h : e_num g t = true) : fX12_number D (nI t) = some (e_val g t).toInt64 := by
  rw [z_number hD hG (k_num_fit h).2, e_val, (k_num_fit h).1]
theorem z_cmpLt (x y : Int32) : (lg_cmp x.toInt64 y.toInt64 < 0) = (x < y) := by
  rw [lg_cmp_lt, Int64.lt_iff_toInt_lt, Int32.lt_iff_toInt_lt, Int32.toInt_toInt64, Int32.toInt_toInt64]
theorem z_cmpLe (x y : Int32) : (lg_cmp x.toInt64 y.toInt64 ≤ 0) = (x ≤ y) := by
  rw [lg_cmp_le, Int64.le_iff_toInt_le, Int32.le_iff_toInt_le, Int32.toInt_toInt64, Int32.toInt_toInt64]
theorem z_sNone3 : z_S 1000052 w_none := ⟨by decide +kernel, by decide +kernel, by decide⟩
/-- the parameters of a body -/
def k_pi (g : ZT) (K : ZK) (o n0 s i : Nat) : Nat := if i < n0 then o else (k_ty g K (s + (i - n0))).getD 0
def ZPI (p q n : Nat) (g : ZT) (K : ZK) (o n0 s b : Nat) (C0 D0 : QS) (k : Nat) (C D : QS) : Prop := (z_C C n g) ∧ (z_D D n g) ∧ (k_C C p K) ∧ (k_D D q K) ∧ (C.2.1 (p + 25) b = nI (n0 + (k - s))) ∧ (∀ i, i < n0 + (k - s) → i < 12 → C.2.1 (p + 26) (b * 12 + i) = nI (k_pi g K o n0 s i) ∧ D.2.1 (q + 9) (b * 12 + i) = k_y (k_pi g K o n0 s i)) ∧ (∀ x j, ¬ (x = p + 25 ∧ j = b) → ¬ (x = p + 26 ∧ b * 12 ≤ j) → C.2.1 x j = C0.2.1 x j) ∧ (∀ x j, ¬ (x = q + 9 ∧ b * 12 ≤ j) → D.2.1 x j = D0.2.1 x j) ∧ (z_offC p C0 C) ∧ (z_offD q D0 D)
theorem ZPI.hC {p q n : Nat} {g : ZT} {K : ZK} {o n0 s b : Nat} {C0 D0 : QS} {k : Nat} {C D : QS} (I : ZPI p q n g K o n0 s b C0 D0 k C D) : z_C C n g := I.1
theorem ZPI.hD {p q n : Nat} {g : ZT} {K : ZK} {o n0 s b : Nat} {C0 D0 : QS} {k : Nat} {C D : QS} (I : ZPI p q n g K o n0 s b C0 D0 k C D) : z_D D n g := I.2.1
theorem ZPI.kC {p q n : Nat} {g : ZT} {K : ZK} {o n0 s b : Nat} {C0 D0 : QS} {k : Nat} {C D : QS} (I : ZPI p q n g K o n0 s b C0 D0 k C D) : k_C C p K := I.2.2.1
theorem ZPI.kD {p q n : Nat} {g : ZT} {K : ZK} {o n0 s b : Nat} {C0 D0 : QS} {k : Nat} {C D : QS} (I : ZPI p q n g K o n0 s b C0 D0 k C D) : k_D D q K := I.2.2.2.1
theorem ZPI.ar {p q n : Nat} {g : ZT} {K : ZK} {o n0 s b : Nat} {C0 D0 : QS} {k : Nat} {C D : QS} (I : ZPI p q n g K o n0 s b C0 D0 k C D) : C.2.1 (p + 25) b = nI (n0 + (k - s)) := I.2.2.2.2.1
theorem ZPI.ps {p q n : Nat} {g : ZT} {K : ZK} {o n0 s b : Nat} {C0 D0 : QS} {k : Nat} {C D : QS} (I : ZPI p q n g K o n0 s b C0 D0 k C D) : ∀ i, i < n0 + (k - s) → i < 12 → C.2.1 (p + 26) (b * 12 + i) = nI (k_pi g K o n0 s i) ∧ D.2.1 (q + 9) (b * 12 + i) = k_y (k_pi g K o n0 s i) := I.2.2.2.2.2.1
theorem ZPI.fC {p q n : Nat} {g : ZT} {K : ZK} {o n0 s b : Nat} {C0 D0 : QS} {k : Nat} {C D : QS} (I : ZPI p q n g K o n0 s b C0 D0 k C D) : ∀ x j, ¬ (x = p + 25 ∧ j = b) → ¬ (x = p + 26 ∧ b * 12 ≤ j) → C.2.1 x j = C0.2.1 x j := I.2.2.2.2.2.2.1
theorem ZPI.fD {p q n : Nat} {g : ZT} {K : ZK} {o n0 s b : Nat} {C0 D0 : QS} {k : Nat} {C D : QS} (I : ZPI p q n g K o n0 s b C0 D0 k C D) : ∀ x j, ¬ (x = q + 9 ∧ b * 12 ≤ j) → D.2.1 x j = D0.2.1 x j := I.2.2.2.2.2.2.2.1
theorem ZPI.oC {p q n : Nat} {g : ZT} {K : ZK} {o n0 s b : Nat} {C0 D0 : QS} {k : Nat} {C D : QS} (I : ZPI p q n g K o n0 s b C0 D0 k C D) : z_offC p C0 C := I.2.2.2.2.2.2.2.2.1
theorem ZPI.oD {p q n : Nat} {g : ZT} {K : ZK} {o n0 s b : Nat} {C0 D0 : QS} {k : Nat} {C D : QS} (I : ZPI p q n g K o n0 s b C0 D0 k C D) : z_offD q D0 D := I.2.2.2.2.2.2.2.2.2
theorem z_params {o n0 s b e : Nat} {y2 y3 y4 : Int32} (hp : z_pp p) (hq : z_qq q) (hG : z_G n g) (hK : k_K g K) (hn0 : n0 ≤ 1) (hb : b < 48) (he : e < g.1) (hty : ∀ k, s ≤ k → k < e → e_typ g k = true ∧ e_mark g k 41 = false) {C0 D0 : QS} : ∀ d k C D, k + d = e → s ≤ k → ZPI p q n g K o n0 s b C0 D0 k C D → (∃ f C' D', f ≤ g.1 ∧ q_run (tX4_headFault_102 p (nI b)) (nI k, C) = some (nI f, C') ∧ q_run (tX12_body_159 q y2 y3 y4 (nI b)) (nI (n0 + (k - s)), nI k, D) = some (false, D') ∧ D'.2.1 102 12 = nI f ∧ z_offC p C0 C' ∧ z_offD q D0 D') ∨ (∃ C' D', q_run (tX4_headFault_102 p (nI b)) (nI k, C) = q_run (tX4_headFault_102 p (nI b)) (nI e, C') ∧ q_run (tX12_body_159 q y2 y3 y4 (nI b)) (nI (n0 + (k - s)), nI k, D) = q_run (tX12_body_159 q y2 y3 y4 (nI b)) (nI (n0 + (e - s)), nI e, D') ∧ ZPI p q n g K o n0 s b C0 D0 e C' D' ∧ ∀ i, k ≤ i → i < e → (k_ty g K i).isSome = true) := by
  have b1 := hG.1
  have b2 := hG.2.1
  intro d
  induction d with
  | zero =>
    intro k C D hk hs I
    have ek : k = e := by omega
    subst ek
    exact Or.inr ⟨C, D, rfl, rfl, I, fun i i1 i2 => by omega⟩
  | succ d ih =>
    intro k C D hk hs I
    obtain ⟨t1, t2⟩ := hty k hs (by omega)
    have e1 : ¬ nI g.1 ≤ nI k := by rw [z_leN (by omega) (by omega)]; omega
    have w1 : fX8_isMark C (nI k) 41 = some false := by rw [z_isMark I.hC hG (by omega)]; exact congrArg some t2
    have w2 : fX12_is D (nI k) 1000074 = some false := by rw [z_is I.hD hG z_sEnd (by omega), ← t2]; exact congrArg some (e_mark_word hG (by decide))
    have w3 := z_typeAt I.hC hG hK I.kC t1
    have w4 := z_typeOf I.hD hG hK I.kD t1
    cases ht : k_ty g K k with
    | none =>
      rw [ht] at w3 w4
      refine Or.inl ⟨k, C, q_sI D 102 12 (nI k), by omega, q_run_ret ?_, q_run_ret ?_, ?_, I.oC, I.oD.sI (by omega)⟩
      · simp only [tX4_headFault_102, I.hC.2.1, if_neg e1, w1, Option.bind_some, Bool.false_eq_true, if_false, w3, k_oI, if_true]
      · simp only [tX12_body_159, w2, Option.bind_some, Bool.false_eq_true, if_false, w4, k_yo]
        rw [if_neg (by decide)]
        rfl
      · rw [q_sI_I, if_pos ⟨rfl, rfl⟩]
    | some x =>
      rw [ht] at w3 w4
      have hx : x < 68 := by
        have := k_ty_rng hK.1 ht
        have := hK.2.1
        omega
      have hpi : k_pi g K o n0 s (n0 + (k - s)) = x := by
        rw [k_pi, if_neg (by omega), show s + (n0 + (k - s) - n0) = k by omega, ht]
        rfl
      have i1 := z_inbN hb (by decide)
      have i2 := z_cl (show b < 2147483648 by omega)
      have nm1 : ¬ nI x = -1 := by rw [z_m1N (by omega)]; exact fun x => x
      have n12 : ((12 : Int32) ≤ nI (n0 + (k - s))) = (12 ≤ n0 + (k - s)) := by rw [show (12 : Int32) = nI 12 from rfl, z_leN (by decide) (by omega)]
      have mul : nI b * 12 + nI (n0 + (k - s)) = nI (b * 12 + (n0 + (k - s))) := by rw [show (12 : Int32) = nI 12 from rfl, nI_mulN, nI_add]
      have nar : n0 + (k + 1 - s) = n0 + (k - s) + 1 := by omega
      let C1 : QS := if 12 ≤ n0 + (k - s) then C else q_sI C (p + 26) (b * 12 + (n0 + (k - s))) (nI x)
      let C2 : QS := q_sI C1 (p + 25) b (nI (n0 + (k - s) + 1))
      let D1 : QS := if 12 ≤ n0 + (k - s) then D else q_sI D (q + 9) (b * 12 + (n0 + (k - s))) (k_y x)
      have r1 : C1.2.1 (p + 25) b = nI (n0 + (k - s)) := by
        show (if 12 ≤ n0 + (k - s) then C else q_sI C (p + 26) (b * 12 + (n0 + (k - s))) (nI x)).2.1 (p + 25) b = _
        split
        · exact I.ar
        · rw [q_sI_I, if_neg (by omega)]; exact I.ar
      have ap : fX5_addParameter C p (nI b) (nI x) = some C2 := by
        rw [fX5_addParameter, if_pos i1]
        have ev : ((if (12 : Int32) ≤ C.2.1 (p + 25) (nI b).toNatClampNeg then some C else if q_inb (nI b) 48 = true then if q_inb (nI b * 12 + C.2.1 (p + 25) (nI b).toNatClampNeg) 576 = true then (some (q_sI C (p + 26) (nI b * 12 + C.2.1 (p + 25) (nI b).toNatClampNeg).toNatClampNeg (nI x))).bind fun S4 => some S4 else none else none) : Option QS) = some C1 := by
          rw [i2, I.ar, mul]
          by_cases q : 12 ≤ n0 + (k - s)
          · rw [if_pos (by rw [n12]; exact q)]
            exact congrArg some (if_pos q).symm
          · rw [if_neg (by rw [n12]; exact q), if_pos i1, if_pos (z_inbN (by omega) (by decide)), z_cl (by omega)]
            exact congrArg some (if_neg q).symm
        rw [ev, Option.bind_some, if_pos i1, if_pos i1, i2, r1, nI_1]
        rfl
      have s1 : tX4_headFault_102 p (nI b) (nI k, C) = some (.inr (nI (k + 1), C2)) := by
        simp only [tX4_headFault_102, I.hC.2.1, if_neg e1, w1, Option.bind_some, Bool.false_eq_true, if_false, w3, k_oI, if_neg nm1, ap, nI_1]
      have s2 : tX12_body_159 q y2 y3 y4 (nI b) (nI (n0 + (k - s)), nI k, D) = some (.inr (nI (n0 + (k + 1 - s)), nI (k + 1), D1)) := by
        simp only [tX12_body_159, w2, Option.bind_some, Bool.false_eq_true, if_false, w4, k_yo, if_pos (k_y_pos hx), n12, mul, nI_1, nar]
        by_cases q : 12 ≤ n0 + (k - s)
        · rw [if_pos q]
          exact congrArg (fun z => some (Sum.inr (nI (n0 + (k - s) + 1), nI (k + 1), z))) (if_pos q).symm
        · rw [if_neg q, if_pos (z_inbN (by omega) (by decide)), z_cl (by omega)]
          exact congrArg (fun z => some (Sum.inr (nI (n0 + (k - s) + 1), nI (k + 1), z))) (if_neg q).symm
      have oC : z_offC p C0 C2 := by
        refine z_offC.sI ?_ (by omega)
        show z_offC p C0 (if 12 ≤ n0 + (k - s) then C else _)
        split
        · exact I.oC
        · exact I.oC.sI (by omega)
      have oD : z_offD q D0 D1 := by
        show z_offD q D0 (if 12 ≤ n0 + (k - s) then D else _)
        split
        · exact I.oD
        · exact I.oD.sI (by omega)
      have gC2 : ∀ y j, C2.2.1 y j = if y = p + 25 ∧ j = b then nI (n0 + (k - s) + 1) else if ¬ 12 ≤ n0 + (k - s) ∧ y = p + 26 ∧ j = b * 12 + (n0 + (k - s)) then nI x else C.2.1 y j := by
        intro y j
        show (q_sI (if 12 ≤ n0 + (k - s) then C else _) (p + 25) b _).2.1 y j = _
        rw [q_sI_I]
        by_cases q1 : y = p + 25 ∧ j = b
        · rw [if_pos q1, if_pos q1]
        · rw [if_neg q1, if_neg q1]
          by_cases q : 12 ≤ n0 + (k - s)
          · rw [if_pos q, if_neg (fun z => z.1 q)]
          · rw [if_neg q, q_sI_I]
            by_cases q2 : y = p + 26 ∧ j = b * 12 + (n0 + (k - s))
            · rw [if_pos q2, if_pos ⟨q, q2⟩]
            · rw [if_neg q2, if_neg (fun z => q2 z.2)]
      have gD1 : ∀ y j, D1.2.1 y j = if ¬ 12 ≤ n0 + (k - s) ∧ y = q + 9 ∧ j = b * 12 + (n0 + (k - s)) then k_y x else D.2.1 y j := by
        intro y j
        show (if 12 ≤ n0 + (k - s) then D else _).2.1 y j = _
        by_cases qq : 12 ≤ n0 + (k - s)
        · rw [if_pos qq, if_neg (fun z => z.1 qq)]
        · rw [if_neg qq, q_sI_I]
          by_cases q2 : y = q + 9 ∧ j = b * 12 + (n0 + (k - s))
          · rw [if_pos q2, if_pos ⟨qq, q2⟩]
          · rw [if_neg q2, if_neg (fun z => q2 z.2)]
      have I' : ZPI p q n g K o n0 s b C0 D0 (k + 1) C2 D1 := by
        refine ⟨I.hC.fr (fun y j h => ?_), I.hD.fr (fun y j h => ?_), I.kC.fr (fun y j h => ?_), I.kD.fr (fun y j h => ?_), ?_, fun i h1 h2 => ?_, fun y j h1 h2 => ?_, fun y j h1 => ?_, oC, oD⟩
        · rw [gC2, if_neg (by rcases hp with rfl | rfl <;> omega), if_neg (by rcases hp with rfl | rfl <;> omega)]
        · rw [gD1, if_neg (by rcases hq with rfl | rfl <;> omega)]
        · rw [gC2, if_neg (by omega), if_neg (by omega)]
        · rw [gD1, if_neg (by rcases hq with rfl | rfl <;> omega)]
        · rw [gC2, if_pos ⟨rfl, rfl⟩, nar]
        · rw [gC2, gD1, if_neg (by omega)]
          by_cases ei : i = n0 + (k - s)
          · rw [ei, if_pos ⟨by omega, rfl, rfl⟩, if_pos ⟨by omega, rfl, rfl⟩, hpi]
            exact ⟨rfl, rfl⟩
          · rw [if_neg (by omega), if_neg (by omega)]
            exact I.ps i (by omega) h2
        · rw [gC2, if_neg h1, if_neg (fun z => h2 ⟨z.2.1, by omega⟩)]
          exact I.fC y j h1 h2
        · rw [gD1, if_neg (fun z => h1 ⟨z.2.1, by omega⟩)]
          exact I.fD y j h1
      rw [q_run_go s1, q_run_go s2]
      rcases ih (k + 1) C2 D1 (by omega) (by omega) I' with h | ⟨C', D', h1, h2, h3, h4⟩
      · exact Or.inl h
      · refine Or.inr ⟨C', D', h1, h2, h3, fun i i1 i2 => ?_⟩
        by_cases ei : i = k
        · rw [ei, ht]; rfl
        · exact h4 i (by omega) i2
end ZHEAD
