/-! ===== types: the class's way ===== -/
def ty_by (C : QS) : Prop := ∀ j, q_byt (C.2.1 85 j) ∧ q_byt (C.2.1 88 j)
def ty_f (F E : Nat) (C C' : QS) : Prop := (∀ y j, y ≠ 85 → y ≠ 86 → y ≠ 88 → ¬ (y = 87 ∧ F ≤ j ∧ j < E) → ¬ (y = 84 ∧ j = 6) → C'.2.1 y j = C.2.1 y j) ∧ C'.1 = C.1 ∧ C'.2.2 = C.2.2
theorem ty_f.refl (F E : Nat) (C : QS) : ty_f F E C C := ⟨fun _ _ _ _ _ _ _ => rfl, rfl, rfl⟩
theorem ty_f.trans {F E : Nat} {C C' C'' : QS} (h : ty_f F E C C') (h' : ty_f F E C' C'') : ty_f F E C C'' := ⟨fun y j a b c d e => (h'.1 y j a b c d e).trans (h.1 y j a b c d e), h'.2.1.trans h.2.1, h'.2.2.trans h.2.2⟩
def ty_RW (C : QS) (w : Nat) (r : Nat → Nat) : Prop := ∀ s, s < w → C.2.1 88 s = nI (r s)
def ty_S (C : QS) (hh : Nat → Int32) (F E : Nat) (R : Nat → Bool) (T : Nat → Nat → Nat) (W : Nat → Bool) (s : Bool) : Prop := (∀ i, F ≤ i → i < E → C.2.1 86 i = q_b (R i) ∧ C.2.1 87 i = q_b (W i) ∧ (R i = true → ∀ s, s < k_wd hh i → C.2.1 85 (i * 20 + s) = nI (T i s))) ∧ C.2.1 84 6 = q_b s ∧ ty_by C
theorem z_bytv {v : Int32} (h : q_byt v) : v.toInt8.toInt32 = v := by
  rw [← pk_vb]; exact z_byte h.1 h.2
theorem z_bytn {v : Int32} (h : q_byt v) : vp_nar .byte v = v := by
  rw [vp_nar_byte]; exact z_bytv h
theorem z_bytN {k : Nat} (h : k ≤ 127) : q_byt (nI k) := by
  rw [q_byt, nI_toInt (by omega)]; omega
theorem z_fitB {v : Int32} (h : q_byt v) : fits (q_et 1) (.int v) = true := by
  have h1 : (-128 : Int32) ≤ v := by rw [Int32.le_iff_toInt_le]; exact h.1
  have h2 : v ≤ (127 : Int32) := by rw [Int32.le_iff_toInt_le]; exact h.2
  show (decide (-128 ≤ v) && decide (v ≤ 127)) = true
  rw [decide_eq_true h1, decide_eq_true h2]; rfl
theorem z_orB (a b : Bool) : q_b a ||| q_b b = q_b (a || b) := by cases a <;> cases b <;> rfl
theorem k_jn_self {K : ZK} (x : Nat) : k_jn K x x = x := by rw [k_jn, if_pos (k_blw_refl x)]
section ZTC
variable {C D : QS} {n p q m b : Nat} {g : ZT} {K : ZK} {M : ZM} {P : ZP} {hh : Nat → Int32}
theorem s_N.tf {C' : QS} {F E : Nat} (N : s_N p q n g K M P m C D) (hp : z_pp p) (hq : z_qq q) (h : ty_f F E C C') : s_N p q n g K M P m C' D := N.hx hp hq (fun y j a _ => h.1 y j (by omega) (by omega) (by omega) (by omega) (by omega)) (fun _ _ _ _ _ _ _ _ => rfl)
/-- the join, slot by slot -/
theorem z_tyJoin {j w : Nat} {X r : Nat → Nat} (hp : z_pp p) (hq : z_qq q) (hK : k_K g K) (hj : j < 1024) (hw : w ≤ 20) (hX : k_rvt K w X) (hr : k_rvt K w r) : ∀ d k C fl, k + d = w → s_N p q n g K M P m C D → (∀ s, k ≤ s → s < w → C.2.1 85 (j * 20 + s) = nI (X s)) → ty_RW C w r → ∃ C1 fl', q_run (tX9_arrive_67 p (nI j) (nI (j * 20)) (nI w)) (q_b fl, nI k, C) = some (if fl' = true then q_sI (q_sI C1 87 j 1) 84 6 1 else C1) ∧ (fl' = true ↔ fl = true ∨ ∃ s, k ≤ s ∧ s < w ∧ k_jn K (X s) (r s) ≠ X s) ∧ (∀ y i, C1.2.1 y i = if y = 85 ∧ j * 20 + k ≤ i ∧ i < j * 20 + w then nI (k_jn K (X (i - j * 20)) (r (i - j * 20))) else C.2.1 y i) ∧ C1.1 = C.1 ∧ C1.2.2 = C.2.2 := by
  intro d
  induction d with
  | zero =>
    intro k C fl hk N hc hR
    have g1 : nI w ≤ nI k := by rw [z_leN (by omega) (by omega)]; omega
    refine ⟨C, fl, q_run_ret ?_, ⟨fun h => Or.inl h, fun h => ?_⟩, fun y i => ?_, rfl, rfl⟩
    · simp only [tX9_arrive_67, if_pos g1]
      cases fl with
      | false => rfl
      | true =>
        have n1 : ¬ q_b true = 0 := by decide
        simp only [if_neg n1, z_inbN hj (by decide), if_true, Option.bind_some, z_cl (show j < 2147483648 by omega)]
        rfl
    · rcases h with h | ⟨s, s1, s2, -⟩
      · exact h
      · omega
    · rw [if_neg (by omega)]
  | succ d ih =>
    intro k C fl hk N hc hR
    have g1 : ¬ nI w ≤ nI k := by rw [z_leN (by omega) (by omega)]; omega
    have hx := hX k (by omega)
    have hrk := hr k (by omega)
    have hv := k_vt_lt hK (k_jn_vt hK hx hrk)
    have hvx := k_vt_lt hK hx
    have jn := z_joinC hK N.S.mJ.kC hx hrk
    have by1 := z_bytv (z_bytN (show k_jn K (X k) (r k) ≤ 127 by omega))
    have by2 := z_bytn (z_bytN (show k_jn K (X k) (r k) ≤ 127 by omega))
    let v : Nat := k_jn K (X k) (r k)
    let C1 : QS := q_sI C 85 (j * 20 + k) (nI v)
    have gC : ∀ y i, C1.2.1 y i = if y = 85 ∧ i = j * 20 + k then nI v else C.2.1 y i := by intro y i; simp only [C1, q_sI_I]
    have st : tX9_arrive_67 p (nI j) (nI (j * 20)) (nI w) (q_b fl, nI k, C) = some (.inr (q_b (fl || !decide (v = X k)), nI (k + 1), C1)) := by
      simp only [tX9_arrive_67, if_neg g1, nI_add, z_inbN (show j * 20 + k < 20480 by omega) (by decide), if_true, z_inbN (show k < 20 by omega) (by decide), z_cl (show j * 20 + k < 2147483648 by omega), z_cl (show k < 2147483648 by omega), hc k (Nat.le_refl _) (by omega), hR k (by omega), jn, Option.bind_some, by1, by2, z_eqN (show k_jn K (X k) (r k) < 2147483648 by omega) (show X k < 2147483648 by omega), nI_1]
      by_cases e : k_jn K (X k) (r k) = X k
      · have e' : v = X k := e
        rw [if_pos e, decide_eq_true e']
        simp only [Option.bind_some, z_orB, Bool.not_true]
        rfl
      · have e' : ¬ v = X k := e
        rw [if_neg e, decide_eq_false e']
        simp only [Option.bind_some, z_orB, Bool.not_false]
        rfl
    have f1 : ty_f 0 0 C C1 := ⟨fun y i a _ _ _ _ => by rw [gC, if_neg (by omega)], rfl, rfl⟩
    obtain ⟨C2, fl', z1, z2, z3, z4, z5⟩ := ih (k + 1) C1 (fl || !decide (v = X k)) (by omega) (N.tf hp hq f1) (fun s s1 s2 => by rw [gC, if_neg (by omega)]; exact hc s (by omega) s2) (fun s hs => by rw [gC, if_neg (by omega)]; exact hR s hs)
    refine ⟨C2, fl', (q_run_go st).trans z1, ?_, fun y i => ?_, z4, z5⟩
    · rw [z2, Bool.or_eq_true, Bool.not_eq_true', decide_eq_false_iff_not]
      constructor
      · rintro ((h | h) | ⟨s, s1, s2, s3⟩)
        · exact Or.inl h
        · exact Or.inr ⟨k, Nat.le_refl _, by omega, h⟩
        · exact Or.inr ⟨s, by omega, s2, s3⟩
      · rintro (h | ⟨s, s1, s2, s3⟩)
        · exact Or.inl (Or.inl h)
        · by_cases e : s = k
          · subst e; exact Or.inl (Or.inr s3)
          · exact Or.inr ⟨s, by omega, s2, s3⟩
    · rw [z3, gC]
      by_cases c : y = 85 ∧ j * 20 + (k + 1) ≤ i ∧ i < j * 20 + w
      · rw [if_pos c, if_pos (by omega)]
      · rw [if_neg c]
        by_cases e : y = 85 ∧ i = j * 20 + k
        · rw [if_pos e, if_pos (by omega), e.2, show j * 20 + k - j * 20 = k by omega]
        · rw [if_neg e, if_neg (by omega)]
theorem z_tyArrive {j F E : Nat} {R : Nat → Bool} {T : Nat → Nat → Nat} {W : Nat → Bool} {s : Bool} {r : Nat → Nat} (hp : z_pp p) (hq : z_qq q) (hK : k_K g K) (N : s_N p q n g K M P m C D) (hE : E ≤ P.n) (h1 : F ≤ j) (h2 : j < E) (hh1 : C.2.1 (p + 17) j = nI (k_hN hh j)) (hh8 : ∀ i, F ≤ i → i < E → k_hN hh i ≤ 8) (hS : ty_S C hh F E R T W s) (hR : ty_RW C (k_wd hh j) r) (hv : R j = true → k_rvt K (k_wd hh j) (T j)) (hr : k_rvt K (k_wd hh j) r) : ∃ C', fX9_arrive C p (nI j) = some C' ∧ ty_S C' hh F E (ty_aR R j) (ty_aT K hh R T j r) (if ty_ch K hh R T j r = true then k_up W j true else W) (if ty_ch K hh R T j r = true then true else s) ∧ ty_f F E C C' ∧ ∀ k, C'.2.1 88 k = C.2.1 88 k := by
  have bn := N.S.bn
  have hw : k_wd hh j = 12 + k_hN hh j := rfl
  have hh2 := hh8 j h1 h2
  have hj : j < 1024 := by omega
  have i1 := z_inbN hj (by decide)
  have c1 := z_cl (show j < 2147483648 by omega)
  have e20 : nI j * (20 : Int32) = nI (j * 20) := nI_mulN j 20
  have ew : (12 : Int32) + nI (k_hN hh j) = nI (k_wd hh j) := nI_add 12 _
  obtain ⟨y1, y2, y3⟩ := hS.1 j h1 h2
  -- both ways lead to the loop
  obtain ⟨C0, X, e0, hX, x0, x1, x2, x3, x4, x5⟩ : ∃ C0 X, fX9_arrive C p (nI j) = fX9_arrive_67 C0 p (nI j) (nI (j * 20)) (nI (k_wd hh j)) (q_b (!R j)) (nI 0) ∧ k_rvt K (k_wd hh j) X ∧ (∀ s, s < k_wd hh j → C0.2.1 85 (j * 20 + s) = nI (X s)) ∧ (∀ s, s < k_wd hh j → X s = if R j = true then T j s else r s) ∧ (∀ y i, ¬ (y = 85 ∧ j * 20 ≤ i ∧ i < j * 20 + k_wd hh j) → ¬ (y = 86 ∧ i = j) → C0.2.1 y i = C.2.1 y i) ∧ C0.2.1 86 j = 1 ∧ C0.1 = C.1 ∧ C0.2.2 = C.2.2 := by
    cases hR' : R j with
    | true =>
      rw [hR'] at y1
      have n1 : ¬ q_b true = 0 := by decide
      refine ⟨C, T j, ?_, hv hR', fun s hs => y3 hR' s hs, fun s _ => by rw [if_pos rfl], fun _ _ _ _ => rfl, y1, rfl, rfl⟩
      simp only [fX9_arrive, i1, if_true, c1, y1, if_neg n1, Option.bind_some, hh1, e20, ew]
      rfl
    | false =>
      rw [hR'] at y1
      let C0 : QS := q_sI (q_cpI C 88 0 85 (j * 20) (k_wd hh j)) 86 j 1
      have gC : ∀ y i, C0.2.1 y i = if y = 86 ∧ i = j then 1 else if y = 85 ∧ j * 20 ≤ i ∧ i < j * 20 + k_wd hh j then C.2.1 88 (0 + (i - j * 20)) else C.2.1 y i := by intro y i; simp only [C0, q_sI_I, q_cpI_I]
      have hok : q_cpok C 1 88 20 (nI 0) (nI (j * 20)) (nI (k_wd hh j)) 85 20480 = true := by
        simp only [q_cpok, z_cl (show 0 < 2147483648 by decide), z_cl (show j * 20 < 2147483648 by omega), z_cl (show k_wd hh j < 2147483648 by omega), z_negN (show 0 < 2147483648 by decide), z_negN (show j * 20 < 2147483648 by omega), z_negN (show k_wd hh j < 2147483648 by omega), decide_false, Bool.not_false, Bool.true_and, Bool.and_eq_true, decide_eq_true_eq, List.all_eq_true, List.mem_range]
        exact ⟨by omega, by omega, fun i hi => z_fitB (hS.2.2 _).2⟩
      refine ⟨C0, r, ?_, hr, fun s hs => ?_, fun s _ => by rw [if_neg (by decide)], fun y i a b => ?_, ?_, rfl, rfl⟩
      · have z0 : q_b false = 0 := rfl
        have o0 : (0 : Int32) = nI 0 := rfl
        simp only [fX9_arrive, i1, if_true, c1, y1, z0, Option.bind_some, hh1, e20, ew]
        rw [o0, if_pos hok, z_cl (show j * 20 < 2147483648 by omega), z_cl (show k_wd hh j < 2147483648 by omega)]
        rfl
      · rw [gC, if_neg (by omega), if_pos (by omega), show 0 + (j * 20 + s - j * 20) = s by omega]; exact hR s hs
      · rw [gC, if_neg b, if_neg a]
      · rw [gC, if_pos ⟨rfl, rfl⟩]
  have f0 : ty_f F E C C0 := ⟨fun y i a b _ _ _ => x2 y i (by omega) (by omega), x4, x5⟩
  obtain ⟨C2, fl', z1, z2, z3, z4, z5⟩ := z_tyJoin hp hq hK hj (show k_wd hh j ≤ 20 by omega) hX hr (k_wd hh j) 0 C0 (!R j) (by omega) (N.tf hp hq f0) (fun s _ hs => x0 s hs) (fun s hs => by rw [x2 _ _ (by omega) (by omega)]; exact hR s hs)
  have hfl : ty_ch K hh R T j r = fl' := by
    cases hc : ty_ch K hh R T j r with
    | true =>
      symm
      rw [z2]
      rcases ty_ch_t hc with c | ⟨s0, s1, s2⟩
      · left; rw [c]; rfl
      · cases hR' : R j with
        | false => left; rfl
        | true =>
          right
          refine ⟨s0, by omega, s1, ?_⟩
          rw [x1 s0 s1, if_pos hR']; exact s2
    | false =>
      obtain ⟨c1, c2⟩ := ty_ch_f hc
      cases hf : fl' with
      | false => rfl
      | true =>
        exfalso
        rcases z2.mp hf with h | ⟨s, -, s2, s3⟩
        · rw [c1] at h; cases h
        · rw [x1 s s2, if_pos c1] at s3; exact s3 (c2 s s2)
  let C3 : QS := if fl' = true then q_sI (q_sI C2 87 j 1) 84 6 1 else C2
  have gC : ∀ y i, C3.2.1 y i = if fl' = true ∧ y = 84 ∧ i = 6 then 1 else if fl' = true ∧ y = 87 ∧ i = j then 1 else C2.2.1 y i := by
    intro y i
    cases hf : fl' with
    | false => simp only [C3, hf, Bool.false_eq_true, if_false, false_and]
    | true => simp only [C3, hf, if_true, q_sI_I, true_and]
  have g1 : C3.1 = C2.1 ∧ C3.2.2 = C2.2.2 := by
    cases hf : fl' with
    | false => simp only [C3, hf, Bool.false_eq_true, if_false, and_self]
    | true => simp only [C3, hf, if_true]; exact ⟨rfl, rfl⟩
  refine ⟨C3, by rw [e0]; exact z1, ⟨fun i a b => ?_, ?_, fun k => ?_⟩, ⟨fun y i a b c d e => ?_, g1.1.trans (z4.trans x4), g1.2.trans (z5.trans x5)⟩, fun k => ?_⟩
  · obtain ⟨w1, w2, w3⟩ := hS.1 i a b
    refine ⟨?_, ?_, fun hi s hs => ?_⟩
    · rw [gC, if_neg (by omega), if_neg (by omega), z3, if_neg (by omega), ty_aR]
      by_cases e : i = j
      · subst e; rw [k_up_eq, x3]; rfl
      · rw [k_up_ne e, x2 _ _ (by omega) (by omega)]; exact w1
    · rw [hfl, gC, if_neg (by omega)]
      cases hf : fl' with
      | false =>
        rw [if_neg (fun h => by cases h.1), if_neg (by decide), z3, if_neg (by omega), x2 _ _ (by omega) (by omega)]; exact w2
      | true =>
        rw [if_pos rfl]
        by_cases e : i = j
        · subst e; rw [if_pos ⟨rfl, rfl, rfl⟩, k_up_eq]; rfl
        · rw [if_neg (by omega), k_up_ne e, z3, if_neg (by omega), x2 _ _ (by omega) (by omega)]; exact w2
    · rw [gC, if_neg (by omega), if_neg (by omega), z3]
      by_cases e : i = j
      · subst e
        rw [if_pos (by omega), show i * 20 + s - i * 20 = s by omega, ty_aT_j hs, x1 s hs]
        cases hR' : R i with
        | true => rw [if_pos rfl, if_pos rfl]
        | false => rw [if_neg (by decide), if_neg (by decide), k_jn_self]
      · have hlo : k_wd hh j ≤ 20 := by omega
        rw [ty_aR, k_up_ne e] at hi
        rw [ty_aT_o e]
        have hsw : k_wd hh i = 12 + k_hN hh i := rfl
        have := hh8 i a b
        rw [if_neg (by omega), x2 _ _ (by omega) (by omega)]
        exact w3 hi s hs
  · rw [hfl, gC]
    cases hf : fl' with
    | false =>
      rw [if_neg (fun h => by cases h.1), if_neg (fun h => by cases h.1), if_neg (by decide), z3, if_neg (by omega), x2 _ _ (by omega) (by omega)]; exact hS.2.1
    | true => rw [if_pos ⟨rfl, rfl, rfl⟩, if_pos rfl]; rfl
  · rw [gC, if_neg (by omega), if_neg (by omega), gC, if_neg (by omega), if_neg (by omega), z3, z3]
    refine ⟨?_, ?_⟩
    · by_cases c : 85 = 85 ∧ j * 20 + 0 ≤ k ∧ k < j * 20 + k_wd hh j
      · rw [if_pos c]
        have := k_vt_lt hK (k_jn_vt hK (hX (k - j * 20) (by omega)) (hr (k - j * 20) (by omega)))
        exact z_bytN (by omega)
      · rw [if_neg c, x2 _ _ (by omega) (by omega)]; exact (hS.2.2 k).1
    · rw [if_neg (by omega), x2 _ _ (by omega) (by omega)]; exact (hS.2.2 k).2
  · rw [gC, if_neg (by omega), if_neg (by omega), z3, if_neg (by omega)]; exact x2 y i (by omega) (by omega)
  · rw [gC, if_neg (by omega), if_neg (by omega), z3, if_neg (by omega)]; exact x2 _ _ (by omega) (by omega)
end ZTC
