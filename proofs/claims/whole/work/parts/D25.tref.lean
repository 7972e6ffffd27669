/-! ===== types: the reference's way ===== -/
def rt_f (q F E : Nat) (D D' : QS) : Prop := (∀ y j, ¬ (y = 102 ∧ j = 23) → y ≠ 171 → ¬ (y = q + 26 ∧ F * 20 ≤ j ∧ j < E * 20) → ¬ (y = q + 27 ∧ F ≤ j ∧ j < E) → D'.2.1 y j = D.2.1 y j) ∧ D'.1 = D.1 ∧ D'.2.2 = D.2.2
theorem rt_f.refl (q : Nat) {F E : Nat} (D : QS) : rt_f q F E D D := ⟨fun _ _ _ _ _ _ => rfl, rfl, rfl⟩
theorem rt_f.trans {q F E : Nat} {D D' D'' : QS} (h : rt_f q F E D D') (h' : rt_f q F E D' D'') : rt_f q F E D D'' := ⟨fun y j a b c d => (h'.1 y j a b c d).trans (h.1 y j a b c d), h'.2.1.trans h.2.1, h'.2.2.trans h.2.2⟩
def rt_R (D : QS) (w : Nat) (r : Nat → Nat) : Prop := ∀ s, s < w → D.2.1 171 s = k_y (r s)
def rt_S (q : Nat) (D : QS) (hh : Nat → Int32) (F E : Nat) (R : Nat → Bool) (T : Nat → Nat → Nat) : Prop := ∀ i, F ≤ i → i < E → D.2.1 (q + 27) i = q_b (R i) ∧ (R i = true → ∀ s, s < k_wd hh i → D.2.1 (q + 26) (i * 20 + s) = k_y (T i s))
/-- the reference on its way through the types of a body -/
def rt_I (p : Nat) (q : Nat) (n : Nat) (g : ZT) (K : ZK) (M : ZM) (P : ZP) (m : Nat) (b : Nat) (hh : Nat → Int32) (C : QS) (D : QS) (R : Nat → Bool) (T : Nat → Nat → Nat) : Prop := (s_N p q n g K M P m C D) ∧ (∀ i, P.fi b ≤ i → i < P.en b → D.2.1 (q + 19) i = hh i) ∧ (rt_S q D hh (P.fi b) (P.en b) R T) ∧ (ty_snd K M P hh b R T) ∧ (ty_v K M P hh b R T)
theorem rt_I.N {p : Nat} {q : Nat} {n : Nat} {g : ZT} {K : ZK} {M : ZM} {P : ZP} {m : Nat} {b : Nat} {hh : Nat → Int32} {C : QS} {D : QS} {R : Nat → Bool} {T : Nat → Nat → Nat} (I : rt_I p q n g K M P m b hh C D R T) : s_N p q n g K M P m C D := I.1
theorem rt_I.hc {p : Nat} {q : Nat} {n : Nat} {g : ZT} {K : ZK} {M : ZM} {P : ZP} {m : Nat} {b : Nat} {hh : Nat → Int32} {C : QS} {D : QS} {R : Nat → Bool} {T : Nat → Nat → Nat} (I : rt_I p q n g K M P m b hh C D R T) : ∀ i, P.fi b ≤ i → i < P.en b → D.2.1 (q + 19) i = hh i := I.2.1
theorem rt_I.S {p : Nat} {q : Nat} {n : Nat} {g : ZT} {K : ZK} {M : ZM} {P : ZP} {m : Nat} {b : Nat} {hh : Nat → Int32} {C : QS} {D : QS} {R : Nat → Bool} {T : Nat → Nat → Nat} (I : rt_I p q n g K M P m b hh C D R T) : rt_S q D hh (P.fi b) (P.en b) R T := I.2.2.1
theorem rt_I.sd {p : Nat} {q : Nat} {n : Nat} {g : ZT} {K : ZK} {M : ZM} {P : ZP} {m : Nat} {b : Nat} {hh : Nat → Int32} {C : QS} {D : QS} {R : Nat → Bool} {T : Nat → Nat → Nat} (I : rt_I p q n g K M P m b hh C D R T) : ty_snd K M P hh b R T := I.2.2.2.1
theorem rt_I.v {p : Nat} {q : Nat} {n : Nat} {g : ZT} {K : ZK} {M : ZM} {P : ZP} {m : Nat} {b : Nat} {hh : Nat → Int32} {C : QS} {D : QS} {R : Nat → Bool} {T : Nat → Nat → Nat} (I : rt_I p q n g K M P m b hh C D R T) : ty_v K M P hh b R T := I.2.2.2.2
section ZTR2
variable {C D : QS} {n p q m b : Nat} {g : ZT} {K : ZK} {M : ZM} {P : ZP} {hh : Nat → Int32} {R : Nat → Bool} {T : Nat → Nat → Nat}
theorem s_N.rf {D' : QS} {F E : Nat} (N : s_N p q n g K M P m C D) (hp : z_pp p) (hq : z_qq q) (h : rt_f q F E D D') : s_N p q n g K M P m C D' := N.hx hp hq (fun _ _ _ _ => rfl) (fun y j _ _ a c d e => h.1 y j (by omega) c (by omega) (by omega))
theorem z_rtJoin {j : Nat} {cm : Bool} {X r : Nat → Nat} (hp : z_pp p) (hq : z_qq q) (hK : k_K g K) (hj : j < 1024) (h8 : k_hN hh j ≤ 8) (hX : k_rvt K (k_wd hh j) X) (hr : k_rvt K (k_wd hh j) r) (hcm : cm = false → X = r) : ∀ d k D fl, k + d = k_wd hh j → s_N p q n g K M P m C D → D.2.1 (q + 19) j = nI (k_hN hh j) → D.2.1 (q + 27) j = q_b cm → (cm = false → fl = true) → (cm = true → ∀ s, k ≤ s → s < k_wd hh j → D.2.1 (q + 26) (j * 20 + s) = k_y (X s)) → rt_R D (k_wd hh j) r → ∃ D1 fl', q_run (tX12_typesTo_18 q (nI j)) (q_b fl, nI k, D) = some (fl', q_sI D1 (q + 27) j 1) ∧ (fl' = true ↔ fl = true ∨ ∃ s, k ≤ s ∧ s < k_wd hh j ∧ k_jn K (X s) (r s) ≠ X s) ∧ (∀ y i, D1.2.1 y i = if y = q + 26 ∧ j * 20 + k ≤ i ∧ i < j * 20 + k_wd hh j then k_y (k_jn K (X (i - j * 20)) (r (i - j * 20))) else D.2.1 y i) ∧ D1.1 = D.1 ∧ D1.2.2 = D.2.2 := by
  have hw : k_wd hh j = 12 + k_hN hh j := rfl
  have ij := z_inbN hj (by decide)
  have cj := z_cl (show j < 2147483648 by omega)
  have ew : (12 : Int32) + nI (k_hN hh j) = nI (k_wd hh j) := nI_add 12 _
  have e20 : nI j * (20 : Int32) = nI (j * 20) := nI_mulN j 20
  intro d
  induction d with
  | zero =>
    intro k D fl hk N h19 h27 hfl hc hR
    have g1 : nI (k_wd hh j) ≤ nI k := by rw [z_leN (by omega) (by omega)]; omega
    refine ⟨D, fl, q_run_ret ?_, ⟨fun h => Or.inl h, fun h => ?_⟩, fun y i => ?_, rfl, rfl⟩
    · simp only [tX12_typesTo_18, ij, if_true, cj, h19, ew, if_pos g1, Option.bind_some]
      cases fl <;> rfl
    · rcases h with h | ⟨s, s1, s2, -⟩
      · exact h
      · omega
    · rw [if_neg (by omega)]
  | succ d ih =>
    intro k D fl hk N h19 h27 hfl hc hR
    have g1 : ¬ nI (k_wd hh j) ≤ nI k := by rw [z_leN (by omega) (by omega)]; omega
    have hx := hX k (by omega)
    have hrk := hr k (by omega)
    have hv := k_vt_lt hK (k_jn_vt hK hx hrk)
    have hvx := k_vt_lt hK hx
    have jn := z_joined hK N.S.mJ.kD hx hrk
    let v : Nat := k_jn K (X k) (r k)
    let D1 : QS := q_sI D (q + 26) (j * 20 + k) (k_y v)
    have gD : ∀ y i, D1.2.1 y i = if y = q + 26 ∧ i = j * 20 + k then k_y v else D.2.1 y i := by intro y i; simp only [D1, q_sI_I]
    have st : tX12_typesTo_18 q (nI j) (q_b fl, nI k, D) = some (.inr (q_b (fl || !decide (v = X k)), nI (k + 1), D1)) := by
      simp only [tX12_typesTo_18, ij, if_true, cj, h19, ew, if_neg g1, h27, e20, nI_add, z_inbN (show j * 20 + k < 20480 by omega) (by decide), z_inbN (show k < 24 by omega) (by decide), z_cl (show j * 20 + k < 2147483648 by omega), z_cl (show k < 2147483648 by omega), hR k (by omega), nI_1]
      cases hcm' : cm with
      | false =>
        have hf := hfl hcm'
        have ev : v = r k := by
          show k_jn K (X k) (r k) = r k
          rw [hcm hcm', k_jn_self]
        have z0 : q_b false = 0 := rfl
        have n1 : ¬ q_b true = 0 := by decide
        simp only [z0, if_true, Option.bind_some, hf, if_neg n1, Bool.true_or]
        rw [← ev]
      | true =>
        have n1 : ¬ q_b true = 0 := by decide
        simp only [if_neg n1, hc hcm' k (Nat.le_refl _) (by omega), jn, Option.bind_some]
        cases fl with
        | true => simp only [if_neg n1, Option.bind_some, Bool.true_or]; rfl
        | false =>
          have z0 : q_b false = 0 := rfl
          simp only [z0, if_true, k_y_eq (show k_jn K (X k) (r k) < 69 by omega) (show X k < 69 by omega), Bool.false_or]
          by_cases e : k_jn K (X k) (r k) = X k
          · have e' : v = X k := e
            rw [if_pos e, decide_eq_true e']; rfl
          · have e' : ¬ v = X k := e
            rw [if_neg e, decide_eq_false e']; rfl
    have f1 : rt_f q j (j + 1) D D1 := ⟨fun y i _ _ a _ => by rw [gD, if_neg (by omega)], rfl, rfl⟩
    obtain ⟨D2, fl', z1, z2, z3, z4, z5⟩ := ih (k + 1) D1 (fl || !decide (v = X k)) (by omega) (N.rf hp hq f1) (by rw [gD, if_neg (by omega)]; exact h19) (by rw [gD, if_neg (by omega)]; exact h27) (fun h => by rw [hfl h]; rfl) (fun h s s1 s2 => by rw [gD, if_neg (by omega)]; exact hc h s (by omega) s2) (fun s hs => by rw [gD, if_neg (by rcases hq with rfl | rfl <;> omega)]; exact hR s hs)
    refine ⟨D2, fl', (q_run_go st).trans z1, ?_, fun y i => ?_, z4, z5⟩
    · rw [z2, Bool.or_eq_true, Bool.not_eq_true', decide_eq_false_iff_not]
      constructor
      · rintro ((h | h) | ⟨s, s1, s2, s3⟩)
        · exact Or.inl h
        · exact Or.inr ⟨k, Nat.le_refl _, by omega, h⟩
        · exact Or.inr ⟨s, by omega, s2, s3⟩
      · rintro (h | ⟨s, s1, s2, s3⟩)
        · exact Or.inl (Or.inl h)
        · by_cases e : s = k
          · subst e; exact Or.inl (Or.inr s3)
          · exact Or.inr ⟨s, by omega, s2, s3⟩
    · rw [z3, gD]
      by_cases c : y = q + 26 ∧ j * 20 + (k + 1) ≤ i ∧ i < j * 20 + k_wd hh j
      · rw [if_pos c, if_pos (by omega)]
      · rw [if_neg c]
        by_cases e : y = q + 26 ∧ i = j * 20 + k
        · rw [if_pos e, if_pos (by omega), e.2, show j * 20 + k - j * 20 = k by omega]
        · rw [if_neg e, if_neg (by omega)]
theorem z_rtArr {j : Nat} {r : Nat → Nat} {W : Nat → Bool} {s : Bool} (hp : z_pp p) (hq : z_qq q) (hK : k_K g K) (ok : h_ok M P b hh) (hb : b < M.bc) (I : rt_I p q n g K M P m b hh C D R T) (j1 : P.fi b ≤ j) (j2 : j < P.en b) (hj : k_hi M P hh j) (hR : rt_R D (k_wd hh j) r) (hr : k_rvt K (k_wd hh j) r) (hs : ∀ R' T', ty_cld K M P hh b R' T' → R' j = true ∧ k_rle K (k_wd hh j) r (T' j)) : ∃ D' ch R' T' W', fX12_typesTo D q (nI j) = some (ch, D') ∧ rt_I p q n g K M P m b hh C D' R' T' ∧ ty_G K hh (P.fi b) (P.en b) R T W s R' T' W' (ch || s) ∧ R' j = true ∧ k_rle K (k_wd hh j) r (T' j) ∧ rt_f q (P.fi b) (P.en b) D D' ∧ (∀ k, D'.2.1 171 k = D.2.1 171 k) ∧ D'.2.1 102 23 = D.2.1 102 23 := by
  have hle := (I.N.B b hb).le
  have bn := I.N.S.bn
  have hw : k_wd hh j = 12 + k_hN hh j := rfl
  have h8 := hj.1
  have hj1 : j < 1024 := by omega
  have hv : R j = true → k_rvt K (k_wd hh j) (T j) := fun h => (I.v j j1 j2 h).2
  obtain ⟨y1, y2⟩ := I.S j j1 j2
  have h19 := (I.hc j j1 j2).trans hj.2.1
  obtain ⟨X, hX, hXr, x0, x1⟩ : ∃ X, k_rvt K (k_wd hh j) X ∧ (R j = false → X = r) ∧ (R j = true → ∀ s, 0 ≤ s → s < k_wd hh j → D.2.1 (q + 26) (j * 20 + s) = k_y (X s)) ∧ (∀ s, X s = if R j = true then T j s else r s) := by
    cases hR' : R j with
    | true => exact ⟨T j, hv hR', (fun h => by cases h), fun _ s _ hs => y2 hR' s hs, fun s => by rw [if_pos rfl]⟩
    | false => exact ⟨r, hr, fun _ => rfl, (fun h => by cases h), fun s => by rw [if_neg (by decide)]⟩
  obtain ⟨D1, ch, z1, z2, z3, z4, z5⟩ := z_rtJoin hp hq hK hj1 h8 hX hr hXr (k_wd hh j) 0 D (!R j) (by omega) I.N h19 y1 (fun h => by rw [h]; rfl) x0 hR
  have hch : ty_ch K hh R T j r = ch := by
    cases hc : ty_ch K hh R T j r with
    | true =>
      symm
      rw [z2]
      rcases ty_ch_t hc with c | ⟨s0, s1, s2⟩
      · left; rw [c]; rfl
      · cases hR' : R j with
        | false => left; rfl
        | true =>
          right
          refine ⟨s0, by omega, s1, ?_⟩
          rw [x1 s0, if_pos hR']; exact s2
    | false =>
      obtain ⟨c1, c2⟩ := ty_ch_f hc
      cases hf : ch with
      | false => rfl
      | true =>
        exfalso
        rcases z2.mp hf with h | ⟨s, -, s2, s3⟩
        · rw [c1] at h; cases h
        · rw [x1 s, if_pos c1] at s3; exact s3 (c2 s s2)
  let D2 : QS := q_sI D1 (q + 27) j 1
  have gD : ∀ y i, D2.2.1 y i = if y = q + 27 ∧ i = j then 1 else D1.2.1 y i := by intro y i; simp only [D2, q_sI_I]
  have f1 : rt_f q (P.fi b) (P.en b) D D2 := ⟨fun y i a c d e => by rw [gD, if_neg (by omega), z3, if_neg (by omega)], z4, z5⟩
  have G := ty_G.add (W := W) (s := s) hK j1 j2 hv hr
  refine ⟨D2, ch, _, _, _, ?_, ⟨I.N.rf hp hq f1, fun i a c => ?_, fun i a c => ⟨?_, fun hi s hs2 => ?_⟩, I.sd.add hK j1 j2 hv hr hs, I.v.add hK hj hv hr⟩, (by
    have e : (if ty_ch K hh R T j r = true then true else s) = (ch || s) := by
      rw [hch]; cases ch <;> rfl
    rw [e] at G
    exact G), k_up_eq, ty_a_up hK hv hr, f1, fun k => ?_, ?_⟩
  · simp only [fX12_typesTo, z_inbN hj1 (by decide), if_true, z_cl (show j < 2147483648 by omega), y1]
    cases hR' : R j with
    | true =>
      rw [hR'] at z1
      have n1 : ¬ q_b true = 0 := by decide
      rw [if_neg n1]
      exact z1
    | false =>
      rw [hR'] at z1
      rw [if_pos (show q_b false = 0 from rfl)]
      exact z1
  · rw [gD, if_neg (by omega), z3, if_neg (by omega)]; exact I.hc i a c
  · rw [gD, ty_aR]
    by_cases e : i = j
    · subst e; rw [if_pos ⟨rfl, rfl⟩, k_up_eq]; rfl
    · rw [if_neg (by omega), k_up_ne e, z3, if_neg (by omega)]; exact (I.S i a c).1
  · rw [gD, if_neg (by omega), z3]
    by_cases e : i = j
    · subst e
      rw [if_pos (by omega), show i * 20 + s - i * 20 = s by omega, ty_aT_j hs2, x1 s]
      cases hR' : R i with
      | true => rw [if_pos rfl, if_pos rfl]
      | false => rw [if_neg (by decide), if_neg (by decide), k_jn_self]
    · rw [ty_aR, k_up_ne e] at hi
      rw [ty_aT_o e]
      have hsw : k_wd hh i = 12 + k_hN hh i := rfl
      have := ok.h8 a c
      rw [if_neg (by omega)]
      exact (I.S i a c).2 hi s hs2
  · rw [gD, if_neg (by rcases hq with rfl | rfl <;> omega), z3, if_neg (by rcases hq with rfl | rfl <;> omega)]
  · rw [gD, if_neg (by rcases hq with rfl | rfl <;> omega), z3, if_neg (by rcases hq with rfl | rfl <;> omega)]
/-- the row of an instruction is laid open -/
theorem z_rtAt2 {i : Nat} (hq : z_qq q) (hi : i < 1024) : ∀ d k D, k + d = 20 → ∃ D', q_run (tX12_typesAt_2 q (nI i)) (nI k, D) = some D' ∧ (∀ y j, D'.2.1 y j = if y = 102 ∧ j = 23 then (12 : Int32) + D.2.1 (q + 19) i else if y = 171 ∧ k ≤ j ∧ j < 20 then D.2.1 (q + 26) (i * 20 + j) else D.2.1 y j) ∧ D'.1 = D.1 ∧ D'.2.2 = D.2.2 := by
  have e20 : nI i * (20 : Int32) = nI (i * 20) := nI_mulN i 20
  intro d
  induction d with
  | zero =>
    intro k D hk
    have hk20 : k = 20 := by omega
    subst hk20
    refine ⟨q_sI D 102 23 ((12 : Int32) + D.2.1 (q + 19) i), q_run_ret ?_, fun y j => ?_, rfl, rfl⟩
    · have g1 : (20 : Int32) ≤ nI 20 := by decide
      simp only [tX12_typesAt_2, if_pos g1, z_inbN hi (by decide), if_true, Option.bind_some, z_cl (show i < 2147483648 by omega)]
    · rw [q_sI_I]
      by_cases c : y = 102 ∧ j = 23
      · rw [if_pos c, if_pos c]
      · rw [if_neg c, if_neg c, if_neg (by omega)]
  | succ d ih =>
    intro k D hk
    have g1 : ¬ (20 : Int32) ≤ nI k := by rw [show (20 : Int32) = nI 20 from rfl, z_leN (by omega) (by omega)]; omega
    have st : tX12_typesAt_2 q (nI i) (nI k, D) = some (.inr (nI (k + 1), q_sI D 171 k (D.2.1 (q + 26) (i * 20 + k)))) := by
      simp only [tX12_typesAt_2, if_neg g1, e20, nI_add, z_inbN (show i * 20 + k < 20480 by omega) (by decide), if_true, z_inbN (show k < 24 by omega) (by decide), z_cl (show k < 2147483648 by omega), z_cl (show i * 20 + k < 2147483648 by omega), Option.bind_some, nI_1]
    obtain ⟨D', z1, z2, z3, z4⟩ := ih (k + 1) (q_sI D 171 k (D.2.1 (q + 26) (i * 20 + k))) (by omega)
    refine ⟨D', (q_run_go st).trans z1, fun y j => ?_, z3, z4⟩
    rw [z2]
    have n1 : (q_sI D 171 k (D.2.1 (q + 26) (i * 20 + k))).2.1 (q + 19) i = D.2.1 (q + 19) i := by
      rw [q_sI_I, if_neg (show ¬ (q + 19 = 171 ∧ i = k) by rcases hq with rfl | rfl <;> omega)]
    have n2 : (q_sI D 171 k (D.2.1 (q + 26) (i * 20 + k))).2.1 (q + 26) (i * 20 + j) = D.2.1 (q + 26) (i * 20 + j) := by
      rw [q_sI_I, if_neg (show ¬ (q + 26 = 171 ∧ i * 20 + j = k) by rcases hq with rfl | rfl <;> omega)]
    rw [n1, n2, q_sI_I]
    by_cases c : y = 102 ∧ j = 23
    · rw [if_pos c, if_pos c]
    · rw [if_neg c, if_neg c]
      by_cases c2 : y = 171 ∧ k + 1 ≤ j ∧ j < 20
      · rw [if_pos c2, if_pos (by omega)]
      · rw [if_neg c2]
        by_cases c3 : y = 171 ∧ j = k
        · rw [if_pos c3, if_pos (by omega), c3.2]
        · rw [if_neg c3, if_neg (by omega)]
theorem z_rtAt {i : Nat} (hp : z_pp p) (hq : z_qq q) (ok : h_ok M P b hh) (hb : b < M.bc) (I : rt_I p q n g K M P m b hh C D R T) (h1 : P.fi b ≤ i) (h2 : i < P.en b) (hR : R i = true) : ∃ D', fX12_typesAt D q (nI i) = some D' ∧ rt_I p q n g K M P m b hh C D' R T ∧ rt_f q (P.fi b) (P.en b) D D' ∧ rt_R D' (k_wd hh i) (T i) ∧ D'.2.1 102 23 = nI (k_wd hh i) := by
  have hle := (I.N.B b hb).le
  have bn := I.N.S.bn
  have hw : k_wd hh i = 12 + k_hN hh i := rfl
  obtain ⟨hH, -⟩ := I.v i h1 h2 hR
  have h8 := hH.1
  obtain ⟨D', z1, z2, z3, z4⟩ := z_rtAt2 (q := q) hq (show i < 1024 by omega) 20 0 D (by omega)
  have f1 : rt_f q (P.fi b) (P.en b) D D' := ⟨fun y j a c _ _ => by rw [z2, if_neg a, if_neg (by omega)], z3, z4⟩
  refine ⟨D', z1, ⟨I.N.rf hp hq f1, fun j a c => ?_, fun j a c => ⟨?_, fun h s hs => ?_⟩, I.sd, I.v⟩, f1, fun s hs => ?_, ?_⟩
  · rw [z2, if_neg (by rcases hq with rfl | rfl <;> omega), if_neg (by rcases hq with rfl | rfl <;> omega)]; exact I.hc j a c
  · rw [z2, if_neg (by rcases hq with rfl | rfl <;> omega), if_neg (by rcases hq with rfl | rfl <;> omega)]; exact (I.S j a c).1
  · rw [z2, if_neg (by rcases hq with rfl | rfl <;> omega), if_neg (by rcases hq with rfl | rfl <;> omega)]; exact (I.S j a c).2 h s hs
  · rw [z2, if_neg (by omega), if_pos (by omega)]; exact (I.S i h1 h2).2 hR s hs
  · rw [z2, if_pos ⟨rfl, rfl⟩, I.hc i h1 h2, hH.2.1]; exact nI_add 12 _
end ZTR2
