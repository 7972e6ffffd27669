/-! ===== the walk through the members ===== -/
theorem q_run_step {X R : Type} {f : X → Option (R ⊕ X)} {x : X} : q_run f x = (f x).bind (Sum.elim some (q_run f)) := by
  cases h : f x with
  | none => exact q_run_none h
  | some z =>
    cases z with
    | inl r => exact q_run_ret h
    | inr y => exact q_run_go h
/-- no member begins, nor a class -/
def e_nm (g : ZT) (i : Nat) : Prop := e_kind g i ≠ 48 ∧ e_kind g i ≠ 49 ∧ e_kind g i ≠ 50 ∧ e_kind g i ≠ 51
theorem e_nm53 {g : ZT} {i : Nat} (h : e_kind g i = 53) : e_nm g i := by rw [e_nm, h]; decide
theorem e_line_kind (g : ZT) (t : Nat) : (e_line g t).2.1 = 47 ∨ (e_line g t).2.1 = 46 ∨ ∃ k, k < 46 ∧ (e_line g t).2.1 = nI k := by
  rw [e_line]
  split
  · exact Or.inl rfl
  · split
    · exact Or.inr (Or.inl rfl)
    · split
      · next h =>
        rcases e_op_rng g t with h' | ⟨k, h1, h2⟩
        · exact absurd h' h.2
        · exact Or.inr (Or.inr ⟨k, h1, h2⟩)
      · exact Or.inl rfl
theorem e_nm_of {g : ZT} {i : Nat} (ho : e_ok g) (hi : i < g.1) (h0 : e_st g i ≠ (0, [])) (h1 : e_st g i ≠ (1, [])) : e_nm g i := by
  rcases hst : e_st g i with ⟨l, s⟩
  cases s with
  | cons c cs =>
    by_cases hc : c = 80
    · subst hc; exact e_nm53 (e_atP ho (Nat.le_of_lt hi) hst).2.1
    · exact e_nm53 (e_part ho (Nat.le_of_lt hi) hst hc).2.2.2
  | nil =>
    have lv := e_st_lv g i
    rw [hst] at lv
    simp only [List.count_nil, Nat.add_zero] at lv
    have l2 : l = 2 := by
      by_cases c0 : l = 0
      · rw [c0] at hst; exact absurd hst h0
      · by_cases c1 : l = 1
        · rw [c1] at hst; exact absurd hst h1
        · omega
    subst l2
    by_cases m : e_mark g i 125 = true
    · have := (e_atc ho (by omega) hst m).2.1
      rw [e_nm, this]; decide
    · have := (e_at2 ho (Nat.le_of_lt hi) hst (Bool.eq_false_iff.mpr m)).2.2.1
      rw [e_nm, this]
      rcases e_line_kind g i with h | h | ⟨k, h1, h2⟩
      · rw [h]; decide
      · rw [h]; decide
      · rw [h2]
        refine ⟨?_, ?_, ?_, ?_⟩
        · exact z_neN (b := 48) (by omega) (by decide) (by omega)
        · exact z_neN (b := 49) (by omega) (by decide) (by omega)
        · exact z_neN (b := 50) (by omega) (by decide) (by omega)
        · exact z_neN (b := 51) (by omega) (by decide) (by omega)
section ZMEMW
variable {C D : QS} {n p q : Nat} {g : ZT} {K : ZK} {M : ZM}
theorem z_memSkip {o : Int32} (hT : C.2.1 2 5 = nI g.1) (hT2 : g.1 ≤ 16000) (hkd : ∀ i, i < g.1 → C.2.1 6 i = e_kind g i) {t' : Nat} (h' : t' ≤ g.1) : ∀ d k, k + d = t' → (∀ i, k ≤ i → i < t' → e_nm g i) → q_run (tX4_memberFault_5 p) (o, nI k, C) = q_run (tX4_memberFault_5 p) (o, nI t', C) := by
  intro d
  induction d with
  | zero =>
    intro k hk _
    have : k = t' := by omega
    rw [this]
  | succ d ih =>
    intro k hk hn
    obtain ⟨a1, a2, a3, a4⟩ := hn k (Nat.le_refl _) (by omega)
    have e1 : ¬ nI g.1 ≤ nI k := by rw [z_leN (by omega) (by omega)]; omega
    have st : tX4_memberFault_5 p (o, nI k, C) = some (.inr (o, nI (k + 1), C)) := by
      simp only [tX4_memberFault_5, hT, if_neg e1, z_inbN (show k < 16000 by omega) (by decide), if_true, z_cl (show k < 2147483648 by omega), hkd k (by omega), if_neg a1, if_neg a2, if_neg (not_or.mpr ⟨a3, a4⟩), Option.bind_some, nI_1]
    rw [q_run_go st]
    exact ih (k + 1) (by omega) (fun i i1 i2 => hn i (by omega) i2)
/-- which tokens begin bodies -/
def m_P (g : ZT) (M : ZM) (t : Nat) : Prop := (∀ i, i < t → (e_kind g i = 50 ∨ e_kind g i = 51) → ∃ b, b < M.bc ∧ M.bw b = i + 1) ∧ (∀ b b', b < b' → b' < M.bc → M.bw b < M.bw b') ∧ ∀ b, b < M.bc → M.bw b ≤ t
theorem m_P.skip {t t' : Nat} (h : m_P g M t) (ht : t ≤ t') (hn : ∀ i, t ≤ i → i < t' → e_nm g i ∨ e_kind g i = 49 ∨ e_kind g i = 48) : m_P g M t' := by
  refine ⟨fun i hi hk => ?_, h.2.1, fun b hb => Nat.le_trans (h.2.2 b hb) ht⟩
  by_cases c : i < t
  · exact h.1 i c hk
  · exfalso
    rcases hn i (by omega) hi with x | x | x
    · rcases hk with y | y
      · exact x.2.2.1 y
      · exact x.2.2.2 y
    · rw [x] at hk; exact absurd hk (by decide)
    · rw [x] at hk; exact absurd hk (by decide)
theorem z_memWalk (hp : z_pp p) (hq : z_qq q) (hG : z_G n g) (hK : k_K g K) (ho : e_ok g) (hKP : k_KP g K g.1) : ∀ m t o C D M, t + m = g.1 → e_st g t = (1, []) → 8 ≤ o → K.cw o ≤ t → (∀ k, K.cw o ≤ k → k ≤ t → e_st g k ≠ (0, [])) → m_I p q n g K M o C D → m_P g M t → ∃ r r', q_run (tX4_memberFault_5 p) (nI o, nI t, C) = some r ∧ (q_run (tX12_members_33 q) (nI t, nI o, D)).bind (Sum.elim some (q_run (tX12_members_15 q))) = some r' ∧ z_offC p C r.2 ∧ z_offD q D r'.2 ∧ (z_flt g r r' ∨ (r.1 = -1 ∧ r'.1 = true ∧ ∃ M', m_I p q n g K M' (K.cc - 1) r.2 r'.2 ∧ m_P g M' g.1)) := by
  have b1 := hG.1
  have b2 := hG.2.1
  have h32 := hK.2.1
  intro m
  induction m using Nat.strongRecOn with
  | _ m ih =>
  intro t o C D M hm hst h8 hcw hno I hP
  have hoc := I.oc
  have ht : t < g.1 := by
    by_cases c : t < g.1
    · exact c
    · have : t = g.1 := by omega
      rw [this, ho.2] at hst
      exact absurd hst (by decide)
  have e1 : ¬ nI g.1 ≤ nI t := by rw [z_leN (by omega) (by omega)]; omega
  have isE : fX12_is D (nI t) 1000064 = some (e_mark g t 125) := by rw [z_is I.hD hG z_sClose (by omega)]; exact congrArg some (e_mark_word hG (by decide))
  have isF : fX12_is D (nI t) 1000066 = some (e_word g t w_field) := z_is I.hD hG z_sField2 (by omega)
  by_cases hmk : e_mark g t 125 = true
  · obtain ⟨x1, x2, x3⟩ := e_atc ho (by omega) hst hmk
    have k53 : e_kind g t = 53 := x2
    have x3 : e_st g (t + 1) = (0, []) := x3
    have hit : ∀ i, t ≤ i → i < t + 1 → e_nm g i := fun i i1 i2 => by
      rw [show i = t by omega]
      exact e_nm53 k53
    rw [z_memSkip I.hC.2.1 (by omega) I.kd (show t + 1 ≤ g.1 by omega) 1 t (by omega) hit]
    have s33 : q_run (tX12_members_33 q) (nI t, nI o, D) = some (.inr (nI (o + 1), D)) := q_run_ret (by simp only [tX12_members_33, isE, hmk, Option.bind_some, if_true, nI_1])
    rw [s33, Option.bind_some]
    show ∃ r r', _ ∧ q_run (tX12_members_15 q) (nI (o + 1), D) = some r' ∧ _
    have hcc : fX12_classCount D q = some (nI K.cc) := by
      rw [fX12_classCount, I.kD.1, show (8 : Int32) = nI 8 from rfl, nI_add, show 8 + (K.cc - 8) = K.cc by have := hK.1; omega]
    obtain ⟨kp1, kp2, kp3, kp4⟩ := hKP.2.2 o h8 hoc
    by_cases cend : t + 1 = g.1
    · have hcc1 : o + 1 = K.cc := by
        by_cases c : o + 1 < K.cc
        · exfalso
          rw [if_pos c] at kp3
          obtain ⟨kq1, kq2, -⟩ := hKP.2.2 (o + 1) (by omega) c
          have := (hK.2.2.2.1 (o + 1) (by omega) c).1
          exact hno (K.cw (o + 1) - 1) (by omega) (by omega) kq2
        · omega
      have s1 : tX4_memberFault_5 p (nI o, nI (t + 1), C) = some (.inl (-1, C)) := by
        simp only [tX4_memberFault_5, I.hC.2.1]
        rw [if_pos (by rw [z_leN (by omega) (by omega)]; omega)]
      have s2 : tX12_members_15 q (nI (o + 1), D) = some (.inl (true, D)) := by
        simp only [tX12_members_15, hcc, Option.bind_some]
        rw [if_pos (by rw [z_leN (by omega) (by omega)]; omega)]
      refine ⟨_, _, q_run_ret s1, q_run_ret s2, z_offC.refl p C, z_offD.refl q D, Or.inr ⟨rfl, rfl, M, ?_, ?_⟩⟩
      · rw [show K.cc - 1 = o by omega]; exact I
      · exact hP.skip (by omega) (fun i i1 i2 => Or.inl (hit i i1 (by omega)))
    · have hlt : t + 1 < g.1 := by omega
      have hcc1 : o + 1 < K.cc := by
        by_cases c : o + 1 < K.cc
        · exact c
        · exfalso
          rw [if_neg c] at kp3 kp4
          exact kp4 (t + 1) (by omega) hlt x3
      rw [if_pos hcc1] at kp3 kp4
      obtain ⟨kq1, kq2, -⟩ := hKP.2.2 (o + 1) (by omega) hcc1
      have hcw2 : K.cw (o + 1) = t + 2 := by
        have l1 : ¬ K.cw (o + 1) - 1 ≤ t := fun c => hno (K.cw (o + 1) - 1) (by omega) c kq2
        have l2 : ¬ t + 1 < K.cw (o + 1) - 1 := fun c => kp4 (t + 1) (by omega) c x3
        omega
      obtain ⟨y1, y2, y3, y4, y5, y6, y7, y8, y9⟩ := e_class ho hlt x3
      obtain ⟨C', z1, z2, z3⟩ := z_inherit hp hK hcc1 I
      have e2 : ¬ nI g.1 ≤ nI (t + 1) := by rw [z_leN (by omega) (by omega)]; omega
      have s1 : tX4_memberFault_5 p (nI o, nI (t + 1), C) = some (.inr (nI (o + 1), nI (t + 2), C')) := by
        simp only [tX4_memberFault_5, I.hC.2.1, if_neg e2, z_inbN (show t + 1 < 16000 by omega) (by decide), if_true, z_cl (show t + 1 < 2147483648 by omega), I.kd (t + 1) hlt, y7, nI_1, z1, Option.bind_some]
      rw [q_run_go s1, z_memSkip z3.hC.2.1 (by omega) z3.kd (show t + 6 ≤ g.1 by omega) 4 (t + 2) (by omega) (fun i i1 i2 => e_nm53 (y9 i (by omega) (by omega)).1)]
      have s2 : tX12_members_15 q (nI (o + 1), D) = q_run (tX12_members_33 q) (nI (t + 6), nI (o + 1), D) := by
        simp only [tX12_members_15, hcc, Option.bind_some]
        rw [if_neg (by rw [z_leN (by omega) (by omega)]; omega), if_pos (z_inbN (by omega) (by decide)), z_cl (by omega), (I.kD.2 (o + 1) hcc1).1 (by omega), hcw2, show (4 : Int32) = nI 4 from rfl, nI_add]
        rfl
      rw [q_run_step (f := tX12_members_15 q), s2]
      obtain ⟨r, r', w1, w2, w3, w4, w5⟩ := ih (g.1 - (t + 6)) (by omega) (t + 6) (o + 1) C' D M (by omega) y8 (by omega) (by omega) (fun k k1 k2 hk => by
        by_cases c : k = t + 6
        · rw [c, y8] at hk; exact absurd hk (by decide)
        · have := (y9 k (by omega) (by omega)).2.2
          rw [hk] at this
          exact this rfl) z3 (hP.skip (by omega) (fun i i1 i2 => by
        by_cases c : i = t
        · rw [c]; exact Or.inl (e_nm53 k53)
        · by_cases c2 : i = t + 1
          · rw [c2]; exact Or.inr (Or.inr y7)
          · exact Or.inl (e_nm53 (y9 i (by omega) (by omega)).1)))
      exact ⟨r, r', w1, w2, z2.trans w3, w4, w5⟩
  · have hmk' := Bool.eq_false_iff.mpr hmk
    obtain ⟨a1, a2, a3, a4⟩ := e_at1 ho (Nat.le_of_lt ht) hst hmk'
    by_cases hf : e_word g t w_field = true
    · have hmem : e_mem g t = (true, 49, [110, 84]) := by rw [e_mem, if_pos hf]
      rw [hmem] at a3 a4
      obtain ⟨c1, c2, c3, c4⟩ := e_part ho (show t + 1 ≤ g.1 by omega) a4 (by decide)
      obtain ⟨d1, d2, d3, d4⟩ := e_part ho (show t + 1 + 1 ≤ g.1 by omega) c3 (by decide)
      have d3 : e_st g (t + 3) = (1, []) := d3
      obtain ⟨r, r', v1, v2, v3, v4, v5⟩ := z_field h8 hp hq hG hK (show t + 2 < g.1 from d1) d2 I
      have hst33 : q_run (tX12_members_33 q) (nI t, nI o, D) = if r'.1 = true then q_run (tX12_members_33 q) (nI (t + 3), nI o, r'.2) else some (.inl (false, r'.2)) := by
        have bm : fX12_behindMember r'.2 (nI t) = some (nI (t + 3)) := by
          have hD' := I.hD.off hq v4
          rw [fX12_behindMember, z_is hD' hG z_sField2 (by omega)]
          show (some (e_word g t w_field)).bind _ = _
          rw [hf, Option.bind_some, if_pos rfl, show (3 : Int32) = nI 3 from rfl, nI_add]
        by_cases c : r'.1 = true
        · rw [if_pos c]
          refine q_run_go ?_
          simp only [tX12_members_33, isE, hmk', isF, hf, Option.bind_some, if_true, Bool.false_eq_true, if_false, v2, c, bm]
        · rw [if_neg c]
          refine q_run_ret ?_
          simp only [tX12_members_33, isE, hmk', isF, hf, Option.bind_some, if_true, Bool.false_eq_true, if_false, v2, c]
      have hstC : tX4_memberFault_5 p (nI o, nI t, C) = if r.1 = -1 then some (.inr (nI o, nI (t + 1), r.2)) else some (.inl (r.1, r.2)) := by
        simp only [tX4_memberFault_5, I.hC.2.1, if_neg e1, z_inbN (show t < 16000 by omega) (by decide), if_true, z_cl (show t < 2147483648 by omega), I.kd t ht, a3, v1, Option.bind_some, nI_1]
        rfl
      rw [hst33]
      rcases v5 with ⟨f, f1, f2, f3, f4⟩ | ⟨f1, f2, M', f3, f4, f5⟩
      · have nm : ¬ r.1 = -1 := by rw [f2, z_m1N (by omega)]; exact fun x => x
        rw [if_neg nm] at hstC
        rw [if_neg (by rw [f3]; decide)]
        exact ⟨_, _, q_run_ret hstC, rfl, v3, v4, Or.inl ⟨f, f1, f2, rfl, f4⟩⟩
      · rw [if_pos f1] at hstC
        rw [if_pos f2, q_run_go hstC, z_memSkip f3.hC.2.1 (by omega) f3.kd (show t + 3 ≤ g.1 by omega) 2 (t + 1) (by omega) (fun i i1 i2 => by
          have : i = t + 1 ∨ i = t + 1 + 1 := by omega
          rcases this with rfl | rfl
          · exact e_nm53 c4
          · exact e_nm53 d4)]
        have nz : ∀ k, K.cw o ≤ k → k ≤ t + 3 → e_st g k ≠ (0, []) := by
          intro k k1 k2 hk
          by_cases c : k ≤ t
          · exact hno k k1 c hk
          · have : k = t + 1 ∨ k = t + 1 + 1 ∨ k = t + 3 := by omega
            rcases this with rfl | rfl | rfl
            · rw [a4] at hk; exact absurd hk (by decide)
            · rw [c3] at hk; exact absurd hk (by decide)
            · rw [d3] at hk; exact absurd hk (by decide)
        have hP' : m_P g M' (t + 3) := by
          have hP2 : m_P g M' t := by
            refine ⟨fun i hi hk => ?_, fun b b' h hb => ?_, fun b hb => ?_⟩
            · rw [f4, f5]; exact hP.1 i hi hk
            · rw [f4] at hb; rw [f5]; exact hP.2.1 b b' h hb
            · rw [f4] at hb; rw [f5]; exact hP.2.2 b hb
          refine hP2.skip (by omega) (fun i i1 i2 => ?_)
          have : i = t ∨ i = t + 1 ∨ i = t + 1 + 1 := by omega
          rcases this with rfl | rfl | rfl
          · exact Or.inr (Or.inl a3)
          · exact Or.inl (e_nm53 c4)
          · exact Or.inl (e_nm53 d4)
        obtain ⟨r2, r2', w1, w2, w3, w4, w5⟩ := ih (g.1 - (t + 3)) (by omega) (t + 3) o r.2 r'.2 M' (by omega) d3 h8 (by omega) nz f3 hP'
        exact ⟨r2, r2', w1, w2, v3.trans w3, v4.trans w4, w5⟩
    · have hf' := Bool.eq_false_iff.mpr hf
      obtain ⟨e, hd⟩ := e_head ho (Nat.le_of_lt ht) hst hmk' hf'
      obtain ⟨d1, d2, d3, d4, d5, d6, d7, d8, d9, d10, d11, d12, d13, d14⟩ := id hd
      obtain ⟨r, r', v1, v2, v3, v4, v5⟩ := z_head hp hq hG hK hd I h8 (fun b hb => Nat.lt_succ_of_le (hP.2.2 b hb))
      have hD' := I.hD.off hq v4
      have no123 : ∀ k, t ≤ k → k < e + 3 → e_mark g k 123 = false := by
        intro k k1 k2
        rw [e_mark_iff (by omega)]
        by_cases c0 : k = t
        · subst c0
          cases hs : e_word g k w_static with
          | true => rw [(e_word_b0 hs).2]; decide
          | false => rw [(e_word_b0 (d12 hs)).2]; decide
        by_cases c1 : k = t + 1
        · subst c1
          have := (e_nam_b0 d3).2
          exact decide_eq_false (e_rng this.1 this.2 (by decide))
        by_cases c2 : k = t + 2
        · subst c2; rw [(e_mark_b0 d4).2]; decide
        by_cases c3 : k < e
        · rcases (e_typ_b0 (d5 k (by omega) c3).1).2 with h | ⟨h, h'⟩
          · rw [h]; decide
          · exact decide_eq_false (e_rng h h' (by decide))
        by_cases c4 : k = e
        · subst c4; rw [(e_mark_b0 d6).2]; decide
        by_cases c5 : k = e + 1
        · subst c5
          rcases d7 with h | h
          · rcases (e_typ_b0 h).2 with h | ⟨h, h'⟩
            · rw [h]; decide
            · exact decide_eq_false (e_rng h h' (by decide))
          · rw [(e_word_b0 h).2]; decide
        have c6 : k = e + 2 := by omega
        subst c6
        rcases (e_num_b0 d8).2 with h | ⟨h, h'⟩
        · rw [h]; decide
        · exact decide_eq_false (e_rng h h' (by decide))
      obtain ⟨t', y1, y2, y3, y4, y5⟩ := z_behind (t := t) (m := e + 3) (l := 1) hD' hG ho (by omega) d2 no123 d9 (d13 (e + 3) (by omega) (by omega)).2.1
      have bm : fX12_behindMember r'.2 (nI t) = some (nI t') := by
        rw [fX12_behindMember, z_is hD' hG z_sField2 (by omega)]
        show (some (e_word g t w_field)).bind _ = _
        rw [hf', Option.bind_some, if_neg (by decide), y1]
        rfl
      have hst33 : q_run (tX12_members_33 q) (nI t, nI o, D) = if r'.1 = true then q_run (tX12_members_33 q) (nI t', nI o, r'.2) else some (.inl (false, r'.2)) := by
        by_cases c : r'.1 = true
        · rw [if_pos c]
          refine q_run_go ?_
          simp only [tX12_members_33, isE, hmk', isF, hf', Option.bind_some, if_true, Bool.false_eq_true, if_false, v2, c, bm]
        · rw [if_neg c]
          refine q_run_ret ?_
          simp only [tX12_members_33, isE, hmk', isF, hf', Option.bind_some, if_true, Bool.false_eq_true, if_false, v2, c]
      have hstC : tX4_memberFault_5 p (nI o, nI t, C) = if r.1 = -1 then some (.inr (nI o, nI (t + 1), r.2)) else some (.inl (r.1, r.2)) := by
        have hk : e_kind g t ≠ 48 ∧ e_kind g t ≠ 49 ∧ (e_kind g t = 50 ∨ e_kind g t = 51) := by
          rw [d11]; cases e_word g t w_static <;> decide
        simp only [tX4_memberFault_5, I.hC.2.1, if_neg e1, z_inbN (show t < 16000 by omega) (by decide), if_true, z_cl (show t < 2147483648 by omega), I.kd t ht, if_neg hk.1, if_neg hk.2.1, if_pos hk.2.2, v1, Option.bind_some, nI_1]
      have hin : ∀ i, t < i → i < t' → e_nm g i := by
        intro i i1 i2
        by_cases c : i < e + 4
        · exact e_nm53 (d13 i i1 c).1
        · have := y5 i (by omega) i2
          exact e_nm_of ho (by omega) (fun h => by rw [h] at this; exact absurd this (by decide)) (fun h => by rw [h] at this; exact absurd this (by decide))
      rw [hst33]
      rcases v5 with ⟨f, f1, f2, f3, f4⟩ | ⟨f1, f2, M', f3, f4, f5, f6⟩
      · have nm : ¬ r.1 = -1 := by rw [f2, z_m1N (by omega)]; exact fun x => x
        rw [if_neg nm] at hstC
        rw [if_neg (by rw [f3]; decide)]
        exact ⟨_, _, q_run_ret hstC, rfl, v3, v4, Or.inl ⟨f, f1, f2, rfl, f4⟩⟩
      · rw [if_pos f1] at hstC
        rw [if_pos f2, q_run_go hstC, z_memSkip f3.hC.2.1 (by omega) f3.kd y3 (t' - (t + 1)) (t + 1) (by omega) (fun i i1 i2 => hin i (by omega) i2)]
        have nz : ∀ k, K.cw o ≤ k → k ≤ t' → e_st g k ≠ (0, []) := by
          intro k k1 k2 hk
          by_cases c : k ≤ t
          · exact hno k k1 c hk
          · by_cases c2 : k < e + 4
            · have := (d13 k (by omega) c2).2.1
              rw [hk] at this
              exact absurd this (by decide)
            · by_cases c3 : k = t'
              · rw [c3, y4] at hk; exact absurd hk (by decide)
              · have := y5 k (by omega) (by omega)
                rw [hk] at this
                exact absurd this (by omega)
        have hP' : m_P g M' t' := by
          refine ⟨fun i hi hk => ?_, fun b b' h hb => ?_, fun b hb => ?_⟩
          · by_cases c : i < t
            · obtain ⟨b, x1, x2⟩ := hP.1 i c hk
              exact ⟨b, by rw [f4]; omega, by rw [f6 b x1]; exact x2⟩
            · by_cases c2 : i = t
              · subst c2; exact ⟨M.bc, by rw [f4]; omega, f5⟩
              · exfalso
                have := hin i (by omega) hi
                rcases hk with h | h
                · exact this.2.2.1 h
                · exact this.2.2.2 h
          · rw [f4] at hb
            rw [f6 b (by omega)]
            by_cases c : b' = M.bc
            · rw [c, f5]; have := hP.2.2 b (by omega); omega
            · rw [f6 b' (by omega)]; exact hP.2.1 b b' h (by omega)
          · rw [f4] at hb
            by_cases c : b = M.bc
            · rw [c, f5]; omega
            · rw [f6 b (by omega)]; have := hP.2.2 b (by omega); omega
        obtain ⟨r2, r2', w1, w2, w3, w4, w5⟩ := ih (g.1 - t') (by omega) t' o r.2 r'.2 M' (by omega) y4 h8 (by omega) nz f3 hP'
        exact ⟨r2, r2', w1, w2, v3.trans w3, v4.trans w4, w5⟩
end ZMEMW
