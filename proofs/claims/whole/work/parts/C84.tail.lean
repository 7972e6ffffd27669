/-! ===== the end of a head ===== -/
section ZTAIL
variable {C D : QS} {n p q : Nat} {g : ZT} {K : ZK} {M : ZM}
theorem k_rs_rng {t x : Nat} (hK : k_K g K) (h : k_rs g K t = some x) : x = 68 ∨ k_tok K x := by
  rw [k_rs] at h
  split at h
  · cases h; exact Or.inl rfl
  · exact Or.inr (k_ty_rng hK.1 h)
theorem k_tok_lt {x : Nat} (hK : k_K g K) (h : k_tok K x) : x < 67 := by
  have := hK.2.1
  rcases h with h | h | h | h <;> omega
theorem z_tail_c {t e b a : Nat} (hC : z_C C n g) (hG : z_G n g) (hK : k_K g K) (hk : k_C C p K) (hd : e_hd g t e) (hb : b < 48) (ha : C.2.1 (p + 25) b = nI a) : q_run (tX4_headFault_102 p (nI b)) (nI e, C) = match k_rs g K (e + 1) with | none => some (nI (e + 1), C) | some res => if e_val g (e + 2) < nI a then some (nI (e + 2), C) else if e_val g (e + 2) ≤ 12 then some (-1, q_sI (q_sI C (p + 27) b (nI res)) (p + 28) b (e_val g (e + 2))) else some (nI (e + 2), C) := by
  have b1 := hG.1
  have b2 := hG.2.1
  obtain ⟨h1, h2, h3, h4, h5, h6, h7, h8, h9, -⟩ := hd
  have e1 : ¬ nI g.1 ≤ nI e := by rw [z_leN (by omega) (by omega)]; omega
  have w1 : fX8_isMark C (nI e) 41 = some true := by rw [z_isMark hC hG (by omega)]; exact congrArg some h6
  have w2 : fX8_isWord C (nI (e + 1)) 1000052 = some (e_word g (e + 1) w_none) := z_isWord hC hG z_sNone3 (by omega)
  have w3 := z_cNum hC hG h8
  have i1 := z_inbN hb (by decide)
  have c1 := z_cl (show b < 2147483648 by omega)
  have e2 : (nI e + 2 : Int32) = nI (e + 2) := by rw [show (2 : Int32) = nI 2 from rfl, nI_add]
  have core : fX4_headFault_162 C p (nI b) (nI e) = match k_rs g K (e + 1) with | none => some (nI (e + 1), C) | some res => if e_val g (e + 2) < nI a then some (nI (e + 2), C) else if e_val g (e + 2) ≤ 12 then some (-1, q_sI (q_sI C (p + 27) b (nI res)) (p + 28) b (e_val g (e + 2))) else some (nI (e + 2), C) := by
    simp only [fX4_headFault_162, nI_1, w2, Option.bind_some, e2, w3, i1, if_true, c1, ha]
    have hv : ((if e_word g (e + 1) w_none = true then some (68 : Int32) else (fX4_typeAt C p (nI (e + 1))).bind fun r3 => some r3) : Option Int32) = some (k_oI (k_rs g K (e + 1))) := by
      rw [k_rs]
      by_cases hw : e_word g (e + 1) w_none = true
      · rw [if_pos hw, if_pos hw]; rfl
      · rw [if_neg hw, if_neg hw, z_typeAt hC hG hK hk (h7.resolve_right hw)]; rfl
    rw [hv, Option.bind_some]
    cases hr : k_rs g K (e + 1) with
    | none => rfl
    | some res =>
      have : res < 69 := by
        rcases k_rs_rng hK hr with h | h
        · omega
        · have := k_tok_lt hK h; omega
      have nm : ¬ nI res = -1 := by rw [z_m1N (by omega)]; exact fun x => x
      exact if_neg nm
  have st : tX4_headFault_102 p (nI b) (nI e, C) = (fX4_headFault_162 C p (nI b) (nI e)).bind fun r21 => some (.inl r21) := by
    simp only [tX4_headFault_102, hC.2.1, if_neg e1, w1, Option.bind_some, if_true]
  rw [core] at st
  cases hr : k_rs g K (e + 1) with
  | none => rw [hr] at st; exact q_run_ret st
  | some res =>
    rw [hr] at st
    simp only at st ⊢
    by_cases x1 : e_val g (e + 2) < nI a
    · rw [if_pos x1] at st ⊢; exact q_run_ret st
    · rw [if_neg x1] at st ⊢
      by_cases x2 : e_val g (e + 2) ≤ 12
      · rw [if_pos x2] at st ⊢; exact q_run_ret st
      · rw [if_neg x2] at st ⊢; exact q_run_ret st
theorem z_tail_d {t e b a o : Nat} {m : Bool} (hD : z_D D n g) (hG : z_G n g) (hq : z_qq q) (hK : k_K g K) (hk : k_D D q K) (hd : e_hd g t e) (hb : b < 48) (hb2 : D.2.1 q 2 = nI b) : q_run (tX12_body_159 q (nI o) (nI t) (q_b m) (nI b)) (nI a, nI e, D) = match k_rs g K (e + 1) with | none => some (false, q_sI (q_sI D (q + 10) b (-1)) 102 12 (nI (e + 1))) | some res => if e_val g (e + 2) < nI a then some (false, q_sI (q_sI (q_sI D (q + 10) b (k_y res)) 166 b (nI (e + 1))) 102 12 (nI (e + 2))) else if e_val g (e + 2) ≤ 12 then some (true, q_sI (q_sI (q_sI (q_sI (q_sI (q_sI (q_sI (q_sI D (q + 10) b (k_y res)) 166 b (nI (e + 1))) 165 b (nI (t + 1))) (q + 6) b (nI o)) (q + 7) b (q_b m)) (q + 8) b (nI a)) (q + 11) b (e_val g (e + 2))) q 2 (nI (b + 1))) else some (false, q_sI (q_sI (q_sI D (q + 10) b (k_y res)) 166 b (nI (e + 1))) 102 12 (nI (e + 2))) := by
  have b1 := hG.1
  have b2 := hG.2.1
  obtain ⟨h1, h2, h3, h4, h5, h6, h7, h8, h9, -⟩ := hd
  have w1 : fX12_is D (nI e) 1000074 = some true := by rw [z_is hD hG z_sEnd (by omega)]; exact congrArg some ((e_mark_word hG (by decide)).trans h6)
  have w2 : ∀ D' : QS, z_D D' n g → fX12_is D' (nI (e + 1)) 1000076 = some (e_word g (e + 1) w_none) := fun D' hD' => z_is hD' hG z_sNone2 (by omega)
  have i1 := z_inbN hb (by decide)
  have c1 := z_cl (show b < 2147483648 by omega)
  have z12 : (12 : Int64) = (12 : Int32).toInt64 := by decide
  have core : ∀ res, fX12_body_282 (q_sI D (q + 10) b (k_y res)) q (nI o) (nI t) (q_b m) (nI b) (nI a) (nI (e + 1)) = if e_val g (e + 2) < nI a then some (false, q_sI (q_sI (q_sI D (q + 10) b (k_y res)) 166 b (nI (e + 1))) 102 12 (nI (e + 2))) else if e_val g (e + 2) ≤ 12 then some (true, q_sI (q_sI (q_sI (q_sI (q_sI (q_sI (q_sI (q_sI D (q + 10) b (k_y res)) 166 b (nI (e + 1))) 165 b (nI (t + 1))) (q + 6) b (nI o)) (q + 7) b (q_b m)) (q + 8) b (nI a)) (q + 11) b (e_val g (e + 2))) q 2 (nI (b + 1))) else some (false, q_sI (q_sI (q_sI D (q + 10) b (k_y res)) 166 b (nI (e + 1))) 102 12 (nI (e + 2))) := by
    intro res
    have hD2 : z_D (q_sI (q_sI D (q + 10) b (k_y res)) 166 b (nI (e + 1))) n g := (hD.sI (by rcases hq with rfl | rfl <;> omega)).sI (by omega)
    have i32 : (e_val g (e + 2)).toInt64.toInt32 = e_val g (e + 2) := Int32.toInt32_toInt64 _
    simp only [fX12_body_282, i1, if_true, c1, Option.bind_some, nI_1, z_dNum hD2 hG h8, z12, z_cmpLt, z_cmpLe, i32, fX12_wrong, z_narb]
    have rd : (q_sI (q_sI (q_sI (q_sI (q_sI (q_sI (q_sI D (q + 10) b (k_y res)) 166 b (nI (e + 1))) 165 b (nI (t + 1))) (q + 6) b (nI o)) (q + 7) b (q_b m)) (q + 8) b (nI a)) (q + 11) b (e_val g (e + 2))).2.1 q 2 = nI b := by
      rw [← hb2]
      simp only [q_sI_I]
      rcases hq with rfl | rfl <;> simp (disch := omega) only [if_neg]
    rw [rd, nI_1]
  have hD1 : ∀ x, z_D (q_sI D (q + 10) b x) n g := fun x => hD.sI (by rcases hq with rfl | rfl <;> omega)
  have hv : ((if e_word g (e + 1) w_none = true then some (-1 : Int32) else (fX12_typeOf D q (nI (e + 1))).bind fun r3 => some r3) : Option Int32) = some (k_yo (k_rs g K (e + 1))) := by
    rw [k_rs]
    by_cases hw : e_word g (e + 1) w_none = true
    · rw [if_pos hw, if_pos hw]; rfl
    · rw [if_neg hw, if_neg hw, z_typeOf hD hG hK hk (h7.resolve_right hw)]; rfl
  have st : tX12_body_159 q (nI o) (nI t) (q_b m) (nI b) (nI a, nI e, D) = match k_rs g K (e + 1) with | none => some (.inl (false, q_sI (q_sI D (q + 10) b (-1)) 102 12 (nI (e + 1)))) | some res => (fX12_body_282 (q_sI D (q + 10) b (k_y res)) q (nI o) (nI t) (q_b m) (nI b) (nI a) (nI (e + 1))).bind fun r => some (.inl r) := by
    simp only [tX12_body_159, w1, Option.bind_some, if_true, nI_1, w2 D hD]
    rw [hv, Option.bind_some]
    simp only [i1, if_true, c1, w2 _ (hD1 _), Option.bind_some]
    rw [k_rs]
    by_cases hw : e_word g (e + 1) w_none = true
    · simp only [if_pos hw]; rfl
    · simp only [if_neg hw]
      cases hr : k_ty g K (e + 1) with
      | none =>
        have r0 : (q_sI D (q + 10) b (k_yo none)).2.1 (q + 10) b = -1 := by rw [q_sI_I, if_pos ⟨rfl, rfl⟩]; rfl
        simp only [r0]
        rw [if_neg (by decide)]
        rfl
      | some res =>
        have : res < 67 := k_tok_lt hK (k_ty_rng hK.1 hr)
        have r0 : (q_sI D (q + 10) b (k_yo (some res))).2.1 (q + 10) b = k_y res := by rw [q_sI_I, if_pos ⟨rfl, rfl⟩]; rfl
        simp only [r0]
        rw [if_pos (k_y_pos (by omega))]
        rfl
  cases hr : k_rs g K (e + 1) with
  | none => rw [hr] at st; exact q_run_ret st
  | some res =>
    rw [hr] at st
    simp only [core res] at st ⊢
    by_cases x1 : e_val g (e + 2) < nI a
    · rw [if_pos x1] at st ⊢; exact q_run_ret st
    · rw [if_neg x1] at st ⊢
      by_cases x2 : e_val g (e + 2) ≤ 12
      · rw [if_pos x2] at st ⊢; exact q_run_ret st
      · rw [if_neg x2] at st ⊢; exact q_run_ret st
end ZTAIL
