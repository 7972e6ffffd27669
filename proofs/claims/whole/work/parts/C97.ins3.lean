/-! ===== instructions that name types ===== -/
section ZTYN
variable {g : ZT} {K : ZK} {n : Nat}
theorem z_nam_nc {B : Nat → Int32} {u v : Nat} {f : Int32} (h : z_nam B u v f = true) : u < v ∧ ∀ i, u ≤ i → i < v → z_nc (B i) = true := by
  simp only [z_nam, Bool.and_eq_true, decide_eq_true_eq] at h
  obtain ⟨h1, h2, h3, h4, h5⟩ := h
  refine ⟨h1, fun i i1 i2 => ?_⟩
  have := (z_ff_all (g := fun k => if z_nc (B k) = true then none else some false) (lo := u) (m := v - u) (fun k _ _ => by
    show (if z_nc (B k) = true then none else some false) = none ∨ (if z_nc (B k) = true then none else some false) = some false
    by_cases c : z_nc (B k) = true
    · rw [if_pos c]; exact Or.inl rfl
    · rw [if_neg c]; exact Or.inr rfl)).mp h5 i i1 (by omega)
  by_cases c : z_nc (B i) = true
  · exact c
  · simp only [if_neg c] at this; cases this
theorem e_nam_typ {t : Nat} (h : e_nam g t 65 = true) : k_arr g.2.1 g.2.2.1 g.2.2.2 t = false ∧ e_typ g t = true ∧ k_ty g K t = k_cls g K (g.2.2.1 t) (g.2.2.2 t) ∧ e_word g t w_int = false := by
  simp only [e_nam, k_nam, Bool.and_eq_true, decide_eq_true_eq] at h
  obtain ⟨h1, h2⟩ := h
  obtain ⟨a1, a2⟩ := z_nam_nc h2
  have a3 := z_nam_b0 h2
  have har : k_arr g.2.1 g.2.2.1 g.2.2.2 t = false := by
    rw [k_arr]
    by_cases c : g.2.1 (g.2.2.2 t - 1) = 93
    · have := a2 (g.2.2.2 t - 1) (by omega) (by omega)
      rw [c] at this
      exact absurd this (by decide)
    · rw [decide_eq_false c, Bool.and_false, Bool.and_false]
  have hes : k_es g.2.1 g.2.2.1 g.2.2.2 t = g.2.2.2 t := by rw [k_es, har]; rfl
  have hni : ∀ v, z_txt g.2.1 (g.2.2.1 t) v w_int = false := by
    intro v
    cases hx : z_txt g.2.1 (g.2.2.1 t) v w_int with
    | false => rfl
    | true =>
      have := (z_txt_iff.mp hx).2 0 (by decide)
      rw [Nat.add_zero] at this
      rw [this] at a3
      exact absurd a3.2 (by decide)
  refine ⟨har, ?_, ?_, ?_⟩
  · rw [e_typ, k_typ, decide_eq_true h1, Bool.true_and, hes, h2, Bool.or_true]
  · rw [k_ty, if_neg (by rw [hni]; decide), hes, har]
    cases k_cls g K (g.2.2.1 t) (g.2.2.2 t) <;> rfl
  · rw [e_word, k_word, hni, Bool.and_false]
theorem e_int_typ {t : Nat} (h : e_word g t w_int = true) : e_typ g t = true ∧ k_ty g K t = some 66 := by
  simp only [e_word, k_word, Bool.and_eq_true, decide_eq_true_eq] at h
  obtain ⟨h1, h2⟩ := h
  obtain ⟨a1, a2⟩ := z_txt_iff.mp h2
  have a1 : g.2.2.2 t = g.2.2.1 t + 3 := a1
  have har : k_arr g.2.1 g.2.2.1 g.2.2.2 t = false := by
    rw [k_arr]
    have := a2 1 (by decide)
    rw [show g.2.2.2 t - 2 = g.2.2.1 t + 1 by omega, this]
    rw [show decide ((w_int.getD 1 0) = 91) = false by decide, Bool.false_and, Bool.and_false]
  have hes : k_es g.2.1 g.2.2.1 g.2.2.2 t = g.2.2.2 t := by rw [k_es, har]; rfl
  refine ⟨?_, ?_⟩
  · rw [e_typ, k_typ, decide_eq_true h1, Bool.true_and, hes]
    show (z_txt g.2.1 (g.2.2.1 t) (g.2.2.2 t) w_int || _) = true
    rw [h2, Bool.true_or]
  · rw [k_ty, hes, if_pos h2, har]; rfl
theorem k_ty_66 {t : Nat} (ht : t < g.1) (h : k_ty g K t = some 66) (hK : k_K g K) : e_word g t w_int = true := by
  have h32 := hK.2.1
  rw [k_ty] at h
  split at h
  · next c =>
    cases hr : k_arr g.2.1 g.2.2.1 g.2.2.2 t with
    | true => rw [hr] at h; exact absurd h (by decide)
    | false =>
      rw [k_es, hr] at c
      rw [e_word, k_word, decide_eq_true ht, Bool.true_and]
      exact c
  · next c =>
    exfalso
    cases hc : k_cls g K (g.2.2.1 t) (k_es g.2.1 g.2.2.1 g.2.2.2 t) with
    | none => rw [hc] at h; cases h
    | some x =>
      have := k_cls_lt hK.1 hc
      rw [hc] at h
      simp only [Option.map_some, Option.some.injEq] at h
      split at h <;> omega
end ZTYN
section ZINS3
variable {C D : QS} {n p q : Nat} {g : ZT} {K : ZK} {M : ZM} {P : ZP}
theorem z_insT {t k b E nl F : Nat} {lw lp : Nat → Nat} (hk : k = 37 ∨ k = 38) (hp : z_pp p) (hq : z_qq q) (hG : z_G n g) (hK : k_K g K) (S : c_S p q n g K M P C D) (hL : c_L g nl lw lp F E C D) (hI : e_insT g t k) (ht : t + 1 < g.1) (hb : b < M.bc) (h8 : C.2.1 78 8 = nI b) (hF : P.fi b = F) (hE : P.en b = E) (hn1 : F ≤ P.n) (hn2 : P.n < E) (hN : P.n < 1024) : z_res p q K M P C D t k b (fX4_addsInstruction C p (nI t)) (fX12_code_46 D q (nI b) (nI t) (nI E) (nI k)) := by
  have b1 := hG.1
  have b2 := hG.2.1
  have bs := S.bs
  have k46 : k < 46 := by omega
  have mk0 : k_mk k = 0 := by rw [k_mk, if_neg (by omega)]
  obtain ⟨B1, B2⟩ := z_base (t := t) (k := k) (b := b) (d := k_mk k) hp hq S hL
  rw [mk0] at B1 B2
  have o1 : e_typ g (t + 1) = true ∧ e_word g (t + 1) w_int = false := by
    have eo : e_ops (nI k) = [89] := by rcases hk with rfl | rfl <;> decide
    have : e_okp g (t + 1) 89 = true := e_opd hI eo 0 (by decide)
    rw [e_okp_Y, Bool.and_eq_true, Bool.not_eq_true'] at this
    exact this
  have i1 := z_inbN hN (by decide)
  have c1 := z_cl (show P.n < 2147483648 by omega)
  have kd : e_kind g t = nI k := hI.2.2.2.1
  have nk := z_nk k46
  have e0 : ¬ nI k = 0 := nk 0 (by omega) (by omega)
  have e2 : ¬ (nI k = 2 ∨ nI k = 3 ∨ nI k = 4) := by
    rintro (h | h | h)
    · exact nk 2 (by omega) (by omega) h
    · exact nk 3 (by omega) (by omega) h
    · exact nk 4 (by omega) (by omega) h
  have e3 : nI k = 30 ∨ nI k = 37 ∨ nI k = 38 := by
    rcases hk with rfl | rfl
    · exact Or.inr (Or.inl rfl)
    · exact Or.inr (Or.inr rfl)
  have hch : z_opL.getD k 0 = 84 := by rcases hk with rfl | rfl <;> rfl
  have r1 : ∀ v, (q_sI (z_C0 C p P.n P.ns t k b 0) (p + 12) P.n v).2.1 (p + 12) P.n = v := fun v => by rw [q_sI_I, if_pos ⟨rfl, rfl⟩]
  have hc : fX4_addsInstruction C p (nI t) = if k_oI (k_ty g K (t + 1)) = -1 then some (false, q_sI (z_C0 C p P.n P.ns t k b 0) (p + 12) P.n (k_oI (k_ty g K (t + 1)))) else some (true, q_sI (z_C0 C p P.n P.ns t k b 0) (p + 12) P.n (k_oI (k_ty g K (t + 1)))) := by
    simp only [fX4_addsInstruction, z_inbN (show t < 16000 by omega) (by decide), if_true, z_cl (show t < 2147483648 by omega), S.mJ.kd t (by omega), kd, h8, z_addInstruction S k46 hN, mk0, Option.bind_some, nI_1, if_neg e0, if_neg e2, if_pos e3, z_typeAt B1.hC hG hK B1.kC o1.1, S.nC, i1, c1, r1]
  have hd : fX12_code_46 D q (nI b) (nI t) (nI E) (nI k) = if 0 ≤ k_yo (k_ty g K (t + 1)) then some (true, q_sI (z_D0 D q P.n t k b) (q + 16) P.n (k_yo (k_ty g K (t + 1)))) else some (false, q_sI (q_sI (z_D0 D q P.n t k b) (q + 16) P.n (k_yo (k_ty g K (t + 1)))) 102 12 (nI (t + 1))) := by
    rw [z_code46 S hq k46 hN, hch]
    show (fX12_typeOf (z_D0 D q P.n t k b) q (nI (t + 1))).bind _ = _
    rw [z_typeOf B1.hD hG hK B1.kD o1.1, Option.bind_some]
  rw [hc, hd]
  cases hty : k_ty g K (t + 1) with
  | none =>
    refine ⟨_, _, (z_C0_off (d := 0)).sI (by omega), (z_D0_off.sI (by omega)).sI (by omega), Or.inl ⟨if_pos rfl, if_neg (by decide), ?_⟩⟩
    rw [q_sI_I, if_pos ⟨rfl, rfl⟩]
  | some x =>
    have hx := k_ty_rng hK.1 hty
    have hx' := k_tok_lt hK hx
    have hne : x ≠ 66 := fun e => by
      have := k_ty_66 ht (e ▸ hty) hK
      rw [o1.2] at this; cases this
    have nm : ¬ k_oI (some x) = -1 := by show ¬ nI x = -1; rw [z_m1N (by omega)]; exact fun x => x
    exact ⟨_, _, (z_C0_off (d := 0)).sI (by omega), z_D0_off.sI (by omega), Or.inr ⟨if_neg nm, if_pos (k_y_pos (by omega)), nI x, k_y x, 0, 0, 0, z_C1_0.symm, z_D1_0.symm, by omega, by omega, c_W_new k46 hb (by omega) (by omega) (fun _ _ _ _ _ _ _ _ _ _ => by omega) (fun h => by omega) (fun h => by omega) (fun h => by omega) (fun h => by omega) (fun h => by omega) (fun _ => ⟨x, rfl, rfl, hx, hne⟩) (fun h => by omega)⟩⟩
/-- what new and array make -/
theorem z_makes47 {t k b x : Nat} {y5 : Int32} (hq : z_qq q) (S : c_S p q n g K M P C D) (hN : P.n < 1024) (hs : P.ns < 48) (hy : ((if nI k = (30 : Int32) then some (8 + y5) else if 0 ≤ y5 then some (48 + y5) else some 40) : Option Int32) = some (k_y x)) : fX12_makes_47 (z_D0 D q P.n t k b) q (nI P.n) (nI k) y5 = some (true, z_D1 D q P.n P.ns t k b x (nI P.ns) 0 1) := by
  have i1 := z_inbN hN (by decide)
  have c1 := z_cl (show P.n < 2147483648 by omega)
  have i2 := z_inbN (show P.ns < 54 by omega) (by decide)
  have c2 := z_cl (show P.ns < 2147483648 by omega)
  have d4 : (z_D0 D q P.n t k b).2.1 q 4 = nI P.ns := by
    rw [z_D0_fr (by omega) (by omega) (by rcases hq with rfl | rfl <;> omega)]; exact S.sD
  have d5 : ∀ v, (q_sI (z_D0 D q P.n t k b) (q + 20) P.ns v).2.1 q 4 = nI P.ns := fun v => by rw [q_sI_I, if_neg (by omega)]; exact d4
  have d6 : ∀ v v', (q_sI (q_sI (z_D0 D q P.n t k b) (q + 20) P.ns v) (q + 16) P.n v').2.1 q 4 = nI P.ns := fun v v' => by rw [q_sI_I, if_neg (by omega)]; exact d5 v
  rw [fX12_makes_47, hy, Option.bind_some, d4, if_pos i2, c2, Option.bind_some, if_pos i1, c1, d5, Option.bind_some, d6, nI_1, z_D1_1 hq]
  rfl
theorem z_insM {t k b E nl F : Nat} {lw lp : Nat → Nat} (hk : k = 30 ∨ k = 31) (hp : z_pp p) (hq : z_qq q) (hG : z_G n g) (hK : k_K g K) (S : c_S p q n g K M P C D) (hL : c_L g nl lw lp F E C D) (hI : e_insT g t k) (ht : t + 1 < g.1) (hb : b < M.bc) (h8 : C.2.1 78 8 = nI b) (hF : P.fi b = F) (hE : P.en b = E) (hn1 : F ≤ P.n) (hn2 : P.n < E) (hN : P.n < 1024) (hs : P.ns < 48) : z_res p q K M P C D t k b (fX4_addsInstruction C p (nI t)) (fX12_code_46 D q (nI b) (nI t) (nI E) (nI k)) := by
  have b1 := hG.1
  have b2 := hG.2.1
  have h32 := hK.2.1
  have k46 : k < 46 := by omega
  have mk1 : k_mk k = 1 := by rw [k_mk, if_pos hk]
  obtain ⟨B1, B2⟩ := z_base (t := t) (k := k) (b := b) (d := k_mk k) hp hq S hL
  rw [mk1] at B1 B2
  have i1 := z_inbN hN (by decide)
  have c1 := z_cl (show P.n < 2147483648 by omega)
  have kd : e_kind g t = nI k := hI.2.2.2.1
  have nk := z_nk k46
  have e0 : ¬ nI k = 0 := nk 0 (by omega) (by omega)
  have e2 : ¬ (nI k = 2 ∨ nI k = 3 ∨ nI k = 4) := by
    rintro (h | h | h)
    · exact nk 2 (by omega) (by omega) h
    · exact nk 3 (by omega) (by omega) h
    · exact nk 4 (by omega) (by omega) h
  have r1 : ∀ v, (q_sI (z_C0 C p P.n P.ns t k b 1) (p + 12) P.n v).2.1 (p + 12) P.n = v := fun v => by rw [q_sI_I, if_pos ⟨rfl, rfl⟩]
  have hch : z_opL.getD k 0 = 67 ∨ z_opL.getD k 0 = 69 := by rcases hk with rfl | rfl <;> decide
  have hD1 : ∀ x, z_offD q D (z_D1 D q P.n P.ns t k b x (nI P.ns) 0 1) := fun x => by
    rw [z_D1_1 hq]
    exact ((z_D0_off.sI (by omega)).sI (by omega)).sI (by omega)
  have rfl12 : (q_sI (z_D0 D q P.n t k b) 102 12 (nI (t + 1))).2.1 102 12 = nI (t + 1) := by rw [q_sI_I, if_pos ⟨rfl, rfl⟩]
  have hd0 : fX12_code_46 D q (nI b) (nI t) (nI E) (nI k) = (fX12_makes (z_D0 D q P.n t k b) q (nI P.n) (nI k) (nI (t + 1))).bind fun r28 => some (r28.1, r28.2) := by
    rw [z_code46 S hq k46 hN, Option.bind_some, if_pos hch]
  have isI : fX12_is (z_D0 D q P.n t k b) (nI (t + 1)) 1000086 = some (e_word g (t + 1) w_int) := z_is B1.hD hG z_sInt2 (by omega)
  -- the class's and the reference's answers, a class being named
  have named : e_nam g (t + 1) 65 = true → z_res p q K M P C D t k b (fX4_addsInstruction C p (nI t)) (fX12_code_46 D q (nI b) (nI t) (nI E) (nI k)) := by
    intro hn
    obtain ⟨n1, n2, n3, n4⟩ := e_nam_typ (K := K) hn
    have ty := z_typeAt B1.hC hG hK B1.kC n2
    rw [n3] at ty
    have cl := z_classOfToken B1.hD hG hK B1.kD ht
    rw [n4] at isI
    rw [hd0]
    have hmk : fX12_makes (z_D0 D q P.n t k b) q (nI P.n) (nI k) (nI (t + 1)) = if 0 ≤ k_oI (k_cls g K (g.2.2.1 (t + 1)) (g.2.2.2 (t + 1))) then fX12_makes_47 (z_D0 D q P.n t k b) q (nI P.n) (nI k) (k_oI (k_cls g K (g.2.2.1 (t + 1)) (g.2.2.2 (t + 1)))) else some (false, q_sI (z_D0 D q P.n t k b) 102 12 (nI (t + 1))) := by
      simp only [fX12_makes, isI, Option.bind_some, Bool.false_eq_true, if_false, cl, fX12_wrong]
    rw [hmk]
    rcases hk with hk | hk
    · have e3 : nI k = 30 ∨ nI k = 37 ∨ nI k = 38 := Or.inl (by rw [hk]; rfl)
      have hc : fX4_addsInstruction C p (nI t) = if k_oI (k_cls g K (g.2.2.1 (t + 1)) (g.2.2.2 (t + 1))) = -1 then some (false, q_sI (z_C0 C p P.n P.ns t k b 1) (p + 12) P.n (k_oI (k_cls g K (g.2.2.1 (t + 1)) (g.2.2.2 (t + 1))))) else some (true, q_sI (z_C0 C p P.n P.ns t k b 1) (p + 12) P.n (k_oI (k_cls g K (g.2.2.1 (t + 1)) (g.2.2.2 (t + 1))))) := by
        simp only [fX4_addsInstruction, z_inbN (show t < 16000 by omega) (by decide), if_true, z_cl (show t < 2147483648 by omega), S.mJ.kd t (by omega), kd, h8, z_addInstruction S k46 hN, mk1, Option.bind_some, nI_1, if_neg e0, if_neg e2, if_pos e3, ty, S.nC, i1, c1, r1]
      rw [hc]
      cases hcl : k_cls g K (g.2.2.1 (t + 1)) (g.2.2.2 (t + 1)) with
      | none =>
        refine ⟨_, _, (z_C0_off (d := 1)).sI (by omega), z_D0_off.sI (by omega), Or.inl ⟨if_pos rfl, ?_, rfl12⟩⟩
        rw [if_neg (by decide)]; rfl
      | some c =>
        have hc := k_cls_lt hK.1 hcl
        have nm : ¬ k_oI (some c) = -1 := by show ¬ nI c = -1; rw [z_m1N (by omega)]; exact fun x => x
        refine ⟨_, _, (z_C0_off (d := 1)).sI (by omega), hD1 c, Or.inr ⟨if_neg nm, ?_, nI c, nI P.ns, 0, 1, c, z_C1_0.symm, rfl, by omega, by omega, c_W_new k46 hb (by omega) (by omega) (fun _ _ _ _ _ _ _ _ _ _ => by omega) (fun h => by omega) (fun h => by omega) (fun _ => ⟨rfl, hc, rfl, rfl⟩) (fun h => by omega) (fun h => by omega) (fun h => by omega) (fun h => by omega)⟩⟩
        rw [if_pos (show (0 : Int32) ≤ k_oI (some c) from nI_pos' (by omega))]
        show (fX12_makes_47 _ _ _ _ (nI c)).bind _ = _
        rw [z_makes47 (x := c) hq S hN hs (by rw [if_pos (show nI k = (30 : Int32) by rw [hk]; rfl), show (8 : Int32) = nI 8 from rfl, nI_add, k_y_c (by omega), Nat.add_comm])]
        rfl
    · have e3 : ¬ (nI k = 30 ∨ nI k = 37 ∨ nI k = 38) := by
        rintro (h | h | h)
        · exact nk 30 (by omega) (by omega) h
        · exact nk 37 (by omega) (by omega) h
        · exact nk 38 (by omega) (by omega) h
      have e4 : nI k = 31 := by rw [hk]; rfl
      have hc : ∀ y, fX4_arrayOf (z_C0 C p P.n P.ns t k b 1) (k_oI (k_cls g K (g.2.2.1 (t + 1)) (g.2.2.2 (t + 1)))) = some y → fX4_addsInstruction C p (nI t) = if y = -1 then some (false, q_sI (z_C0 C p P.n P.ns t k b 1) (p + 12) P.n y) else some (true, q_sI (z_C0 C p P.n P.ns t k b 1) (p + 12) P.n y) := by
        intro y hy
        simp only [fX4_addsInstruction, z_inbN (show t < 16000 by omega) (by decide), if_true, z_cl (show t < 2147483648 by omega), S.mJ.kd t (by omega), kd, h8, z_addInstruction S k46 hN, mk1, Option.bind_some, nI_1, if_neg e0, if_neg e2, if_neg e3, if_pos e4, ty, hy, S.nC, i1, c1, r1]
      cases hcl : k_cls g K (g.2.2.1 (t + 1)) (g.2.2.2 (t + 1)) with
      | none =>
        rw [hc (-1) (by rw [hcl]; rfl)]
        refine ⟨_, _, (z_C0_off (d := 1)).sI (by omega), z_D0_off.sI (by omega), Or.inl ⟨if_pos rfl, ?_, rfl12⟩⟩
        rw [if_neg (by decide)]; rfl
      | some c =>
        have hcc := k_cls_lt hK.1 hcl
        have n66 : ¬ nI c = 66 := z_neN (b := 66) (by omega) (by decide) (by omega)
        have ar : fX4_arrayOf (z_C0 C p P.n P.ns t k b 1) (nI c) = some (nI (32 + c)) := by
          rw [fX4_arrayOf, if_neg n66, if_neg (by rw [z_m1N (by omega)]; exact fun x => x), show (32 : Int32) = nI 32 from rfl, nI_add]
        rw [hc (nI (32 + c)) (by rw [hcl]; exact ar)]
        have nm : ¬ nI (32 + c) = -1 := by rw [z_m1N (by omega)]; exact fun x => x
        refine ⟨_, _, (z_C0_off (d := 1)).sI (by omega), hD1 (32 + c), Or.inr ⟨if_neg nm, ?_, nI (32 + c), nI P.ns, 0, 1, 32 + c, z_C1_0.symm, rfl, by omega, by omega, c_W_new k46 hb (by omega) (by omega) (fun _ _ _ _ _ _ _ _ _ _ => by omega) (fun h => by omega) (fun h => by omega) (fun h => by omega) (fun _ => ⟨rfl, Or.inl ⟨by omega, by omega⟩, rfl, rfl⟩) (fun h => by omega) (fun h => by omega) (fun h => by omega)⟩⟩
        rw [if_pos (show (0 : Int32) ≤ k_oI (some c) from nI_pos' (by omega))]
        show (fX12_makes_47 _ _ _ _ (nI c)).bind _ = _
        rw [z_makes47 (x := 32 + c) hq S hN hs (by rw [if_neg (show ¬ nI k = (30 : Int32) from nk 30 (by omega) (by omega)), if_pos (show (0 : Int32) ≤ nI c from nI_pos' (by omega)), show (48 : Int32) = nI 48 from rfl, nI_add, k_y_a (by omega)])]
        rfl
  rcases hk with hk | hk
  · have eo : e_ops (nI k) = [67] := by rw [hk]; decide
    exact named (e_opd hI eo 0 (by decide))
  · have eo : e_ops (nI k) = [69] := by rw [hk]; decide
    have o1 : e_okp g (t + 1) 69 = true := e_opd hI eo 0 (by decide)
    rw [e_okp_E, Bool.or_eq_true] at o1
    rcases o1 with o1 | o1
    · exact named o1
    · obtain ⟨n2, n3⟩ := e_int_typ (K := K) o1
      have ty := z_typeAt B1.hC hG hK B1.kC n2
      rw [n3] at ty
      rw [o1] at isI
      have e3 : ¬ (nI k = 30 ∨ nI k = 37 ∨ nI k = 38) := by
        rintro (h | h | h)
        · exact nk 30 (by omega) (by omega) h
        · exact nk 37 (by omega) (by omega) h
        · exact nk 38 (by omega) (by omega) h
      have e4 : nI k = 31 := by rw [hk]; rfl
      have ar : fX4_arrayOf (z_C0 C p P.n P.ns t k b 1) (k_oI (some 66)) = some (nI 64) := by
        rw [fX4_arrayOf, if_pos (show k_oI (some 66) = 66 from rfl)]; rfl
      refine ⟨_, _, (z_C0_off (d := 1)).sI (by omega), hD1 64, Or.inr ⟨?_, ?_, nI 64, nI P.ns, 0, 1, 64, z_C1_0.symm, rfl, by omega, by omega, c_W_new k46 hb (by omega) (by omega) (fun _ _ _ _ _ _ _ _ _ _ => by omega) (fun h => by omega) (fun h => by omega) (fun h => by omega) (fun _ => ⟨rfl, Or.inr rfl, rfl, rfl⟩) (fun h => by omega) (fun h => by omega) (fun h => by omega)⟩⟩
      · simp only [fX4_addsInstruction, z_inbN (show t < 16000 by omega) (by decide), if_true, z_cl (show t < 2147483648 by omega), S.mJ.kd t (by omega), kd, h8, z_addInstruction S k46 hN, mk1, Option.bind_some, nI_1, if_neg e0, if_neg e2, if_neg e3, if_pos e4, ty, ar, S.nC, i1, c1, r1]
        rw [if_neg (by decide)]
      · rw [hd0]
        simp only [fX12_makes, isI, Option.bind_some, if_true]
        rw [if_neg (by decide), z_makes47 (x := 64) hq S hN hs (by rw [if_neg (show ¬ nI k = (30 : Int32) from nk 30 (by omega) (by omega)), if_neg (by decide)]; rfl)]
        rfl
end ZINS3
