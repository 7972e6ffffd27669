/-! ===== instructions with numbers, labels, types ===== -/
section ZINS2
variable {C D : QS} {n p q : Nat} {g : ZT} {K : ZK} {M : ZM} {P : ZP}
theorem e_opd {t k : Nat} {L : List Int32} (h : e_insT g t k) (hL : e_ops (nI k) = L) : ∀ j, j < L.length → e_okp g (t + 1 + j) (L.getD j 0) = true := by
  subst hL
  exact h.2.2.2.2.2.2
theorem z_base {t k b d nl F E : Nat} {lw lp : Nat → Nat} (hp : z_pp p) (hq : z_qq q) (S : c_S p q n g K M P C D) (hL : c_L g nl lw lp F E C D) : m_J p q n g K M (z_C0 C p P.n P.ns t k b d) (z_D0 D q P.n t k b) ∧ c_L g nl lw lp F E (z_C0 C p P.n P.ns t k b d) (z_D0 D q P.n t k b) := by
  refine ⟨S.mJ.fr hp hq (fun y j h => z_C0_fr ?_) (fun y j h => z_D0_fr ?_ ?_ ?_), hL.fr (fun y j h => z_C0_fr ?_) (fun y j h => z_D0_fr ?_ ?_ ?_)⟩
  · rw [z_rC] at h; rcases hp with rfl | rfl <;> omega
  · rw [z_rD] at h; rcases hq with rfl | rfl <;> omega
  · rw [z_rD] at h; rcases hq with rfl | rfl <;> omega
  · rw [z_rD] at h; rcases hq with rfl | rfl <;> omega
  · rcases hp with rfl | rfl <;> omega
  · rcases hq with rfl | rfl <;> omega
  · rcases hq with rfl | rfl <;> omega
  · rcases hq with rfl | rfl <;> omega
theorem z_nk {k : Nat} (hk : k < 46) : ∀ m, m < 100 → k ≠ m → ¬ nI k = nI m := fun m hm h => z_neN (by omega) (by omega) h
theorem z_goesToLabel {k : Nat} (hk : k < 46) (S : QS) : fX1_goesToLabel S (nI k) = some (decide (19 ≤ k ∧ k ≤ 29)) := by
  simp only [fX1_goesToLabel, show (19 : Int32) = nI 19 from rfl, show (29 : Int32) = nI 29 from rfl, z_ltN (show k < 2147483648 by omega) (show 19 < 2147483648 by decide), z_ltN (show 29 < 2147483648 by decide) (show k < 2147483648 by omega)]
  by_cases c : k < 19
  · rw [if_pos c, decide_eq_false (by omega)]
  · rw [if_neg c]
    by_cases c2 : 29 < k
    · rw [if_pos c2, decide_eq_false (by omega)]
    · rw [if_neg c2, decide_eq_true (by omega)]
theorem z_insN {t k b E nl F : Nat} {lw lp : Nat → Nat} (hk : k = 0) (hp : z_pp p) (hq : z_qq q) (hG : z_G n g) (S : c_S p q n g K M P C D) (hL : c_L g nl lw lp F E C D) (hI : e_insT g t k) (ht : t + 1 < g.1) (hb : b < M.bc) (h8 : C.2.1 78 8 = nI b) (hF : P.fi b = F) (hE : P.en b = E) (hn1 : F ≤ P.n) (hn2 : P.n < E) (hN : P.n < 1024) : z_res p q K M P C D t k b (fX4_addsInstruction C p (nI t)) (fX12_code_46 D q (nI b) (nI t) (nI E) (nI k)) := by
  have b1 := hG.1
  have b2 := hG.2.1
  have bs := S.bs
  have k46 : k < 46 := by omega
  have mk0 : k_mk k = 0 := by rw [k_mk, if_neg (by omega)]
  obtain ⟨B1, B2⟩ := z_base (t := t) (k := k) (b := b) (d := k_mk k) hp hq S hL
  rw [mk0] at B1 B2
  have o1 : e_num g (t + 1) = true := by
    have eo : e_ops (nI k) = [78] := by rw [hk]; decide
    exact e_opd hI eo 0 (by decide)
  have i1 := z_inbN hN (by decide)
  have c1 := z_cl (show P.n < 2147483648 by omega)
  have i32 : (e_val g (t + 1)).toInt64.toInt32 = e_val g (t + 1) := Int32.toInt32_toInt64 _
  have k0 : e_kind g t = nI k := hI.2.2.2.1
  have e0 : nI k = (0 : Int32) := by rw [hk]; rfl
  have hch : z_opL.getD k 0 = 78 := by rw [hk]; rfl
  refine ⟨_, _, (z_C0_off (d := 0)).sI (by omega), z_D0_off.sI (by omega), Or.inr ⟨?_, ?_, e_val g (t + 1), e_val g (t + 1), 0, 0, 0, z_C1_0.symm, z_D1_0.symm, by omega, by omega, c_W_new k46 hb (by omega) (by omega) (fun _ _ _ _ _ _ _ _ _ _ => rfl) (fun h => by omega) (fun h => by omega) (fun h => by omega) (fun h => by omega) (fun h => by omega) (fun h => by omega) (fun h => by omega)⟩⟩
  · simp only [fX4_addsInstruction, z_inbN (show t < 16000 by omega) (by decide), if_true, z_cl (show t < 2147483648 by omega), S.mJ.kd t (by omega), k0, h8, z_addInstruction S k46 hN, mk0, Option.bind_some, nI_1, z_cNum B1.hC hG o1, S.nC, i1, c1]
    rw [if_pos e0]
  · rw [z_code46 S hq k46 hN, z_dNum B1.hD hG o1, hch]
    simp only [Option.bind_some, i32]
    rw [if_neg (by decide), if_neg (by decide), if_neg (by decide), if_neg (by decide), if_neg (by decide), if_pos trivial]
theorem z_insK {t k b E nl F : Nat} {lw lp : Nat → Nat} (hk : k = 2 ∨ k = 3 ∨ k = 4) (hp : z_pp p) (hq : z_qq q) (hG : z_G n g) (S : c_S p q n g K M P C D) (hL : c_L g nl lw lp F E C D) (hI : e_insT g t k) (ht : t + 1 < g.1) (hb : b < M.bc) (h8 : C.2.1 78 8 = nI b) (hF : P.fi b = F) (hE : P.en b = E) (hn1 : F ≤ P.n) (hn2 : P.n < E) (hN : P.n < 1024) : z_res p q K M P C D t k b (fX4_addsInstruction C p (nI t)) (fX12_code_46 D q (nI b) (nI t) (nI E) (nI k)) := by
  have b1 := hG.1
  have b2 := hG.2.1
  have bs := S.bs
  have hb48 := S.mJ.mB.1
  have k46 : k < 46 := by omega
  have mk0 : k_mk k = 0 := by rw [k_mk, if_neg (by omega)]
  obtain ⟨B1, B2⟩ := z_base (t := t) (k := k) (b := b) (d := k_mk k) hp hq S hL
  have o1 : e_num g (t + 1) = true := by
    rcases hk with rfl | rfl | rfl
    · exact e_opd hI (L := [78]) (by decide) 0 (by decide)
    · exact e_opd hI (L := [78]) (by decide) 0 (by decide)
    · exact e_opd hI (L := [78, 78]) (by decide) 0 (by decide)
  have i1 := z_inbN hN (by decide)
  have c1 := z_cl (show P.n < 2147483648 by omega)
  have ib := z_inbN (show b < 48 by omega) (by decide)
  have cb := z_cl (show b < 2147483648 by omega)
  have i32 : ∀ x : Int32, x.toInt64.toInt32 = x := Int32.toInt32_toInt64
  obtain ⟨e', H⟩ := S.mJ.hd b hb
  have hbl := H.b12
  let v : Int32 := if k = 4 then e_val g (t + 2) else 0
  let CC : QS := z_C1 C p P.n P.ns t k b 0 (e_val g (t + 1)) v
  have rC1 : CC.2.1 (p + 12) P.n = e_val g (t + 1) := by
    show (z_C1 C p P.n P.ns t k b 0 (e_val g (t + 1)) v).2.1 _ _ = _
    rw [z_C1_I]; simp (disch := omega) only [if_neg, and_self, if_true]
  have rC2 : CC.2.1 78 8 = nI b := by
    show (z_C1 C p P.n P.ns t k b 0 (e_val g (t + 1)) v).2.1 _ _ = _
    rw [z_C1_I]; rcases hp with rfl | rfl <;> (simp (disch := omega) only [if_neg]; exact h8)
  have rC3 : CC.2.1 (p + 28) b = nI (M.bl b) := by
    show (z_C1 C p P.n P.ns t k b 0 (e_val g (t + 1)) v).2.1 _ _ = _
    rw [z_C1_I]; simp (disch := omega) only [if_neg]; exact (S.mJ.cB.2 b hb).2.2.2.2.2.1
  have rD1 : (z_D0 D q P.n t k b).2.1 (q + 11) b = nI (M.bl b) := (B1.dB.2 b hb).2.2.2.2.2.1
  have kd : e_kind g t = nI k := hI.2.2.2.1
  have nk := z_nk k46
  have hC16 : z_C (q_sI (z_C0 C p P.n P.ns t k b 0) (p + 12) P.n (e_val g (t + 1))) n g := by
    rw [← mk0]
    exact B1.hC.sI (by rcases hp with rfl | rfl <;> omega)
  have hv : ((if nI k = (4 : Int32) then (fX8_number (q_sI (z_C0 C p P.n P.ns t k b 0) (p + 12) P.n (e_val g (t + 1))) (nI (t + 2))).bind fun r19 => some r19 else some 0) : Option Int32) = some v := by
    show _ = some (if k = 4 then e_val g (t + 2) else 0)
    by_cases c : k = 4
    · subst c
      have o2 : e_num g (t + 2) = true := e_opd hI (L := [78, 78]) (by decide) 1 (by decide)
      rw [if_pos (show nI 4 = (4 : Int32) from rfl), if_pos rfl, z_cNum hC16 hG o2]
      rfl
    · rw [if_neg (show ¬ nI k = (4 : Int32) from nk 4 (by omega) c), if_neg c]
  have hc : fX4_addsInstruction C p (nI t) = if e_val g (t + 1) < 0 then some (false, CC) else if nI (M.bl b) ≤ e_val g (t + 1) then some (false, CC) else some (true, CC) := by
    have e0 : ¬ nI k = 0 := nk 0 (by omega) (by omega)
    have e234 : nI k = 2 ∨ nI k = 3 ∨ nI k = 4 := by
      rcases hk with rfl | rfl | rfl
      · exact Or.inl rfl
      · exact Or.inr (Or.inl rfl)
      · exact Or.inr (Or.inr rfl)
    have num := z_cNum B1.hC hG o1
    rw [mk0] at num
    simp only [fX4_addsInstruction, z_inbN (show t < 16000 by omega) (by decide), if_true, z_cl (show t < 2147483648 by omega), S.mJ.kd t (by omega), kd, h8, z_addInstruction S k46 hN, mk0, Option.bind_some, nI_1, if_neg e0, if_pos e234, num, S.nC, i1, c1]
    rw [hv, Option.bind_some]
    show (if CC.2.1 (p + 12) P.n < 0 then some (false, CC) else if q_inb (CC.2.1 78 8) 48 = true then if CC.2.1 (p + 28) (CC.2.1 78 8).toNatClampNeg ≤ CC.2.1 (p + 12) P.n then some (false, CC) else some (true, CC) else none) = _
    rw [rC1, rC2, ib, cb, rC3, if_pos rfl]
  have z64 : (0 : Int64) = (0 : Int32).toInt64 := by decide
  have hls : fX12_localStep (z_D0 D q P.n t k b) q (nI b) (nI P.n) (nI (t + 1)) = if e_val g (t + 1) < 0 then some (false, q_sI (z_D0 D q P.n t k b) 102 12 (nI (t + 1))) else if e_val g (t + 1) < nI (M.bl b) then some (true, q_sI (z_D0 D q P.n t k b) (q + 16) P.n (e_val g (t + 1))) else some (false, q_sI (z_D0 D q P.n t k b) 102 12 (nI (t + 1))) := by
    simp only [fX12_localStep, z_dNum B1.hD hG o1, Option.bind_some, z64, z_cmpLt, ib, if_true, cb, rD1, i1, c1, i32, fX12_wrong]
  have oC : z_offC p C CC := by
    show z_offC p C (q_sI (q_sI (z_C0 C p P.n P.ns t k b 0) _ _ _) _ _ _)
    exact (z_C0_off.sI (by omega)).sI (by omega)
  have rfl12 : (q_sI (z_D0 D q P.n t k b) 102 12 (nI (t + 1))).2.1 102 12 = nI (t + 1) := by rw [q_sI_I, if_pos ⟨rfl, rfl⟩]
  have hd : fX12_code_46 D q (nI b) (nI t) (nI E) (nI k) = if e_val g (t + 1) < 0 then some (false, q_sI (z_D0 D q P.n t k b) 102 12 (nI (t + 1))) else if e_val g (t + 1) < nI (M.bl b) then some (true, z_D1 D q P.n P.ns t k b 0 (e_val g (t + 1)) v 0) else some (false, q_sI (z_D0 D q P.n t k b) 102 12 (nI (t + 1))) := by
    rw [z_code46 S hq k46 hN]
    by_cases c : k = 4
    · subst c
      have o2 : e_num g (t + 2) = true := e_opd hI (L := [78, 78]) (by decide) 1 (by decide)
      have hD16 : z_D (q_sI (z_D0 D q P.n t 4 b) (q + 16) P.n (e_val g (t + 1))) n g := B1.hD.sI (by rcases hq with rfl | rfl <;> omega)
      show (fX12_localStep (z_D0 D q P.n t 4 b) q (nI b) (nI P.n) (nI (t + 1))).bind _ = _
      rw [hls]
      by_cases x1 : e_val g (t + 1) < 0
      · rw [if_pos x1, if_pos x1]; rfl
      · rw [if_neg x1, if_neg x1]
        by_cases x2 : e_val g (t + 1) < nI (M.bl b)
        · rw [if_pos x2, if_pos x2, Option.bind_some]
          simp only [if_true, z_dNum hD16 hG o2, Option.bind_some, i32]
          rw [z_D1_z]
          rfl
        · rw [if_neg x2, if_neg x2]; rfl
    · have hv0 : v = 0 := if_neg c
      have hch : z_opL.getD k 0 = 75 := by rcases hk with rfl | rfl | rfl <;> first | rfl | exact absurd rfl c
      rw [hch, hv0, z_D1_0]
      show (fX12_localStep (z_D0 D q P.n t k b) q (nI b) (nI P.n) (nI (t + 1))).bind _ = _
      rw [hls]
      by_cases x1 : e_val g (t + 1) < 0
      · simp only [if_pos x1, Option.bind_some]
      · by_cases x2 : e_val g (t + 1) < nI (M.bl b)
        · simp only [if_neg x1, if_pos x2, Option.bind_some]
        · simp only [if_neg x1, if_neg x2, Option.bind_some]
  rw [hc, hd]
  by_cases x1 : e_val g (t + 1) < 0
  · rw [if_pos x1, if_pos x1]
    exact ⟨_, _, oC, z_D0_off.sI (by omega), Or.inl ⟨rfl, rfl, rfl12⟩⟩
  · rw [if_neg x1, if_neg x1]
    by_cases x2 : e_val g (t + 1) < nI (M.bl b)
    · rw [if_pos x2, if_neg (Int32.not_le.mpr x2)]
      obtain ⟨l, hl, hl2⟩ : ∃ l, e_val g (t + 1) = nI l ∧ l < M.bl b := by
        rw [Int32.lt_iff_toInt_lt, show (0 : Int32).toInt = 0 from rfl] at x1
        rw [Int32.lt_iff_toInt_lt, nI_toInt (by omega)] at x2
        exact ⟨(e_val g (t + 1)).toInt.toNat, z_toN (by omega), by omega⟩
      have oD1 : z_offD q D (z_D1 D q P.n P.ns t k b 0 (e_val g (t + 1)) v 0) := by
        rw [z_D1_z]
        exact (z_D0_off.sI (by omega)).sI (by omega)
      refine ⟨CC, _, oC, oD1, Or.inr ⟨rfl, rfl, e_val g (t + 1), e_val g (t + 1), v, 0, 0, rfl, rfl, by omega, by omega, c_W_new k46 hb (by omega) (by omega) (fun _ _ _ _ _ _ _ _ _ _ => rfl) (fun _ => ⟨rfl, l, hl, hl2⟩) (fun h => by omega) (fun h => by omega) (fun h => by omega) (fun h => by omega) (fun h => by omega) (fun h => by omega)⟩⟩
    · rw [if_neg x2, if_pos (Int32.not_lt.mp x2)]
      exact ⟨_, _, oC, z_D0_off.sI (by omega), Or.inl ⟨rfl, rfl, rfl12⟩⟩
theorem z_insL {t k b E nl F : Nat} {lw lp : Nat → Nat} (hk1 : 19 ≤ k) (hk2 : k ≤ 29) (hp : z_pp p) (hq : z_qq q) (hG : z_G n g) (S : c_S p q n g K M P C D) (hL : c_L g nl lw lp F E C D) (hI : e_insT g t k) (ht : t + 1 < g.1) (hb : b < M.bc) (h8 : C.2.1 78 8 = nI b) (h7 : C.2.1 78 7 = nI E) (hF : P.fi b = F) (hE : P.en b = E) (hE2 : E < 100000) (hn1 : F ≤ P.n) (hn2 : P.n < E) (hN : P.n < 1024) : z_res p q K M P C D t k b (fX4_addsInstruction C p (nI t)) (fX12_code_46 D q (nI b) (nI t) (nI E) (nI k)) := by
  have b1 := hG.1
  have b2 := hG.2.1
  have bs := S.bs
  have k46 : k < 46 := by omega
  have mk0 : k_mk k = 0 := by rw [k_mk, if_neg (by omega)]
  obtain ⟨B1, B2⟩ := z_base (t := t) (k := k) (b := b) (d := k_mk k) hp hq S hL
  rw [mk0] at B1 B2
  have i1 := z_inbN hN (by decide)
  have c1 := z_cl (show P.n < 2147483648 by omega)
  have kd : e_kind g t = nI k := hI.2.2.2.1
  have nk := z_nk k46
  have pl := z_placeNamed B1.hC hG B2 ht
  have la := z_labelAt B1.hD hG B2 ht
  have hch : z_opL.getD k 0 = 76 := by
    have : k = 19 ∨ k = 20 ∨ k = 21 ∨ k = 22 ∨ k = 23 ∨ k = 24 ∨ k = 25 ∨ k = 26 ∨ k = 27 ∨ k = 28 ∨ k = 29 := by omega
    rcases this with rfl | rfl | rfl | rfl | rfl | rfl | rfl | rfl | rfl | rfl | rfl <;> rfl
  have r1 : ∀ v, (q_sI (z_C0 C p P.n P.ns t k b 0) (p + 12) P.n v).2.1 (p + 12) P.n = v := fun v => by rw [q_sI_I, if_pos ⟨rfl, rfl⟩]
  have r2 : ∀ v, (q_sI (z_C0 C p P.n P.ns t k b 0) (p + 12) P.n v).2.1 78 7 = nI E := fun v => by
    rw [q_sI_I, if_neg (by rcases hp with rfl | rfl <;> omega), z_C0_fr (by rcases hp with rfl | rfl <;> omega)]
    exact h7
  have hc : ∀ x, k_oI (k_plc g nl lw lp (t + 1)) = x → fX4_addsInstruction C p (nI t) = if x < 0 then some (false, q_sI (z_C0 C p P.n P.ns t k b 0) (p + 12) P.n x) else if nI E ≤ x then some (false, q_sI (z_C0 C p P.n P.ns t k b 0) (p + 12) P.n x) else some (true, q_sI (z_C0 C p P.n P.ns t k b 0) (p + 12) P.n x) := by
    intro x hx
    have e0 : ¬ nI k = 0 := nk 0 (by omega) (by omega)
    have e2 : ¬ (nI k = 2 ∨ nI k = 3 ∨ nI k = 4) := by
      rintro (h | h | h)
      · exact nk 2 (by omega) (by omega) h
      · exact nk 3 (by omega) (by omega) h
      · exact nk 4 (by omega) (by omega) h
    have e3 : ¬ (nI k = 30 ∨ nI k = 37 ∨ nI k = 38) := by
      rintro (h | h | h)
      · exact nk 30 (by omega) (by omega) h
      · exact nk 37 (by omega) (by omega) h
      · exact nk 38 (by omega) (by omega) h
    have e4 : ¬ nI k = 31 := nk 31 (by omega) (by omega)
    have e5 : ¬ (nI k = 35 ∨ nI k = 36 ∨ nI k = 39 ∨ nI k = 40) := by
      rintro (h | h | h | h)
      · exact nk 35 (by omega) (by omega) h
      · exact nk 36 (by omega) (by omega) h
      · exact nk 39 (by omega) (by omega) h
      · exact nk 40 (by omega) (by omega) h
    simp only [fX4_addsInstruction, z_inbN (show t < 16000 by omega) (by decide), if_true, z_cl (show t < 2147483648 by omega), S.mJ.kd t (by omega), kd, h8, z_addInstruction S k46 hN, mk0, Option.bind_some, nI_1, if_neg e0, if_neg e2, if_neg e3, if_neg e4, if_neg e5, z_goesToLabel k46, decide_eq_true (show 19 ≤ k ∧ k ≤ 29 from ⟨hk1, hk2⟩), pl, hx, S.nC, i1, c1, r1, r2]
  have hd : ∀ x, k_oI (k_plc g nl lw lp (t + 1)) = x → fX12_code_46 D q (nI b) (nI t) (nI E) (nI k) = if x < 0 then some (false, q_sI (q_sI (z_D0 D q P.n t k b) (q + 16) P.n x) 102 12 (nI (t + 1))) else if x < nI E then some (true, q_sI (z_D0 D q P.n t k b) (q + 16) P.n x) else some (false, q_sI (q_sI (z_D0 D q P.n t k b) (q + 16) P.n x) 102 12 (nI (t + 1))) := by
    intro x hx
    rw [z_code46 S hq k46 hN, hch]
    show (fX12_labelAt (z_D0 D q P.n t k b) (nI (t + 1))).bind _ = _
    rw [la, hx, Option.bind_some]
  have rfl12 : ∀ S' : QS, (q_sI S' 102 12 (nI (t + 1))).2.1 102 12 = nI (t + 1) := fun S' => by rw [q_sI_I, if_pos ⟨rfl, rfl⟩]
  cases hpl : k_plc g nl lw lp (t + 1) with
  | none =>
    rw [hc (-1) (by rw [hpl]; rfl), hd (-1) (by rw [hpl]; rfl), if_pos (by decide), if_pos (by decide)]
    exact ⟨_, _, z_C0_off.sI (by omega), (z_D0_off.sI (by omega)).sI (by omega), Or.inl ⟨rfl, rfl, rfl12 _⟩⟩
  | some x =>
    obtain ⟨x1, x2⟩ := k_plc_rng hL hpl
    rw [hc (nI x) (by rw [hpl]; rfl), hd (nI x) (by rw [hpl]; rfl)]
    simp only [z_negN (show x < 2147483648 by omega), if_false, z_leN (show E < 2147483648 by omega) (show x < 2147483648 by omega), z_ltN (show x < 2147483648 by omega) (show E < 2147483648 by omega)]
    by_cases c : x < E
    · rw [if_pos c, if_neg (by omega)]
      exact ⟨_, _, z_C0_off.sI (by omega), z_D0_off.sI (by omega), Or.inr ⟨rfl, rfl, nI x, nI x, 0, 0, 0, z_C1_0.symm, z_D1_0.symm, by omega, by omega, c_W_new k46 hb (by omega) (by omega) (fun _ _ _ _ _ _ _ _ _ _ => rfl) (fun h => by omega) (fun _ _ => ⟨rfl, x, rfl, by omega, by omega⟩) (fun h => by omega) (fun h => by omega) (fun h => by omega) (fun h => by omega) (fun h => by omega)⟩⟩
    · rw [if_neg c, if_pos (by omega)]
      exact ⟨_, _, z_C0_off.sI (by omega), (z_D0_off.sI (by omega)).sI (by omega), Or.inl ⟨rfl, rfl, rfl12 _⟩⟩
theorem z_insO {t k b E nl F : Nat} {lw lp : Nat → Nat} (hk : k < 19 ∨ 30 ≤ k) (hk1 : k ≠ 0) (hk2 : k ≠ 2) (hk3 : k ≠ 3) (hk4 : k ≠ 4) (hk30 : k ≠ 30) (hk31 : k ≠ 31) (hk35 : k ≠ 35) (hk36 : k ≠ 36) (hk37 : k ≠ 37) (hk38 : k ≠ 38) (hk39 : k ≠ 39) (hk40 : k ≠ 40) (hp : z_pp p) (hq : z_qq q) (hG : z_G n g) (S : c_S p q n g K M P C D) (hL : c_L g nl lw lp F E C D) (hI : e_insT g t k) (ht : t < g.1) (hb : b < M.bc) (h8 : C.2.1 78 8 = nI b) (hF : P.fi b = F) (hE : P.en b = E) (hn1 : F ≤ P.n) (hn2 : P.n < E) (hN : P.n < 1024) : z_res p q K M P C D t k b (fX4_addsInstruction C p (nI t)) (fX12_code_46 D q (nI b) (nI t) (nI E) (nI k)) := by
  have b1 := hG.1
  have b2 := hG.2.1
  have bs := S.bs
  have k46 : k < 46 := hI.1
  have mk0 : k_mk k = 0 := by rw [k_mk, if_neg (by omega)]
  have i1 := z_inbN hN (by decide)
  have c1 := z_cl (show P.n < 2147483648 by omega)
  have kd : e_kind g t = nI k := hI.2.2.2.1
  have nk := z_nk k46
  have e0 : ¬ nI k = 0 := nk 0 (by omega) (by omega)
  have e2 : ¬ (nI k = 2 ∨ nI k = 3 ∨ nI k = 4) := by
    rintro (h | h | h)
    · exact nk 2 (by omega) (by omega) h
    · exact nk 3 (by omega) (by omega) h
    · exact nk 4 (by omega) (by omega) h
  have e3 : ¬ (nI k = 30 ∨ nI k = 37 ∨ nI k = 38) := by
    rintro (h | h | h)
    · exact nk 30 (by omega) (by omega) h
    · exact nk 37 (by omega) (by omega) h
    · exact nk 38 (by omega) (by omega) h
  have e4 : ¬ nI k = 31 := nk 31 (by omega) (by omega)
  have e5 : ¬ (nI k = 35 ∨ nI k = 36 ∨ nI k = 39 ∨ nI k = 40) := by
    rintro (h | h | h | h)
    · exact nk 35 (by omega) (by omega) h
    · exact nk 36 (by omega) (by omega) h
    · exact nk 39 (by omega) (by omega) h
    · exact nk 40 (by omega) (by omega) h
  have hch : z_opL.getD k 0 = 45 := by
    have : ∀ k : Fin 46, z_opL.getD k.1 0 = 45 ∨ k.1 ∈ [0, 2, 3, 4, 19, 20, 21, 22, 23, 24, 25, 26, 27, 28, 29, 30, 31, 35, 36, 37, 38, 39, 40] := by decide +kernel
    rcases this ⟨k, k46⟩ with h | h
    · exact h
    · simp only [List.mem_cons, List.not_mem_nil, or_false] at h
      omega
  refine ⟨_, _, (z_C0_off (d := 0)).sI (by omega), z_D0_off, Or.inr ⟨?_, ?_, 0, 0, 0, 0, 0, z_C1_0.symm, z_D1_00.symm, by omega, by omega, c_W_new k46 hb (by omega) (by omega) (fun _ _ _ _ _ _ _ _ _ _ => rfl) (fun h => by omega) (fun h => by omega) (fun h => by omega) (fun h => by omega) (fun h => by omega) (fun h => by omega) (fun h => by omega)⟩⟩
  · simp only [fX4_addsInstruction, z_inbN (show t < 16000 by omega) (by decide), if_true, z_cl (show t < 2147483648 by omega), S.mJ.kd t ht, kd, h8, z_addInstruction S k46 hN, mk0, Option.bind_some, nI_1, if_neg e0, if_neg e2, if_neg e3, if_neg e4, if_neg e5, z_goesToLabel k46, decide_eq_false (show ¬ (19 ≤ k ∧ k ≤ 29) by omega), S.nC, i1, c1]
    rfl
  · rw [z_code46 S hq k46 hN, hch]
    rfl
end ZINS2
