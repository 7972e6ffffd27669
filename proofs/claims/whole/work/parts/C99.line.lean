/-! ===== a line of code, a catch ===== -/
section ZLINE
variable {C D : QS} {n p q : Nat} {g : ZT} {K : ZK} {M : ZM} {P : ZP}
theorem z_insAll {t k b E nl F : Nat} {lw lp : Nat → Nat} (hp : z_pp p) (hq : z_qq q) (hG : z_G n g) (hK : k_K g K) (S : c_S p q n g K M P C D) (hL : c_L g nl lw lp F E C D) (hI : e_insT g t k) (ht : t + 1 < g.1) (hb : b < M.bc) (h8 : C.2.1 78 8 = nI b) (h7 : C.2.1 78 7 = nI E) (hF : P.fi b = F) (hE : P.en b = E) (hE2 : E < 100000) (hn1 : F ≤ P.n) (hn2 : P.n < E) (hN : P.n < 1024) (hs : k = 30 ∨ k = 31 → P.ns < 48) : z_res p q K M P C D t k b (fX4_addsInstruction C p (nI t)) (fX12_code_46 D q (nI b) (nI t) (nI E) (nI k)) := by
  by_cases c0 : k = 0
  · exact z_insN c0 hp hq hG S hL hI ht hb h8 hF hE hn1 hn2 hN
  by_cases cK : k = 2 ∨ k = 3 ∨ k = 4
  · exact z_insK cK hp hq hG S hL hI ht hb h8 hF hE hn1 hn2 hN
  by_cases cL : 19 ≤ k ∧ k ≤ 29
  · exact z_insL cL.1 cL.2 hp hq hG S hL hI ht hb h8 h7 hF hE hE2 hn1 hn2 hN
  by_cases cM : k = 30 ∨ k = 31
  · exact z_insM cM hp hq hG hK S hL hI ht hb h8 hF hE hn1 hn2 hN (hs cM)
  by_cases cF : k = 35 ∨ k = 36 ∨ k = 39 ∨ k = 40
  · exact z_insF cF hp hq hG hK S hL hI ht hb h8 hF hE hn1 hn2 hN
  by_cases cT : k = 37 ∨ k = 38
  · exact z_insT cT hp hq hG hK S hL hI ht hb h8 hF hE hn1 hn2 hN
  exact z_insO (by omega) (by omega) (by omega) (by omega) (by omega) (by omega) (by omega) (by omega) (by omega) (by omega) (by omega) (by omega) (by omega) hp hq hG S hL hI (by omega) hb h8 hF hE hn1 hn2 hN
theorem z_ins {t k b E nl F : Nat} {lw lp : Nat → Nat} (hp : z_pp p) (hq : z_qq q) (hG : z_G n g) (hK : k_K g K) (S : c_S p q n g K M P C D) (hL : c_L g nl lw lp F E C D) (hI : e_insT g t k) (ht : t + 1 < g.1) (hb : b < M.bc) (h8 : C.2.1 78 8 = nI b) (h7 : C.2.1 78 7 = nI E) (hF : P.fi b = F) (hE : P.en b = E) (hE2 : E < 100000) (hn1 : F ≤ P.n) (hn2 : P.n < E) : ∃ r r', ((fX4_hasRoomFor C p (nI k)).bind fun r20 => if r20 = true then (fX4_addsInstruction C p (nI t)).bind fun r22 => if r22.1 = true then some (((-1 : Int32), r22.2)) else some ((nI (t + 1), r22.2)) else some ((nI t, C))) = some r ∧ fX12_code D q (nI b) (nI t) (nI E) = some r' ∧ z_offC p C r.2 ∧ z_offD q D r'.2 ∧ (z_flt g r r' ∨ (r.1 = -1 ∧ r'.1 = true ∧ ∃ u v z d x, c_S p q n g K M (P.addI k t b u v z d x) r.2 r'.2 ∧ c_fC p P C r.2 ∧ c_fD q P D r'.2)) := by
  have k46 := hI.1
  have bn := S.bn
  have bs := S.bs
  have rfl12 : ∀ (D : QS) v, (q_sI D 102 12 v).2.1 102 12 = v := fun D v => by rw [q_sI_I, if_pos ⟨rfl, rfl⟩]
  have q30 : (nI k = 30) = (k = 30) := by rw [show (30 : Int32) = nI 30 from rfl, z_eqN (by omega) (by decide)]
  have q31 : (nI k = 31) = (k = 31) := by rw [show (31 : Int32) = nI 31 from rfl, z_eqN (by omega) (by decide)]
  have q48 : (nI P.ns = 48) = (P.ns = 48) := by rw [show (48 : Int32) = nI 48 from rfl, z_eqN (by omega) (by decide)]
  have q1024 : (nI P.n = 1024) = (P.n = 1024) := by rw [show (1024 : Int32) = nI 1024 from rfl, z_eqN (by omega) (by decide)]
  have hop : fX12_opOf D (nI t) = some (nI k) := by rw [z_dOp S.mJ.hD hG (by omega), hI.2.1]
  have hcode : fX12_code D q (nI b) (nI t) (nI E) = if P.n < 1024 ∧ (k = 30 ∨ k = 31 → P.ns < 48) then fX12_code_46 D q (nI b) (nI t) (nI E) (nI k) else some (false, q_sI D 102 12 (nI t)) := by
    simp only [fX12_code, hop, Option.bind_some, S.nD, q1024, q30, q31, fX12_code_31, S.sD, q48, fX12_wrong]
    by_cases c1 : P.n = 1024
    · rw [if_pos c1, if_neg (by omega)]
    · rw [if_neg c1]
      by_cases c2 : k = 30
      · rw [if_pos c2]
        by_cases c3 : P.ns = 48
        · rw [if_pos c3, if_neg (by omega)]
        · rw [if_neg c3, if_pos (by omega)]
      · rw [if_neg c2]
        by_cases c4 : k = 31
        · rw [if_pos c4]
          by_cases c3 : P.ns = 48
          · rw [if_pos c3, if_neg (by omega)]
          · rw [if_neg c3, if_pos (by omega)]
        · rw [if_neg c4, if_pos (by omega)]
  have hroom : fX4_hasRoomFor C p (nI k) = some (decide (P.n < 1024 ∧ (k = 30 ∨ k = 31 → P.ns < 48))) := by
    rw [z_hasRoomFor S k46]
    congr 1
    by_cases c1 : P.n < 1024 <;> by_cases c2 : P.ns < 48 <;> by_cases c3 : k = 30 ∨ k = 31 <;> simp [c1, c2, c3]
  rw [hroom, hcode, Option.bind_some]
  by_cases room : P.n < 1024 ∧ (k = 30 ∨ k = 31 → P.ns < 48)
  · rw [if_pos room, decide_eq_true room, if_pos rfl]
    obtain ⟨C', D', o1, o2, h⟩ := z_insAll hp hq hG hK S hL hI ht hb h8 h7 hF hE hE2 hn1 hn2 room.1 room.2
    rcases h with ⟨x1, x2, x3⟩ | ⟨x1, x2, u, v, z, d, x, y1, y2, y3, y4, y5⟩
    · rw [x1, x2, Option.bind_some]
      exact ⟨_, _, rfl, rfl, o1, o2, Or.inl ⟨t + 1, by omega, rfl, rfl, x3⟩⟩
    · rw [x1, x2, Option.bind_some]
      obtain ⟨w1, w2, w3, -, -⟩ := z_insEnd hp hq S k46 (show t < g.1 by omega) hb hF hE hn1 hn2 room.1 y3 y4 y5
      rw [← y1, ← y2] at w1
      rw [← y1] at w2
      rw [← y2] at w3
      exact ⟨_, _, rfl, rfl, o1, o2, Or.inr ⟨rfl, rfl, u, v, z, d, x, w1, w2, w3⟩⟩
  · rw [if_neg room, decide_eq_false room, if_neg (by decide)]
    exact ⟨_, _, rfl, rfl, z_offC.refl p C, (z_offD.refl q D).sI (by omega), Or.inl ⟨t, by omega, rfl, rfl, rfl12 _ _⟩⟩
/-- what a catch changes -/
def c_gC (p : Nat) (P : ZP) (C C' : QS) : Prop := ∀ y j, ¬ (y = p + 10 ∧ j = 9) → ¬ (j = P.nc ∧ p + 18 ≤ y ∧ y ≤ p + 21) → C'.2.1 y j = C.2.1 y j
def c_gD (q : Nat) (P : ZP) (D D' : QS) : Prop := ∀ y j, ¬ (y = q ∧ j = 5) → ¬ (j = P.nc ∧ q + 21 ≤ y ∧ y ≤ q + 25) → D'.2.1 y j = D.2.1 y j
theorem z_catch {t b E nl F : Nat} {lw lp : Nat → Nat} (hp : z_pp p) (hq : z_qq q) (hG : z_G n g) (hK : k_K g K) (S : c_S p q n g K M P C D) (hL : c_L g nl lw lp F E C D) (ht : t + 4 < g.1) (hb : b < M.bc) (h7 : C.2.1 78 7 = nI E) (hF : P.fi b = F) (hE : P.en b = E) (hE2 : E < 100000) : ∃ r r', fX4_catchFault C p (nI t) = some r ∧ fX12_catchLine D q (nI b) (nI t) (nI E) = some r' ∧ z_offC p C r.2 ∧ z_offD q D r'.2 ∧ (z_flt g r r' ∨ (r.1 = -1 ∧ r'.1 = true ∧ ∃ f t a c, c_S p q n g K M (P.addC b f t a c) r.2 r'.2 ∧ c_gC p P C r.2 ∧ c_gD q P D r'.2)) := by
  have b1 := hG.1
  have b2 := hG.2.1
  have bk := S.bk
  have h32 := hK.2.1
  have h8 := hK.1
  have hC := S.mJ.hC
  have hD := S.mJ.hD
  have e2 : (nI t + 2 : Int32) = nI (t + 2) := by rw [show (2 : Int32) = nI 2 from rfl, nI_add]
  have e3 : (nI t + 3 : Int32) = nI (t + 3) := by rw [show (3 : Int32) = nI 3 from rfl, nI_add]
  have e4 : (nI t + 4 : Int32) = nI (t + 4) := by rw [show (4 : Int32) = nI 4 from rfl, nI_add]
  have q64 : (nI P.nc = 64) = (P.nc = 64) := by rw [show (64 : Int32) = nI 64 from rfl, z_eqN (by omega) (by decide)]
  have p1 := z_placeNamed hC hG hL (show t + 1 < g.1 by omega)
  have p2 := z_placeNamed hC hG hL (show t + 2 < g.1 by omega)
  have p3 := z_placeNamed hC hG hL (show t + 3 < g.1 by omega)
  have l1 := z_labelAt hD hG hL (show t + 1 < g.1 by omega)
  have l2 := z_labelAt hD hG hL (show t + 2 < g.1 by omega)
  have l3 := z_labelAt hD hG hL (show t + 3 < g.1 by omega)
  have k4 := z_classAt hC hG hK S.mJ.kC (show t + 4 < g.1 by omega)
  have d4 := z_classOfToken hD hG hK S.mJ.kD (show t + 4 < g.1 by omega)
  have flt : ∀ f, f ≤ g.1 → ∃ r r', some (nI f, C) = some r ∧ some (false, q_sI D 102 12 (nI f)) = some r' ∧ z_offC p C r.2 ∧ z_offD q D r'.2 ∧ (z_flt g r r' ∨ (r.1 = -1 ∧ r'.1 = true ∧ ∃ f t a c, c_S p q n g K M (P.addC b f t a c) r.2 r'.2 ∧ c_gC p P C r.2 ∧ c_gD q P D r'.2)) := by
    intro f hf
    refine ⟨_, _, rfl, rfl, z_offC.refl p C, (z_offD.refl q D).sI (by omega), Or.inl ⟨f, hf, rfl, rfl, ?_⟩⟩
    rw [q_sI_I, if_pos ⟨rfl, rfl⟩]
  by_cases c64 : P.nc = 64
  · have x1 : fX4_catchFault C p (nI t) = some (nI t, C) := by simp only [fX4_catchFault, S.cC, q64, if_pos c64]
    have x2 : fX12_catchLine D q (nI b) (nI t) (nI E) = some (false, q_sI D 102 12 (nI t)) := by simp only [fX12_catchLine, S.cD, q64, if_pos c64, fX12_wrong, Option.bind_some]
    rw [x1, x2]; exact flt t (by omega)
  cases hp1 : k_plc g nl lw lp (t + 1) with
  | none =>
    rw [hp1] at p1 l1
    have x1 : fX4_catchFault C p (nI t) = some (nI (t + 1), C) := by simp only [fX4_catchFault, S.cC, q64, if_neg c64, nI_1, p1, Option.bind_some, k_oI, if_true]
    have x2 : fX12_catchLine D q (nI b) (nI t) (nI E) = some (false, q_sI D 102 12 (nI (t + 1))) := by
      simp only [fX12_catchLine, S.cD, q64, if_neg c64, nI_1, l1, Option.bind_some, k_oI, fX12_wrong]
      rfl
    rw [x1, x2]; exact flt (t + 1) (by omega)
  | some x =>
    rw [hp1] at p1 l1
    have p1 : fX4_placeNamed C (nI (t + 1)) = some (nI x) := p1
    have l1 : fX12_labelAt D (nI (t + 1)) = some (nI x) := l1
    obtain ⟨r1, r1'⟩ := k_plc_rng hL hp1
    have xm : ¬ nI x = -1 := by rw [z_m1N (by omega)]; exact fun x => x
    have x0 : (0 : Int32) ≤ nI x := nI_pos' (by omega)
    have st2 : ∀ y, k_oI (k_plc g nl lw lp (t + 2)) = y → ¬ nI x < y → (fX4_catchFault C p (nI t) = some (nI (t + 2), C) ∧ fX12_catchLine D q (nI b) (nI t) (nI E) = some (false, q_sI D 102 12 (nI (t + 2)))) := by
      intro y hy hn
      rw [hy] at p2 l2
      constructor
      · simp only [fX4_catchFault, S.cC, q64, if_neg c64, nI_1, p1, Option.bind_some, if_neg xm, e2, p2, if_neg hn]
      · simp only [fX12_catchLine, S.cD, q64, if_neg c64, nI_1, l1, Option.bind_some, if_pos x0, e2, l2, if_neg hn, fX12_wrong]
    cases hp2 : k_plc g nl lw lp (t + 2) with
    | none =>
      obtain ⟨z1, z2⟩ := st2 (-1) (by rw [hp2]; rfl) (by
        intro h
        have := Int32.lt_of_le_of_lt x0 h
        exact absurd this (by decide))
      rw [z1, z2]; exact flt (t + 2) (by omega)
    | some y =>
      obtain ⟨r2, r2'⟩ := k_plc_rng hL hp2
      by_cases cxy : x < y
      · rw [hp2] at p2 l2
        have p2 : fX4_placeNamed C (nI (t + 2)) = some (nI y) := p2
        have l2 : fX12_labelAt D (nI (t + 2)) = some (nI y) := l2
        have hxy : nI x < nI y := by rw [z_ltN (by omega) (by omega)]; exact cxy
        cases hp3 : k_plc g nl lw lp (t + 3) with
        | none =>
          rw [hp3] at p3 l3
          have p3 : fX4_placeNamed C (nI (t + 3)) = some (-1) := p3
          have l3 : fX12_labelAt D (nI (t + 3)) = some (-1) := l3
          have x1 : fX4_catchFault C p (nI t) = some (nI (t + 3), C) := by simp only [fX4_catchFault, S.cC, q64, if_neg c64, nI_1, p1, Option.bind_some, if_neg xm, e2, p2, if_pos hxy, e3, p3, if_true]
          have x2 : fX12_catchLine D q (nI b) (nI t) (nI E) = some (false, q_sI D 102 12 (nI (t + 3))) := by
            simp only [fX12_catchLine, S.cD, q64, if_neg c64, nI_1, l1, Option.bind_some, if_pos x0, e2, l2, if_pos hxy, e3, l3, fX12_wrong]
            rfl
          rw [x1, x2]; exact flt (t + 3) (by omega)
        | some w =>
          obtain ⟨r3, r3'⟩ := k_plc_rng hL hp3
          rw [hp3] at p3 l3
          have p3 : fX4_placeNamed C (nI (t + 3)) = some (nI w) := p3
          have l3 : fX12_labelAt D (nI (t + 3)) = some (nI w) := l3
          have wm : ¬ nI w = -1 := by rw [z_m1N (by omega)]; exact fun x => x
          have w0 : ¬ nI w < 0 := nI_pos (by omega)
          by_cases cw : w < E
          · have hwE : nI w < nI E := by rw [z_ltN (by omega) (by omega)]; exact cw
            have bad : ∀ z, fX4_classAt C p (nI (t + 4)) = some z → fX0_isAbove C p 1 z = some false → (fX12_classOfToken D q (nI (t + 4)) = some z) → (z < 0 ∨ fX12_isAtOrBelow D q z 1 = some false) → fX4_catchFault C p (nI t) = some (nI (t + 4), C) ∧ fX12_catchLine D q (nI b) (nI t) (nI E) = some (false, q_sI D 102 12 (nI (t + 4))) := by
              intro z z1 z2 z3 z4
              constructor
              · simp only [fX4_catchFault, S.cC, q64, if_neg c64, nI_1, p1, Option.bind_some, if_neg xm, e2, p2, if_pos hxy, e3, p3, if_neg wm, h7, if_pos hwE, e4, z1, z2]
                rfl
              · by_cases cz : z < 0
                · simp only [fX12_catchLine, S.cD, q64, if_neg c64, nI_1, l1, Option.bind_some, if_pos x0, e2, l2, if_pos hxy, e3, l3, if_neg w0, if_pos hwE, e4, z3, if_pos cz, fX12_wrong]
                · simp only [fX12_catchLine, S.cD, q64, if_neg c64, nI_1, l1, Option.bind_some, if_pos x0, e2, l2, if_pos hxy, e3, l3, if_neg w0, if_pos hwE, e4, z3, if_neg cz, z4.resolve_left cz, fX12_wrong]
                  rfl
            cases hcl : k_cls g K (g.2.2.1 (t + 4)) (g.2.2.2 (t + 4)) with
            | none =>
              rw [hcl] at k4 d4
              obtain ⟨z1, z2⟩ := bad (-1) k4 (by
                simp only [fX0_isAbove, S.mJ.kC.1]
                rw [if_neg (by decide), if_neg (by rw [show (1 : Int32) = nI 1 from rfl, z_leN (by omega) (by omega)]; omega)]
                rfl) d4 (Or.inl (by decide))
              rw [z1, z2]; exact flt (t + 4) (by omega)
            | some c =>
              have hc := k_cls_lt hK.1 hcl
              rw [hcl] at k4 d4
              have k4 : fX4_classAt C p (nI (t + 4)) = some (nI c) := k4
              have d4 : fX12_classOfToken D q (nI (t + 4)) = some (nI c) := d4
              have ab : fX0_isAbove C p 1 (nI c) = some (k_anc K.cp 1 c) := z_isAbove (d := 1) h32 S.mJ.kC (by omega) hc
              have be : fX12_isAtOrBelow D q (nI c) 1 = some (k_anc K.cp 1 c) := z_isAtOrBelow (d := 1) hK S.mJ.kD (by omega) c hc
              have c0 : ¬ nI c < 0 := nI_pos (by omega)
              cases han : k_anc K.cp 1 c with
              | false =>
                rw [han] at ab be
                obtain ⟨z1, z2⟩ := bad (nI c) k4 ab d4 (Or.inr be)
                rw [z1, z2]; exact flt (t + 4) (by omega)
              | true =>
                rw [han] at ab be
                have i1 := z_inbN (show P.nc < 64 by omega) (by decide)
                have c1 := z_cl (show P.nc < 2147483648 by omega)
                let C1 : QS := q_sI (q_sI (q_sI (q_sI (q_sI C (p + 18) P.nc (nI x)) (p + 19) P.nc (nI y)) (p + 20) P.nc (nI w)) (p + 21) P.nc (nI c)) (p + 10) 9 (nI (P.nc + 1))
                let D1 : QS := q_sI (q_sI (q_sI (q_sI (q_sI (q_sI D (q + 21) P.nc (nI b)) (q + 22) P.nc (nI x)) (q + 23) P.nc (nI y)) (q + 24) P.nc (nI w)) (q + 25) P.nc (nI c)) q 5 (nI (P.nc + 1))
                have gC : ∀ a j, C1.2.1 a j = if a = p + 10 ∧ j = 9 then nI (P.nc + 1) else if a = p + 21 ∧ j = P.nc then nI c else if a = p + 20 ∧ j = P.nc then nI w else if a = p + 19 ∧ j = P.nc then nI y else if a = p + 18 ∧ j = P.nc then nI x else C.2.1 a j := by
                  intro a j; simp only [C1, q_sI_I]
                have gD : ∀ a j, D1.2.1 a j = if a = q ∧ j = 5 then nI (P.nc + 1) else if a = q + 25 ∧ j = P.nc then nI c else if a = q + 24 ∧ j = P.nc then nI w else if a = q + 23 ∧ j = P.nc then nI y else if a = q + 22 ∧ j = P.nc then nI x else if a = q + 21 ∧ j = P.nc then nI b else D.2.1 a j := by
                  intro a j; simp only [D1, q_sI_I]
                have add : fX1_addCatch C p (nI x) (nI y) (nI w) (nI c) = some C1 := by
                  have g64 : ¬ (64 : Int32) ≤ nI P.nc := by rw [show (64 : Int32) = nI 64 from rfl, z_leN (by decide) (by omega)]; omega
                  have rr : ∀ (S' : QS) (o : Nat) (v : Int32), o ≠ p + 10 → S'.2.1 (p + 10) 9 = nI P.nc → (q_sI S' o P.nc v).2.1 (p + 10) 9 = nI P.nc := fun S' o v ho h => by rw [q_sI_I, if_neg (by omega)]; exact h
                  have q1 := rr C (p + 18) (nI x) (by omega) S.cC
                  have q2 := rr _ (p + 19) (nI y) (by omega) q1
                  have q3 := rr _ (p + 20) (nI w) (by omega) q2
                  have q4 := rr _ (p + 21) (nI c) (by omega) q3
                  simp only [fX1_addCatch, S.cC, if_neg g64, i1, if_true, c1, Option.bind_some, q1, q2, q3, q4, nI_1]
                  rfl
                have x1 : fX4_catchFault C p (nI t) = some (-1, C1) := by
                  simp only [fX4_catchFault, S.cC, q64, if_neg c64, nI_1, p1, Option.bind_some, if_neg xm, e2, p2, if_pos hxy, e3, p3, if_neg wm, h7, if_pos hwE, e4, k4, ab, if_true, add]
                have x2 : fX12_catchLine D q (nI b) (nI t) (nI E) = some (true, D1) := by
                  have rr : ∀ (S' : QS) (o : Nat) (v : Int32), o ≠ q → S'.2.1 q 5 = nI P.nc → (q_sI S' o P.nc v).2.1 q 5 = nI P.nc := fun S' o v ho h => by rw [q_sI_I, if_neg (by omega)]; exact h
                  have q1 := rr D (q + 21) (nI b) (by omega) S.cD
                  have q2 := rr _ (q + 22) (nI x) (by omega) q1
                  have q3 := rr _ (q + 23) (nI y) (by omega) q2
                  have q4 := rr _ (q + 24) (nI w) (by omega) q3
                  have q5 := rr _ (q + 25) (nI c) (by omega) q4
                  simp only [fX12_catchLine, S.cD, q64, if_neg c64, nI_1, l1, Option.bind_some, if_pos x0, e2, l2, if_pos hxy, e3, l3, if_neg w0, if_pos hwE, e4, d4, if_neg c0, be, if_true, i1, c1, q1, q2, q3, q4, q5]
                  rfl
                have fC : c_gC p P C C1 := by
                  intro a j h1 h2
                  rw [gC]; simp (disch := omega) only [if_neg]
                have fD : c_gD q P D D1 := by
                  intro a j h1 h2
                  rw [gD]; simp (disch := omega) only [if_neg]
                rw [x1, x2]
                refine ⟨_, _, rfl, rfl, ?_, ?_, Or.inr ⟨rfl, rfl, x, y, w, c, ⟨?_, ?_, ?_, ?_, ?_, ?_, ?_, fun i hi => ?_, fun i hi => ?_, fun s hs => ?_, fun k hk => ?_, fun k hk => ?_, S.bn, S.bs, ?_, fun i hi => ?_, S.tk, S.si, fun k hk => ?_⟩, fC, fD⟩⟩
                · exact (((((z_offC.refl p C).sI (by omega)).sI (by omega)).sI (by omega)).sI (by omega)).sI (by omega)
                · exact ((((((z_offD.refl q D).sI (by omega)).sI (by omega)).sI (by omega)).sI (by omega)).sI (by omega)).sI (by omega)
                · refine S.mJ.fr hp hq (fun a j h => fC a j ?_ ?_) (fun a j h => fD a j ?_ ?_)
                  · rw [z_rC] at h; rcases hp with rfl | rfl <;> omega
                  · rw [z_rC] at h; rcases hp with rfl | rfl <;> omega
                  · rw [z_rD] at h; rcases hq with rfl | rfl <;> omega
                  · rw [z_rD] at h; rcases hq with rfl | rfl <;> omega
                · exact (fC _ _ (by omega) (by omega)).trans S.nC
                · exact (fD _ _ (by omega) (by omega)).trans S.nD
                · exact (fC _ _ (by omega) (by omega)).trans S.sC
                · exact (fD _ _ (by omega) (by omega)).trans S.sD
                · rw [gC, if_pos ⟨rfl, rfl⟩]; rfl
                · rw [gD, if_pos ⟨rfl, rfl⟩]; rfl
                · obtain ⟨y1, y2, y3, y4, y5, y6⟩ := S.iC i hi
                  exact ⟨(fC _ _ (by omega) (by omega)).trans y1, (fC _ _ (by omega) (by omega)).trans y2, (fC _ _ (by omega) (by omega)).trans y3, (fC _ _ (by omega) (by omega)).trans y4, (fC _ _ (by omega) (by omega)).trans y5, (fC _ _ (by omega) (by omega)).trans y6⟩
                · obtain ⟨y1, y2, y3, y4, y5⟩ := S.iD i hi
                  exact ⟨(fD _ _ (by omega) (by omega)).trans y1, (fD _ _ (by omega) (by omega)).trans y2, (fD _ _ (by omega) (by omega)).trans y3, (fD _ _ (by rcases hq with rfl | rfl <;> omega) (by rcases hq with rfl | rfl <;> omega)).trans y4, (fD _ _ (by omega) (by omega)).trans y5⟩
                · exact (fD _ _ (by omega) (by omega)).trans (S.sT s hs)
                · rw [addC_nc] at hk
                  simp only [addC_cf, addC_ct, addC_ca, addC_cl]
                  by_cases ek : k = P.nc
                  · subst ek
                    simp only [k_up_eq]
                    refine ⟨?_, ?_, ?_, ?_⟩ <;> rw [gC] <;> simp (disch := omega) only [if_neg, and_self, if_true]
                  · simp only [k_up_ne ek]
                    obtain ⟨y1, y2, y3, y4⟩ := S.aC k (by omega)
                    exact ⟨(fC _ _ (by omega) (by omega)).trans y1, (fC _ _ (by omega) (by omega)).trans y2, (fC _ _ (by omega) (by omega)).trans y3, (fC _ _ (by omega) (by omega)).trans y4⟩
                · rw [addC_nc] at hk
                  simp only [addC_cb, addC_cf, addC_ct, addC_ca, addC_cl]
                  by_cases ek : k = P.nc
                  · subst ek
                    simp only [k_up_eq]
                    refine ⟨?_, ?_, ?_, ?_, ?_⟩ <;> rw [gD] <;> simp (disch := omega) only [if_neg, and_self, if_true]
                  · simp only [k_up_ne ek]
                    obtain ⟨y1, y2, y3, y4, y5⟩ := S.aD k (by omega)
                    exact ⟨(fD _ _ (by omega) (by omega)).trans y1, (fD _ _ (by omega) (by omega)).trans y2, (fD _ _ (by omega) (by omega)).trans y3, (fD _ _ (by omega) (by omega)).trans y4, (fD _ _ (by omega) (by omega)).trans y5⟩
                · rw [addC_nc]; omega
                · exact (S.wI i hi).congr rfl rfl rfl rfl rfl rfl rfl rfl (Nat.le_refl _) (fun _ _ => rfl)
                · rw [addC_nc] at hk
                  rw [c_K]
                  simp only [addC_cb, addC_cf, addC_ct, addC_ca, addC_cl, addC_fi, addC_en]
                  by_cases ek : k = P.nc
                  · subst ek
                    simp only [k_up_eq]
                    exact ⟨hb, by omega, cxy, by omega, by omega, by omega, hc, han⟩
                  · simp only [k_up_ne ek]
                    exact S.wK k (by omega)
          · have hwE : ¬ nI w < nI E := by rw [z_ltN (by omega) (by omega)]; exact cw
            have x1 : fX4_catchFault C p (nI t) = some (nI (t + 3), C) := by simp only [fX4_catchFault, S.cC, q64, if_neg c64, nI_1, p1, Option.bind_some, if_neg xm, e2, p2, if_pos hxy, e3, p3, if_neg wm, h7, if_neg hwE]
            have x2 : fX12_catchLine D q (nI b) (nI t) (nI E) = some (false, q_sI D 102 12 (nI (t + 3))) := by
              simp only [fX12_catchLine, S.cD, q64, if_neg c64, nI_1, l1, Option.bind_some, if_pos x0, e2, l2, if_pos hxy, e3, l3, if_neg w0, if_neg hwE, fX12_wrong]
            rw [x1, x2]; exact flt (t + 3) (by omega)
      · obtain ⟨z1, z2⟩ := st2 (nI y) (by rw [hp2]; rfl) (by rw [z_ltN (by omega) (by omega)]; exact cxy)
        rw [z1, z2]; exact flt (t + 2) (by omega)
end ZLINE
