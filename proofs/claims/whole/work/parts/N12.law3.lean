/-! ===== the law: the reads, and the loop ===== -/
theorem w_size {pp ps q : Nat} {S : QS} (J : w_J pp q S S) (x : Int32) : ∃ v, fX10_size S pp ps x = some v ∧ fX12_size S q x = some v := by
  obtain ⟨-, -, -, -, -, -, -, h8⟩ := J
  rcases h8 with ⟨a, b⟩ | ⟨a, b, n, g, K, M, P, m, hh, R, T, Cx, Dx, W, gC, gD⟩
  · exact ⟨-1, by rw [fX10_size, if_pos a], by rw [fX12_size, if_pos b]⟩
  · have a' : ¬ (S.2.1 0 11 = 0) := by rw [a]; decide
    have b' : ¬ (S.2.1 102 2 = 0) := by rw [b]; decide
    have N := W.N.S
    have g0 : S.2.1 q = Dx.2.1 q := gD 0 (by decide)
    have p0 : S.2.1 pp = Cx.2.1 pp := gC 0 (by decide)
    have h8 := W.hK.1
    have c0 : S.2.1 (pp + 10) 0 = S.2.1 q 3 := by rw [gC 10 (by decide), g0, N.nC, N.nD]
    have c1 : S.2.1 (pp + 10) 8 = S.2.1 q 4 := by rw [gC 10 (by decide), g0, N.sC, N.sD]
    have c2 : S.2.1 pp 2 = S.2.1 q 2 := by rw [p0, g0, N.mJ.cB.1, N.mJ.dB.1]
    have c3 : S.2.1 (pp + 1) 5 = S.2.1 q 1 := by rw [gC 1 (by decide), g0, N.mJ.cF.1, N.mJ.dF.1]
    have c4 : S.2.1 (pp + 1) 0 - 8 = S.2.1 q 0 := by rw [gC 1 (by decide), g0, N.mJ.kC.1, N.mJ.kD.1, show (8 : Int32) = nI 8 from rfl, z_subN h8]
    have c5 : S.2.1 (pp + 10) 9 = S.2.1 q 5 := by rw [gC 10 (by decide), g0, N.cC, N.cD]
    rw [fX10_size, fX12_size, if_neg a', if_neg b', c0, c1, c2, c3, c4, c5]
    by_cases z0 : x = 0
    · exact ⟨_, if_pos z0, if_pos z0⟩
    rw [if_neg z0]
    by_cases z1 : x = 1
    · exact ⟨_, if_pos z1, if_pos z1⟩
    rw [if_neg z1]
    by_cases z2 : x = 2
    · exact ⟨_, if_pos z2, if_pos z2⟩
    rw [if_neg z2]
    by_cases z3 : x = 3
    · exact ⟨_, if_pos z3, if_pos z3⟩
    rw [if_neg z3]
    by_cases z4 : x = 4
    · exact ⟨_, if_pos z4, if_pos z4⟩
    rw [if_neg z4]
    by_cases z5 : x = 5
    · exact ⟨_, if_pos z5, if_pos z5⟩
    rw [if_neg z5]
    exact ⟨-1, rfl, rfl⟩
theorem w_height {pp ps q : Nat} {S : QS} (J : w_J pp q S S) (x : Int32) : ∃ v, fX10_height S pp ps x = some v ∧ fX12_height S q x = some v := by
  obtain ⟨-, -, -, -, -, -, -, h8⟩ := J
  rcases h8 with ⟨a, b⟩ | ⟨a, b, n, g, K, M, P, m, hh, R, T, Cx, Dx, W, gC, gD⟩
  · exact ⟨-1, by rw [fX10_height, if_pos a], by rw [fX12_height, if_pos b]⟩
  · have a' : ¬ (S.2.1 0 11 = 0) := by rw [a]; decide
    have b' : ¬ (S.2.1 102 2 = 0) := by rw [b]; decide
    have N := W.N.S
    have bn := N.bn
    have c0 : S.2.1 (pp + 10) 0 = nI P.n := by rw [gC 10 (by decide), N.nC]
    have d0 : S.2.1 q 3 = nI P.n := by rw [show S.2.1 q = Dx.2.1 q from gD 0 (by decide), N.nD]
    rw [fX10_height, fX12_height, if_neg a', if_neg b', c0, d0]
    by_cases c : x < 0
    · exact ⟨-1, by rw [if_pos c], by rw [if_pos c]⟩
    · rw [if_neg c, if_neg c]
      have cn' : 0 ≤ x.toInt := by
        rw [Int32.lt_iff_toInt_lt] at c
        have : (0 : Int32).toInt = 0 := rfl
        omega
      have ej := z_toN cn'
      have jb := (i32_rng x).2
      generalize hk : x.toInt.toNat = k at ej
      have kb : k < 2147483648 := by omega
      subst ej
      by_cases ck : k < P.n
      · obtain ⟨i1, i2, i3⟩ := W.in ck
        obtain ⟨h1, h2⟩ := W.hc _ i1 k i2 i3
        refine ⟨hh (P.bd k) k, ?_, ?_⟩
        · rw [if_pos (by rw [z_ltN kb (by omega)]; exact ck), if_pos (z_inbN (show k < 1024 by omega) (by decide)), z_cl kb, gC 17 (by decide), h1]
        · rw [if_neg (by rw [z_leN (by omega) kb]; omega), if_pos (z_inbN (show k < 1024 by omega) (by decide)), z_cl kb, gD 19 (by decide), h2]
      · exact ⟨-1, by rw [if_neg (by rw [z_ltN kb (by omega)]; exact ck)], by rw [if_pos (by rw [z_leN (by omega) kb]; omega)]⟩
theorem w_made {S : QS} (h : w_R S S) (x : Int32) : ∃ v, fX10_made S x = some v ∧ fX12_made S x = some v := by
  obtain ⟨-, -, -, a, b, -⟩ := h
  rw [fX10_made, fX12_made, a, b]
  by_cases z0 : x = 0
  · exact ⟨_, if_pos z0, if_pos z0⟩
  rw [if_neg z0]
  by_cases z1 : x = 1
  · exact ⟨_, if_pos z1, if_pos z1⟩
  rw [if_neg z1]
  exact ⟨-1, rfl, rfl⟩
theorem w_out {S : QS} (h : w_R S S) (x : Int32) : ∃ v, fX10_out S x = some v ∧ fX12_out S x = some v := by
  obtain ⟨-, -, -, -, -, a, -, w, w1, w2, w3⟩ := h
  rw [fX10_out, fX12_out, ← a, w1]
  by_cases c : x < 0
  · exact ⟨0, by rw [if_pos c], by rw [if_pos c]⟩
  · rw [if_neg c, if_neg c]
    by_cases c1 : nI w ≤ x
    · exact ⟨0, by rw [if_pos c1], by rw [if_pos c1]⟩
    · rw [if_neg c1, if_neg c1]
      have cn' : 0 ≤ x.toInt := by
        rw [Int32.lt_iff_toInt_lt] at c
        have : (0 : Int32).toInt = 0 := rfl
        omega
      have ej := z_toN cn'
      have jb := (i32_rng x).2
      generalize hk : x.toInt.toNat = k at ej
      have kb : k < 2147483648 := by omega
      subst ej
      rw [z_leN (by omega) kb] at c1
      by_cases ck : k < 256
      · refine ⟨S.2.1 101 k, ?_, ?_⟩
        · rw [if_pos (by rw [show (256 : Int32) = nI 256 from rfl, z_ltN kb (by decide)]; exact ck), if_pos (z_inbN ck (by decide)), z_cl kb]
        · rw [if_neg (by rw [show (256 : Int32) = nI 256 from rfl, z_leN (by decide) kb]; omega), if_pos (z_inbN ck (by decide)), z_cl kb, w3 k (by omega) ck]
      · exact ⟨0, by rw [if_neg (by rw [show (256 : Int32) = nI 256 from rfl, z_ltN kb (by decide)]; exact ck)], by rw [if_pos (by rw [show (256 : Int32) = nI 256 from rfl, z_leN (by decide) kb]; omega)]⟩
/-- what the law's loop keeps -/
def w_L (S : QS) : Prop := ∃ pp ps q qs, q_okL S pp ps q qs = true ∧ pp ≠ ps ∧ q ≠ qs ∧ w_J pp q S S
theorem w_end6 {L k : Nat} (hL : L ≤ 3072) (hk : k ≤ 3072) : (nI L - (6 : Int32) < nI k) = (L < k + 6) := by
  rw [Int32.lt_iff_toInt_lt, Int32.toInt_sub, nI_toInt (by omega), nI_toInt (by omega), show (6 : Int32).toInt = 6 from rfl, Int.bmod_eq_of_le (by omega) (by omega)]
  apply propext; omega
theorem q_okL_rd {S : QS} {pp ps q qs : Nat} (ok : q_okL S pp ps q qs = true) : S.2.2.2 0 9 = pp ∧ S.2.2.2 0 10 = ps ∧ S.2.2.2 102 0 = q ∧ S.2.2.2 102 1 = qs := by
  rw [q_okL_iff] at ok
  obtain ⟨-, -, -, -, -, -, ⟨a, b⟩, c, d⟩ := ok
  exact ⟨a, b, c, d⟩
theorem w_step {L k : Nat} {xs : Nat → Int32} {S : QS} (hL : L ≤ 3072) (hk : k + 6 ≤ L) (I : w_L S) : ∃ S', tL_law_18 L xs (nI k, S) = some (.inr (nI (k + 6), S')) ∧ w_L S' := by
  obtain ⟨pp, ps, q, qs, ok, hne, hne2, J⟩ := I
  obtain ⟨e1, e2, e3, e4⟩ := q_okL_rd ok
  have ok' := ok
  rw [q_okL_iff] at ok'
  obtain ⟨-, -, hp, -, hq, -⟩ := ok'
  have hp : z_pp pp := hp
  have hq : z_qq q := hq
  have gend : ¬ (nI L - (6 : Int32) < nI k) := by rw [w_end6 hL (by omega)]; omega
  have i0 := z_inbN (show k < L by omega) (show L < 2147483648 by omega)
  have ii : ∀ z, z ≤ 5 → nI k + nI z = nI (k + z) := fun z _ => nI_add k z
  have j1 : nI k + (1 : Int32) = nI (k + 1) := nI_add k 1
  have j2 : nI k + (2 : Int32) = nI (k + 2) := nI_add k 2
  have j3 : nI k + (3 : Int32) = nI (k + 3) := nI_add k 3
  have j4 : nI k + (4 : Int32) = nI (k + 4) := nI_add k 4
  have j5 : nI k + (5 : Int32) = nI (k + 5) := nI_add k 5
  have j6 : nI k + (6 : Int32) = nI (k + 6) := nI_add k 6
  have i1 := z_inbN (show k + 1 < L by omega) (show L < 2147483648 by omega)
  have i2 := z_inbN (show k + 2 < L by omega) (show L < 2147483648 by omega)
  have i3 := z_inbN (show k + 3 < L by omega) (show L < 2147483648 by omega)
  have i4 := z_inbN (show k + 4 < L by omega) (show L < 2147483648 by omega)
  have i5 := z_inbN (show k + 5 < L by omega) (show L < 2147483648 by omega)
  have keep : w_L S := ⟨pp, ps, q, qs, ok, hne, hne2, J⟩
  have step2 : ∀ {S1 S2 : QS}, w_rf S S1 → w_rf S1 S2 → w_J pp q S2 S2 → w_L S2 := fun a b c => ⟨pp, ps, q, qs, q_okL_rf b (q_okL_rf a ok), hne, hne2, c⟩
  simp only [tL_law_18, e1, e2, e3, e4, Option.bind_some, ok, if_true, if_neg gend, i0, j1, j2, j3, j4, j5, j6, i1, i2, i3, i4, i5]
  generalize xs (nI k).toNatClampNeg &&& (15 : Int32) = v
  generalize xs (nI (k + 1)).toNatClampNeg = y1
  generalize xs (nI (k + 2)).toNatClampNeg = y2
  generalize xs (nI (k + 3)).toNatClampNeg = y3
  generalize xs (nI (k + 4)).toNatClampNeg = y4
  generalize xs (nI (k + 5)).toNatClampNeg = y5
  obtain ⟨-, -, -, -, -, JR, J7, -⟩ := id J
  by_cases c0 : v = 0
  · obtain ⟨r, r', a1, a2, a3, a4, a5, a6⟩ := w_two hp hq (w_feed pp q hp hq y1 y2 y3 y4 y5) J
    have a1 : fX10_feed S y1 y2 y3 y4 y5 = some r := a1
    have a2 : fX12_feed r.2 y1 y2 y3 y4 y5 = some r' := a2
    refine ⟨r'.2, ?_, step2 a5 a6 a4⟩
    rw [if_pos c0, a1, Option.bind_some, a2, Option.bind_some, if_pos a3]
  rw [if_neg c0]
  by_cases c1 : v = 1
  · obtain ⟨r, r', a1, a2, a3, a4, a5, a6⟩ := w_two hp hq (w_end pp q hp hq y1) J
    have a1 : fX10_end S y1 = some r := a1
    have a2 : fX12_end r.2 y1 = some r' := a2
    refine ⟨r'.2, ?_, step2 a5 a6 a4⟩
    rw [if_pos c1, a1, Option.bind_some, a2, Option.bind_some, if_pos (by rw [a3])]
  rw [if_neg c1]
  by_cases c2 : v = 2
  · obtain ⟨r, r', pp', ps', q', qs', a1, a2, a3, a4, a5, a6, a7, a8⟩ := w_load ok hne hne2 J
    obtain ⟨b1, b2, b3, b4⟩ := q_okL_rd a2
    obtain ⟨d1, d2, d3, d4⟩ := q_okL_rd a4
    refine ⟨r'.2, ?_, ⟨pp', ps', q', qs', a4, a6, a7, a8⟩⟩
    rw [if_pos c2, a1, Option.bind_some]
    simp only [b1, b2, b3, b4, Option.bind_some, a2, if_true, a3, d1, d2, d3, d4, a4]
    rw [if_pos a5]
  rw [if_neg c2]
  by_cases c3 : v = 3
  · refine ⟨S, ?_, keep⟩
    rw [if_pos c3, fX10_faultAt, fX12_faultAt, Option.bind_some, Option.bind_some, if_pos J7]
  rw [if_neg c3]
  by_cases c4 : v = 4
  · obtain ⟨w, a1, a2⟩ := w_size (ps := ps) J y1
    refine ⟨S, ?_, keep⟩
    rw [if_pos c4, a1, Option.bind_some, a2, Option.bind_some, if_pos rfl]
  rw [if_neg c4]
  by_cases c5 : v = 5
  · obtain ⟨w, a1, a2⟩ := w_height (ps := ps) J y1
    refine ⟨S, ?_, keep⟩
    rw [if_pos c5, a1, Option.bind_some, a2, Option.bind_some, if_pos rfl]
  rw [if_neg c5]
  by_cases c6 : v = 6
  · obtain ⟨r, r', a1, a2, a3, a4, a5, a6⟩ := w_two hp hq (w_input pp q hp hq y1) J
    have a1 : fX10_input S y1 = some r := a1
    have a2 : fX12_input r.2 y1 = some r' := a2
    refine ⟨r'.2, ?_, step2 a5 a6 a4⟩
    rw [if_pos c6, a1, Option.bind_some, a2, Option.bind_some, if_pos (by rw [a3])]
  rw [if_neg c6]
  by_cases c7 : v = 7
  · obtain ⟨r, r', a1, a2, a3, a4, a5, a6⟩ := w_two hp hq (w_run pp ps q hp hq y1) J
    have a1 : fX10_run S pp ps y1 = some r := a1
    have a2 : fX12_run r.2 q y1 = some r' := a2
    have ok1 := q_okL_rf a5 ok
    obtain ⟨b1, b2, b3, b4⟩ := q_okL_rd ok1
    refine ⟨r'.2, ?_, step2 a5 a6 a4⟩
    rw [if_pos c7, a1, Option.bind_some]
    simp only [b1, b2, b3, b4, Option.bind_some, ok1, if_true, a2]
    rw [if_pos a3]
  rw [if_neg c7]
  by_cases c8 : v = 8
  · refine ⟨S, ?_, keep⟩
    rw [if_pos c8, fX10_steps, fX12_steps, Option.bind_some, Option.bind_some, if_pos JR.1]
  rw [if_neg c8]
  by_cases c9 : v = 9
  · refine ⟨S, ?_, keep⟩
    rw [if_pos c9, fX10_place, fX12_place, Option.bind_some, Option.bind_some, if_pos JR.2.1]
  rw [if_neg c9]
  by_cases c10 : v = 10
  · refine ⟨S, ?_, keep⟩
    rw [if_pos c10, fX10_thrown, fX12_thrown, Option.bind_some, Option.bind_some, if_pos JR.2.2.1]
  rw [if_neg c10]
  by_cases c11 : v = 11
  · obtain ⟨w, a1, a2⟩ := w_made JR y1
    refine ⟨S, ?_, keep⟩
    rw [if_pos c11, a1, Option.bind_some, a2, Option.bind_some, if_pos rfl]
  rw [if_neg c11]
  by_cases c12 : v = 12
  · refine ⟨S, ?_, keep⟩
    rw [if_pos c12, fX10_written, fX12_written, Option.bind_some, Option.bind_some, if_pos JR.2.2.2.2.2.1]
  rw [if_neg c12]
  by_cases c13 : v = 13
  · obtain ⟨w, a1, a2⟩ := w_out JR y1
    refine ⟨S, ?_, keep⟩
    rw [if_pos c13, a1, Option.bind_some, a2, Option.bind_some, if_pos rfl]
  rw [if_neg c13]
  by_cases c14 : v = 14
  · refine ⟨S, ?_, keep⟩
    rw [if_pos c14, fX10_strays, fX12_strays, Option.bind_some, Option.bind_some, if_pos JR.2.2.2.2.2.2.1]
  rw [if_neg c14]
  exact ⟨S, rfl, keep⟩
/-- the law holds of every script -/
theorem w_law {L : Nat} {xs : Nat → Int32} (hL : L ≤ 3072) : ∀ e k S, L ≤ k + e → k ≤ 3072 → w_L S → ∃ S', q_run (tL_law_18 L xs) (nI k, S) = some (true, S') := by
  intro e
  induction e using Nat.strongRecOn with
  | _ e ih =>
    intro k S hke hk I
    by_cases c : L < k + 6
    · obtain ⟨pp, ps, q, qs, ok, -⟩ := I
      obtain ⟨e1, e2, e3, e4⟩ := q_okL_rd ok
      refine ⟨S, q_run_ret ?_⟩
      simp only [tL_law_18, e1, e2, e3, e4, Option.bind_some, ok, if_true]
      rw [if_pos (by rw [w_end6 hL hk]; exact c)]
    · obtain ⟨S1, s1, s2⟩ := w_step (xs := xs) hL (show k + 6 ≤ L by omega) I
      obtain ⟨S', a⟩ := ih (e - 6) (by omega) (k + 6) S1 (by omega) (by omega) s2
      exact ⟨S', (q_run_go s1).trans a⟩
