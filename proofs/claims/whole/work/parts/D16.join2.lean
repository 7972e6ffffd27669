/-! ===== below and join, on both sides ===== -/
section ZJN
variable {C D : QS} {n p q : Nat} {g : ZT} {K : ZK} {M : ZM} {P : ZP}
theorem z_isAboveS {x y : Nat} (hK : k_K g K) (hk : k_C C p K) (hx : 32 ≤ x) (hx2 : x < 100) (hy2 : y < 100) : fX0_isAbove C p (nI y - 32) (nI x - 32) = some (decide (32 ≤ y) && k_cc K (y - 32) (x - 32)) := by
  have h32 := hK.2.1
  have e32 : (32 : Int32) = nI 32 := rfl
  by_cases c : 32 ≤ y
  · rw [e32, z_subN c, z_subN hx, z_isAboveN h32 hk (by omega) (by omega), decide_eq_true c, Bool.true_and]
    rfl
  · rw [decide_eq_false c, Bool.false_and, fX0_isAbove, if_pos]
    rw [e32]
    exact z_subL (by omega) (by omega)
theorem z_isBelow {x y : Nat} (hK : k_K g K) (hk : k_C C p K) (hx : x ≤ 68) (hy : y ≤ 68) : fX0_isBelow C p (nI x) (nI y) = some (k_blw K x y) := by
  have h32 := hK.2.1
  have q1 : (nI x = nI y) = (x = y) := z_eqN (by omega) (by omega)
  have q2 : (nI y = 67) = (y = 67) := z_eqN (b := 67) (by omega) (by decide)
  have q3 : (nI y = 69) = False := propext ⟨fun h => by have := (z_eqN (b := 69) (show y < 2147483648 by omega) (by decide)).mp h; omega, False.elim⟩
  have q4 : ((65 : Int32) < nI x) = (65 < x) := z_ltN (a := 65) (by decide) (by omega)
  have q5 : (nI y ≤ 65) = (y ≤ 65) := z_leN (b := 65) (by omega) (by decide)
  have q6 : (nI x = 65) = (x = 65) := z_eqN (b := 65) (by omega) (by decide)
  have q7 : (nI y = 0) = (y = 0) := z_eqN (b := 0) (by omega) (by decide)
  have q8 : (nI x < 32) = (x < 32) := z_ltN (b := 32) (by omega) (by decide)
  have ab : fX0_isAbove C p (nI y) (nI x) = some (k_cc K y x) := z_isAboveN h32 hk (by omega) (by omega)
  simp only [fX0_isBelow, q1, q2, q3, q4, q5, q6, q7, q8, ab, Option.bind_some, if_false, k_blw]
  by_cases c1 : x = y
  · simp [c1]
  · by_cases c2 : y = 67
    · simp [c2]
    · by_cases c3 : 65 < x
      · simp [c1, c2, c3, show ¬ x ≤ 65 by omega]
      · by_cases c4 : y ≤ 65
        · by_cases c5 : x = 65
          · simp [c5, c4]
          · by_cases c6 : y = 0
            · simp [c6, show x ≤ 65 by omega]
            · by_cases c7 : k_cc K y x = true
              · simp [c1, c2, c3, c4, c7, show x ≤ 65 by omega]
              · by_cases c8 : x < 32
                · simp [c1, c2, c3, c4, c5, c6, c7, c8, show x ≤ 65 by omega, show ¬ 32 ≤ x by omega]
                · rw [z_isAboveS hK hk (by omega) (by omega) (by omega)]
                  cases h : (decide (32 ≤ y) && k_cc K (y - 32) (x - 32)) <;> simp [c1, c2, c3, c4, c5, c6, c7, c8, show x ≤ 65 by omega, show 32 ≤ x by omega, h]
        · simp [c1, c2, c3, c4]
/-- null or an array -/
def k_ar (x : Nat) : Bool := decide (x = 65) || (decide (32 ≤ x) && decide (x ≤ 64))
theorem z_isArr {x : Nat} (hx : x ≤ 68) (S : QS) : fX0_isArray S (nI x) = some (decide (32 ≤ x) && decide (x ≤ 64)) := by
  simp only [fX0_isArray, show (nI x < (32 : Int32)) = (x < 32) from z_ltN (b := 32) (by omega) (by decide), show ((64 : Int32) < nI x) = (64 < x) from z_ltN (a := 64) (by decide) (by omega)]
  by_cases c : x < 32
  · simp [c, show ¬ 32 ≤ x by omega]
  · by_cases c2 : 64 < x
    · simp [c, c2, show ¬ x ≤ 64 by omega]
    · simp [c, c2, show 32 ≤ x by omega, show x ≤ 64 by omega]
theorem z_isBelow69 {x : Nat} (hx : x ≤ 68) : fX0_isBelow C p (nI x) 69 = some (k_ar x) := by
  have q1 : (nI x = 69) = False := propext ⟨fun h => by have := (z_eqN (b := 69) (show x < 2147483648 by omega) (by decide)).mp h; omega, False.elim⟩
  have q6 : (nI x = 65) = (x = 65) := z_eqN (b := 65) (by omega) (by decide)
  have q2 : ((69 : Int32) = 67) = False := propext ⟨fun h => absurd h (by decide), False.elim⟩
  simp only [fX0_isBelow, q1, q2, if_false, if_true, q6, z_isArr hx, Option.bind_some, k_ar]
  by_cases c : x = 65
  · simp [c]
  · cases h : (decide (32 ≤ x) && decide (x ≤ 64)) <;> simp [c, h]
theorem k_vt_cl {x : Nat} (hK : k_K g K) (h : k_vt K x) : (x < 32 → x < K.cc) ∧ (32 ≤ x → x < 64 → x - 32 < K.cc) := by
  have h32 := hK.2.1
  constructor
  · intro c
    rcases h with (h' | h' | h' | h') | h' | h' <;> omega
  · intro c c2
    rcases h with (h' | h' | h' | h') | h' | h' <;> omega
theorem z_isBelow12 {x y : Nat} (hK : k_K g K) (hk : k_D D q K) (hx : k_vt K x) (hy : k_vt K y) : fX12_isBelow D q (k_y x) (k_y y) = some (k_blw K x y) := by
  have h32 := hK.2.1
  have lx := k_vt_lt hK hx
  have ly := k_vt_lt hK hy
  obtain ⟨x1, x2⟩ := k_vt_cl hK hx
  obtain ⟨y1, y2⟩ := k_vt_cl hK hy
  have e2 : (2 : Int32) = k_y 67 := by decide
  have e0 : (0 : Int32) = k_y 66 := by decide
  have e1 : (1 : Int32) = k_y 65 := by decide
  have e8 : (8 : Int32) = k_y 0 := by decide
  have q1 : (k_y y = 2) = (y = 67) := by rw [e2]; exact k_y_eq (by omega) (by decide)
  have q2 : (k_y x = k_y y) = (x = y) := k_y_eq (by omega) (by omega)
  have q3 : (k_y x = 2) = (x = 67) := by rw [e2]; exact k_y_eq (by omega) (by decide)
  have q4 : (k_y x = 0) = (x = 66) := by rw [e0]; exact k_y_eq (by omega) (by decide)
  have q5 : (k_y y = 0) = (y = 66) := by rw [e0]; exact k_y_eq (by omega) (by decide)
  have q6 : (k_y y = 1) = (y = 65) := by rw [e1]; exact k_y_eq (by omega) (by decide)
  have q7 : (k_y x = 1) = (x = 65) := by rw [e1]; exact k_y_eq (by omega) (by decide)
  have q8 : (k_y y = 8) = (y = 0) := by rw [e8]; exact k_y_eq (by omega) (by decide)
  have cls : ∀ z : Fin 68, fX12_isClass q_S0 (k_y z) = some (decide (z.1 < 32)) := by decide +kernel
  have lt48 : ∀ z : Fin 68, (k_y z < 48) = (z.1 < 32 ∨ 64 ≤ z.1) := fun z => propext ((by decide +kernel : ∀ z : Fin 68, (k_y z < 48) ↔ (z.1 < 32 ∨ 64 ≤ z.1)) z)
  have cx : fX12_isClass D (k_y x) = some (decide (x < 32)) := cls ⟨x, by omega⟩
  have cy : fX12_isClass D (k_y y) = some (decide (y < 32)) := cls ⟨y, by omega⟩
  have lx48 : (k_y x < 48) = (x < 32 ∨ 64 ≤ x) := lt48 ⟨x, by omega⟩
  have ly48 : (k_y y < 48) = (y < 32 ∨ 64 ≤ y) := lt48 ⟨y, by omega⟩
  simp only [fX12_isBelow, q1, q2, q3, q4, q5, q6, q7, q8, cx, cy, Option.bind_some, lx48, ly48, k_blw]
  by_cases c1 : y = 67
  · simp [c1]
  · by_cases c2 : x = y
    · simp [c2]
    · by_cases c3 : x = 67
      · subst c3; simp [c1, c2]
      · by_cases c4 : x = 66
        · subst c4; simp [c1, c2]
        · by_cases c5 : y = 66
          · simp [c1, c2, c3, c4, c5]
          · by_cases c6 : y = 65
            · have : k_cc K 65 x = false := by rw [k_cc, decide_eq_false (by omega), Bool.false_and]
              have h2 : k_cc K (65 - 32) (x - 32) = false := by rw [k_cc, decide_eq_false (by omega), Bool.false_and]
              subst c6
              simp [c2, c3, c4, this, h2]
            · by_cases c7 : x = 65
              · subst c7; simp [c1, c2, c5, c6, show y ≤ 65 by omega]
              · by_cases c8 : y = 0
                · simp [c1, c2, c3, c4, c7, c8, show x ≤ 65 by omega]
                · by_cases c9 : x < 32
                  · rw [decide_eq_true c9]
                    by_cases c10 : y < 32
                    · have := z_isAtOrBelow hK hk (y1 c10) x (x1 c9)
                      rw [k_y_c c9, k_y_c c10, show (8 : Int32) = nI 8 from rfl, z_subN (by omega), z_subN (by omega), Nat.add_sub_cancel, Nat.add_sub_cancel, this]
                      have hcc : k_cc K y x = k_anc K.cp y x := by rw [k_cc, decide_eq_true (y1 c10), decide_eq_true (x1 c9), Bool.true_and, Bool.true_and]
                      rw [hcc]
                      cases h : k_anc K.cp y x <;> simp [c1, c2, c3, c4, c5, c6, c7, c8, c10, show x ≤ 65 by omega, show y ≤ 65 by omega, show ¬ 32 ≤ x by omega]
                    · have hcc : k_cc K y x = false := by rw [k_cc, decide_eq_false (by omega), Bool.false_and]
                      simp [c1, c2, c7, c8, c10, hcc, show ¬ 32 ≤ x by omega]
                  · rw [decide_eq_false c9]
                    have hcc : k_cc K y x = false := by rw [k_cc, decide_eq_false (show ¬ x < K.cc by omega), Bool.false_and, Bool.and_false]
                    by_cases c11 : 64 ≤ x
                    · have h2 : k_cc K (y - 32) (x - 32) = false := by rw [k_cc, decide_eq_false (show ¬ x - 32 < K.cc by omega), Bool.false_and, Bool.and_false]
                      simp [c1, c2, c7, c8, c11, hcc, h2]
                    · by_cases c12 : y < 32 ∨ 64 ≤ y
                      · have h2 : (decide (32 ≤ y) && k_cc K (y - 32) (x - 32)) = false := by
                          rcases c12 with h | h
                          · rw [decide_eq_false (by omega), Bool.false_and]
                          · rw [k_cc, decide_eq_false (show ¬ y - 32 < K.cc by omega), Bool.false_and, Bool.and_false]
                        simp only [Bool.false_eq_true, if_false, if_neg (show ¬ (x < 32 ∨ 64 ≤ x) by omega), if_pos c12, h2, hcc]
                        simp [c1, c2, c7, c8]
                      · have hy' : 32 ≤ y ∧ y < 64 := by omega
                        have hx' : 32 ≤ x ∧ x < 64 := by omega
                        have xx := x2 hx'.1 hx'.2
                        have yy := y2 hy'.1 hy'.2
                        have := z_isAtOrBelow hK hk yy (x - 32) xx
                        have kx : k_y x = nI (48 + (x - 32)) := by rw [← k_y_a (show x - 32 < 32 by omega)]; congr 1; omega
                        have ky : k_y y = nI (48 + (y - 32)) := by rw [← k_y_a (show y - 32 < 32 by omega)]; congr 1; omega
                        have h2 : k_cc K (y - 32) (x - 32) = k_anc K.cp (y - 32) (x - 32) := by rw [k_cc, decide_eq_true yy, decide_eq_true xx, Bool.true_and, Bool.true_and]
                        simp only [Bool.false_eq_true, if_false, if_neg (show ¬ (x < 32 ∨ 64 ≤ x) by omega), if_neg c12]
                        rw [kx, ky, show (48 : Int32) = nI 48 from rfl, z_subN (by omega), z_subN (by omega), Nat.add_sub_cancel_left, Nat.add_sub_cancel_left, this, hcc, h2]
                        cases h : k_anc K.cp (y - 32) (x - 32) <;> simp [c1, c2, c3, c4, c5, c6, c7, c8, show x ≤ 65 by omega, show y ≤ 65 by omega, hx'.1, hy'.1]
theorem z_nearest {a b : Nat} (hK : k_K g K) (hk : k_C C p K) (ha : a < K.cc) (hb : b < K.cc) : fX0_nearestAbove C p (nI a) (nI b) = some (nI (k_nr K a b)) := by
  have h32 := hK.2.1
  have nr := k_nr_is hK ha hb
  have nl := k_nr_lt hK ha hb
  have bits : ∀ d, d < 32 → b_t (C.2.1 (p + 4) a &&& C.2.1 (p + 4) b) d = (k_anc K.cp d a && k_anc K.cp d b) := fun d hd => by
    rw [b_and, b_t, b_t, (hk.2 a ha).2.2 d hd, (hk.2 b hb).2.2 d hd]
  have j := j_nlz (x := C.2.1 (p + 4) a &&& C.2.1 (p + 4) b) (d := k_nr K a b) C (by omega) (by rw [bits _ (by omega), nr.1, nr.2.1]; rfl) (fun e e1 e2 => by
    rw [bits e e2]
    cases h1 : k_anc K.cp e a with
    | false => rfl
    | true =>
      cases h2 : k_anc K.cp e b with
      | false => rfl
      | true => have := nr.2.2 e h1 h2; omega)
  simp only [fX0_nearestAbove, z_inbN (show a < 32 by omega) (by decide), z_inbN (show b < 32 by omega) (by decide), if_true, z_cl (show a < 2147483648 by omega), z_cl (show b < 2147483648 by omega), j, Option.bind_some]
  rw [show (31 : Int32) = nI 31 from rfl, z_subN (by omega), show 31 - (31 - k_nr K a b) = k_nr K a b by omega]
theorem z_isClassN {x : Nat} (hK : k_K g K) (hk : k_C C p K) (hx : x < 100) : fX0_isClass C p (nI x) = some (decide (x < K.cc)) := by
  have h32 := hK.2.1
  rw [fX0_isClass, if_neg (nI_pos (by omega)), hk.1]
  by_cases c : x < K.cc
  · rw [if_neg (by rw [z_leN (by omega) (by omega)]; omega), decide_eq_true c]
  · rw [if_pos (by rw [z_leN (by omega) (by omega)]; omega), decide_eq_false c]
theorem z_isClassS {x : Nat} (hK : k_K g K) (hk : k_C C p K) (hx : x < 100) : fX0_isClass C p (nI x - 32) = some (decide (32 ≤ x ∧ x - 32 < K.cc)) := by
  by_cases c : 32 ≤ x
  · rw [show (32 : Int32) = nI 32 from rfl, z_subN c, z_isClassN hK hk (by omega)]
    by_cases c2 : x - 32 < K.cc
    · rw [decide_eq_true c2, decide_eq_true ⟨c, c2⟩]
    · rw [decide_eq_false c2, decide_eq_false (fun z => c2 z.2)]
  · rw [fX0_isClass, if_pos (by rw [show (32 : Int32) = nI 32 from rfl]; exact z_subL (by omega) (by omega)), decide_eq_false (fun z => c z.1)]
theorem z_joinC {x y : Nat} (hK : k_K g K) (hk : k_C C p K) (hx : k_vt K x) (hy : k_vt K y) : fX0_join C p (nI x) (nI y) = some (nI (k_jn K x y)) := by
  have h32 := hK.2.1
  have lx := k_vt_lt hK hx
  have ly := k_vt_lt hK hy
  obtain ⟨x1, x2⟩ := k_vt_cl hK hx
  obtain ⟨y1, y2⟩ := k_vt_cl hK hy
  have b1 := z_isBelow hK hk (show x ≤ 68 by omega) (show y ≤ 68 by omega)
  have b2 := z_isBelow hK hk (show y ≤ 68 by omega) (show x ≤ 68 by omega)
  have q4 : ((65 : Int32) < nI x) = (65 < x) := z_ltN (a := 65) (by decide) (by omega)
  have q5 : (nI y ≤ 65) = (y ≤ 65) := z_leN (b := 65) (by omega) (by decide)
  simp only [fX0_join, b1, b2, Option.bind_some, q4, q5, k_jn]
  by_cases c1 : k_blw K x y = true
  · rw [if_pos c1, if_pos c1]
  · rw [if_neg c1, if_neg c1]
    by_cases c2 : k_blw K y x = true
    · rw [if_pos c2, if_pos c2]
    · rw [if_neg c2, if_neg c2]
      by_cases c3 : 65 < x
      · rw [if_pos c3, if_pos (Or.inl c3)]; rfl
      · rw [if_neg c3]
        by_cases c4 : y ≤ 65
        · rw [if_pos c4, if_neg (by omega), z_isClassN hK hk (by omega), z_isClassN hK hk (by omega), Option.bind_some, Option.bind_some]
          have h60 : ¬ (x < 32 ∧ y < 32) → fX0_join_60 C p (nI x) (nI y) = some (nI (if (32 ≤ x ∧ x < 64) ∧ 32 ≤ y ∧ y < 64 then 32 + k_nr K (x - 32) (y - 32) else 0)) := by
            intro nc
            simp only [fX0_join_60, z_isClassS hK hk (show x < 100 by omega), z_isClassS hK hk (show y < 100 by omega), Option.bind_some]
            by_cases d1 : (32 ≤ x ∧ x < 64) ∧ 32 ≤ y ∧ y < 64
            · have xx := x2 d1.1.1 d1.1.2
              have yy := y2 d1.2.1 d1.2.2
              rw [decide_eq_true (show 32 ≤ x ∧ x - 32 < K.cc from ⟨d1.1.1, xx⟩), decide_eq_true (show 32 ≤ y ∧ y - 32 < K.cc from ⟨d1.2.1, yy⟩), if_pos d1]
              simp only [if_true, Option.bind_some]
              rw [show (32 : Int32) = nI 32 from rfl, z_subN (by omega), z_subN (by omega), z_nearest hK hk xx yy, Option.bind_some, nI_add]
            · rw [if_neg d1]
              by_cases e1 : 32 ≤ x ∧ x - 32 < K.cc
              · have e2 : ¬ (32 ≤ y ∧ y - 32 < K.cc) := fun h => d1 ⟨⟨e1.1, by omega⟩, h.1, by omega⟩
                rw [decide_eq_true e1, decide_eq_false e2]
                rfl
              · rw [decide_eq_false e1]
                rfl
          by_cases c5 : x < 32 ∧ y < 32
          · rw [if_pos c5, decide_eq_true (x1 c5.1), decide_eq_true (y1 c5.2), if_pos rfl, if_pos rfl, z_nearest hK hk (x1 c5.1) (y1 c5.2)]
            rfl
          · rw [if_neg c5, ← h60 c5]
            by_cases e1 : x < K.cc
            · have e2 : ¬ y < K.cc := fun h => c5 ⟨by omega, by omega⟩
              rw [decide_eq_true e1, decide_eq_false e2]
              rfl
            · rw [decide_eq_false e1]
              rfl
        · rw [if_neg c4, if_pos (Or.inr (by omega))]; rfl
theorem z_joined102 {a b : Nat} (hK : k_K g K) (hk : k_D D q K) (ha : a < K.cc) (hb : b < K.cc) {base : Nat} (hbase : base ≤ 48) : ∀ c, c < K.cc → k_anc K.cp c a = true → k_anc K.cp (k_nr K a b) c = true → q_run (tX12_joined_102 D q (nI (base + b)) (nI base)) (nI c) = some (nI (base + k_nr K a b)) := by
  have h32 := hK.2.1
  intro c
  induction c using Nat.strongRecOn with
  | _ c ih =>
    intro hc h1 h2
    have nr := k_nr_is hK ha hb
    have at1 := z_isAtOrBelow hK hk hc b hb
    have es : nI (base + b) - nI base = nI b := by rw [z_subN (by omega), Nat.add_sub_cancel_left]
    by_cases e : k_anc K.cp c b = true
    · have l1 := nr.2.2 c h1 e
      have l2 := k_anc_le _ h2
      have ec : c = k_nr K a b := by omega
      refine q_run_ret ?_
      simp only [tX12_joined_102, es, at1, e, Option.bind_some, if_true, nI_add]
      rw [ec]
    · have ne : k_nr K a b ≠ c := fun h => e (h ▸ nr.2.1)
      have c0 : c ≠ 0 := fun h => by subst h; rw [k_anc_0 ne] at h2; cases h2
      have hcp := hK.2.2.1 c (by omega) hc
      rw [k_anc_up ne (by omega) hcp] at h2
      have st : tX12_joined_102 D q (nI (base + b)) (nI base) (nI c) = some (.inr (nI (K.cp c))) := by
        have ab := (hk.2 c hc).2
        rw [if_neg c0] at ab
        simp only [tX12_joined_102, es, at1, Bool.eq_false_iff.mpr e, Option.bind_some, Bool.false_eq_true, if_false, z_inbN (show c < 32 by omega) (by decide), if_true, z_cl (show c < 2147483648 by omega), ab]
      rw [q_run_go st]
      refine ih (K.cp c) hcp (by omega) ?_ h2
      have : k_anc K.cp (K.cp c) c = true := by rw [k_anc_up (by omega) (by omega) hcp]; exact k_anc_self _ _
      exact k_anc_trans hK a ha this h1
theorem z_joined {x y : Nat} (hK : k_K g K) (hk : k_D D q K) (hx : k_vt K x) (hy : k_vt K y) : fX12_joined D q (k_y x) (k_y y) = some (k_y (k_jn K x y)) := by
  have h32 := hK.2.1
  have lx := k_vt_lt hK hx
  have ly := k_vt_lt hK hy
  obtain ⟨x1, x2⟩ := k_vt_cl hK hx
  obtain ⟨y1, y2⟩ := k_vt_cl hK hy
  have e0 : (0 : Int32) = k_y 66 := by decide
  have q4 : (k_y x = 0) = (x = 66) := by rw [e0]; exact k_y_eq (by omega) (by decide)
  have q5 : (k_y y = 0) = (y = 66) := by rw [e0]; exact k_y_eq (by omega) (by decide)
  have cls : ∀ z : Fin 68, fX12_isClass q_S0 (k_y z) = some (decide (z.1 < 32)) := by decide +kernel
  have lt48 : ∀ z : Fin 68, (k_y z < 48) = (z.1 < 32 ∨ 64 ≤ z.1) := fun z => propext ((by decide +kernel : ∀ z : Fin 68, (k_y z < 48) ↔ (z.1 < 32 ∨ 64 ≤ z.1)) z)
  have cx : fX12_isClass D (k_y x) = some (decide (x < 32)) := cls ⟨x, by omega⟩
  have cy : fX12_isClass D (k_y y) = some (decide (y < 32)) := cls ⟨y, by omega⟩
  have lx48 : (k_y x < 48) = (x < 32 ∨ 64 ≤ x) := lt48 ⟨x, by omega⟩
  have ly48 : (k_y y < 48) = (y < 32 ∨ 64 ≤ y) := lt48 ⟨y, by omega⟩
  simp only [fX12_joined, z_isBelow12 hK hk hx hy, z_isBelow12 hK hk hy hx, Option.bind_some, q4, q5, cx, cy, lx48, ly48, k_jn]
  by_cases c1 : k_blw K x y = true
  · rw [if_pos c1, if_pos c1]
  · rw [if_neg c1, if_neg c1]
    by_cases c2 : k_blw K y x = true
    · rw [if_pos c2, if_pos c2]
    · rw [if_neg c2, if_neg c2]
      have nx : x ≠ 67 := fun h => c2 (by rw [h]; exact k_blw_67 _)
      have ny : y ≠ 67 := fun h => c1 (by rw [h]; exact k_blw_67 _)
      by_cases c3 : x = 66
      · rw [if_pos c3, if_pos (show 65 < x ∨ 65 < y by omega)]; rfl
      · rw [if_neg c3]
        by_cases c4 : y = 66
        · rw [if_pos c4, if_pos (show 65 < x ∨ 65 < y by omega)]; rfl
        · rw [if_neg c4, if_neg (show ¬ (65 < x ∨ 65 < y) by omega)]
          by_cases c5 : x < 32 ∧ y < 32
          · have hj := z_joined102 hK hk (x1 c5.1) (y1 c5.2) (base := 8) (by decide) x (x1 c5.1) (k_anc_self _ _) (k_nr_is hK (x1 c5.1) (y1 c5.2)).1
            have nl := k_nr_lt hK (x1 c5.1) (y1 c5.2)
            rw [if_pos c5, decide_eq_true c5.1, decide_eq_true c5.2, k_y_c c5.1, k_y_c c5.2, k_y_c (by omega)]
            simp only [if_true, Option.bind_some, if_pos (show x < 32 ∨ 64 ≤ x from Or.inl c5.1)]
            rw [show (8 : Int32) = nI 8 from rfl, z_subN (by omega), Nat.add_sub_cancel, Nat.add_comm y 8, Nat.add_comm (k_nr K x y) 8]
            exact hj
          · rw [if_neg c5]
            have v12 : ((if decide (x < 32) = true then (some (decide (y < 32))).bind fun r10 => if r10 = true then some true else some false else some false) : Option Bool) = some false := by
              by_cases d : x < 32
              · rw [decide_eq_true d, decide_eq_false (show ¬ y < 32 from fun h => c5 ⟨d, h⟩)]; rfl
              · rw [decide_eq_false d]; rfl
            have v12' : ((if decide (x < 32) = true then if decide (y < 32) = true then some true else some false else some false) : Option Bool) = some false := v12
            rw [v12', Option.bind_some]
            by_cases c6 : (32 ≤ x ∧ x < 64) ∧ 32 ≤ y ∧ y < 64
            · have xx := x2 c6.1.1 c6.1.2
              have yy := y2 c6.2.1 c6.2.2
              have hj := z_joined102 hK hk xx yy (base := 48) (by decide) (x - 32) xx (k_anc_self _ _) (k_nr_is hK xx yy).1
              have nl := k_nr_lt hK xx yy
              have kx : k_y x = nI (48 + (x - 32)) := by rw [← k_y_a (show x - 32 < 32 by omega)]; congr 1; omega
              have ky : k_y y = nI (48 + (y - 32)) := by rw [← k_y_a (show y - 32 < 32 by omega)]; congr 1; omega
              rw [if_neg (show ¬ (x < 32 ∨ 64 ≤ x) by omega), if_neg (show ¬ (y < 32 ∨ 64 ≤ y) by omega), if_pos c6, k_y_a (by omega), kx, ky]
              simp only [Option.bind_some, Bool.false_eq_true, if_false, if_true]
              rw [show (48 : Int32) = nI 48 from rfl, z_subN (by omega), Nat.add_sub_cancel_left]
              exact hj
            · rw [if_neg c6]
              have v13 : ((if x < 32 ∨ 64 ≤ x then some false else if y < 32 ∨ 64 ≤ y then some false else some true) : Option Bool) = some false := by
                by_cases d : x < 32 ∨ 64 ≤ x
                · rw [if_pos d]
                · rw [if_neg d, if_pos (by omega)]
              rw [v13, Option.bind_some]
              rfl
end ZJN
