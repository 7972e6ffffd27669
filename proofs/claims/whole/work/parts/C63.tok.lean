/-! ===== what tokens are ===== -/
theorem z_neN {a b : Nat} (ha : a < 2147483648) (hb : b < 2147483648) (h : a ≠ b) : nI a ≠ nI b := fun q => h ((nI_eq ha hb).mp q)
theorem z_subN {a b : Nat} (h : b ≤ a) : nI a - nI b = nI (a - b) := pk_sub h
theorem z_subL {a b : Nat} (h : a < b) (hb : b < 1073741824) : nI a - nI b < 0 := pk_sneg hb h
theorem z_sub_eq {a b c : Nat} (ha : a < 1073741824) (hb : b < 1073741824) (hc : c < 1073741824) : (nI a - nI b = nI c) = (a = b + c) := by
  apply propext
  constructor
  · intro h
    have h2 := congrArg Int32.toInt h
    rw [pk_sub_toInt (by omega) (by omega), nI_toInt (by omega)] at h2
    omega
  · rintro rfl
    rw [z_subN (by omega)]
    congr 1
    omega
theorem z_sub_le {a b c : Nat} (ha : a < 1073741824) (hb : b < 1073741824) (hc : c < 1073741824) : (nI a - nI b ≤ nI c) = (a ≤ b + c) := by
  apply propext
  rw [Int32.le_iff_toInt_le, pk_sub_toInt (by omega) (by omega), nI_toInt (by omega)]
  omega
theorem z_lt_sub {a b c : Nat} (ha : a < 1073741824) (hb : b < 1073741824) (hc : c < 1073741824) : (nI c < nI a - nI b) = (b + c < a) := by
  apply propext
  rw [Int32.lt_iff_toInt_lt, pk_sub_toInt (by omega) (by omega), nI_toInt (by omega)]
  omega
theorem z_sub_lt {a b c : Nat} (ha : a < 1073741824) (hb : b < 1073741824) (hc : c < 1073741824) : (nI a - nI b < nI c) = (a < b + c) := by
  apply propext
  rw [Int32.lt_iff_toInt_lt, pk_sub_toInt (by omega) (by omega), nI_toInt (by omega)]
  omega
/-- a constant string and its bytes -/
def z_S (s : Nat) (bs : List Int32) : Prop := q_isS s = true ∧ q_sb s = bs ∧ bs.length < 1000
theorem z_len {s : Nat} {bs : List Int32} (h : z_S s bs) : fJ0_length s = some (nI bs.length) := by
  rw [fJ0_length, if_pos h.1, h.2.1]
theorem z_chr {s i : Nat} {bs : List Int32} (h : z_S s bs) (hi : i < bs.length) : fJ0_charAt s (nI i) = some (bs.getD i 0) := by
  have := h.2.2
  rw [fJ0_charAt, if_pos h.1, h.2.1, if_pos (z_inbN hi (by omega)), z_cl (by omega)]
/-- the bytes from u up to before v are those of the word -/
def z_txt (B : Nat → Int32) (u v : Nat) (bs : List Int32) : Bool := decide (v = u + bs.length) && z_ff (fun k => if B (u + k) = bs.getD k 0 then none else some false) true 0 bs.length
def z_nc (c : Int32) : Bool := (decide (97 ≤ c) && decide (c ≤ 122)) || (decide (65 ≤ c) && decide (c ≤ 90)) || (decide (48 ≤ c) && decide (c ≤ 57)) || decide (c = 95)
/-- a name whose first letter is one of 26 -/
def z_nam (B : Nat → Int32) (u v : Nat) (f : Int32) : Bool := decide (u < v) && (decide (v ≤ u + 24) && (decide (f ≤ B u) && (decide (B u ≤ f + 25) && z_ff (fun k => if z_nc (B k) = true then none else some false) true u (v - u))))
/-- the texts of the two sides -/
def z_cX (C : QS) (n T : Nat) (B : Nat → Int32) (a b : Nat → Nat) : Prop := C.2.1 2 1 = nI n ∧ C.2.1 2 5 = nI T ∧ (∀ k, k < n → C.2.1 3 k = B k) ∧ ∀ t, t < T → C.2.1 4 t = nI (a t) ∧ C.2.1 5 t = nI (b t)
def z_dX (D : QS) (n T : Nat) (B : Nat → Int32) (a b : Nat → Nat) : Prop := D.2.1 102 7 = nI n ∧ D.2.1 102 10 = nI T ∧ (∀ k, k < n → D.2.1 160 k = B k) ∧ ∀ t, t < T → D.2.1 161 t = nI (a t) ∧ D.2.1 162 t = nI (b t)
def z_gX (n T : Nat) (B : Nat → Int32) (a b : Nat → Nat) : Prop := n ≤ 16000 ∧ T ≤ n ∧ (∀ k, q_byt (B k)) ∧ ∀ t, t < T → a t < b t ∧ b t ≤ n ∧ z_tb B (a t) (b t)
theorem z_ghost {C D : QS} {n T : Nat} {B : Nat → Int32} (h : z_tx C D n B) (hs : z_ts C D B n T) : ∃ a b, z_cX C n T B a b ∧ z_dX D n T B a b ∧ z_gX n T B a b := by
  obtain ⟨h1, h2, h3, h4, h5⟩ := h
  obtain ⟨s1, s2, s3, s4⟩ := hs
  refine ⟨fun t => (C.2.1 4 t).toNatClampNeg, fun t => (C.2.1 5 t).toNatClampNeg, ⟨h1, s1, fun k hk => (h4 k hk).1, fun t ht => ?_⟩, ⟨h2, s2, fun k hk => (h4 k hk).2, fun t ht => ?_⟩, ⟨h3, s3, h5, fun t ht => ?_⟩⟩
  all_goals
    obtain ⟨u, v, e1, e2, e3, e4, e5, e6⟩ := s4 t ht
    have := e6.1
    simp only [e1, e2, e3, e4, z_cl (show u < 2147483648 by omega), z_cl (show v < 2147483648 by omega)]
  · exact ⟨trivial, trivial⟩
  · exact ⟨trivial, trivial⟩
  · exact ⟨this, e5, e6⟩
section ZTOK
variable {C D : QS} {n T : Nat} {B : Nat → Int32} {a b : Nat → Nat}
theorem z_isText {s u v : Nat} {bs : List Int32} (hC : z_cX C n T B a b) (hG : z_gX n T B a b) (hs : z_S s bs) (hu : u ≤ n) (hv : v ≤ n) : fX8_isText C (nI u) (nI v) s = some (z_txt B u v bs) := by
  have hn := hG.1
  have hl := hs.2.2
  have e1 : ¬ nI u < 0 := nI_pos (by omega)
  have e2 : ¬ nI n < nI v := by rw [z_ltN (by omega) (by omega)]; omega
  simp only [fX8_isText, hC.1, z_len hs, Option.bind_some, if_neg e1, if_neg e2, z_sub_eq (show v < 1073741824 by omega) (show u < 1073741824 by omega) (show bs.length < 1073741824 by omega)]
  by_cases he : v = u + bs.length
  · rw [if_pos he, fX8_isText_27, z_txt, decide_eq_true he, Bool.true_and]
    refine z_for _ true 0 bs.length (fun k _ hk => ?_) ?_
    · have g1 : ¬ nI bs.length ≤ nI k := by rw [z_leN (by omega) (by omega)]; omega
      simp only [tX8_isText_27, z_len hs, Option.bind_some, if_neg g1, nI_add, nI_1, z_inbN (show u + k < 16000 by omega) (by decide), if_true, z_cl (show u + k < 2147483648 by omega), hC.2.2.1 (u + k) (by omega), z_chr hs (show k < bs.length by omega)]
      by_cases q : B (u + k) = bs.getD k 0
      · rw [if_pos q, if_pos q]
      · rw [if_neg q, if_neg q]
    · simp only [tX8_isText_27, z_len hs, Option.bind_some, Nat.zero_add]
      rw [if_pos (by rw [z_leN (by omega) (by omega)]; exact Nat.le_refl _)]
  · rw [if_neg he, z_txt, decide_eq_false he, Bool.false_and]
/-- a token that is a word -/
def k_word (T : Nat) (B : Nat → Int32) (a b : Nat → Nat) (t : Nat) (bs : List Int32) : Bool := decide (t < T) && z_txt B (a t) (b t) bs
theorem z_isWord {s t : Nat} {bs : List Int32} (hC : z_cX C n T B a b) (hG : z_gX n T B a b) (hs : z_S s bs) (ht : t < 2147483648) : fX8_isWord C (nI t) s = some (k_word T B a b t bs) := by
  have hn := hG.1
  have hT := hG.2.1
  simp only [fX8_isWord, hC.2.1, z_negN ht, if_false, z_leN (show T < 2147483648 by omega) ht]
  by_cases h : t < T
  · have g := hG.2.2.2 t h
    rw [if_neg (by omega)]
    simp only [z_inbN (show t < 16000 by omega) (by decide), if_true, z_cl ht, hC.2.2.2 t h, z_isText hC hG hs (show a t ≤ n by omega) (show b t ≤ n by omega), Option.bind_some]
    rw [k_word, decide_eq_true h, Bool.true_and]
    cases z_txt B (a t) (b t) bs <;> rfl
  · rw [if_pos (by omega), k_word, decide_eq_false h, Bool.false_and]
theorem z_is {s t : Nat} {bs : List Int32} (hD : z_dX D n T B a b) (hG : z_gX n T B a b) (hs : z_S s bs) (ht : t < 2147483648) : fX12_is D (nI t) s = some (k_word T B a b t bs) := by
  have hn := hG.1
  have hT := hG.2.1
  have hl := hs.2.2
  simp only [fX12_is, hD.2.1, z_leN (show T < 2147483648 by omega) ht]
  by_cases h : t < T
  · have g := hG.2.2.2 t h
    rw [if_neg (by omega)]
    simp only [z_inbN (show t < 16002 by omega) (by decide), if_true, z_cl ht, hD.2.2.2 t h, z_len hs, Option.bind_some, z_sub_eq (show b t < 1073741824 by omega) (show a t < 1073741824 by omega) (show bs.length < 1073741824 by omega)]
    rw [k_word, decide_eq_true h, Bool.true_and]
    by_cases he : b t = a t + bs.length
    · rw [if_pos he, fX12_is_32, z_txt, decide_eq_true he, Bool.true_and]
      refine z_for _ true 0 bs.length (fun k _ hk => ?_) ?_
      · have g1 : ¬ nI bs.length ≤ nI k := by rw [z_leN (by omega) (by omega)]; omega
        simp only [tX12_is_32, z_len hs, Option.bind_some, if_neg g1, z_cl ht, hD.2.2.2 t h, nI_add, nI_1, z_inbN (show t < 16002 by omega) (by decide), z_inbN (show a t + k < 16000 by omega) (by decide), if_true, z_cl (show a t + k < 2147483648 by omega), hD.2.2.1 (a t + k) (by omega), z_chr hs (show k < bs.length by omega)]
        by_cases q : B (a t + k) = bs.getD k 0
        · rw [if_pos q, if_pos q]
        · rw [if_neg q, if_neg q]
      · simp only [tX12_is_32, z_len hs, Option.bind_some, Nat.zero_add]
        rw [if_pos (by rw [z_leN (by omega) (by omega)]; exact Nat.le_refl _)]
    · rw [if_neg he, z_txt, decide_eq_false he, Bool.false_and]
  · rw [if_pos (by omega), k_word, decide_eq_false h, Bool.false_and]
theorem z_isNamed {u v : Nat} {f : Int32} (hC : z_cX C n T B a b) (hG : z_gX n T B a b) (hu : u ≤ n + 1) (hv : v ≤ n) : fX8_isNamed C (nI u) (nI v) f = some (z_nam B u v f) := by
  have hn := hG.1
  have e1 : ¬ nI u < 0 := nI_pos (by omega)
  have e2 : ¬ nI n < nI v := by rw [z_ltN (by omega) (by omega)]; omega
  simp only [fX8_isNamed, hC.1, if_neg e1, if_neg e2, z_leN (show v < 2147483648 by omega) (show u < 2147483648 by omega), z_nam]
  by_cases h : u < v
  · rw [if_neg (by omega), decide_eq_true h, Bool.true_and]
    have e3 : (nI v - nI u ≤ 24) = (v ≤ u + 24) := z_sub_le (c := 24) (by omega) (by omega) (by omega)
    simp only [e3]
    by_cases h2 : v ≤ u + 24
    · rw [if_pos h2, decide_eq_true h2, Bool.true_and]
      simp only [z_inbN (show u < 16000 by omega) (by decide), if_true, z_cl (show u < 2147483648 by omega), hC.2.2.1 u (by omega)]
      by_cases h3 : B u < f
      · rw [if_pos h3, decide_eq_false (Int32.not_le.mpr h3), Bool.false_and]
      · rw [if_neg h3, decide_eq_true (Int32.not_lt.mp h3), Bool.true_and]
        by_cases h4 : B u ≤ f + 25
        · rw [if_pos h4, decide_eq_true h4, Bool.true_and, fX8_isNamed_55]
          refine z_for _ true u (v - u) (fun k k1 k2 => ?_) ?_
          · have g1 : ¬ nI v ≤ nI k := by rw [z_leN (by omega) (by omega)]; omega
            simp only [tX8_isNamed_55, if_neg g1, z_inbN (show k < 16000 by omega) (by decide), if_true, z_cl (show k < 2147483648 by omega), hC.2.2.1 k (by omega), nI_1]
            generalize B k = c
            simp only [z_nc]
            by_cases c1 : c < 97
            · have c1' : ¬ (97 : Int32) ≤ c := Int32.not_le.mpr c1
              by_cases c2 : c < 65
              · have c2' : ¬ (65 : Int32) ≤ c := Int32.not_le.mpr c2
                by_cases c4 : c = 95
                · subst c4; exact absurd c2 (by decide)
                · by_cases c5 : c < 48
                  · have c5' : ¬ (48 : Int32) ≤ c := Int32.not_le.mpr c5
                    simp [c1, c1', c2, c2', c4, c5, c5']
                  · have c5' : (48 : Int32) ≤ c := Int32.not_lt.mp c5
                    by_cases c6 : c ≤ 57 <;> simp [c1, c1', c2, c2', c4, c5, c5', c6]
              · have c2' : (65 : Int32) ≤ c := Int32.not_lt.mp c2
                by_cases c3 : (90 : Int32) < c
                · have c3' : ¬ c ≤ 90 := Int32.not_le.mpr c3
                  have c5 : ¬ c < 48 := fun q => c2 (Int32.lt_trans q (by decide))
                  have c6 : ¬ c ≤ 57 := fun q => c3' (Int32.le_trans q (by decide))
                  by_cases c4 : c = 95 <;> simp [c1, c1', c2, c2', c3, c3', c4, c5, c6]
                · have c3' : c ≤ 90 := Int32.not_lt.mp c3
                  simp [c1, c1', c2, c2', c3, c3']
            · have c1' : (97 : Int32) ≤ c := Int32.not_lt.mp c1
              by_cases c2 : c ≤ 122
              · simp [c1, c1', c2]
              · have d1 : ¬ c < 65 := fun q => c1 (Int32.lt_trans q (by decide))
                have d2 : (90 : Int32) < c := Int32.lt_of_lt_of_le (by decide) c1'
                have d2' : ¬ c ≤ 90 := Int32.not_le.mpr d2
                have d3 : c ≠ 95 := by rintro rfl; revert c1; decide
                have d4 : ¬ c < 48 := fun q => c1 (Int32.lt_trans q (by decide))
                have d5 : ¬ c ≤ 57 := fun q => d2' (Int32.le_trans q (by decide))
                simp [c1, c1', c2, d1, d2, d2', d3, d4, d5]
          · rw [show u + (v - u) = v by omega]
            simp only [tX8_isNamed_55]
            rw [if_pos (by rw [z_leN (by omega) (by omega)]; exact Nat.le_refl _)]
        · rw [if_neg h4, decide_eq_false h4, Bool.false_and]
    · rw [if_neg h2, decide_eq_false h2, Bool.false_and]
  · rw [if_pos (by omega), decide_eq_false h, Bool.false_and]
theorem z_dName {u v : Nat} {f g : Int32} (hD : z_dX D n T B a b) (hG : z_gX n T B a b) (hu : u ≤ n + 1) (hv : v ≤ n) (hf : g = f + 25) : fX12_isName D (nI u) (nI v) f g = some (z_nam B u v f) := by
  have hn := hG.1
  subst hf
  simp only [fX12_isName, z_leN (show v < 2147483648 by omega) (show u < 2147483648 by omega), z_nam]
  by_cases h : u < v
  · rw [if_neg (by omega), decide_eq_true h, Bool.true_and]
    have e3 : (24 < nI v - nI u) = (u + 24 < v) := z_lt_sub (c := 24) (by omega) (by omega) (by omega)
    simp only [e3]
    by_cases h2 : v ≤ u + 24
    · rw [if_neg (by omega), decide_eq_true h2, Bool.true_and]
      simp only [z_inbN (show u < 16000 by omega) (by decide), if_true, z_cl (show u < 2147483648 by omega), hD.2.2.1 u (by omega)]
      by_cases h3 : B u < f
      · rw [if_pos h3, decide_eq_false (Int32.not_le.mpr h3), Bool.false_and]
      · rw [if_neg h3, decide_eq_true (Int32.not_lt.mp h3), Bool.true_and]
        by_cases h4 : B u ≤ f + 25
        · rw [if_pos h4, decide_eq_true h4, Bool.true_and, fX12_isName_39]
          refine z_for _ true u (v - u) (fun k k1 k2 => ?_) ?_
          · have g1 : ¬ nI v ≤ nI k := by rw [z_leN (by omega) (by omega)]; omega
            simp only [tX12_isName_39, uX12_isName_68, uX12_isName_82, if_neg g1, z_inbN (show k < 16000 by omega) (by decide), if_true, z_cl (show k < 2147483648 by omega), hD.2.2.1 k (by omega), nI_1]
            generalize B k = c
            simp only [z_nc]
            by_cases c1 : c < 97
            · have c1' : ¬ (97 : Int32) ≤ c := Int32.not_le.mpr c1
              by_cases c2 : c < 65
              · have c2' : ¬ (65 : Int32) ≤ c := Int32.not_le.mpr c2
                by_cases c4 : c = 95
                · subst c4; exact absurd c2 (by decide)
                · by_cases c5 : c < 48
                  · have c5' : ¬ (48 : Int32) ≤ c := Int32.not_le.mpr c5
                    simp [c1, c1', c2, c2', c4, c5, c5']
                  · have c5' : (48 : Int32) ≤ c := Int32.not_lt.mp c5
                    by_cases c6 : c ≤ 57 <;> simp [c1, c1', c2, c2', c4, c5, c5', c6]
              · have c2' : (65 : Int32) ≤ c := Int32.not_lt.mp c2
                by_cases c3 : (90 : Int32) < c
                · have c3' : ¬ c ≤ 90 := Int32.not_le.mpr c3
                  have c5 : ¬ c < 48 := fun q => c2 (Int32.lt_trans q (by decide))
                  have c6 : ¬ c ≤ 57 := fun q => c3' (Int32.le_trans q (by decide))
                  by_cases c4 : c = 95 <;> simp [c1, c1', c2, c2', c3, c3', c4, c5, c6]
                · have c3' : c ≤ 90 := Int32.not_lt.mp c3
                  simp [c1, c1', c2, c2', c3, c3']
            · have c1' : (97 : Int32) ≤ c := Int32.not_lt.mp c1
              by_cases c2 : c ≤ 122
              · simp [c1, c1', c2]
              · have d1 : ¬ c < 65 := fun q => c1 (Int32.lt_trans q (by decide))
                have d2 : (90 : Int32) < c := Int32.lt_of_lt_of_le (by decide) c1'
                have d2' : ¬ c ≤ 90 := Int32.not_le.mpr d2
                have d3 : c ≠ 95 := by rintro rfl; revert c1; decide
                have d4 : ¬ c < 48 := fun q => c1 (Int32.lt_trans q (by decide))
                have d5 : ¬ c ≤ 57 := fun q => d2' (Int32.le_trans q (by decide))
                simp [c1, c1', c2, d1, d2, d2', d3, d4, d5]
          · rw [show u + (v - u) = v by omega]
            simp only [tX12_isName_39]
            rw [if_pos (by rw [z_leN (by omega) (by omega)]; exact Nat.le_refl _)]
        · rw [if_neg h4, decide_eq_false h4, Bool.false_and]
    · rw [if_pos (by omega), decide_eq_false h2, Bool.false_and]
  · rw [if_pos (by omega), decide_eq_false h, Bool.false_and]
end ZTOK
