/-! ===== bodies are added ===== -/
theorem z_narb (b : Bool) : vp_nar .boolean (q_b b) = q_b b := by cases b <;> rfl
theorem z_le48 {b : Nat} (h : b < 48) : ¬ (48 : Int32) ≤ nI b := by rw [show (48 : Int32) = nI 48 from rfl, z_leN (by decide) (by omega)]; omega
theorem z_ne48 {b : Nat} (h : b < 48) : ¬ nI b = (48 : Int32) := by rw [show (48 : Int32) = nI 48 from rfl, z_eqN (by omega) (by decide)]; omega
section ZADD
variable {C D : QS} {n p q : Nat} {g : ZT} {K : ZK} {M : ZM}
theorem z_isClass {c : Nat} (hk : k_C C p K) (hK : K.cc ≤ 32) (hc : c < K.cc) : fX0_isClass C p (nI c) = some true := by
  rw [fX0_isClass, if_neg (by rw [z_negN (by omega)]; exact fun x => x), hk.1, if_neg]
  rw [z_leN (by omega) (by omega)]
  omega
theorem z_addBody {o w b rr : Nat} {m : Bool} {rep : Option Nat} (hk : k_C C p K) (hK : K.cc ≤ 32) (ho : o < K.cc) (hb : b < 48) (hC : C.2.1 p 2 = nI b) (hr : (rep = none ∧ rr = b) ∨ ∃ r, rep = some r ∧ r < b ∧ C.2.1 (p + 33) r = nI rr) (hrr : rr < 48) : ∃ C1, fX5_addBody C p (nI o) (nI w) m (k_oI rep) = some C1 ∧ C1.2.1 p 2 = nI (b + 1) ∧ C1.2.1 (p + 22) b = nI w ∧ C1.2.1 (p + 23) b = nI o ∧ C1.2.1 (p + 24) b = q_b m ∧ C1.2.1 (p + 25) b = nI (if m = true then 1 else 0) ∧ C1.2.1 (p + 33) b = nI rr ∧ (m = true → C1.2.1 (p + 26) (b * 12) = nI o ∧ C1.2.1 (p + 34) (o * 48 + rr) = nI b) ∧ (∀ y j, ¬ (y = p ∧ j = 2) → ¬ (j = b ∧ (y = p + 22 ∨ y = p + 23 ∨ y = p + 24 ∨ y = p + 25 ∨ y = p + 33)) → ¬ (y = p + 26 ∧ j = b * 12) → ¬ (m = true ∧ y = p + 34 ∧ j = o * 48 + rr) → C1.2.1 y j = C.2.1 y j) ∧ z_offC p C C1 := by
  have i1 : q_inb (nI b) 48 = true := z_inbN hb (by decide)
  have c1 : (nI b).toNatClampNeg = b := z_cl (by omega)
  have hm : (some (nI rr) : Option Int32) = (if k_oI rep = -1 then some (nI b) else if q_inb (k_oI rep) 48 = true then some (C.2.1 (p + 33) (k_oI rep).toNatClampNeg) else none) := by
    rcases hr with ⟨rfl, rfl⟩ | ⟨r, rfl, h1, h2⟩
    · rfl
    · have m1 : ¬ nI r = -1 := by rw [z_m1N (by omega)]; exact fun x => x
      simp only [k_oI, if_neg m1, z_inbN (show r < 48 by omega) (by decide), if_true, z_cl (show r < 2147483648 by omega), h2]
  have e48 : (48 : Int32) = nI 48 := rfl
  have e12 : (12 : Int32) = nI 12 := rfl
  let S : QS := q_sI (q_sI (q_sI (q_sI (q_sI (q_sI C p 2 (nI (b + 1))) (p + 22) b (nI w)) (p + 23) b (nI o)) (p + 24) b (q_b m)) (p + 25) b 0) (p + 33) b (nI rr)
  have hS : ∀ y j, S.2.1 y j = if y = p + 33 ∧ j = b then nI rr else if y = p + 25 ∧ j = b then 0 else if y = p + 24 ∧ j = b then q_b m else if y = p + 23 ∧ j = b then nI o else if y = p + 22 ∧ j = b then nI w else if y = p ∧ j = 2 then nI (b + 1) else C.2.1 y j := by
    intro y j
    simp only [S, q_sI_I]
  have oS : z_offC p C S := ((((((z_offC.refl p C).sI (by omega)).sI (by omega)).sI (by omega)).sI (by omega)).sI (by omega)).sI (by omega)
  have main : fX5_addBody C p (nI o) (nI w) m (k_oI rep) = if m = true then some (q_sI (q_sI (q_sI S (p + 26) (b * 12) (nI o)) (p + 25) b 1) (p + 34) (o * 48 + rr) (nI b)) else some S := by
    simp only [fX5_addBody, hC, if_neg (z_le48 hb), z_isClass hk hK ho, Option.bind_some, if_true, i1, c1, nI_1, z_narb]
    have hm' : ((if k_oI rep = -1 then some (nI b) else if q_inb (k_oI rep) 48 = true then some ((q_sI (q_sI (q_sI (q_sI (q_sI C p 2 (nI (b + 1))) (p + 22) b (nI w)) (p + 23) b (nI o)) (p + 24) b (q_b m)) (p + 25) b 0).2.1 (p + 33) (k_oI rep).toNatClampNeg) else none) : Option Int32) = some (nI rr) := by
      rw [hm]
      simp only [q_sI_I]
      simp (disch := omega) only [if_neg]
    rw [hm', Option.bind_some]
    cases m with
    | false => rfl
    | true =>
      simp only [if_true]
      have ap : fX5_addParameter S p (nI b) (nI o) = some (q_sI (q_sI S (p + 26) (b * 12) (nI o)) (p + 25) b 1) := by
        have r0 : S.2.1 (p + 25) b = nI 0 := by rw [hS, if_neg (by omega), if_pos ⟨rfl, rfl⟩]; rfl
        have r1 : (q_sI S (p + 26) (b * 12) (nI o)).2.1 (p + 25) b = nI 0 := by rw [q_sI_I, if_neg (by omega)]; exact r0
        simp only [fX5_addParameter, i1, if_true, c1, r0, e12, nI_mulN, nI_add, Nat.add_zero]
        rw [if_neg (by decide), if_pos (z_inbN (by omega) (by decide)), z_cl (by omega), Option.bind_some, Option.bind_some, r1, nI_1]
        rfl
      show (fX5_addParameter S p (nI b) (nI o)).bind _ = _
      rw [ap, Option.bind_some]
      have r2 : (q_sI (q_sI S (p + 26) (b * 12) (nI o)) (p + 25) b 1).2.1 (p + 33) b = nI rr := by
        rw [q_sI_I, if_neg (by omega), q_sI_I, if_neg (by omega), hS, if_pos ⟨rfl, rfl⟩]
      rw [r2, e48, nI_mulN, nI_add, if_pos (z_inbN (by have := ho; omega) (by decide)), z_cl (by omega)]
  rw [main]
  cases m with
  | false =>
    refine ⟨S, rfl, ?_, ?_, ?_, ?_, ?_, ?_, (fun h => by cases h), fun y j h1 h2 h3 h4 => ?_, oS⟩
    · rw [hS]; simp (disch := omega) only [if_neg, if_true, and_self]
    · rw [hS]; simp (disch := omega) only [if_neg, if_true, and_self]
    · rw [hS]; simp (disch := omega) only [if_neg, if_true, and_self]
    · rw [hS]; simp (disch := omega) only [if_neg, if_true, and_self]
    · rw [hS]; simp (disch := omega) only [if_neg, if_true, and_self]; rfl
    · rw [hS]; simp (disch := omega) only [if_neg, if_true, and_self]
    · rw [hS]; simp (disch := omega) only [if_neg]
  | true =>
    refine ⟨_, rfl, ?_, ?_, ?_, ?_, ?_, ?_, fun h => ⟨?_, ?_⟩, fun y j h1 h2 h3 h4 => ?_, ((oS.sI (by omega)).sI (by omega)).sI (by omega)⟩
    · simp only [q_sI_I, hS]; simp (disch := omega) only [if_neg, if_true, and_self]
    · simp only [q_sI_I, hS]; simp (disch := omega) only [if_neg, if_true, and_self]
    · simp only [q_sI_I, hS]; simp (disch := omega) only [if_neg, if_true, and_self]
    · simp only [q_sI_I, hS]; simp (disch := omega) only [if_neg, if_true, and_self]
    · simp only [q_sI_I, hS]; simp (disch := omega) only [if_neg, if_true, and_self]; rfl
    · simp only [q_sI_I, hS]; simp (disch := omega) only [if_neg, if_true, and_self]
    · simp only [q_sI_I, hS]; simp (disch := omega) only [if_neg, if_true, and_self]
    · simp only [q_sI_I, hS]; simp (disch := omega) only [if_neg, if_true, and_self]
    · have h4' : ¬ (y = p + 34 ∧ j = o * 48 + rr) := fun h => h4 ⟨rfl, h⟩
      simp only [q_sI_I, hS]; simp (disch := omega) only [if_neg]
end ZADD
