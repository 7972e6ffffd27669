/-! ===== types ===== -/
/-- a type's number in the reference -/
def k_y (c : Nat) : Int32 := if c < 32 then nI (c + 8) else if c < 64 then nI (c + 16) else if c = 64 then 40 else if c = 65 then 1 else if c = 66 then 0 else if c = 67 then 2 else -1
def k_yo : Option Nat → Int32
  | none => -1
  | some c => k_y c
/-- the type that a token names -/
def k_ty (g : ZT) (K : ZK) (t : Nat) : Option Nat := if z_txt g.2.1 (g.2.2.1 t) (k_es g.2.1 g.2.2.1 g.2.2.2 t) w_int = true then some (if k_arr g.2.1 g.2.2.1 g.2.2.2 t = true then 64 else 66) else (k_cls g K (g.2.2.1 t) (k_es g.2.1 g.2.2.1 g.2.2.2 t)).map (fun c => if k_arr g.2.1 g.2.2.1 g.2.2.2 t = true then 32 + c else c)
theorem k_ty_rng {g : ZT} {K : ZK} {t x : Nat} (h8 : 8 ≤ K.cc) (h : k_ty g K t = some x) : x < K.cc ∨ (32 ≤ x ∧ x < 32 + K.cc) ∨ x = 64 ∨ x = 66 := by
  rw [k_ty] at h
  split at h
  · cases h
    split <;> simp
  · rw [Option.map_eq_some_iff] at h
    obtain ⟨c, h1, h2⟩ := h
    have := k_cls_lt h8 h1
    split at h2
    · right; left; omega
    · left; omega
theorem k_y_pos {x : Nat} (h : x < 68) : (0 : Int32) ≤ k_y x := by
  have : ∀ x : Fin 68, (0 : Int32) ≤ k_y x := by decide +kernel
  exact this ⟨x, h⟩
theorem k_y_inj : ∀ x y : Fin 69, k_y x = k_y y → x = y := by decide +kernel
theorem k_y_eq {x y : Nat} (hx : x < 69) (hy : y < 69) : (k_y x = k_y y) = (x = y) := by
  refine propext ⟨fun h => ?_, fun h => by rw [h]⟩
  have := k_y_inj ⟨x, hx⟩ ⟨y, hy⟩ h
  exact congrArg Fin.val this
theorem k_y_c {c : Nat} (h : c < 32) : k_y c = nI (c + 8) := if_pos h
theorem k_y_a {c : Nat} (h : c < 32) : k_y (32 + c) = nI (48 + c) := by
  rw [k_y, if_neg (by omega), if_pos (by omega), show 32 + c + 16 = 48 + c by omega]
section ZTYP
variable {C D : QS} {n p q : Nat} {g : ZT} {K : ZK}
theorem e_typ_es {t : Nat} (h : e_typ g t = true) : k_es2 g.2.1 g.2.2.1 g.2.2.2 t = k_es g.2.1 g.2.2.1 g.2.2.2 t := by
  refine k_es_eq (fun q => ?_)
  have e1 : k_es g.2.1 g.2.2.1 g.2.2.2 t = g.2.2.2 t := by
    rw [k_es, k_arr, decide_eq_false (by omega), Bool.false_and]
    rfl
  rw [e_typ, k_typ, Bool.and_eq_true, Bool.or_eq_true, e1] at h
  rcases h.2 with x | x
  · have := (z_txt_get x).1
    simp at this
    omega
  · have := (z_nam_b0 x).2
    rw [q.2] at this
    exact absurd this (by decide)
theorem k_es_rng {t : Nat} (hG : z_G n g) (ht : t < g.1) : g.2.2.1 t ≤ k_es g.2.1 g.2.2.1 g.2.2.2 t ∧ k_es g.2.1 g.2.2.1 g.2.2.2 t ≤ n ∧ (k_es g.2.1 g.2.2.1 g.2.2.2 t < g.2.2.2 t ↔ k_arr g.2.1 g.2.2.1 g.2.2.2 t = true) := by
  have gt := hG.2.2.2 t ht
  rw [k_es]
  by_cases q : k_arr g.2.1 g.2.2.1 g.2.2.2 t = true
  · have q' := q
    rw [k_arr, Bool.and_eq_true, decide_eq_true_eq] at q'
    rw [if_pos q]
    exact ⟨by omega, by omega, ⟨fun _ => q, fun _ => by omega⟩⟩
  · rw [if_neg q]
    exact ⟨by omega, by omega, ⟨fun x => by omega, fun x => absurd x q⟩⟩
theorem z_sInt3 : z_S 1000050 w_int := ⟨by decide +kernel, by decide +kernel, by decide⟩
theorem z_typeAt {t : Nat} (hC : z_C C n g) (hG : z_G n g) (hK : k_K g K) (hk : k_C C p K) (ht : e_typ g t = true) : fX4_typeAt C p (nI t) = some (k_oI (k_ty g K t)) := by
  have b1 := hG.1
  have b2 := hG.2.1
  have hlt := (e_typ_b0 ht).1
  have gt := hG.2.2.2 t hlt
  obtain ⟨r1, r2, r3⟩ := k_es_rng hG hlt
  have ev : ((if nI (g.2.2.2 t) ≤ nI (k_es g.2.1 g.2.2.1 g.2.2.2 t) then some false else some true) : Option Bool) = some (k_arr g.2.1 g.2.2.1 g.2.2.2 t) := by
    by_cases q : k_arr g.2.1 g.2.2.1 g.2.2.2 t = true
    · rw [if_neg (by rw [z_leN (by omega) (by omega)]; have := r3.mpr q; omega), q]
    · rw [if_pos (by rw [z_leN (by omega) (by omega)]; exact Nat.not_lt.mp (fun x => q (r3.mp x))), Bool.eq_false_iff.mpr q]
  simp only [fX4_typeAt, z_start hC hG hlt, z_elementStop hC hG hlt, z_stop hC hG hlt, Option.bind_some, e_typ_es ht, ev, z_isText hC hG z_sInt3 (show g.2.2.1 t ≤ n by omega) r2, z_classIn hC hG hK hk r1 r2, k_ty]
  by_cases q : z_txt g.2.1 (g.2.2.1 t) (k_es g.2.1 g.2.2.1 g.2.2.2 t) w_int = true
  · rw [if_pos q, if_pos q]
    cases k_arr g.2.1 g.2.2.1 g.2.2.2 t <;> rfl
  · rw [if_neg q, if_neg q]
    cases hc : k_cls g K (g.2.2.1 t) (k_es g.2.1 g.2.2.1 g.2.2.2 t) with
    | none =>
      cases k_arr g.2.1 g.2.2.1 g.2.2.2 t
      · rfl
      · simp only [fX4_arrayOf, k_oI, if_true]
        rfl
    | some c =>
      have hlt := k_cls_lt hK.1 hc
      have h32 := hK.2.1
      cases k_arr g.2.1 g.2.2.1 g.2.2.2 t
      · rfl
      · have e1 : ¬ nI c = 66 := by rw [show (66 : Int32) = nI 66 from rfl, z_eqN (by omega) (by decide)]; omega
        simp only [fX4_arrayOf, k_oI, if_true, if_neg e1, z_m1N (show c < 2147483648 by omega), if_false, Option.bind_some, Option.map_some]
        rw [show (32 : Int32) = nI 32 from rfl, nI_add]
theorem e_typ_int {t : Nat} (h : e_typ g t = true) : (e_b0 g t = 105) ↔ z_txt g.2.1 (g.2.2.1 t) (k_es g.2.1 g.2.2.1 g.2.2.2 t) w_int = true := by
  refine ⟨fun hb => ?_, fun hx => ?_⟩
  · rw [e_typ, k_typ, Bool.and_eq_true, Bool.or_eq_true] at h
    rcases h.2 with x | x
    · exact x
    · exact absurd hb (e_rng (z_nam_b0 x).1 (z_nam_b0 x).2 (by decide))
  · have := (z_txt_get hx).2 0 (by decide)
    rw [Nat.add_zero] at this
    exact this
theorem z_typeOf {t : Nat} (hD : z_D D n g) (hG : z_G n g) (hK : k_K g K) (hk : k_D D q K) (ht : e_typ g t = true) : fX12_typeOf D q (nI t) = some (k_yo (k_ty g K t)) := by
  have b1 := hG.1
  have b2 := hG.2.1
  have hlt := (e_typ_b0 ht).1
  have gt := hG.2.2.2 t hlt
  obtain ⟨r1, r2, r3⟩ := k_es_rng hG hlt
  have e2 : (2 : Int32) = nI 2 := rfl
  have ev : ((if k_arr g.2.1 g.2.2.1 g.2.2.2 t = true then some (nI (g.2.2.2 t) - nI 2) else some (nI (g.2.2.2 t))) : Option Int32) = some (nI (k_es g.2.1 g.2.2.1 g.2.2.2 t)) := by
    rw [k_es]
    by_cases x : k_arr g.2.1 g.2.2.1 g.2.2.2 t = true
    · rw [if_pos x, if_pos x, z_subN]
      rw [k_arr, Bool.and_eq_true, decide_eq_true_eq] at x
      omega
    · rw [if_neg x, if_neg x]
  simp only [fX12_typeOf, z_isArray hD hG hlt, Option.bind_some, z_inbN (show t < 16002 by omega) (by decide), if_true, z_cl (show t < 2147483648 by omega), (hD.2.2.2 t hlt).1, (hD.2.2.2 t hlt).2, e2, ev, z_inbN (show g.2.2.1 t < 16000 by omega) (by decide), z_cl (show g.2.2.1 t < 2147483648 by omega), hD.2.2.1 (g.2.2.1 t) (by omega), z_classOf hD hG hK hk r1 r2, k_ty]
  have hi := e_typ_int ht
  by_cases x : e_b0 g t = 105
  · rw [if_pos (show g.2.1 (g.2.2.1 t) = 105 from x), if_pos (hi.mp x)]
    cases k_arr g.2.1 g.2.2.1 g.2.2.2 t <;> rfl
  · rw [if_neg (show ¬ g.2.1 (g.2.2.1 t) = 105 from x), if_neg (fun y => x (hi.mpr y))]
    cases hc : k_cls g K (g.2.2.1 t) (k_es g.2.1 g.2.2.1 g.2.2.2 t) with
    | none => rfl
    | some c =>
      have hlt := k_cls_lt hK.1 hc
      have h32 := hK.2.1
      have e0 : (0 : Int32) ≤ nI c := by rw [show (0 : Int32) = nI 0 from rfl, z_leN (by decide) (by omega)]; exact Nat.zero_le _
      simp only [k_oI, if_pos e0, Option.map_some, k_yo]
      cases k_arr g.2.1 g.2.2.1 g.2.2.2 t
      · simp only [Bool.false_eq_true, if_false]
        rw [k_y_c (by omega), show (8 : Int32) = nI 8 from rfl, nI_add, Nat.add_comm]
        exact if_pos e0
      · simp only [if_true]
        rw [k_y_a (by omega), show (48 : Int32) = nI 48 from rfl, nI_add]
        exact if_pos e0
end ZTYP
