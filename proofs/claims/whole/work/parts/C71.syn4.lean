/-! ===== the reference's lines, members, classes ===== -/
def z_Z (D : QS) (g : ZT) (m t : Nat) (s s' : Nat × List Int32) (X : Option (Bool × QS)) : Prop := ∃ b t', X = some (b, z_A D t') ∧ t' ≤ g.1 ∧ ((b = true ∧ m ≤ t' ∧ e_R g t s = e_R g t' s') ∨ (b = false ∧ e_R g t s = some t'))
theorem z_par {g : ZT} {t : Nat} (c : Int32) (l : Nat) (cs : List Int32) (ht : t ≤ g.1) (hc : c ≠ 80) : (e_okp g t c = true ∧ t < g.1 ∧ e_R g t (l, c :: cs) = e_R g (t + 1) (l + (if c = 123 then 1 else 0), cs)) ∨ (e_okp g t c = false ∧ e_R g t (l, c :: cs) = some t) := by
  have hr := e_R_part (l := l) (cs := cs) ht hc
  by_cases hx : e_okp g t c = true
  · rw [if_pos hx] at hr
    refine Or.inl ⟨hx, ?_, hr⟩
    refine Decidable.byContradiction (fun h => ?_)
    rw [e_okp_T h hc] at hx
    cases hx
  · rw [if_neg hx] at hr
    exact Or.inr ⟨Bool.eq_false_iff.mpr hx, hr⟩
theorem e_okp_C (g : ZT) (t : Nat) : e_okp g t 67 = e_nam g t 65 := rfl
theorem e_okp_E (g : ZT) (t : Nat) : e_okp g t 69 = (e_nam g t 65 || e_word g t w_int) := rfl
theorem e_okp_F (g : ZT) (t : Nat) : e_okp g t 70 = e_ref g t := rfl
theorem e_okp_N (g : ZT) (t : Nat) : e_okp g t 78 = e_num g t := rfl
theorem e_okp_R (g : ZT) (t : Nat) : e_okp g t 82 = (e_typ g t || e_word g t w_none) := rfl
theorem e_okp_Ty (g : ZT) (t : Nat) : e_okp g t 84 = e_typ g t := rfl
theorem e_okp_Y (g : ZT) (t : Nat) : e_okp g t 89 = (e_typ g t && !e_word g t w_int) := rfl
theorem e_okp_n (g : ZT) (t : Nat) : e_okp g t 110 = e_nam g t 97 := rfl
theorem e_okp_o (g : ZT) (t : Nat) : e_okp g t 111 = e_word g t w_of := rfl
theorem e_okp_40 (g : ZT) (t : Nat) : e_okp g t 40 = e_mark g t 40 := rfl
theorem e_okp_58 (g : ZT) (t : Nat) : e_okp g t 58 = e_mark g t 58 := rfl
theorem e_okp_123 (g : ZT) (t : Nat) : e_okp g t 123 = e_mark g t 123 := rfl
theorem e_R_line {g : ZT} {t l : Nat} (ht : t < g.1) (hl : 2 ≤ l) (hm : e_mark g t 125 = false) : e_R g t (l, []) = if (e_line g t).1 = true then e_R g (t + 1) (l, (e_line g t).2.2) else some t := by
  rw [e_R_go ht]
  have : e_step g t (l, []) = ((e_line g t).1, (e_line g t).2.1, l, (e_line g t).2.2) := by
    unfold e_step
    show (if 0 < l ∧ e_mark g t 125 = true then _ else if l = 0 then _ else if l = 1 then _ else _) = _
    rw [if_neg (by rw [hm]; simp), if_neg (by omega), if_neg (by omega)]
  rw [this]
theorem e_R_mem {g : ZT} {t : Nat} (ht : t < g.1) (hm : e_mark g t 125 = false) : e_R g t (1, []) = if (e_mem g t).1 = true then e_R g (t + 1) (1, (e_mem g t).2.2) else some t := by
  rw [e_R_go ht]
  have : e_step g t (1, []) = ((e_mem g t).1, (e_mem g t).2.1, 1, (e_mem g t).2.2) := by
    unfold e_step
    show (if 0 < 1 ∧ e_mark g t 125 = true then _ else if 1 = 0 then _ else if 1 = 1 then _ else _) = _
    rw [if_neg (by rw [hm]; simp), if_neg (by omega), if_pos rfl]
  rw [this]
theorem e_R_cls {g : ZT} {t : Nat} (ht : t < g.1) : e_R g t (0, []) = if e_word g t w_class = true then e_R g (t + 1) (0, [67, 111, 67, 123]) else some t := by
  rw [e_R_go ht]
  rfl
theorem e_R_close {g : ZT} {t l : Nat} (hl : 0 < l) (hm : e_mark g t 125 = true) : t < g.1 ∧ e_R g t (l, []) = e_R g (t + 1) (l - 1, []) := by
  have ht : t < g.1 := by
    refine Decidable.byContradiction (fun h => ?_)
    rw [e_mark_T h] at hm
    cases hm
  refine ⟨ht, ?_⟩
  rw [e_R_go ht]
  have : e_step g t (l, []) = (true, (if l = 2 then 52 else 53), l - 1, []) := by
    unfold e_step
    show (if 0 < l ∧ e_mark g t 125 = true then _ else _) = _
    rw [if_pos ⟨hl, hm⟩]
  rw [this, if_pos rfl]
section ZSYN5
variable {D : QS} {n : Nat} {g : ZT}
theorem z_aW {t s : Nat} {w : List Int32} (hD : z_D D n g) (hG : z_G n g) (hs : z_S s w) (ht : t ≤ g.1 + 1) : fX12_is (z_A D t) (nI t) s = some (e_word g t w) := z_is (z_A_D hD t) hG hs (by have := hG.1; have := hG.2.1; simp only [z_G, z_gX] at hG; omega)
theorem z_aM {t s : Nat} {m : Int32} (hD : z_D D n g) (hG : z_G n g) (hs : z_S s [m]) (hm : z_mk m = true) (ht : t ≤ g.1 + 1) : fX12_is (z_A D t) (nI t) s = some (e_mark g t m) := by
  rw [z_aW hD hG hs ht, e_mark_word hG hm]
theorem z_aN {t : Nat} (hD : z_D D n g) (hG : z_G n g) (ht : t ≤ g.1 + 1) : fX12_isSmallName (z_A D t) (nI t) = some (e_nam g t 97) := z_dSmall (z_A_D hD t) hG (by have := hG.1; have := hG.2.1; omega)
theorem z_aC {t : Nat} (hD : z_D D n g) (hG : z_G n g) (ht : t ≤ g.1 + 1) : fX12_isClassName (z_A D t) (nI t) = some (e_nam g t 65) := z_dClass (z_A_D hD t) hG (by have := hG.1; have := hG.2.1; omega)
theorem z_aT {t : Nat} (hD : z_D D n g) (hG : z_G n g) (ht : t ≤ g.1 + 1) : fX12_isType (z_A D t) (nI t) = some (e_typ g t) := z_dType (z_A_D hD t) hG (by have := hG.1; have := hG.2.1; omega)
theorem z_aF {t : Nat} (hD : z_D D n g) (hG : z_G n g) (ht : t ≤ g.1 + 1) : fX12_isReference (z_A D t) (nI t) = some (e_ref g t) := z_dReference (z_A_D hD t) hG (by have := hG.1; have := hG.2.1; omega)
theorem z_aNum {t : Nat} (hD : z_D D n g) (hG : z_G n g) (ht : t ≤ g.1 + 1) : fX12_isNumber (z_A D t) (nI t) = some (e_num g t) := z_dNumber (z_A_D hD t) hG (by have := hG.1; have := hG.2.1; omega)
theorem z_aOp {t : Nat} (hD : z_D D n g) (hG : z_G n g) (ht : t < g.1) : fX12_opOf (z_A D t) (nI t) = some (e_op g t) := by
  have h1 := hG.1
  have h2 := hG.2.1
  have hA := z_A_D hD t
  have hb := hG.2.2.2 t ht
  simp only [fX12_opOf, z_inbN (show t < 16002 by omega) (by decide), if_true, z_cl (show t < 2147483648 by omega), (hA.2.2.2 t ht).1, (hA.2.2.2 t ht).2]
  rw [z_among hA hG z_sWords z_wordsOk (by omega) (by omega)]
  rfl
theorem z_aL {t : Nat} (hD : z_D D n g) (hG : z_G n g) (ht : t ≤ g.1) : fX12_isLabel (z_A D t) (nI t) = some (e_mark g (t + 1) 58) := by
  have h1 := hG.1
  have h2 := hG.2.1
  rw [fX12_isLabel, nI_1, z_is (z_A_D hD t) hG z_sColon (by omega), Option.bind_some]
  exact congrArg some (e_mark_word hG (by decide))
end ZSYN5
