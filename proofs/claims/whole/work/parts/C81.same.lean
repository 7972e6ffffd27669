/-! ===== heads that are the same ===== -/
def e_tt (g : ZT) (t t' : Nat) : Bool := k_same g.2.1 (g.2.2.1 t) (g.2.2.2 t) (g.2.2.1 t') (g.2.2.2 t')
theorem e_tt_symm {g : ZT} {t t' : Nat} : e_tt g t t' = e_tt g t' t := k_same_symm
/-- from x on the tokens up to e and the one behind it are those of the other head -/
def k_hd (g : ZT) (w w' e x m : Nat) : Bool := z_ff (fun y => if e_tt g y (w' + (y - w)) = true then none else some false) (e_tt g (e + 1) (w' + (e + 1 - w))) x m
theorem k_hd_iff {g : ZT} {w w' e : Nat} : ∀ m x, k_hd g w w' e x m = true ↔ (∀ y, x ≤ y → y < x + m → e_tt g y (w' + (y - w)) = true) ∧ e_tt g (e + 1) (w' + (e + 1 - w)) = true := by
  intro m
  induction m with
  | zero => intro x; exact ⟨fun h => ⟨fun y h1 h2 => by omega, h⟩, fun h => h.2⟩
  | succ m ih =>
    intro x
    rw [k_hd, z_ff]
    by_cases q : e_tt g x (w' + (x - w)) = true
    · rw [if_pos q]
      refine (ih (x + 1)).trans ⟨fun h => ⟨fun y h1 h2 => ?_, h.2⟩, fun h => ⟨fun y h1 h2 => h.1 y (by omega) (by omega), h.2⟩⟩
      by_cases e : y = x
      · rw [e]; exact q
      · exact h.1 y (by omega) (by omega)
    · rw [if_neg q]
      exact ⟨fun h => (by cases h), fun h => absurd (h.1 x (Nat.le_refl _) (by omega)) q⟩
theorem e_tt_mark {n : Nat} {g : ZT} {t t' : Nat} {m : Int32} (hG : z_G n g) (hm : z_mk m = true) (ht : t < g.1) (ht' : t' < g.1) (h : e_mark g t m = true) : e_tt g t t' = e_mark g t' m := by
  have g1 := hG.2.2.2 t ht
  have g2 := hG.2.2.2 t' ht'
  rw [← e_mark_word hG hm, e_word, k_word, Bool.and_eq_true] at h
  rw [← e_mark_word hG hm, e_word, k_word, decide_eq_true ht', Bool.true_and]
  rw [Bool.eq_iff_iff]
  refine ⟨fun x => ?_, fun x => ?_⟩
  · rw [← k_same_txt x (Nat.le_of_lt g1.1) (Nat.le_of_lt g2.1)]
    exact h.2
  · obtain ⟨a1, a2⟩ := z_txt_get h.2
    obtain ⟨b1, b2⟩ := z_txt_get x
    rw [e_tt, k_same_iff]
    simp only [List.length_cons, List.length_nil] at a1 a2 b1 b2
    refine ⟨by omega, fun k hk => ?_⟩
    have e : k = 0 := by omega
    rw [e, a2 0 (by omega), b2 0 (by omega)]
section ZSAME
variable {C D : QS} {n p q : Nat} {g : ZT} {K : ZK}
theorem z_hasSameHead {w w' e : Nat} (hC : z_C C n g) (hG : z_G n g) (hw : w' < w) (he : e + 1 < g.1) (hwe : w < e) (h1 : ∀ x, w < x → x < e → e_mark g x 41 = false) (h2 : e_mark g e 41 = true) : fX4_hasSameHead C (nI w) (nI w') = some (k_hd g w w' e (w + 1) (e - w)) := by
  have b1 := hG.1
  have b2 := hG.2.1
  rw [fX4_hasSameHead, fX4_hasSameHead_9, nI_1]
  have : ∀ d x, x + d = e → w < x → q_run (tX4_hasSameHead_9 C (nI w' - nI w)) (nI x) = some (k_hd g w w' e x (d + 1)) := by
    intro d
    induction d with
    | zero =>
      intro x hx hwx
      have ex : x = e := by omega
      subst ex
      have e1 : ¬ nI g.1 ≤ nI x := by rw [z_leN (by omega) (by omega)]; omega
      have gt := hG.2.2.2 (w' + (x - w)) (by omega)
      have gt2 := hG.2.2.2 (w' + (x - w) + 1) (by omega)
      have eq1 : w' + (x - w) + 1 = w' + (x + 1 - w) := by omega
      refine q_run_ret ?_
      simp only [tX4_hasSameHead_9, hC.2.1, if_neg e1, z_gap (Nat.le_of_lt hwx), nI_1, z_start hC hG (show w' + (x - w) < g.1 by omega), z_stop hC hG (show w' + (x - w) < g.1 by omega), Option.bind_some, z_same hC hG (show x < g.1 by omega) (Nat.le_of_lt gt.1) gt.2.1, z_isMark hC hG (show x < 2147483648 by omega), z_start hC hG (show w' + (x - w) + 1 < g.1 by omega), z_stop hC hG (show w' + (x - w) + 1 < g.1 by omega), z_same hC hG he (Nat.le_of_lt gt2.1) gt2.2.1]
      rw [show k_mark g.1 g.2.1 g.2.2.1 x 41 = true from h2, k_hd, z_ff, z_ff, if_pos rfl]
      have s1 : k_same g.2.1 (g.2.2.1 (w' + (x - w))) (g.2.2.2 (w' + (x - w))) (g.2.2.1 x) (g.2.2.2 x) = e_tt g x (w' + (x - w)) := k_same_symm
      have s2 : k_same g.2.1 (g.2.2.1 (w' + (x - w) + 1)) (g.2.2.2 (w' + (x - w) + 1)) (g.2.2.1 (x + 1)) (g.2.2.2 (x + 1)) = e_tt g (x + 1) (w' + (x + 1 - w)) := by rw [eq1]; exact k_same_symm
      rw [s1, s2]
      cases e_tt g x (w' + (x - w)) <;> rfl
    | succ d ih =>
      intro x hx hwx
      have e1 : ¬ nI g.1 ≤ nI x := by rw [z_leN (by omega) (by omega)]; omega
      have gt := hG.2.2.2 (w' + (x - w)) (by omega)
      have s1 : k_same g.2.1 (g.2.2.1 (w' + (x - w))) (g.2.2.2 (w' + (x - w))) (g.2.2.1 x) (g.2.2.2 x) = e_tt g x (w' + (x - w)) := k_same_symm
      rw [k_hd, z_ff]
      by_cases s : e_tt g x (w' + (x - w)) = true
      · rw [if_pos s]
        have st : tX4_hasSameHead_9 C (nI w' - nI w) (nI x) = some (.inr (nI (x + 1))) := by
          simp only [tX4_hasSameHead_9, hC.2.1, if_neg e1, z_gap (Nat.le_of_lt hwx), z_start hC hG (show w' + (x - w) < g.1 by omega), z_stop hC hG (show w' + (x - w) < g.1 by omega), Option.bind_some, z_same hC hG (show x < g.1 by omega) (Nat.le_of_lt gt.1) gt.2.1, z_isMark hC hG (show x < 2147483648 by omega), s1, s, if_true, nI_1]
          rw [show k_mark g.1 g.2.1 g.2.2.1 x 41 = false from h1 x hwx (by omega), if_neg (by simp)]
        rw [q_run_go st]
        exact ih (x + 1) (by omega) (by omega)
      · rw [if_neg s]
        refine q_run_ret ?_
        simp only [tX4_hasSameHead_9, hC.2.1, if_neg e1, z_gap (Nat.le_of_lt hwx), z_start hC hG (show w' + (x - w) < g.1 by omega), z_stop hC hG (show w' + (x - w) < g.1 by omega), Option.bind_some, z_same hC hG (show x < g.1 by omega) (Nat.le_of_lt gt.1) gt.2.1, s1, if_neg s]
  have h := this (e - (w + 1)) (w + 1) (by omega) (by omega)
  rw [show e - (w + 1) + 1 = e - w by omega] at h
  exact h
theorem z_isSameRow {w w' e : Nat} (hD : z_D D n g) (hG : z_G n g) (hw : w' < w) (he : e + 1 < g.1) (hwe : w < e) (h1 : ∀ x, w < x → x < e → e_mark g x 41 = false) (h2 : e_mark g e 41 = true) : fX12_isSameRow D (nI (w + 1)) (nI (w' + 1)) = some (k_hd g w w' e (w + 1) (e - w)) := by
  have b1 := hG.1
  have b2 := hG.2.1
  rw [fX12_isSameRow, fX12_isSameRow_2, show (0 : Int32) = nI 0 from rfl]
  have isE : ∀ x, x < g.1 → fX12_is D (nI x) 1000074 = some (e_mark g x 41) := fun x hx => by rw [z_is hD hG z_sEnd (by omega)]; exact congrArg some (e_mark_word hG (by decide))
  have : ∀ d k, w + 1 + k + d = e → q_run (tX12_isSameRow_2 D (nI (w + 1)) (nI (w' + 1))) (nI k) = some (k_hd g w w' e (w + 1 + k) (d + 1)) := by
    intro d
    induction d with
    | zero =>
      intro k hk
      have ex : w + 1 + k = e := by omega
      have eq1 : w' + 1 + k = w' + (w + 1 + k - w) := by omega
      have eq2 : w' + 1 + k + 1 = w' + (w + 1 + k + 1 - w) := by omega
      refine q_run_ret ?_
      have t1 : e_mark g (w + 1 + k) 41 = true := by rw [ex]; exact h2
      simp only [tX12_isSameRow_2, fX12_isSameRow_47, nI_add, nI_1, isE (w + 1 + k) (by omega), isE (w' + 1 + k) (by omega), t1, Option.bind_some, if_true, z_dSameTok hD hG (show w + 1 + k + 1 < g.1 by omega) (show w' + 1 + k + 1 < g.1 by omega)]
      rw [k_hd, z_ff, z_ff, e_tt_mark hG (by decide) (by omega) (by omega) t1, ← eq1]
      rw [← ex, ← eq2]
      have s2 : k_same g.2.1 (g.2.2.1 (w + 1 + k + 1)) (g.2.2.2 (w + 1 + k + 1)) (g.2.2.1 (w' + 1 + k + 1)) (g.2.2.2 (w' + 1 + k + 1)) = e_tt g (w + 1 + k + 1) (w' + 1 + k + 1) := rfl
      rw [s2]
      cases e_mark g (w' + 1 + k) 41 <;> cases e_tt g (w + 1 + k + 1) (w' + 1 + k + 1) <;> rfl
    | succ d ih =>
      intro k hk
      have eq1 : w' + 1 + k = w' + (w + 1 + k - w) := by omega
      have t1 : e_mark g (w + 1 + k) 41 = false := h1 _ (by omega) (by omega)
      rw [k_hd, z_ff, ← eq1]
      by_cases m : e_mark g (w' + 1 + k) 41 = true
      · have s : e_tt g (w + 1 + k) (w' + 1 + k) = false := by
          rw [e_tt_symm, e_tt_mark hG (by decide) (by omega) (by omega) m]
          exact t1
        rw [s, if_neg (by simp)]
        refine q_run_ret ?_
        simp only [tX12_isSameRow_2, fX12_isSameRow_47, nI_add, isE (w + 1 + k) (by omega), isE (w' + 1 + k) (by omega), t1, m, Option.bind_some, if_true, Bool.false_eq_true, if_false]
      · have m' := Bool.eq_false_iff.mpr m
        by_cases s : e_tt g (w + 1 + k) (w' + 1 + k) = true
        · rw [if_pos s]
          have st : tX12_isSameRow_2 D (nI (w + 1)) (nI (w' + 1)) (nI k) = some (.inr (nI (k + 1))) := by
            simp only [tX12_isSameRow_2, nI_add, nI_1, isE (w + 1 + k) (by omega), isE (w' + 1 + k) (by omega), t1, m', Option.bind_some, Bool.false_eq_true, if_false, z_dSameTok hD hG (show w + 1 + k < g.1 by omega) (show w' + 1 + k < g.1 by omega)]
            exact if_pos s
          rw [q_run_go st]
          exact ih (k + 1) (by omega)
        · rw [if_neg s]
          refine q_run_ret ?_
          simp only [tX12_isSameRow_2, nI_add, nI_1, isE (w + 1 + k) (by omega), isE (w' + 1 + k) (by omega), t1, m', Option.bind_some, Bool.false_eq_true, if_false, z_dSameTok hD hG (show w + 1 + k < g.1 by omega) (show w' + 1 + k < g.1 by omega)]
          exact if_neg s
  have h := this (e - (w + 1)) 0 (by omega)
  rw [show e - (w + 1) + 1 = e - w by omega, Nat.add_zero] at h
  exact h
/-- same words name the same type -/
theorem k_ty_same {t t' : Nat} (hG : z_G n g) (ht : t < g.1) (ht' : t' < g.1) (h : e_tt g t t' = true) : k_ty g K t = k_ty g K t' := by
  have g1 := hG.2.2.2 t ht
  have g2 := hG.2.2.2 t' ht'
  obtain ⟨a1, a2⟩ := k_same_iff.mp h
  have ar : k_arr g.2.1 g.2.2.1 g.2.2.2 t = k_arr g.2.1 g.2.2.1 g.2.2.2 t' := by
    by_cases q : g.2.2.1 t + 2 < g.2.2.2 t
    · have x1 := a2 (g.2.2.2 t - g.2.2.1 t - 2) (by omega)
      have x2 := a2 (g.2.2.2 t - g.2.2.1 t - 1) (by omega)
      rw [show g.2.2.1 t + (g.2.2.2 t - g.2.2.1 t - 2) = g.2.2.2 t - 2 by omega, show g.2.2.1 t' + (g.2.2.2 t - g.2.2.1 t - 2) = g.2.2.2 t' - 2 by omega] at x1
      rw [show g.2.2.1 t + (g.2.2.2 t - g.2.2.1 t - 1) = g.2.2.2 t - 1 by omega, show g.2.2.1 t' + (g.2.2.2 t - g.2.2.1 t - 1) = g.2.2.2 t' - 1 by omega] at x2
      rw [k_arr, k_arr, decide_eq_true q, decide_eq_true (show g.2.2.1 t' + 2 < g.2.2.2 t' by omega), x1, x2]
    · rw [k_arr, k_arr, decide_eq_false q, decide_eq_false (show ¬ g.2.2.1 t' + 2 < g.2.2.2 t' by omega), Bool.false_and, Bool.false_and]
  have hs : k_same g.2.1 (g.2.2.1 t) (k_es g.2.1 g.2.2.1 g.2.2.2 t) (g.2.2.1 t') (k_es g.2.1 g.2.2.1 g.2.2.2 t') = true := by
    rw [k_same_iff, k_es, k_es, ar]
    split
    · next x =>
      rw [k_arr, Bool.and_eq_true, decide_eq_true_eq] at x
      exact ⟨by omega, fun k hk => a2 k (by omega)⟩
    · exact ⟨a1, a2⟩
  have l1 := (k_es_rng hG ht).1
  have l2 := (k_es_rng hG ht').1
  have hc : k_cls g K (g.2.2.1 t) (k_es g.2.1 g.2.2.1 g.2.2.2 t) = k_cls g K (g.2.2.1 t') (k_es g.2.1 g.2.2.1 g.2.2.2 t') := by
    rw [k_cls, k_cls, k_same_wi hs l1 l2]
    congr 1
    exact z_ff_congr (fun c _ _ => by rw [k_same_trans hs])
  rw [k_ty, k_ty, k_same_txt hs l1 l2, ar, hc]
end ZSAME
