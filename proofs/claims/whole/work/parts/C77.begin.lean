/-! ===== the beginning of the names ===== -/
theorem q_run_none {X R : Type} {f : X → Option (R ⊕ X)} {x : X} (h : f x = none) : q_run f x = none := by
  cases hx : q_run f x with
  | none => rfl
  | some r =>
    obtain ⟨c, hc⟩ := q_run_it hx
    cases c with
    | zero => cases hc
    | succ c =>
      simp only [q_it, h] at hc
      cases hc
theorem z_fill_loop {a n : Nat} {v : Int32} (hn : n < 2147483648) : ∀ d k S, k + d = n → ∃ S', q_run (tJ7_fill_53178_5 a n v (nI n)) (nI k, S) = some S' ∧ (∀ o j, S'.2.1 o j = if o = a ∧ k ≤ j ∧ j < n then v else S.2.1 o j) ∧ S'.1 = S.1 ∧ S'.2.2 = S.2.2 := by
  intro d
  induction d with
  | zero =>
    intro k S hk
    refine ⟨S, q_run_ret ?_, fun o j => ?_, rfl, rfl⟩
    · simp only [tJ7_fill_53178_5]
      rw [if_pos (by rw [z_leN (by omega) (by omega)]; omega)]
    · rw [if_neg (by omega)]
  | succ d ih =>
    intro k S hk
    have st : tJ7_fill_53178_5 a n v (nI n) (nI k, S) = some (.inr (nI (k + 1), q_sI S a k v)) := by
      simp only [tJ7_fill_53178_5]
      rw [if_neg (by rw [z_leN (by omega) (by omega)]; omega), if_pos (z_inbN (by omega) hn), z_cl (by omega), Option.bind_some, nI_1]
    obtain ⟨S', h1, h2, h3, h4⟩ := ih (k + 1) (q_sI S a k v) (by omega)
    refine ⟨S', by rw [q_run_go st]; exact h1, fun o j => ?_, h3, h4⟩
    rw [h2, q_sI_I]
    by_cases e : o = a ∧ j = k
    · rw [if_neg (by omega), if_pos e, if_pos (by omega)]
    · rw [if_neg e]
      by_cases e2 : o = a ∧ k + 1 ≤ j ∧ j < n
      · rw [if_pos e2, if_pos (by omega)]
      · rw [if_neg e2, if_neg (by omega)]
theorem z_fill {S : QS} {a n : Nat} {v : Int32} (hn : n < 2147483648) : ∃ S', fJ7_fill_53178 S a n v = some S' ∧ (∀ o j, S'.2.1 o j = if o = a ∧ j < n then v else S.2.1 o j) ∧ S'.1 = S.1 ∧ S'.2.2 = S.2.2 := by
  obtain ⟨S', h1, h2, h3, h4⟩ := z_fill_loop (a := a) (v := v) hn n 0 S (Nat.zero_add _)
  refine ⟨S', h1, fun o j => ?_, h3, h4⟩
  rw [h2]
  simp only [Nat.zero_le, true_and]
theorem z_offC.sR {p : Nat} {C C' : QS} (h : z_offC p C C') {o j r : Nat} (ho : o = 78 ∧ 1 ≤ j ∧ j ≤ 3) : z_offC p C (q_sR C' o j r) := by
  refine ⟨h.1, h.2.1, h.2.2.1, fun o' j' a => ?_⟩
  rw [z_sR_R, if_neg (fun q => by omega)]
  exact h.2.2.2 o' j' a
def k_K0 (i : Nat) : ZK := ⟨i, fun _ => 0, fun c => if c ≤ 1 then 0 else 1⟩
theorem z_add0 {C : QS} {p i : Nat} {x : Int32} (hk : k_C C p (k_K0 i)) (hi : i < 8) (hx : x = if i = 0 then -1 else nI (if i ≤ 1 then 0 else 1)) : ∃ C', fX0_addClass C p (-1) x = some C' ∧ k_C C' p (k_K0 (i + 1)) ∧ z_offC p C C' ∧ (∀ o j, ¬ (p + 1 ≤ o ∧ o ≤ p + 5) → C'.2.1 o j = C.2.1 o j) ∧ C'.2.1 (p + 1) 5 = C.2.1 (p + 1) 5 ∧ ∀ j, C'.2.1 (p + 5) j = if j = i then 0 else C.2.1 (p + 5) j := by
  refine z_addClass (K := k_K0 i) (K' := k_K0 (i + 1)) (w := 0) (c0 := if i ≤ 1 then 0 else 1) hk (by show i < 32; omega) (fun h => ?_) (fun c h0 hc => ?_) ?_ hx rfl (fun c hc => ⟨rfl, rfl⟩) (fun h => ?_) (fun h => rfl)
  · show (if i ≤ 1 then 0 else 1) < i
    have : 0 < i := h
    split <;> omega
  · show (if c ≤ 1 then 0 else 1) < c
    split <;> omega
  · show -1 = if i < 8 then -1 else nI 0
    rw [if_pos hi]
  · have : 8 ≤ i := h
    omega
theorem z_begin24 {p : Nat} : ∀ d i C, i + d = 8 → 2 ≤ i → k_C C p (k_K0 i) → (∀ c, c < i → C.2.1 (p + 5) c = 0) → ∃ C', q_run (tX0_begin_24 p) (nI i, C) = some C' ∧ k_C C' p (k_K0 8) ∧ z_offC p C C' ∧ (∀ o j, ¬ (p + 1 ≤ o ∧ o ≤ p + 5) → C'.2.1 o j = C.2.1 o j) ∧ C'.2.1 (p + 1) 5 = C.2.1 (p + 1) 5 ∧ ∀ c, c < 8 → C'.2.1 (p + 5) c = 0 := by
  intro d
  induction d with
  | zero =>
    intro i C hi h2 hk hs
    have e : i = 8 := by omega
    subst e
    exact ⟨C, q_run_ret (by simp only [tX0_begin_24]; rw [if_pos (by decide)]), hk, z_offC.refl _ _, fun _ _ _ => rfl, rfl, hs⟩
  | succ d ih =>
    intro i C hi h2 hk hs
    obtain ⟨C1, a1, a2, a3, a4, a5, a6⟩ := z_add0 (x := 1) hk (by omega) (by rw [if_neg (by omega), if_neg (by omega)]; rfl)
    obtain ⟨C', b1, b2, b3, b4, b5, b6⟩ := ih (i + 1) C1 (by omega) (by omega) a2 (fun c hc => by rw [a6]; split; rfl; exact hs c (by omega))
    have st : tX0_begin_24 p (nI i, C) = some (.inr (nI (i + 1), C1)) := by
      simp only [tX0_begin_24]
      rw [if_neg (by rw [show (8 : Int32) = nI 8 from rfl, z_leN (by decide) (by omega)]; omega), a1, Option.bind_some, nI_1]
    exact ⟨C', by rw [q_run_go st]; exact b1, b2, a3.trans b3, fun o j h => (b4 o j h).trans (a4 o j h), b5.trans a5, b6⟩
theorem z_namesBegin {C : QS} {p : Nat} : ∃ C', fX4_begin C p = some C' ∧ k_C C' p (k_K0 8) ∧ z_offC p C C' ∧ k_z C' p (k_K0 8) := by
  let C0 := q_sR (q_sR (q_sR C 78 1 p) 78 2 (p + 1)) 78 3 (p + 10)
  let C1 := q_sI (q_sI C0 (p + 1) 5 0) (p + 1) 0 0
  have o1 : z_offC p C C1 := (((((z_offC.refl p C).sR (by omega)).sR (by omega)).sR (by omega)).sI (by omega)).sI (by omega)
  have hk0 : k_C C1 p (k_K0 0) := ⟨by show (q_sI _ (p + 1) 0 0).2.1 (p + 1) 0 = nI 0; rw [q_sI_I, if_pos ⟨rfl, rfl⟩]; rfl, fun c hc => absurd hc (Nat.not_lt_zero _)⟩
  have f5 : C1.2.1 (p + 1) 5 = 0 := by show (q_sI _ (p + 1) 0 0).2.1 (p + 1) 5 = 0; rw [q_sI_I, if_neg (by omega), q_sI_I, if_pos ⟨rfl, rfl⟩]
  obtain ⟨C2, a1, a2, a3, a4, a5, a6⟩ := z_add0 (x := -1) hk0 (by decide) rfl
  obtain ⟨C3, b1, b2, b3, b4, b5, b6⟩ := z_add0 (x := 0) a2 (by decide) rfl
  obtain ⟨C4, c1, c2, c3, c4, c5, c6⟩ := z_begin24 (p := p) 6 2 C3 rfl (Nat.le_refl _) b2 (fun c hc => by
    rw [b6]
    split
    · rfl
    · rw [a6, if_pos (by omega)])
  let C5 := q_sI (q_sI (q_sI C4 (p + 10) 0 0) (p + 10) 8 0) (p + 10) 9 0
  let C6 := q_sI (q_sI C5 p 2 0) p 16 0
  obtain ⟨C', d1, d2, d3, d4⟩ := z_fill (S := C6) (a := p + 34) (n := 1536) (v := -1) (by decide)
  have o6 : z_offC p C4 C6 := (((((z_offC.refl p C4).sI (by omega)).sI (by omega)).sI (by omega)).sI (by omega)).sI (by omega)
  have o7 : z_offC p C6 C' := by
    refine ⟨fun o j h1 h2 => ?_, d3, by rw [d4], fun o j h => by rw [d4]⟩
    rw [d2, if_neg (by omega)]
  have r6 : ∀ o j, p + 1 ≤ o → o ≤ p + 5 → C'.2.1 o j = C4.2.1 o j := by
    intro o j h1 h2
    rw [d2, if_neg (by omega)]
    simp only [C6, C5, q_sI_I]
    rw [if_neg (by omega), if_neg (by omega), if_neg (by omega), if_neg (by omega), if_neg (by omega)]
  refine ⟨C', ?_, ?_, ((((o1.trans a3).trans b3).trans c3).trans o6).trans o7, ?_⟩
  · have e0 : fX0_begin C0 p = some C4 := by
      rw [fX0_begin, Option.bind_some, Option.bind_some]
      show (fX0_addClass C1 p (-1) (-1)).bind _ = _
      rw [a1, Option.bind_some, b1, Option.bind_some]
      exact c1
    rw [fX4_begin, Option.bind_some, Option.bind_some, Option.bind_some]
    show (fX5_begin C0 p).bind _ = _
    rw [fX5_begin, e0, Option.bind_some]
    show (Option.bind (some C5) _).bind _ = _
    rw [Option.bind_some, Option.bind_some, Option.bind_some]
    show ((fJ7_fill_53178 C6 (p + 34) 1536 (-1)).bind _).bind _ = _
    rw [d1]
    rfl
  · exact c2.fr (fun o j h => r6 o j (by omega) (by omega))
  · refine ⟨fun c hc => ?_, ?_, ?_, ?_, ?_, ?_, ?_, fun k hk => ?_⟩
    · rw [r6 _ _ (by omega) (by omega)]; exact c6 c hc
    · rw [r6 _ _ (by omega) (by omega), c5, b5, a5]; exact f5
    · rw [d2, if_neg (by omega)]
      simp only [C6, q_sI_I]
      rw [if_neg (by omega), if_pos (by simp)]
    · rw [d2, if_neg (by omega)]
      simp only [C6, q_sI_I]
      rw [if_pos (by simp)]
    · rw [d2, if_neg (by omega)]
      simp only [C6, C5, q_sI_I]
      rw [if_neg (by omega), if_neg (by omega), if_neg (by omega), if_neg (by omega), if_pos (by simp)]
    · rw [d2, if_neg (by omega)]
      simp only [C6, C5, q_sI_I]
      rw [if_neg (by omega), if_neg (by omega), if_neg (by omega), if_pos (by simp)]
    · rw [d2, if_neg (by omega)]
      simp only [C6, C5, q_sI_I]
      rw [if_neg (by omega), if_neg (by omega), if_pos (by simp)]
    · rw [d2, if_pos ⟨rfl, hk⟩]
/-- the reference's known classes -/
theorem z_classNames7 {q : Nat} (hq : z_qq q) : ∀ d i D, i + d = 8 → D.2.1 q 0 = 0 → (∀ c, c < i → D.2.1 (q + 1) c = (if c = 0 then -1 else nI ((k_K0 8).cp c))) → ∃ D', q_run (tX12_classNames_7 q) (nI i, D) = (q_run (tX12_classNames_45 q) (nI 0, D')) ∧ k_D D' q (k_K0 8) ∧ z_offD q D D' := by
  intro d
  induction d with
  | zero =>
    intro i D hi h0 hc
    have e : i = 8 := by omega
    subst e
    refine ⟨D, ?_, ⟨h0, fun c hc' => ⟨fun h8 => absurd hc' (Nat.not_lt.mpr h8), hc c hc'⟩⟩, z_offD.refl _ _⟩
    cases hr : q_run (tX12_classNames_45 q) (nI 0, D) with
    | some r =>
      refine q_run_ret ?_
      simp only [tX12_classNames_7]
      rw [if_pos (by decide), fX12_classNames_45, show (0 : Int32) = nI 0 from rfl, hr, Option.bind_some]
    | none =>
      have st : tX12_classNames_7 q (nI 8, D) = none := by
        simp only [tX12_classNames_7]
        rw [if_pos (by decide), fX12_classNames_45, show (0 : Int32) = nI 0 from rfl, hr]
        rfl
      exact q_run_none st
  | succ d ih =>
    intro i D hi h0 hc
    have st : tX12_classNames_7 q (nI i, D) = some (.inr (nI (i + 1), q_sI D (q + 1) i (if i = 0 then -1 else nI ((k_K0 8).cp i)))) := by
      have i8 : ¬ (8 : Int32) ≤ nI i := by rw [show (8 : Int32) = nI 8 from rfl, z_leN (by decide) (by omega)]; omega
      have z0 : (nI i = 0) = (i = 0) := z_eqN (b := 0) (by omega) (by decide)
      have z1 : (nI i = 1) = (i = 1) := z_eqN (b := 1) (by omega) (by decide)
      simp only [tX12_classNames_7, if_neg i8, z0, z1, z_inbN (show i < 32 by omega) (by decide), if_true, z_cl (show i < 2147483648 by omega), Option.bind_some, nI_1]
      by_cases e0 : i = 0
      · rw [if_pos e0, if_pos e0]
      · rw [if_neg e0, if_neg e0]
        show _ = some (Sum.inr (nI (i + 1), q_sI D (q + 1) i (nI (if i ≤ 1 then 0 else 1))))
        by_cases e1 : i = 1
        · rw [if_pos e1, if_pos (by omega)]; rfl
        · rw [if_neg e1, if_neg (by omega)]; rfl
    obtain ⟨D', h1, h2, h3⟩ := ih (i + 1) (q_sI D (q + 1) i (if i = 0 then -1 else nI ((k_K0 8).cp i))) (by omega) (by rw [q_sI_I, if_neg (by omega)]; exact h0) (fun c hc' => by
      rw [q_sI_I]
      by_cases e : c = i
      · rw [if_pos ⟨rfl, e⟩, e]
      · rw [if_neg (fun x => e x.2)]
        exact hc c (by omega))
    exact ⟨D', by rw [q_run_go st]; exact h1, h2, ((z_offD.refl q D).sI (by omega)).trans h3⟩
/-- both read the classes alike -/
theorem z_classes {C D : QS} {n p q : Nat} {g : ZT} (hp : z_pp p) (hq : z_qq q) (hG : z_G n g) (ho : e_ok g) (hC : z_C C n g) (hD : z_D D n g) (hkd : ∀ i, i < g.1 → C.2.1 6 i = e_kind g i) (hkC : k_C C p (k_K0 8)) (hz : k_z C p (k_K0 8)) : ∃ r r', fX4_classFault C p = some r ∧ fX12_classNames D q = some r' ∧ z_offC p C r.2 ∧ z_offD q D r'.2 ∧ (z_flt g r r' ∨ (r.1 = -1 ∧ r'.1 = true ∧ ∃ K', k_C r.2 p K' ∧ k_D r'.2 q K' ∧ k_K g K' ∧ k_KP g K' g.1 ∧ k_z r.2 p K' ∧ k_KD g K')) := by
  obtain ⟨D', h1, h2, h3⟩ := z_classNames7 hq 8 0 (q_sI D q 0 0) rfl (by rw [q_sI_I, if_pos ⟨rfl, rfl⟩]) (fun c hc => absurd hc (Nat.not_lt_zero _))
  have o1 : z_offD q D D' := ((z_offD.refl q D).sI (by omega)).trans h3
  have hK : k_K g (k_K0 8) := by
    refine ⟨Nat.le_refl _, by decide, fun c h0 hc => ?_, fun c h0 hc => absurd hc (Nat.not_lt.mpr h0), rfl, fun c h0 h1 => ?_⟩
    · show (if c ≤ 1 then 0 else 1) < c
      split <;> omega
    · show (if c ≤ 1 then 0 else 1) = 1
      rw [if_neg (by omega)]
  have hKP : k_KP g (k_K0 8) 0 := ⟨fun _ => rfl, fun h => absurd h (by decide), fun c h0 hc => absurd hc (Nat.not_lt.mpr h0)⟩
  obtain ⟨r, r', a1, a2, a3, a4, a5⟩ := z_classWalk hp hq hG ho g.1 0 C D' (k_K0 8) (Nat.zero_add _) rfl hC (hD.off hq o1) hkd hkC h2 hK hKP hz (fun c c' h0 h1 h2 => by have h2 : c' < 8 := h2; omega)
  refine ⟨r, r', a1, ?_, a3, o1.trans a4, a5⟩
  rw [fX12_classNames, Option.bind_some, fX12_classNames_7]
  show q_run (tX12_classNames_7 q) (nI 0, q_sI D q 0 0) = _
  exact h1.trans a2
