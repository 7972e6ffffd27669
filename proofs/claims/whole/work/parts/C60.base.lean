/-! ===== loops, two loops side by side ===== -/
theorem z_one {X R : Type} {f : X → Option (R ⊕ X)} {P : R → Prop} (I : Nat → X → Prop) (hs : ∀ n x, I n x → (∃ r, f x = some (.inl r) ∧ P r) ∨ (∃ m x', m < n ∧ f x = some (.inr x') ∧ I m x')) : ∀ n x, I n x → ∃ r, q_run f x = some r ∧ P r := by
  intro n
  induction n using Nat.strongRecOn with
  | _ n ih =>
    intro x h
    rcases hs n x h with ⟨r, h1, h2⟩ | ⟨m, x', hm, h1, h2⟩
    · exact ⟨r, q_run_ret h1, h2⟩
    · obtain ⟨r, a, b⟩ := ih m hm x' h2
      exact ⟨r, (q_run_go h1).trans a, b⟩
theorem z_two {X R Y T : Type} {f : X → Option (R ⊕ X)} {f' : Y → Option (T ⊕ Y)} {P : R → T → Prop} (I : Nat → X → Y → Prop) (hs : ∀ n x y, I n x y → (∃ r r', f x = some (.inl r) ∧ f' y = some (.inl r') ∧ P r r') ∨ (∃ m x' y', m < n ∧ f x = some (.inr x') ∧ f' y = some (.inr y') ∧ I m x' y')) : ∀ n x y, I n x y → ∃ r r', q_run f x = some r ∧ q_run f' y = some r' ∧ P r r' := by
  intro n
  induction n using Nat.strongRecOn with
  | _ n ih =>
    intro x y h
    rcases hs n x y h with ⟨r, r', h1, h2, h3⟩ | ⟨m, x', y', hm, h1, h2, h3⟩
    · exact ⟨r, r', q_run_ret h1, q_run_ret h2, h3⟩
    · obtain ⟨r, r', a, b, c⟩ := ih m hm x' y' h3
      exact ⟨r, r', (q_run_go h1).trans a, (q_run_go h2).trans b, c⟩
/-- the first answer of g from lo on, for m turns; else d -/
def z_ff {R : Type} (g : Nat → Option R) (d : R) : Nat → Nat → R
  | _, 0 => d
  | lo, m + 1 => match g lo with
    | some r => r
    | none => z_ff g d (lo + 1) m
theorem z_for {R : Type} {f : Int32 → Option (R ⊕ Int32)} (g : Nat → Option R) (d : R) (lo m : Nat) (hs : ∀ k, lo ≤ k → k < lo + m → f (nI k) = some (match g k with | some r => .inl r | none => .inr (nI (k + 1)))) (he : f (nI (lo + m)) = some (.inl d)) : q_run f (nI lo) = some (z_ff g d lo m) := by
  induction m generalizing lo with
  | zero => exact q_run_ret he
  | succ m ih =>
    have h0 := hs lo (Nat.le_refl _) (by omega)
    simp only [z_ff]
    cases hg : g lo with
    | some r => rw [hg] at h0; exact q_run_ret h0
    | none =>
      rw [hg] at h0
      rw [q_run_go h0]
      exact ih (lo + 1) (fun k a b => hs k (by omega) (by omega)) (by rw [show lo + 1 + m = lo + (m + 1) by omega]; exact he)
theorem z_ff_congr {R : Type} {g g' : Nat → Option R} {d : R} {lo m : Nat} (h : ∀ k, lo ≤ k → k < lo + m → g k = g' k) : z_ff g d lo m = z_ff g' d lo m := by
  induction m generalizing lo with
  | zero => rfl
  | succ m ih =>
    simp only [z_ff]
    rw [h lo (Nat.le_refl _) (by omega), ih (fun k a b => h k (by omega) (by omega))]
theorem z_ff_shift {R : Type} {g g' : Nat → Option R} {d : R} {lo lo' m : Nat} (h : ∀ k, k < m → g (lo + k) = g' (lo' + k)) : z_ff g d lo m = z_ff g' d lo' m := by
  induction m generalizing lo lo' with
  | zero => rfl
  | succ m ih =>
    simp only [z_ff]
    have h0 := h 0 (by omega)
    simp only [Nat.add_zero] at h0
    rw [h0, ih (lo := lo + 1) (lo' := lo' + 1) (fun k a => by have := h (k + 1) (by omega); rw [show lo + 1 + k = lo + (k + 1) by omega, show lo' + 1 + k = lo' + (k + 1) by omega]; exact this)]
/-- a search for the first place that fails -/
theorem z_ff_all {g : Nat → Option Bool} {lo m : Nat} (hg : ∀ k, lo ≤ k → k < lo + m → g k = none ∨ g k = some false) : (z_ff g true lo m = true) ↔ ∀ k, lo ≤ k → k < lo + m → g k = none := by
  induction m generalizing lo with
  | zero => simp only [z_ff, true_iff]; intro k a b; omega
  | succ m ih =>
    simp only [z_ff]
    rcases hg lo (Nat.le_refl _) (by omega) with h | h
    · rw [h]
      simp only
      rw [ih (fun k a b => hg k (by omega) (by omega))]
      constructor
      · intro H k a b
        by_cases e : k = lo
        · rw [e]; exact h
        · exact H k (by omega) (by omega)
      · intro H k a b; exact H k (by omega) (by omega)
    · rw [h]
      simp only [Bool.false_eq_true, false_iff]
      intro H
      have := H lo (Nat.le_refl _) (by omega)
      rw [h] at this
      cases this
/-! ===== numbers ===== -/
theorem z_inb {i : Int32} {n : Nat} : q_inb i n = true ↔ 0 ≤ i.toInt ∧ i.toInt < n := by
  have e : i.toNatClampNeg = i.toInt.toNat := rfl
  simp only [q_inb, Bool.and_eq_true, Bool.not_eq_true', decide_eq_false_iff_not, decide_eq_true_eq, Int32.lt_iff_toInt_lt, e]
  rw [show (0 : Int32).toInt = 0 from rfl]
  omega
theorem z_inbN {k n : Nat} (hk : k < n) (hn : n < 2147483648) : q_inb (nI k) n = true := by
  rw [z_inb, nI_toInt (by omega)]
  omega
theorem z_cl {k : Nat} (h : k < 2147483648) : (nI k).toNatClampNeg = k := nI_clamp h
theorem z_leN {a b : Nat} (ha : a < 2147483648) (hb : b < 2147483648) : (nI a ≤ nI b) = (a ≤ b) := propext (nI_leI ha hb)
theorem z_ltN {a b : Nat} (ha : a < 2147483648) (hb : b < 2147483648) : (nI a < nI b) = (a < b) := propext (nI_ltI ha hb)
theorem z_eqN {a b : Nat} (ha : a < 2147483648) (hb : b < 2147483648) : (nI a = nI b) = (a = b) := propext (nI_eq ha hb)
theorem z_m1N {a : Nat} (ha : a < 2147483648) : (nI a = -1) = False := by
  refine propext ⟨fun h => ?_, False.elim⟩
  have := congrArg Int32.toInt h
  rw [nI_toInt ha] at this
  rw [show (-1 : Int32).toInt = -1 from rfl] at this
  omega
theorem z_negN {a : Nat} (ha : a < 2147483648) : (nI a < 0) = False := propext ⟨fun h => nI_pos ha h, False.elim⟩
theorem z_toN {x : Int32} (h : 0 ≤ x.toInt) : x = nI x.toInt.toNat := by
  apply Int32.toInt_inj.mp
  have := Int32.toInt_lt x
  rw [nI_toInt (by omega)]
  omega
