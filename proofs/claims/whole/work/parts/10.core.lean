/-! ===== booleans, guards, loops as functions ===== -/
def q_b (b : Bool) : Int32 := if b = true then 1 else 0
theorem q_b_0 {b : Bool} : q_b b = 0 ↔ b = false := by cases b <;> decide
theorem q_b_n {b : Bool} : ¬ q_b b = 0 ↔ b = true := by cases b <;> decide
theorem q_b_nar (b : Bool) : narrow .boolean (.int (q_b b)) = .int (q_b b) := by cases b <;> rfl
theorem q_b_fit (b : Bool) : narrow .boolean (.int (q_b b)) = .int (q_b b) ∧ fits .boolean (.int (q_b b)) = true := by cases b <;> exact ⟨rfl, rfl⟩
def q_inb (i : Int32) (n : Nat) : Bool := !(decide (i < 0)) && decide (i.toNatClampNeg < n)
theorem q_inb_in {i : Int32} {n : Nat} (h : q_inb i n = true) : vp_in i n := by
  simp only [q_inb, Bool.and_eq_true, Bool.not_eq_true', decide_eq_false_iff_not, decide_eq_true_eq] at h
  rintro (q | q)
  · exact h.1 q
  · omega
theorem q_guard {α : Type} {c : Prop} [Decidable c] {x : Option α} {r : α} (h : (if c then x else none) = some r) : c ∧ x = some r := by
  by_cases hc : c
  · rw [if_pos hc] at h
    exact ⟨hc, h⟩
  · rw [if_neg hc] at h
    cases h
theorem q_bind {α β : Type} {o : Option α} {f : α → Option β} {r : β} (h : o.bind f = some r) : ∃ a, o = some a ∧ f a = some r := by
  cases o with
  | none => cases h
  | some a => exact ⟨a, rfl, h⟩
theorem q_bindS {α β : Type} {a : α} {f : α → Option β} {r : β} (h : (some a).bind f = some r) : ∃ a', a = a' ∧ f a' = some r := ⟨a, rfl, h⟩
def q_it {X R : Type} (f : X → Option (R ⊕ X)) : Nat → X → Option R
  | 0, _ => none
  | c + 1, x => match f x with
    | none => none
    | some (.inl r) => some r
    | some (.inr y) => q_it f c y
theorem q_it_mono {X R : Type} {f : X → Option (R ⊕ X)} {r : R} : ∀ {c : Nat} {x : X}, q_it f c x = some r → ∀ k, q_it f (c + k) x = some r := by
  intro c
  induction c with
  | zero => intro x h; cases h
  | succ c ih =>
    intro x h k
    rw [show c + 1 + k = (c + k) + 1 by omega]
    simp only [q_it] at h ⊢
    cases hf : f x with
    | none => rw [hf] at h; cases h
    | some y =>
      rw [hf] at h
      cases y with
      | inl r => exact h
      | inr y => exact ih h k
noncomputable def q_run {X R : Type} (f : X → Option (R ⊕ X)) (x : X) : Option R := @dite (Option R) (∃ c r, q_it f c x = some r) (Classical.propDecidable _) (fun h => q_it f (Classical.choose h) x) (fun _ => none)
theorem q_run_of {X R : Type} {f : X → Option (R ⊕ X)} {x : X} {r : R} {c : Nat} (h : q_it f c x = some r) : q_run f x = some r := by
  have hh : ∃ c r, q_it f c x = some r := ⟨c, r, h⟩
  rw [q_run, dif_pos hh]
  obtain ⟨r2, h2⟩ := Classical.choose_spec hh
  have a := q_it_mono h (Classical.choose hh)
  have b := q_it_mono h2 c
  rw [Nat.add_comm] at b
  rw [h2]
  rw [a] at b
  exact b.symm
theorem q_run_it {X R : Type} {f : X → Option (R ⊕ X)} {x : X} {r : R} (h : q_run f x = some r) : ∃ c, q_it f c x = some r := by
  by_cases hh : ∃ c r, q_it f c x = some r
  · rw [q_run, dif_pos hh] at h
    exact ⟨_, h⟩
  · rw [q_run, dif_neg hh] at h
    cases h
theorem q_run_ret {X R : Type} {f : X → Option (R ⊕ X)} {x : X} {r : R} (h : f x = some (.inl r)) : q_run f x = some r := q_run_of (c := 1) (by simp only [q_it, h])
theorem q_run_go {X R : Type} {f : X → Option (R ⊕ X)} {x y : X} (h : f x = some (.inr y)) : q_run f x = q_run f y := by
  cases hy : q_run f y with
  | some r =>
    obtain ⟨c, hc⟩ := q_run_it hy
    exact q_run_of (c := c + 1) (by simp only [q_it, h]; exact hc)
  | none =>
    cases hx : q_run f x with
    | none => rfl
    | some r =>
      obtain ⟨c, hc⟩ := q_run_it hx
      cases c with
      | zero => cases hc
      | succ c =>
        simp only [q_it, h] at hc
        rw [q_run_of hc] at hy
        cases hy
/-! ===== rooms, locals ===== -/
theorem q_room_mono {s : State} {pl : Platform} {r r' : Room} (hf : r.frames ≤ r'.frames) (hl : r.locals ≤ r'.locals) (hc : r.cells ≤ r'.cells) (hs : r.slots ≤ r'.slots) (h : s.hasRoom pl r' = true) : s.hasRoom pl r = true := by
  simp only [State.hasRoom, Bool.and_eq_true, decide_eq_true_eq] at h ⊢
  obtain ⟨⟨⟨⟨h1, h2, h3, h4, h5, h6⟩, h7⟩, h8⟩, h9⟩ := h
  refine ⟨⟨⟨⟨by omega, by omega, by omega, by omega, by omega, h6⟩, by omega⟩, by omega⟩, h9⟩
theorem q_W_room {p : Program} {l : Launch} {e : Env} {R R' : Room} {s : State} {m : MethodId} {args : Array Value} {below : List Frame} {meth : Method} {c : Code} {H : Heap} {locs : List Loc} {k n : Nat} {Qs : State → Prop} {gf : JFrame} (hf : R.frames ≤ R'.frames) (hl : R.locals ≤ R'.locals) (hc : R.cells ≤ R'.cells) (hs : R.slots ≤ R'.slots) (h : W p l e R s m args below meth c H locs k n Qs gf) : W p l e R' s m args below meth c H locs k n Qs gf :=
  fun T hT X => h T hT { X with room := q_room_mono hf hl hc hs X.room }
section QCORE
variable {g : QG} {M : QM} {d K N : Nat} {Q Q' : Option Value → QS → Prop} {k n pc : Nat} {lv lv' : List (Nat × Value)} {st : List Value} {S : QS}
theorem q_L.deep {d' : Nat} (hd : d ≤ d') (h : q_L g M d K N Q k n pc lv st S) : q_L g M d' K N Q k n pc lv st S :=
  fun p e s m args below meth c H locs ls C hP hS hb hl => q_W_room (R := q_room d K N) (R' := q_room d' K N) hd (show 40 * d ≤ 40 * d' by omega) (Nat.le_refl _) (Nat.le_refl _) (h p e s m args below meth c H locs ls C hP hS hb hl)
theorem q_L.mono (h : q_L g M d K N Q k n pc lv st S) (hq : ∀ r S', Q r S' → Q' r S') : q_L g M d K N Q' k n pc lv st S := by
  intro p e s m args below meth c H locs ls C hP hS hb hl T hT X
  obtain ⟨t, a, o, h1, h2, ⟨r, S', h3, h4, h5⟩, h6⟩ := h p e s m args below meth c H locs ls C hP hS hb hl T hT X
  exact ⟨t, a, o, h1, h2, ⟨r, S', h3, hq r S' h4, h5⟩, h6⟩
theorem q_sub (ks : List Nat) (hk : lv_pick lv ks = lv') (h : q_L g M d K N Q k n pc lv' st S) : q_L g M d K N Q k n pc lv st S := by
  intro p e s m args below meth c H locs ls C hP hS hb hl
  refine h p e s m args below meth c H locs ls C hP hS hb (lv_sub hl ks ?_)
  rw [← hk]
  simp only [lv_pick, q_lv, List.map_filterMap, List.getElem?_map]
end QCORE
/-- nothing has changed but numbers, and the text that Syntax (77) still wants -/
def q_Fx (S S' : QS) : Prop := S'.1 = S.1 ∧ ∀ o j, ¬ (o = 77 ∧ j = 1) → S'.2.2.2 o j = S.2.2.2 o j
theorem q_Fx.rf (S : QS) : q_Fx S S := ⟨rfl, fun _ _ _ => rfl⟩
theorem q_Fx.tr {S S' S'' : QS} (h : q_Fx S S') (h' : q_Fx S' S'') : q_Fx S S'' := ⟨h'.1.trans h.1, fun o j n => (h'.2 o j n).trans (h.2 o j n)⟩
theorem q_Fx.sI {S S' : QS} {o j : Nat} {v : Int32} (h : q_Fx S S') : q_Fx S (q_sI S' o j v) := h
theorem q_Fx.sJ {S S' : QS} {o j : Nat} {v : Int64} (h : q_Fx S S') : q_Fx S (q_sJ S' o j v) := h
theorem q_Fx.cp {S S' : QS} {a sp b dp c : Nat} (h : q_Fx S S') : q_Fx S (q_cpI S' a sp b dp c) := h
theorem q_Fx.sT {S S' : QS} {r : Nat} (h : q_Fx S S') : q_Fx S (q_sR S' 77 1 r) := by
  refine ⟨h.1, fun o j n => ?_⟩
  rw [← h.2 o j n]
  by_cases e : o = 77
  · have e2 : ¬ j = 1 := fun q => n ⟨e, q⟩
    simp [q_sR, e, va_up, e2]
  · simp [q_sR, e]
theorem q_run_fx {X R : Type} {f : X → Option (R ⊕ X)} (sx : X → QS) (sr : R → QS) (hf : ∀ x z, f x = some z → q_Fx (sx x) (Sum.elim sr sx z)) {x : X} {r : R} (h : q_run f x = some r) : q_Fx (sx x) (sr r) := by
  obtain ⟨c, hc⟩ := q_run_it h
  clear h
  induction c generalizing x with
  | zero => cases hc
  | succ c ih =>
    simp only [q_it] at hc
    cases hz : f x with
    | none => rw [hz] at hc; cases hc
    | some z =>
      rw [hz] at hc
      have h1 := hf x z hz
      rcases z with z | y
      · cases hc; exact h1
      · exact h1.tr (ih hc)
/-- arraycopy may be done -/
def q_cpok (S : QS) (t a la : Nat) (sp dp c : Int32) (b lb : Nat) : Bool := !(decide (sp < 0)) && (!(decide (dp < 0)) && (!(decide (c < 0)) && (decide (sp.toNatClampNeg + c.toNatClampNeg ≤ la) && (decide (dp.toNatClampNeg + c.toNatClampNeg ≤ lb) && (List.range c.toNatClampNeg).all (fun i => fits (q_et t) (.int (S.2.1 a (sp.toNatClampNeg + i))))))))
theorem q_cpok_of {S : QS} {t a la : Nat} {sp dp c : Int32} {b lb : Nat} (h : q_cpok S t a la sp dp c b lb = true) : ¬ sp < 0 ∧ ¬ dp < 0 ∧ ¬ c < 0 ∧ sp.toNatClampNeg + c.toNatClampNeg ≤ la ∧ dp.toNatClampNeg + c.toNatClampNeg ≤ lb ∧ ∀ i, i < c.toNatClampNeg → fits (q_et t) (.int (S.2.1 a (sp.toNatClampNeg + i))) = true := by
  simp only [q_cpok, Bool.and_eq_true, Bool.not_eq_true', decide_eq_false_iff_not, decide_eq_true_eq, List.all_eq_true, List.mem_range] at h
  exact ⟨h.1, h.2.1, h.2.2.1, h.2.2.2.1, h.2.2.2.2.1, h.2.2.2.2.2⟩
def q_tab (j : Nat) : List Int32 := (q_stat.getD j ("", [])).2
theorem q_bdec {e : Int32} (h : e = 0 ∨ e = 1) : q_b (decide (e = 1)) = e := by rcases h with rfl | rfl <;> decide
theorem q_bdec_n {e : Int32} (h : e = 0 ∨ e = 1) : narrow .boolean (.int e) = .int e := by rcases h with rfl | rfl <;> rfl
