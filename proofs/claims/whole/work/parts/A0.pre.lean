/-- the String constants: class, entry, text, bytes -/
def q_strs : List (String × Nat × String × List Int32) := [
  ("ObjectMachine$Syntax", 9, "", []),
  ("ObjectMachine$Text", 64, "[]", [91, 93]),
  ("ObjectMachine$Text", 59, "int", [105, 110, 116]),
  ("ObjectMachine$Syntax", 67, "of", [111, 102]),
  ("ObjectMachine$Syntax", 73, "none", [110, 111, 110, 101]),
  ("ObjectMachine$Syntax", 78, "int", [105, 110, 116]),
  ("ObjectMachine$Syntax", 92, "CoC{", [67, 111, 67, 123]),
  ("ObjectMachine$Syntax", 98, "class", [99, 108, 97, 115, 115]),
  ("ObjectMachine$Syntax", 100, "field", [102, 105, 101, 108, 100]),
  ("ObjectMachine$Syntax", 102, "nT", [110, 84]),
  ("ObjectMachine$Syntax", 104, "static", [115, 116, 97, 116, 105, 99]),
  ("ObjectMachine$Syntax", 106, "n(PRN{", [110, 40, 80, 82, 78, 123]),
  ("ObjectMachine$Syntax", 108, "method", [109, 101, 116, 104, 111, 100]),
  ("ObjectMachine$Syntax", 110, "push null load store inc dup pop swap add sub mul div rem and or xor shl shr neg goto eq ne lt le gt ge isnull notnull same other new array length aload astore get put cast is call send throw give back read write", [112, 117, 115, 104, 32, 110, 117, 108, 108, 32, 108, 111, 97, 100, 32, 115, 116, 111, 114, 101, 32, 105, 110, 99, 32, 100, 117, 112, 32, 112, 111, 112, 32, 115, 119, 97, 112, 32, 97, 100, 100, 32, 115, 117, 98, 32, 109, 117, 108, 32, 100, 105, 118, 32, 114, 101, 109, 32, 97, 110, 100, 32, 111, 114, 32, 120, 111, 114, 32, 115, 104, 108, 32, 115, 104, 114, 32, 110, 101, 103, 32, 103, 111, 116, 111, 32, 101, 113, 32, 110, 101, 32, 108, 116, 32, 108, 101, 32, 103, 116, 32, 103, 101, 32, 105, 115, 110, 117, 108, 108, 32, 110, 111, 116, 110, 117, 108, 108, 32, 115, 97, 109, 101, 32, 111, 116, 104, 101, 114, 32, 110, 101, 119, 32, 97, 114, 114, 97, 121, 32, 108, 101, 110, 103, 116, 104, 32, 97, 108, 111, 97, 100, 32, 97, 115, 116, 111, 114, 101, 32, 103, 101, 116, 32, 112, 117, 116, 32, 99, 97, 115, 116, 32, 105, 115, 32, 99, 97, 108, 108, 32, 115, 101, 110, 100, 32, 116, 104, 114, 111, 119, 32, 103, 105, 118, 101, 32, 98, 97, 99, 107, 32, 114, 101, 97, 100, 32, 119, 114, 105, 116, 101]),
  ("ObjectMachine$Syntax", 123, "catch", [99, 97, 116, 99, 104]),
  ("ObjectMachine$Syntax", 125, ":", [58]),
  ("ObjectMachine$Syntax", 127, "nnnC", [110, 110, 110, 67]),
  ("ObjectMachine$Syntax", 133, "N", [78]),
  ("ObjectMachine$Syntax", 135, "NN", [78, 78]),
  ("ObjectMachine$Syntax", 137, "C", [67]),
  ("ObjectMachine$Syntax", 139, "E", [69]),
  ("ObjectMachine$Syntax", 141, "F", [70]),
  ("ObjectMachine$Syntax", 143, "Y", [89]),
  ("ObjectMachine$Syntax", 145, "n", [110]),
  ("ObjectMachine$Names", 255, "Object Error NullError IndexError SizeError DivideError CastError StoreError", [79, 98, 106, 101, 99, 116, 32, 69, 114, 114, 111, 114, 32, 78, 117, 108, 108, 69, 114, 114, 111, 114, 32, 73, 110, 100, 101, 120, 69, 114, 114, 111, 114, 32, 83, 105, 122, 101, 69, 114, 114, 111, 114, 32, 68, 105, 118, 105, 100, 101, 69, 114, 114, 111, 114, 32, 67, 97, 115, 116, 69, 114, 114, 111, 114, 32, 83, 116, 111, 114, 101, 69, 114, 114, 111, 114]),
  ("ObjectMachine$Names", 264, "int", [105, 110, 116]),
  ("ObjectMachine$Names", 116, "none", [110, 111, 110, 101]),
  ("ObjectMachine$Names", 249, "main", [109, 97, 105, 110]),
  ("ObjectMachine$Names", 251, "Main", [77, 97, 105, 110]),
  ("ObjectMachineModel", 161, "class", [99, 108, 97, 115, 115]),
  ("ObjectMachineModel", 174, "of", [111, 102]),
  ("ObjectMachineModel", 176, "{", [123]),
  ("ObjectMachineModel", 178, "}", [125]),
  ("ObjectMachineModel", 184, "field", [102, 105, 101, 108, 100]),
  ("ObjectMachineModel", 192, "static", [115, 116, 97, 116, 105, 99]),
  ("ObjectMachineModel", 194, "method", [109, 101, 116, 104, 111, 100]),
  ("ObjectMachineModel", 196, "(", [40]),
  ("ObjectMachineModel", 198, ")", [41]),
  ("ObjectMachineModel", 200, "none", [110, 111, 110, 101]),
  ("ObjectMachineModel", 208, ":", [58]),
  ("ObjectMachineModel", 219, "catch", [99, 97, 116, 99, 104]),
  ("ObjectMachineModel", 210, " push null load store inc dup pop swap add sub mul div rem and or xor shl shr neg goto eq ne lt le gt ge isnull notnull same other new array length aload astore get put cast is call send throw give back read write ", [32, 112, 117, 115, 104, 32, 110, 117, 108, 108, 32, 108, 111, 97, 100, 32, 115, 116, 111, 114, 101, 32, 105, 110, 99, 32, 100, 117, 112, 32, 112, 111, 112, 32, 115, 119, 97, 112, 32, 97, 100, 100, 32, 115, 117, 98, 32, 109, 117, 108, 32, 100, 105, 118, 32, 114, 101, 109, 32, 97, 110, 100, 32, 111, 114, 32, 120, 111, 114, 32, 115, 104, 108, 32, 115, 104, 114, 32, 110, 101, 103, 32, 103, 111, 116, 111, 32, 101, 113, 32, 110, 101, 32, 108, 116, 32, 108, 101, 32, 103, 116, 32, 103, 101, 32, 105, 115, 110, 117, 108, 108, 32, 110, 111, 116, 110, 117, 108, 108, 32, 115, 97, 109, 101, 32, 111, 116, 104, 101, 114, 32, 110, 101, 119, 32, 97, 114, 114, 97, 121, 32, 108, 101, 110, 103, 116, 104, 32, 97, 108, 111, 97, 100, 32, 97, 115, 116, 111, 114, 101, 32, 103, 101, 116, 32, 112, 117, 116, 32, 99, 97, 115, 116, 32, 105, 115, 32, 99, 97, 108, 108, 32, 115, 101, 110, 100, 32, 116, 104, 114, 111, 119, 32, 103, 105, 118, 101, 32, 98, 97, 99, 107, 32, 114, 101, 97, 100, 32, 119, 114, 105, 116, 101, 32]),
  ("ObjectMachineModel", 224, "N-KKI--------------LLLLLLLLLLLCE---FFTTFF-----", [78, 45, 75, 75, 73, 45, 45, 45, 45, 45, 45, 45, 45, 45, 45, 45, 45, 45, 45, 76, 76, 76, 76, 76, 76, 76, 76, 76, 76, 76, 67, 69, 45, 45, 45, 70, 70, 84, 84, 70, 70, 45, 45, 45, 45, 45]),
  ("ObjectMachineModel", 226, "int", [105, 110, 116]),
  ("ObjectMachineModel", 234, " Object Error NullError IndexError SizeError DivideError CastError StoreError ", [32, 79, 98, 106, 101, 99, 116, 32, 69, 114, 114, 111, 114, 32, 78, 117, 108, 108, 69, 114, 114, 111, 114, 32, 73, 110, 100, 101, 120, 69, 114, 114, 111, 114, 32, 83, 105, 122, 101, 69, 114, 114, 111, 114, 32, 68, 105, 118, 105, 100, 101, 69, 114, 114, 111, 114, 32, 67, 97, 115, 116, 69, 114, 114, 111, 114, 32, 83, 116, 111, 114, 101, 69, 114, 114, 111, 114, 32]),
  ("ObjectMachineModel", 406, "Main", [77, 97, 105, 110]),
  ("ObjectMachineModel", 408, "main", [109, 97, 105, 110])]
def q_stat : List (String × List Int32) := [("TAKES", [0, 0, 0, 1, 0, 1, 1, 2, 2, 2, 2, 2, 2, 2, 2, 2, 2, 2, 1, 0, 2, 2, 2, 2, 2, 2, 1, 1, 2, 2, 0, 1, 1, 2, 3, 1, 2, 1, 1, 0, 0, 1, 1, 0, 0, 1]), ("LEAVES", [1, 1, 1, 0, 0, 2, 0, 2, 1, 1, 1, 1, 1, 1, 1, 1, 1, 1, 1, 0, 0, 0, 0, 0, 0, 0, 0, 0, 0, 0, 1, 1, 1, 1, 0, 1, 0, 1, 1, 0, 0, 0, 0, 0, 1, 0])]
/-! ===== the q_ layer: the whole heap that the law makes, as ONE memory. Objects and arrays are numbered in the order of their making: number k lies at the address base + k. ===== -/
/-- a shape: an object of class ci, or an array (kind of its elements, length) -/
abbrev QSp : Type := Nat ⊕ (Nat × Nat)
/-- shapes, ints, longs, references -/
abbrev QS : Type := List QSp × (Nat → Nat → Int32) × (Nat → Nat → Int64) × (Nat → Nat → Nat)
def q_et (t : Nat) : FieldType := match t with
  | 0 => .int
  | 1 => .byte
  | 2 => .long
  | _ => .boolean
/-! ===== lists ===== -/
/-! ===== words ===== -/
/-! ===== classes by their numbers ===== -/
/-! ===== memory ===== -/
def q_sI (S : QS) (o j : Nat) (v : Int32) : QS := (S.1, fun x => if x = o then upd (S.2.1 o) j v else S.2.1 x, S.2.2.1, S.2.2.2)
def q_sJ (S : QS) (o j : Nat) (v : Int64) : QS := (S.1, S.2.1, fun x => if x = o then vp_updL (S.2.2.1 o) j v else S.2.2.1 x, S.2.2.2)
def q_sR (S : QS) (o j r : Nat) : QS := (S.1, S.2.1, S.2.2.1, fun x => if x = o then va_up (S.2.2.2 o) j r else S.2.2.2 x)
/-- a piece of array a copied into array b -/
def q_cpI (S : QS) (a sp b dp n : Nat) : QS := (S.1, fun x => if x = b then va_cpy (S.2.1 a) (S.2.1 b) sp dp n else S.2.1 x, S.2.2.1, S.2.2.2)
/-! ===== booleans, guards, loops as functions ===== -/
def q_b (b : Bool) : Int32 := if b = true then 1 else 0
def q_inb (i : Int32) (n : Nat) : Bool := !(decide (i < 0)) && decide (i.toNatClampNeg < n)
theorem q_guard {α : Type} {c : Prop} [Decidable c] {x : Option α} {r : α} (h : (if c then x else none) = some r) : c ∧ x = some r := by
  by_cases hc : c
  · rw [if_pos hc] at h
    exact ⟨hc, h⟩
  · rw [if_neg hc] at h
    cases h
theorem q_bind {α β : Type} {o : Option α} {f : α → Option β} {r : β} (h : o.bind f = some r) : ∃ a, o = some a ∧ f a = some r := by
  cases o with
  | none => cases h
  | some a => exact ⟨a, rfl, h⟩
theorem q_bindS {α β : Type} {a : α} {f : α → Option β} {r : β} (h : (some a).bind f = some r) : ∃ a', a = a' ∧ f a' = some r := ⟨a, rfl, h⟩
def q_it {X R : Type} (f : X → Option (R ⊕ X)) : Nat → X → Option R
  | 0, _ => none
  | c + 1, x => match f x with
    | none => none
    | some (.inl r) => some r
    | some (.inr y) => q_it f c y
theorem q_it_mono {X R : Type} {f : X → Option (R ⊕ X)} {r : R} : ∀ {c : Nat} {x : X}, q_it f c x = some r → ∀ k, q_it f (c + k) x = some r := by
  intro c
  induction c with
  | zero => intro x h; cases h
  | succ c ih =>
    intro x h k
    rw [show c + 1 + k = (c + k) + 1 by omega]
    simp only [q_it] at h ⊢
    cases hf : f x with
    | none => rw [hf] at h; cases h
    | some y =>
      rw [hf] at h
      cases y with
      | inl r => exact h
      | inr y => exact ih h k
noncomputable def q_run {X R : Type} (f : X → Option (R ⊕ X)) (x : X) : Option R := @dite (Option R) (∃ c r, q_it f c x = some r) (Classical.propDecidable _) (fun h => q_it f (Classical.choose h) x) (fun _ => none)
theorem q_run_of {X R : Type} {f : X → Option (R ⊕ X)} {x : X} {r : R} {c : Nat} (h : q_it f c x = some r) : q_run f x = some r := by
  have hh : ∃ c r, q_it f c x = some r := ⟨c, r, h⟩
  rw [q_run, dif_pos hh]
  obtain ⟨r2, h2⟩ := Classical.choose_spec hh
  have a := q_it_mono h (Classical.choose hh)
  have b := q_it_mono h2 c
  rw [Nat.add_comm] at b
  rw [h2]
  rw [a] at b
  exact b.symm
theorem q_run_it {X R : Type} {f : X → Option (R ⊕ X)} {x : X} {r : R} (h : q_run f x = some r) : ∃ c, q_it f c x = some r := by
  by_cases hh : ∃ c r, q_it f c x = some r
  · rw [q_run, dif_pos hh] at h
    exact ⟨_, h⟩
  · rw [q_run, dif_neg hh] at h
    cases h
theorem q_run_ret {X R : Type} {f : X → Option (R ⊕ X)} {x : X} {r : R} (h : f x = some (.inl r)) : q_run f x = some r := q_run_of (c := 1) (by simp only [q_it, h])
theorem q_run_go {X R : Type} {f : X → Option (R ⊕ X)} {x y : X} (h : f x = some (.inr y)) : q_run f x = q_run f y := by
  cases hy : q_run f y with
  | some r =>
    obtain ⟨c, hc⟩ := q_run_it hy
    exact q_run_of (c := c + 1) (by simp only [q_it, h]; exact hc)
  | none =>
    cases hx : q_run f x with
    | none => rfl
    | some r =>
      obtain ⟨c, hc⟩ := q_run_it hx
      cases c with
      | zero => cases hc
      | succ c =>
        simp only [q_it, h] at hc
        rw [q_run_of hc] at hy
        cases hy
/-! ===== rooms, locals ===== -/
/-- arraycopy may be done -/
def q_cpok (S : QS) (t a la : Nat) (sp dp c : Int32) (b lb : Nat) : Bool := !(decide (sp < 0)) && (!(decide (dp < 0)) && (!(decide (c < 0)) && (decide (sp.toNatClampNeg + c.toNatClampNeg ≤ la) && (decide (dp.toNatClampNeg + c.toNatClampNeg ≤ lb) && (List.range c.toNatClampNeg).all (fun i => fits (q_et t) (.int (S.2.1 a (sp.toNatClampNeg + i))))))))
def q_tab (j : Nat) : List Int32 := (q_stat.getD j ("", [])).2
/-! the shapes of all that the law makes; which reference fields never change -/
def q_SH : List QSp := [.inl 10, .inr (0, 4000), .inl 8, .inr (1, 16000), .inr (0, 16000), .inr (0, 16000), .inr (1, 16000), .inl 5, .inl 0, .inr (0, 32), .inr (0, 32), .inr (0, 32), .inr (0, 32), .inr (0, 48), .inr (0, 48), .inr (0, 48), .inr (0, 48), .inl 1, .inr (0, 1024), .inr (0, 1024), .inr (0, 1024), .inr (0, 1024), .inr (0, 1024), .inr (0, 1024), .inr (0, 1024), .inr (0, 64), .inr (0, 64), .inr (0, 64), .inr (0, 64), .inr (0, 48), .inr (0, 48), .inr (3, 48), .inr (0, 48), .inr (0, 576), .inr (0, 48), .inr (0, 48), .inr (0, 48), .inr (0, 48), .inr (0, 48), .inr (0, 48), .inr (0, 48), .inr (0, 1536), .inl 5, .inl 0, .inr (0, 32), .inr (0, 32), .inr (0, 32), .inr (0, 32), .inr (0, 48), .inr (0, 48), .inr (0, 48), .inr (0, 48), .inl 1, .inr (0, 1024), .inr (0, 1024), .inr (0, 1024), .inr (0, 1024), .inr (0, 1024), .inr (0, 1024), .inr (0, 1024), .inr (0, 64), .inr (0, 64), .inr (0, 64), .inr (0, 64), .inr (0, 48), .inr (0, 48), .inr (3, 48), .inr (0, 48), .inr (0, 576), .inr (0, 48), .inr (0, 48), .inr (0, 48), .inr (0, 48), .inr (0, 48), .inr (0, 48), .inr (0, 48), .inr (0, 1536), .inl 7, .inl 4, .inr (0, 8000), .inr (0, 8000), .inl 3, .inr (0, 1024), .inr (3, 1024), .inl 9, .inr (1, 20480), .inr (3, 1024), .inr (3, 1024), .inr (1, 20), .inl 6, .inl 2, .inr (0, 2001), .inr (0, 2001), .inr (0, 2001), .inr (0, 2001), .inr (0, 12000), .inr (0, 1280), .inr (1, 1280), .inr (0, 64), .inr (0, 64), .inr (0, 256), .inr (0, 256), .inl 12, .inl 11, .inr (0, 32), .inr (0, 32), .inr (0, 48), .inr (0, 48), .inr (0, 48), .inr (0, 48), .inr (3, 48), .inr (0, 48), .inr (0, 576), .inr (0, 48), .inr (0, 48), .inr (0, 48), .inr (0, 48), .inr (0, 1536), .inr (0, 1024), .inr (0, 1024), .inr (0, 1024), .inr (0, 1024), .inr (0, 1024), .inr (0, 54), .inr (0, 64), .inr (0, 64), .inr (0, 64), .inr (0, 64), .inr (0, 64), .inr (0, 20480), .inr (3, 1024), .inl 11, .inr (0, 32), .inr (0, 32), .inr (0, 48), .inr (0, 48), .inr (0, 48), .inr (0, 48), .inr (3, 48), .inr (0, 48), .inr (0, 576), .inr (0, 48), .inr (0, 48), .inr (0, 48), .inr (0, 48), .inr (0, 1536), .inr (0, 1024), .inr (0, 1024), .inr (0, 1024), .inr (0, 1024), .inr (0, 1024), .inr (0, 54), .inr (0, 64), .inr (0, 64), .inr (0, 64), .inr (0, 64), .inr (0, 64), .inr (0, 20480), .inr (3, 1024), .inr (1, 16000), .inr (1, 16000), .inr (0, 16002), .inr (0, 16002), .inr (0, 32), .inr (0, 48), .inr (0, 48), .inr (0, 48), .inr (0, 16000), .inr (0, 16000), .inr (0, 1024), .inr (0, 1024), .inr (0, 24), .inr (2, 768), .inr (2, 512), .inr (0, 64), .inr (0, 64), .inr (0, 2000), .inr (0, 2000), .inr (0, 2000), .inr (0, 2000), .inr (2, 12000), .inr (0, 256), .inr (0, 256)]
def q_WL : List (Nat × Nat × Nat) := [(0, 0, 1), (0, 3, 2), (0, 4, 77), (0, 5, 78), (0, 6, 81), (0, 7, 84), (0, 8, 89), (2, 0, 3), (2, 2, 4), (2, 3, 5), (2, 4, 6), (7, 0, 8), (7, 1, 17), (7, 3, 29), (7, 4, 30), (7, 5, 31), (7, 6, 32), (7, 7, 33), (7, 8, 34), (7, 9, 35), (7, 10, 36), (7, 11, 37), (7, 12, 38), (7, 13, 39), (7, 14, 40), (7, 15, 41), (8, 1, 9), (8, 2, 10), (8, 3, 11), (8, 4, 12), (8, 6, 13), (8, 7, 14), (8, 8, 15), (8, 9, 16), (17, 1, 18), (17, 2, 19), (17, 3, 20), (17, 4, 21), (17, 5, 22), (17, 6, 23), (17, 7, 24), (17, 10, 25), (17, 11, 26), (17, 12, 27), (17, 13, 28), (42, 0, 43), (42, 1, 52), (42, 3, 64), (42, 4, 65), (42, 5, 66), (42, 6, 67), (42, 7, 68), (42, 8, 69), (42, 9, 70), (42, 10, 71), (42, 11, 72), (42, 12, 73), (42, 13, 74), (42, 14, 75), (42, 15, 76), (43, 1, 44), (43, 2, 45), (43, 3, 46), (43, 4, 47), (43, 6, 48), (43, 7, 49), (43, 8, 50), (43, 9, 51), (52, 1, 53), (52, 2, 54), (52, 3, 55), (52, 4, 56), (52, 5, 57), (52, 6, 58), (52, 7, 59), (52, 10, 60), (52, 11, 61), (52, 12, 62), (52, 13, 63), (77, 0, 2), (78, 0, 2), (78, 4, 79), (78, 5, 80), (81, 2, 82), (81, 3, 83), (84, 3, 85), (84, 4, 86), (84, 5, 87), (84, 7, 88), (89, 2, 90), (89, 3, 96), (89, 4, 97), (89, 5, 98), (89, 6, 99), (89, 10, 100), (89, 13, 101), (90, 0, 91), (90, 1, 92), (90, 2, 93), (90, 3, 94), (90, 4, 95), (102, 3, 159), (102, 6, 160), (102, 8, 161), (102, 9, 162), (102, 13, 163), (102, 14, 164), (102, 15, 165), (102, 16, 166), (102, 17, 167), (102, 18, 168), (102, 20, 169), (102, 21, 170), (102, 22, 171), (102, 24, 172), (102, 25, 173), (102, 26, 174), (102, 27, 175), (102, 28, 176), (102, 29, 177), (102, 30, 178), (102, 31, 179), (102, 32, 180), (102, 33, 181), (102, 34, 182), (103, 7, 104), (103, 8, 105), (103, 9, 106), (103, 10, 107), (103, 11, 108), (103, 12, 109), (103, 13, 110), (103, 14, 111), (103, 15, 112), (103, 16, 113), (103, 17, 114), (103, 18, 115), (103, 19, 116), (103, 20, 117), (103, 21, 118), (103, 22, 119), (103, 23, 120), (103, 24, 121), (103, 25, 122), (103, 26, 123), (103, 27, 124), (103, 28, 125), (103, 29, 126), (103, 30, 127), (103, 31, 128), (103, 32, 129), (103, 33, 130), (131, 7, 132), (131, 8, 133), (131, 9, 134), (131, 10, 135), (131, 11, 136), (131, 12, 137), (131, 13, 138), (131, 14, 139), (131, 15, 140), (131, 16, 141), (131, 17, 142), (131, 18, 143), (131, 19, 144), (131, 20, 145), (131, 21, 146), (131, 22, 147), (131, 23, 148), (131, 24, 149), (131, 25, 150), (131, 26, 151), (131, 27, 152), (131, 28, 153), (131, 29, 154), (131, 30, 155), (131, 31, 156), (131, 32, 157), (131, 33, 158)]
def q_pok (p : Nat) : Prop := p = 7 ∨ p = 42
def q_qok (q : Nat) : Prop := q = 103 ∨ q = 131
def q_aNb (S : QS) (p : Nat) : Bool := decide (S.2.2.2 78 1 = p ∧ S.2.2.2 78 2 = p + 1 ∧ S.2.2.2 78 3 = p + 10)
def q_aHb (S : QS) (p : Nat) : Bool := decide (S.2.2.2 81 0 = p ∧ S.2.2.2 81 1 = p + 10)
def q_aFb (S : QS) (p : Nat) : Bool := decide (S.2.2.2 84 0 = p ∧ S.2.2.2 84 1 = p + 1 ∧ S.2.2.2 84 2 = p + 10)
def q_okO (S : QS) (pp ps : Nat) : Bool := decide (S.1 = q_SH ∧ (∀ x ∈ q_WL, S.2.2.2 x.1 x.2.1 = x.2.2) ∧ S.2.2.2 0 9 = pp ∧ S.2.2.2 0 10 = ps)
def q_okL (S : QS) (pp ps q qs : Nat) : Bool := decide (S.1 = q_SH ∧ (∀ x ∈ q_WL, S.2.2.2 x.1 x.2.1 = x.2.2) ∧ (pp = 7 ∨ pp = 42) ∧ (ps = 7 ∨ ps = 42) ∧ (q = 103 ∨ q = 131) ∧ (qs = 103 ∨ qs = 131) ∧ (S.2.2.2 0 9 = pp ∧ S.2.2.2 0 10 = ps) ∧ S.2.2.2 102 0 = q ∧ S.2.2.2 102 1 = qs)
/-! ===== String constants: length and charAt ===== -/
def q_fs (r : Nat) : Option ((String × Nat × String × List Int32) × Nat) := q_strs.zipIdx.find? (fun x => 1000000 + 2 * x.2 == r)
def q_sb (r : Nat) : List Int32 := match q_fs r with
  | some x => x.1.2.2.2
  | none => []
def q_isS (r : Nat) : Bool := (q_fs r).isSome
def fJ0_length (r : Nat) : Option Int32 := if q_isS r = true then some (nI (q_sb r).length) else none
def fJ0_charAt (r : Nat) (i : Int32) : Option Int32 := if q_isS r = true then if q_inb i (q_sb r).length = true then some ((q_sb r).getD i.toNatClampNeg 0) else none else none
