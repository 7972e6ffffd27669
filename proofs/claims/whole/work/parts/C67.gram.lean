/-! ===== the grammar, as a machine over tokens ===== -/
abbrev ZT := Nat × (Nat → Int32) × (Nat → Nat) × (Nat → Nat)
def e_mark (g : ZT) (t : Nat) (m : Int32) : Bool := k_mark g.1 g.2.1 g.2.2.1 t m
def e_word (g : ZT) (t : Nat) (bs : List Int32) : Bool := k_word g.1 g.2.1 g.2.2.1 g.2.2.2 t bs
def e_nam (g : ZT) (t : Nat) (f : Int32) : Bool := k_nam g.1 g.2.1 g.2.2.1 g.2.2.2 t f
def e_typ (g : ZT) (t : Nat) : Bool := k_typ g.1 g.2.1 g.2.2.1 g.2.2.2 t
def e_ref (g : ZT) (t : Nat) : Bool := k_ref g.1 g.2.1 g.2.2.1 g.2.2.2 t
def e_num (g : ZT) (t : Nat) : Bool := k_num g.1 g.2.1 g.2.2.1 g.2.2.2 t
def z_C (C : QS) (n : Nat) (g : ZT) : Prop := z_cX C n g.1 g.2.1 g.2.2.1 g.2.2.2
def z_D (D : QS) (n : Nat) (g : ZT) : Prop := z_dX D n g.1 g.2.1 g.2.2.1 g.2.2.2
def z_G (n : Nat) (g : ZT) : Prop := z_gX n g.1 g.2.1 g.2.2.1 g.2.2.2
def z_words : List (List Int32) := [[112, 117, 115, 104], [110, 117, 108, 108], [108, 111, 97, 100], [115, 116, 111, 114, 101], [105, 110, 99], [100, 117, 112], [112, 111, 112], [115, 119, 97, 112], [97, 100, 100], [115, 117, 98], [109, 117, 108], [100, 105, 118], [114, 101, 109], [97, 110, 100], [111, 114], [120, 111, 114], [115, 104, 108], [115, 104, 114], [110, 101, 103], [103, 111, 116, 111], [101, 113], [110, 101], [108, 116], [108, 101], [103, 116], [103, 101], [105, 115, 110, 117, 108, 108], [110, 111, 116, 110, 117, 108, 108], [115, 97, 109, 101], [111, 116, 104, 101, 114], [110, 101, 119], [97, 114, 114, 97, 121], [108, 101, 110, 103, 116, 104], [97, 108, 111, 97, 100], [97, 115, 116, 111, 114, 101], [103, 101, 116], [112, 117, 116], [99, 97, 115, 116], [105, 115], [99, 97, 108, 108], [115, 101, 110, 100], [116, 104, 114, 111, 119], [103, 105, 118, 101], [98, 97, 99, 107], [114, 101, 97, 100], [119, 114, 105, 116, 101]]
def z_names : List (List Int32) := [[79, 98, 106, 101, 99, 116], [69, 114, 114, 111, 114], [78, 117, 108, 108, 69, 114, 114, 111, 114], [73, 110, 100, 101, 120, 69, 114, 114, 111, 114], [83, 105, 122, 101, 69, 114, 114, 111, 114], [68, 105, 118, 105, 100, 101, 69, 114, 114, 111, 114], [67, 97, 115, 116, 69, 114, 114, 111, 114], [83, 116, 111, 114, 101, 69, 114, 114, 111, 114]]
/-- the number of a token's word among the instructions, or -1 -/
def e_op (g : ZT) (t : Nat) : Int32 := z_wi g.2.1 (g.2.2.1 t) (g.2.2.2 t) z_words 0
def w_class : List Int32 := [99, 108, 97, 115, 115]
def w_of : List Int32 := [111, 102]
def w_none : List Int32 := [110, 111, 110, 101]
def w_int : List Int32 := [105, 110, 116]
def w_field : List Int32 := [102, 105, 101, 108, 100]
def w_static : List Int32 := [115, 116, 97, 116, 105, 99]
def w_method : List Int32 := [109, 101, 116, 104, 111, 100]
def w_catch : List Int32 := [99, 97, 116, 99, 104]
/-- does a token fit a part of what must follow -/
def e_okp (g : ZT) (t : Nat) (c : Int32) : Bool :=
  if c = 67 then e_nam g t 65
  else if c = 69 then e_nam g t 65 || e_word g t w_int
  else if c = 70 then e_ref g t
  else if c = 78 then e_num g t
  else if c = 80 then true
  else if c = 82 then e_typ g t || e_word g t w_none
  else if c = 84 then e_typ g t
  else if c = 89 then e_typ g t && !e_word g t w_int
  else if c = 110 then e_nam g t 97
  else if c = 111 then e_word g t w_of
  else e_mark g t c
def e_ops (op : Int32) : List Int32 :=
  if op = 0 ∨ op = 2 ∨ op = 3 then [78]
  else if op = 4 then [78, 78]
  else if op = 30 then [67]
  else if op = 31 then [69]
  else if op = 35 ∨ op = 36 ∨ op = 39 ∨ op = 40 then [70]
  else if op = 37 ∨ op = 38 then [89]
  else if op < 19 then []
  else if 29 < op then [] else [110]
/-- how a line begins: (is it right, its kind, what must follow) -/
def e_line (g : ZT) (t : Nat) : Bool × Int32 × List Int32 :=
  if e_mark g (t + 1) 58 = true then (e_nam g t 97, 47, [58])
  else if e_word g t w_catch = true then (e_nam g t 97, 46, [110, 110, 110, 67])
  else if e_nam g t 97 = true ∧ e_op g t ≠ -1 then (true, e_op g t, e_ops (e_op g t))
  else (e_nam g t 97, 47, [58])
def e_mem (g : ZT) (t : Nat) : Bool × Int32 × List Int32 :=
  if e_word g t w_field = true then (true, 49, [110, 84])
  else if e_word g t w_static = true then (true, 50, [110, 40, 80, 82, 78, 123])
  else (e_word g t w_method, 51, [110, 40, 80, 82, 78, 123])
/-- a token in a state (how many open, what must follow): is it right, its kind, the state behind it -/
def e_step (g : ZT) (t : Nat) (s : Nat × List Int32) : Bool × Int32 × Nat × List Int32 :=
  match s.2 with
  | c :: cs => if c = 80 ∧ e_mark g t 41 = false then (e_typ g t, 53, s.1, c :: cs) else (e_okp g t c, 53, s.1 + (if c = 123 then 1 else 0), cs)
  | [] => if 0 < s.1 ∧ e_mark g t 125 = true then (true, (if s.1 = 2 then 52 else 53), s.1 - 1, [])
    else if s.1 = 0 then (e_word g t w_class, 48, 0, [67, 111, 67, 123])
    else if s.1 = 1 then ((e_mem g t).1, (e_mem g t).2.1, 1, (e_mem g t).2.2)
    else ((e_line g t).1, (e_line g t).2.1, s.1, (e_line g t).2.2)
/-- the first token that is wrong, m tokens being left -/
def e_run (g : ZT) : Nat → Nat → Nat × List Int32 → Option Nat
  | 0, t, s => if s.1 = 0 ∧ s.2 = [] then none else some t
  | m + 1, t, s => if (e_step g t s).1 = true then e_run g m (t + 1) (e_step g t s).2.2 else some t
/-- the state ahead of a token -/
def e_st (g : ZT) : Nat → Nat × List Int32
  | 0 => (0, [])
  | t + 1 => (e_step g t (e_st g t)).2.2
def e_kind (g : ZT) (t : Nat) : Int32 := (e_step g t (e_st g t)).2.1
theorem z_C.fr {C C' : QS} {n : Nat} {g : ZT} (h : z_C C n g) (hf : ∀ o j, o = 2 ∨ o = 3 ∨ o = 4 ∨ o = 5 → C'.2.1 o j = C.2.1 o j) : z_C C' n g := by
  obtain ⟨h1, h2, h3, h4⟩ := h
  refine ⟨by rw [hf _ _ (by decide)]; exact h1, by rw [hf _ _ (by decide)]; exact h2, fun k hk => by rw [hf _ _ (by decide)]; exact h3 k hk, fun t ht => by rw [hf _ _ (by decide), hf _ _ (by decide)]; exact h4 t ht⟩
theorem z_C.sI {C : QS} {n : Nat} {g : ZT} (h : z_C C n g) {o j : Nat} {v : Int32} (ho : o ≠ 2 ∧ o ≠ 3 ∧ o ≠ 4 ∧ o ≠ 5) : z_C (q_sI C o j v) n g := by
  refine h.fr (fun o' j' hh => ?_)
  rw [q_sI_I, if_neg]
  rintro ⟨rfl, -⟩
  omega
theorem z_C.sR {C : QS} {n : Nat} {g : ZT} (h : z_C C n g) {o j r : Nat} : z_C (q_sR C o j r) n g := h
theorem z_D.fr {D D' : QS} {n : Nat} {g : ZT} (h : z_D D n g) (hf : ∀ o j, (o = 102 ∧ j = 7) ∨ (o = 102 ∧ j = 10) ∨ o = 160 ∨ o = 161 ∨ o = 162 → D'.2.1 o j = D.2.1 o j) : z_D D' n g := by
  obtain ⟨h1, h2, h3, h4⟩ := h
  refine ⟨by rw [hf _ _ (by decide)]; exact h1, by rw [hf _ _ (by decide)]; exact h2, fun k hk => by rw [hf _ _ (by simp)]; exact h3 k hk, fun t ht => by rw [hf _ _ (by simp), hf _ _ (by simp)]; exact h4 t ht⟩
theorem z_D.sI {D : QS} {n : Nat} {g : ZT} (h : z_D D n g) {o j : Nat} {v : Int32} (ho : ¬ (o = 102 ∧ j = 7) ∧ ¬ (o = 102 ∧ j = 10) ∧ o ≠ 160 ∧ o ≠ 161 ∧ o ≠ 162) : z_D (q_sI D o j v) n g := by
  refine h.fr (fun o' j' hh => ?_)
  rw [q_sI_I, if_neg]
  rintro ⟨rfl, rfl⟩
  omega
theorem z_sOf : z_S 1000006 w_of := ⟨by decide +kernel, by decide +kernel, by decide⟩
theorem z_sNone : z_S 1000008 w_none := ⟨by decide +kernel, by decide +kernel, by decide⟩
theorem z_sInt5 : z_S 1000010 w_int := ⟨by decide +kernel, by decide +kernel, by decide⟩
theorem z_sP12 : z_S 1000012 [67, 111, 67, 123] := ⟨by decide +kernel, by decide +kernel, by decide⟩
theorem z_sClass : z_S 1000014 w_class := ⟨by decide +kernel, by decide +kernel, by decide⟩
theorem z_sField : z_S 1000016 w_field := ⟨by decide +kernel, by decide +kernel, by decide⟩
theorem z_sP18 : z_S 1000018 [110, 84] := ⟨by decide +kernel, by decide +kernel, by decide⟩
theorem z_sStatic : z_S 1000020 w_static := ⟨by decide +kernel, by decide +kernel, by decide⟩
theorem z_sP22 : z_S 1000022 [110, 40, 80, 82, 78, 123] := ⟨by decide +kernel, by decide +kernel, by decide⟩
theorem z_sMethod : z_S 1000024 w_method := ⟨by decide +kernel, by decide +kernel, by decide⟩
theorem z_sIns : z_S 1000026 (z_join z_words) := ⟨by decide +kernel, by decide +kernel, by decide +kernel⟩
theorem z_sCatch : z_S 1000028 w_catch := ⟨by decide +kernel, by decide +kernel, by decide⟩
theorem z_sP30 : z_S 1000030 [58] := ⟨by decide +kernel, by decide +kernel, by decide⟩
theorem z_sP32 : z_S 1000032 [110, 110, 110, 67] := ⟨by decide +kernel, by decide +kernel, by decide⟩
theorem z_sP34 : z_S 1000034 [78] := ⟨by decide +kernel, by decide +kernel, by decide⟩
theorem z_sP36 : z_S 1000036 [78, 78] := ⟨by decide +kernel, by decide +kernel, by decide⟩
theorem z_sP38 : z_S 1000038 [67] := ⟨by decide +kernel, by decide +kernel, by decide⟩
theorem z_sP40 : z_S 1000040 [69] := ⟨by decide +kernel, by decide +kernel, by decide⟩
theorem z_sP42 : z_S 1000042 [70] := ⟨by decide +kernel, by decide +kernel, by decide⟩
theorem z_sP44 : z_S 1000044 [89] := ⟨by decide +kernel, by decide +kernel, by decide⟩
theorem z_sP46 : z_S 1000046 [110] := ⟨by decide +kernel, by decide +kernel, by decide⟩
theorem z_sP0 : z_S 1000000 [] := ⟨by decide +kernel, by decide +kernel, by decide⟩
theorem z_wordsOk : z_words.all z_nsp = true := by decide +kernel
section ZSYN
variable {C : QS} {n : Nat} {g : ZT}
theorem z_takes28 {t d l : Nat} {c : Int32} (hC : z_C C n g) (hG : z_G n g) (ht : t < 2147483648) (hd : C.2.1 77 2 = nI d) (hl : C.2.1 77 3 = nI l) : fX7_takesPart_28 C (nI t) c = some (e_okp g t c, q_sI (q_sI C 77 2 (nI (d + 1))) 77 3 (nI (l + (if c = 123 then 1 else 0)))) := by
  have e1 : (q_sI C 77 2 (nI (d + 1))).2.1 77 3 = nI l := by simp [q_sI_I, hl]
  have eb : (if c = (123 : Int32) then some true else some false) = some (decide (c = 123)) := by by_cases q : c = 123 <;> simp [q]
  have e2 : nI l + q_b (decide (c = 123)) = nI (l + (if c = 123 then 1 else 0)) := by
    by_cases q : c = 123
    · rw [decide_eq_true q, if_pos q]; exact nI_1 l
    · rw [decide_eq_false q, if_neg q, show q_b false = nI 0 from rfl, nI_add]
  simp only [fX7_takesPart_28, hd, nI_1, Option.bind_some, e1, eb, e2]
  generalize hC' : q_sI (q_sI C 77 2 (nI (d + 1))) 77 3 (nI (l + (if c = 123 then 1 else 0))) = C'
  have h5 : z_C C' n g := by rw [← hC']; exact (hC.sI (by decide)).sI (by decide)
  simp only [z_isClassName h5 hG ht, z_isWord h5 hG z_sInt5 ht, z_isReference h5 hG ht, z_isNumber h5 hG ht, z_isType h5 hG ht, z_isWord h5 hG z_sNone ht, z_isName h5 hG ht, z_isWord h5 hG z_sOf ht, z_isMark h5 hG ht, Option.bind_some, e_okp]
  show _ = some (_, C')
  simp only [e_nam, e_word, e_ref, e_num, e_typ, e_mark]
  by_cases c1 : c = 67
  · simp only [if_pos c1]
  simp only [if_neg c1]
  by_cases c2 : c = 69
  · simp only [if_pos c2]
    cases k_nam g.1 g.2.1 g.2.2.1 g.2.2.2 t 65 <;> cases k_word g.1 g.2.1 g.2.2.1 g.2.2.2 t w_int <;> rfl
  simp only [if_neg c2]
  by_cases c3 : c = 70
  · simp only [if_pos c3]
  simp only [if_neg c3]
  by_cases c4 : c = 78
  · simp only [if_pos c4]
  simp only [if_neg c4]
  by_cases c5 : c = 80
  · simp only [if_pos c5]
  simp only [if_neg c5]
  by_cases c6 : c = 82
  · simp only [if_pos c6]
    cases k_typ g.1 g.2.1 g.2.2.1 g.2.2.2 t <;> cases k_word g.1 g.2.1 g.2.2.1 g.2.2.2 t w_none <;> rfl
  simp only [if_neg c6]
  by_cases c7 : c = 84
  · simp only [if_pos c7]
  simp only [if_neg c7]
  by_cases c8 : c = 89
  · simp only [if_pos c8]
    cases k_typ g.1 g.2.1 g.2.2.1 g.2.2.2 t <;> cases k_word g.1 g.2.1 g.2.2.1 g.2.2.2 t w_int <;> rfl
  simp only [if_neg c8]
  by_cases c9 : c = 110
  · simp only [if_pos c9]
  simp only [if_neg c9]
  by_cases c10 : c = 111
  · simp only [if_pos c10]
  simp only [if_neg c10]
end ZSYN
