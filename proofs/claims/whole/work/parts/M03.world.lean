/-! ===== the q_ layer: the whole heap that the law makes, as ONE memory. Objects and arrays are numbered in the order of their making: number k lies at the address base + k. ===== -/
/-- launch, base, classes' numbers and slots, array classes, addresses of the constants, the script -/
abbrev QG : Type := Launch × Nat × va_G × (Nat → ClassId) × (Nat → Nat) × Nat × (Nat → Int32)
/-- a method: name, bytes, locals, answer -/
abbrev QM : Type := MethodName × ByteArray × Nat × Option FieldType
def q_cl : List vw_C := [(RX0, TX0, 10), (RX1, TX1, 14), (RX2, TX2, 7), (RX3, TX3, 5), (RX4, TX4, 9), (RX5, TX5, 17), (RX6, TX6, 19), (RX7, TX7, 4), (RX8, TX8, 6), (RX9, TX9, 8), (RX10, TX10, 13), (RX11, TX11, 34), (RX12, TX12, 46)]
def q_tyl : List (Nat → FieldType) := [tyX0, tyX1, tyX2, tyX3, tyX4, tyX5, tyX6, tyX7, tyX8, tyX9, tyX10, tyX11, tyX12]
def q_ty (ci : Nat) : Nat → FieldType := q_tyl.getD ci (fun _ => .int)
def q_nfl : List Nat := [10, 14, 7, 5, 9, 17, 19, 4, 6, 8, 13, 34, 46]
def q_nf (ci : Nat) : Nat := q_nfl.getD ci 0
def q_isR (t : FieldType) : Bool := match t with
  | .object _ => true
  | .array _ => true
  | _ => false
/-- the reference number k: an object of ours, null, a constant -/
def q_ro (g : QG) (k : Nat) : Option Nat := if k < 1000000 then some (g.2.1 + k) else if k = 2000000 then none else some (g.2.2.2.2.1 (k - 1000000))
def q_rv (g : QG) (v : Value) : Value := match v with
  | .ref k => va_rf (q_ro g k)
  | v => v
def q_fv (g : QG) (S : QS) (k ci j : Nat) : Value := if q_isR (q_ty ci j) then va_rf (q_ro g (S.2.2.2 k j)) else .int (S.2.1 k j)
def q_e (g : QG) (S : QS) (k : Nat) (sp : QSp) : va_E := match sp with
  | .inl ci => .inr (ci, (List.range (q_nf ci)).map (q_fv g S k ci))
  | .inr (t, n) => .inl (g.2.2.2.1 t, n, if t = 2 then .inr (.inl (S.2.2.1 k)) else .inl (S.2.1 k))
def q_w (g : QG) (S : QS) : va_W := S.1.mapIdx (fun k sp => (g.2.1 + k, q_e g S k sp))
def q_tys (g : QG) : List (ClassId × FieldType) := [(g.2.2.2.1 0, .int), (g.2.2.2.1 1, .byte), (g.2.2.2.1 2, .long), (g.2.2.2.1 3, .boolean)]
def q_A (g : QG) : Nat → Prop := fun q => g.2.1 ≤ q
/-- the words that stay -/
def q_ok (w : Cond) : Bool := goodWord w || match w with
  | .fieldLinkNest .. => true
  | .methodLinkNest .. => true
  | _ => false
def q_T : List Cond := lw_tbl.filter q_ok
def q_wds (U : State) : Prop := ∀ w ∈ q_T, w.before #[] U = true
/-- the constants: Strings with their bytes, the two tables, the script -/
def q_con (g : QG) (U : State) (H : Heap) : Prop :=
  (∀ (j : Nat) (own : String) (k : Nat) (tx : String) (bs : List Int32), q_strs[j]? = some (own, k, tx, bs) → vk_R own k tx (g.2.2.2.2.1 (2 * j)) U ∧ va_O "java/lang/String" (g.2.2.2.2.1 (2 * j)) (q_A g) U H ∧ va_OF "java/lang/String" "coder" "B" (.int 0) (g.2.2.2.2.1 (2 * j)) (q_A g) U H ∧ va_OF "java/lang/String" "value" "[B" (.ref (g.2.2.2.2.1 (2 * j + 1))) (g.2.2.2.2.1 (2 * j)) (q_A g) U H ∧ va_T .byte (g.2.2.2.2.1 (2 * j + 1)) bs.length (fun i => .int (bs.getD i 0)) (q_A g) U H) ∧
  (∀ (j : Nat) (nm : String) (vs : List Int32), q_stat[j]? = some (nm, vs) → va_Z "ObjectMachine" nm "[I" (.ref (g.2.2.2.2.1 (200 + j))) (q_A g) U H ∧ va_T .int (g.2.2.2.2.1 (200 + j)) vs.length (fun i => .int (vs.getD i 0)) (q_A g) U H) ∧
  va_Z "java/lang/String" "COMPACT_STRINGS" "Z" (.int 1) (q_A g) U H ∧
  va_T .int (g.2.2.2.2.1 300) g.2.2.2.2.2.1 (fun i => .int (g.2.2.2.2.2.2 i)) (q_A g) U H ∧
  ∃ r : Nat, va_Z "jdk/internal/util/Preconditions" "SIOOBE_FORMATTER" "Ljava/util/function/BiFunction;" (q_rv g (.ref r)) (q_A g) U H
def q_B (g : QG) (U : State) (H : Heap) : Prop := q_wds U ∧ va_K g.2.2.1 q_cl (q_tys g) U ∧ q_con g U H
/-- what a walk of method M stands on -/
def q_C (g : QG) (M : QM) (p : Program) (s : State) (m : MethodId) (meth : Method) (c : Code) : Prop :=
  p.tables.exec = Jvm.exec ∧ c.code = M.2.1 ∧ c.maxLocals = M.2.2.1 ∧ meth.sig.returnType = M.2.2.2 ∧ meth.locks = false ∧ s.vm.findClass M.1.cls = some m.cls ∧ meth.name = M.1.name ∧ q_B g s s.heap
def q_room (d K N : Nat) : Room := { frames := d, cells := K, slots := N, locals := 40 * d }
/-- the memory S lies in the heap H -/
def q_P (g : QG) (S : QS) (H : Heap) : Prop := S.1.length ≤ 1000000 ∧ H.size = g.2.1 + S.1.length ∧ va_P g.2.2.1 q_cl (q_w g S) H
def q_Q (g : QG) (K : Nat) (Q : Option Value → QS → Prop) : Array Value → State → Outcome → State → Prop := fun _ st oc t =>
  ∃ (r : Option Value) (S : QS), oc = .returned (r.map (q_rv g)) ∧ Q r S ∧ q_P g S t.heap ∧ va_F (q_A g) st t ∧ t.heap.size = st.heap.size + K
def q_lv (g : QG) (lv : List (Nat × Value)) : List (Nat × Value) := lv.map (fun q => (q.1, q_rv g q.2))
/-- from pc, with these locals, this stack and this memory, method M ends, with Q of its answer and the memory then; it may go d calls deep, makes K cells of N slots in all, k and n of them up to here -/
def q_L (g : QG) (M : QM) (d K N : Nat) (Q : Option Value → QS → Prop) (k n pc : Nat) (lv : List (Nat × Value)) (st : List Value) (S : QS) : Prop :=
  ∀ (p : Program) (e : Env) (s : State) (m : MethodId) (args : Array Value) (below : List Frame) (meth : Method) (c : Code) (H : Heap) (locs : List Loc) (ls : Array Slot),
    q_C g M p s m meth c → q_P g S H → va_S (q_A g) s.heap H locs → g.2.1 ≤ s.heap.size ∧ H.size = s.heap.size + k → lv_has ls M.2.2.1 (q_lv g lv) →
    W p g.1 e (q_room d K N) s m args below meth c H locs k n (MQ below (q_Q g K Q) args s K N (q_A g)) (F0 m pc ls (st.map (q_rv g)))
/-- a call of M with these arguments -/
def q_M (g : QG) (M : QM) (d K N : Nat) (As : List Value) (S : QS) (Q : Option Value → QS → Prop) : Prop := q_L g M d K N Q 0 0 0 (lv_args 0 As) [] S
/-! ===== lists ===== -/
theorem q_w_at {g : QG} {S : QS} {k : Nat} {sp : QSp} (h : S.1[k]? = some sp) : (q_w g S)[k]? = some (g.2.1 + k, q_e g S k sp) := by
  simp [q_w, List.getElem?_mapIdx, h]
theorem q_w_of {g : QG} {S : QS} {k : Nat} {x : Nat × va_E} (h : (q_w g S)[k]? = some x) : ∃ sp, S.1[k]? = some sp ∧ x = (g.2.1 + k, q_e g S k sp) := by
  rw [q_w, List.getElem?_mapIdx] at h
  cases hs : S.1[k]? with
  | none => rw [hs] at h; cases h
  | some sp => rw [hs] at h; exact ⟨sp, rfl, (Option.some.inj h).symm⟩
theorem q_w_D (g : QG) (S : QS) : va_D (q_A g) (q_w g S) := by
  refine ⟨fun i j p q hi hj e => ?_, fun k q hk => ?_⟩
  · obtain ⟨_, _, rfl⟩ := q_w_of hi
    obtain ⟨_, _, rfl⟩ := q_w_of hj
    exact Nat.add_left_cancel e
  · obtain ⟨_, _, rfl⟩ := q_w_of hk
    exact Nat.le_add_right _ _
theorem q_e_congr {g : QG} {S S' : QS} {k : Nat} (h1 : S'.2.1 k = S.2.1 k) (h2 : S'.2.2.1 k = S.2.2.1 k) (h3 : S'.2.2.2 k = S.2.2.2 k) (sp : QSp) : q_e g S' k sp = q_e g S k sp := by
  rcases sp with ci | ⟨t, n⟩
  · have : q_fv g S' k ci = q_fv g S k ci := by
      funext j
      simp only [q_fv, h1, h3]
    simp only [q_e, this]
  · simp only [q_e, h1, h2]
theorem q_w_set {g : QG} {S S' : QS} {k : Nat} {sp : QSp} (hs : S'.1 = S.1) (hk : S.1[k]? = some sp) (h : ∀ j, j ≠ k → S'.2.1 j = S.2.1 j ∧ S'.2.2.1 j = S.2.2.1 j ∧ S'.2.2.2 j = S.2.2.2 j) : (q_w g S).set k (g.2.1 + k, q_e g S' k sp) = q_w g S' := by
  apply List.ext_getElem?
  intro j
  by_cases hj : j = k
  · subst hj
    have hl : j < (q_w g S).length := by
      rw [q_w, List.length_mapIdx]
      exact (List.getElem?_eq_some_iff.mp hk).1
    rw [List.getElem?_set_self hl, q_w_at (g := g) (S := S') (by rw [hs]; exact hk)]
  · rw [List.getElem?_set_ne (Ne.symm hj), q_w, q_w, List.getElem?_mapIdx, List.getElem?_mapIdx, hs]
    cases S.1[j]? with
    | none => rfl
    | some x => simp only [Option.map_some, q_e_congr (h j hj).1 (h j hj).2.1 (h j hj).2.2]
theorem q_ro_lt {g : QG} {k : Nat} (h : k < 1000000) : q_ro g k = some (g.2.1 + k) := by simp [q_ro, h]
theorem q_rv_lt {g : QG} {k : Nat} (h : k < 1000000) : q_rv g (.ref k) = .ref (g.2.1 + k) := by simp [q_rv, q_ro_lt h, va_rf]
theorem q_rv_con {g : QG} (k : Nat) (h : k < 1000000) : q_rv g (.ref (1000000 + k)) = .ref (g.2.2.2.2.1 k) := by
  have h1 : ¬ 1000000 + k < 1000000 := by omega
  have h2 : ¬ 1000000 + k = 2000000 := by omega
  have h3 : 1000000 + k - 1000000 = k := by omega
  simp only [q_rv, q_ro, if_neg h1, if_neg h2, h3, va_rf]
theorem q_rv_cat (g : QG) (v : Value) : (q_rv g v).category = v.category := by
  cases v with
  | ref k =>
    simp only [q_rv]
    cases q_ro g k <;> rfl
  | _ => rfl
theorem q_rv_isref (g : QG) (k : Nat) : q_rv g (.ref k) = .null ∨ ∃ a, q_rv g (.ref k) = .ref a := by
  simp only [q_rv]
  cases q_ro g k with
  | none => exact Or.inl rfl
  | some a => exact Or.inr ⟨a, rfl⟩
theorem q_P.lt {g : QG} {S : QS} {H : Heap} (h : q_P g S H) {k : Nat} {sp : QSp} (hk : S.1[k]? = some sp) : k < 1000000 := Nat.lt_of_lt_of_le (List.getElem?_eq_some_iff.mp hk).1 h.1
theorem q_ty_at (g : QG) (t : Nat) (h : t < 4) : (q_tys g)[t]? = some (g.2.2.2.1 t, q_et t) := by
  match t, h with
  | 0, _ => rfl
  | 1, _ => rfl
  | 2, _ => rfl
  | 3, _ => rfl
theorem q_lv_at {g : QG} {lv : List (Nat × Value)} {ls : Array Slot} {n j i : Nat} {v : Value} (h : lv_has ls n (q_lv g lv)) (hj : lv[j]? = some (i, v)) : ls[i]? = some (.val (q_rv g v)) :=
  lv_at h j (by rw [q_lv, List.getElem?_map, hj]; rfl)
theorem q_lv_args (g : QG) : ∀ (As : List Value) (i : Nat), lv_args i (As.map (q_rv g)) = q_lv g (lv_args i As)
  | [], _ => rfl
  | v :: vs, i => by
    show (i, q_rv g v) :: lv_args (if (q_rv g v).category = 2 then i + 2 else i + 1) (vs.map (q_rv g)) = _
    rw [q_rv_cat, q_lv_args g vs]
    rfl
/-! ===== words ===== -/
theorem q_in {big : List Cond} (ws : List Cond) (ps : List Nat) (hp : ws = ps.filterMap (fun i => big[i]?)) : ∀ w ∈ ws, w ∈ big := by
  intro w hw
  rw [hp] at hw
  obtain ⟨i, -, hi⟩ := List.mem_filterMap.mp hw
  exact List.mem_of_getElem? hi
theorem q_inT {w : Cond} (h : w ∈ lw_tbl) (ho : q_ok w = true) : w ∈ q_T := List.mem_filter.mpr ⟨h, ho⟩
theorem q_at {w : Cond} (i : Nat) (h : tables_1[i]? = some w) (ho : q_ok w = true) : w ∈ q_T := q_inT (List.mem_append_right _ (List.mem_of_getElem? h)) ho
theorem q_word {w : Cond} (hok : q_ok w = true) {args a' : Array Value} {s U : State} (hW : s.WarmedH U.vm) (h : w.before args s = true) : w.before a' U = true := by
  by_cases hg : goodWord w = true
  · exact word_at hW (good_of_word hg) h
  · cases w with
    | fieldLinkNest a i b n d x => exact va_Nw.use rfl (va_Nw.warmF hW (va_Nw.of rfl h))
    | methodLinkNest a i x y => exact va_Nw.use rfl (va_Nw.warmM hW (va_Nw.of rfl h))
    | _ => simp_all [q_ok]
theorem q_wds.warm {s U : State} (hW : s.WarmedH U.vm) (h : q_wds s) : q_wds U := fun w hw => q_word (List.mem_filter.mp hw).2 hW (h w hw)
theorem q_wds.use {s : State} (h : q_wds s) (args : Array Value) : ∀ w ∈ q_T, w.before args s = true := fun w hw => q_word (List.mem_filter.mp hw).2 (State.WarmedH.refl s) (h w hw)
theorem q_con.warm {g : QG} {s U : State} {H : Heap} (hW : s.WarmedH U.vm) (h : q_con g s H) : q_con g U H :=
  ⟨fun j own k tx bs hj => ⟨vk_R.warm hW (h.1 j own k tx bs hj).1, va_O.moved hW.alike (h.1 j own k tx bs hj).2.1, va_OF.moved hW.alike (h.1 j own k tx bs hj).2.2.1, va_OF.moved hW.alike (h.1 j own k tx bs hj).2.2.2.1, va_T.moved hW.alike (h.1 j own k tx bs hj).2.2.2.2⟩,
   fun j nm vs hj => ⟨va_Z.moved hW.alike (h.2.1 j nm vs hj).1, va_T.moved hW.alike (h.2.1 j nm vs hj).2⟩, va_Z.moved hW.alike h.2.2.1, va_T.moved hW.alike h.2.2.2.1, h.2.2.2.2.elim (fun r hr => ⟨r, va_Z.moved hW.alike hr⟩)⟩
theorem q_con.kept {g : QG} {U : State} {H H1 : Heap} (h : q_con g U H) (hq : ∀ a : Nat, a < H.size → ¬ q_A g a → H1[a]? = H[a]?) : q_con g U H1 :=
  ⟨fun j own k tx bs hj => ⟨(h.1 j own k tx bs hj).1, (h.1 j own k tx bs hj).2.1.kept hq, (h.1 j own k tx bs hj).2.2.1.kept hq, (h.1 j own k tx bs hj).2.2.2.1.kept hq, (h.1 j own k tx bs hj).2.2.2.2.kept hq⟩,
   fun j nm vs hj => ⟨(h.2.1 j nm vs hj).1.kept hq, (h.2.1 j nm vs hj).2.kept hq⟩, h.2.2.1.kept hq, h.2.2.2.1.kept hq, h.2.2.2.2.elim (fun r hr => ⟨r, hr.kept hq⟩)⟩
theorem q_B.warm {g : QG} {s U : State} {H : Heap} (hW : s.WarmedH U.vm) (h : q_B g s H) : q_B g U H := ⟨h.1.warm hW, va_K.moved hW.alike h.2.1, h.2.2.warm hW⟩
theorem q_B.kept {g : QG} {U : State} {H H1 : Heap} (h : q_B g U H) (hq : ∀ a : Nat, a < H.size → ¬ q_A g a → H1[a]? = H[a]?) : q_B g U H1 := ⟨h.1, h.2.1, h.2.2.kept hq⟩
