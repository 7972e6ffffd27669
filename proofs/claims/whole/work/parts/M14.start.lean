/-! ===== the law's start: the constants, the classes, the script ===== -/
def q_scT (x : String × Nat × String × List Int32) : Term := .string x.1 x.2.1
def q_scV (x : String × Nat × String × List Int32) : Term := .field (q_scT x) "java/lang/String" "value" "[B"
def q_scW (x : String × Nat × String × List Int32) : List Cond := [.exactly (q_scT x) "java/lang/String", .eq (.field (q_scT x) "java/lang/String" "coder" "B") (.int 0), .arrayOf (q_scV x) .byte, .eq (.length (q_scV x)) (.int (Int32.ofNat x.2.2.2.length))] ++ (List.range x.2.2.2.length).map (fun i => .eq (.elem (q_scV x) (.int (Int32.ofNat i))) (.int (x.2.2.2.getD i 0)))
def q_nse (w : Cond) : Bool := match w with
  | .eq (.string _ _) (.string _ _) => false
  | _ => true
theorem q_scL : (((flatC (Jvm.Cond.and given_1 narrow_1)).drop 107).filter q_nse).take 944 = q_strs.flatMap q_scW := by decide +kernel
theorem q_scIn : ∀ w ∈ q_strs.flatMap q_scW, w ∈ flatC (Jvm.Cond.and given_1 narrow_1) := fun w hw => by
  rw [← q_scL] at hw
  exact List.mem_of_mem_drop (List.mem_filter.mp (List.mem_of_mem_take hw)).1
def q_stT (nm : String) : Term := .static "ObjectMachine" nm "[I"
def q_stW (x : String × List Int32) : List Cond := [.isRef (q_stT x.1), .arrayOf (q_stT x.1) .int, .eq (.length (q_stT x.1)) (.int (Int32.ofNat x.2.length))] ++ (List.range x.2.length).map (fun i => .eq (.elem (q_stT x.1) (.int (Int32.ofNat i))) (.int (x.2.getD i 0)))
theorem q_stL : ((flatC (Jvm.Cond.and given_1 narrow_1)).drop 9).take 98 = q_stat.flatMap q_stW := by decide +kernel
theorem q_stIn : ∀ w ∈ q_stat.flatMap q_stW, w ∈ flatC (Jvm.Cond.and given_1 narrow_1) := fun w hw => by
  rw [← q_stL] at hw
  exact List.mem_of_mem_drop (List.mem_of_mem_take hw)
theorem q_srIn : ∀ w ∈ q_strs.map (fun x => Cond.stringRef x.1 x.2.1 x.2.2.1), w ∈ tables_1 := q_in _ [298, 640, 647, 660, 665, 675, 692, 697, 702, 703, 704, 705, 706, 711, 718, 719, 720, 724, 725, 726, 727, 728, 729, 730, 776, 807, 847, 917, 918, 1570, 1589, 1590, 1591, 1596, 1609, 1610, 1611, 1612, 1613, 1634, 1635, 1640, 1645, 1646, 1667, 1768, 1769] (by decide +kernel)
theorem q_slen : ∀ x ∈ q_strs, x.2.2.2.length < 2 ^ 31 := by decide +kernel
theorem q_tlen : ∀ x ∈ q_stat, x.2.length < 2 ^ 31 := by decide +kernel
theorem q_flC : Cond.eq (.static "java/lang/String" "COMPACT_STRINGS" "Z") (.int 1) ∈ flatC (Jvm.Cond.and given_1 narrow_1) := List.mem_of_getElem? (i := 4) (by decide +kernel)
theorem q_flF : Cond.isRef (.static "jdk/internal/util/Preconditions" "SIOOBE_FORMATTER" "Ljava/util/function/BiFunction;") ∈ flatC (Jvm.Cond.and given_1 narrow_1) := List.mem_of_getElem? (i := 5) (by decide +kernel)
theorem q_lsT : ∀ x ∈ q_stat, Cond.laysStatic "ObjectMachine" x.1 "[I" ∈ tables_1 := by
  have h : ∀ w ∈ q_stat.map (fun x => Cond.laysStatic "ObjectMachine" x.1 "[I"), w ∈ tables_1 := q_in _ [959, 965] (by decide +kernel)
  exact fun x hx => h _ (List.mem_map.mpr ⟨x, hx, rfl⟩)
theorem q_lsC : Cond.laysStatic "java/lang/String" "COMPACT_STRINGS" "Z" ∈ tables_1 := List.mem_of_getElem? (i := 577) (by decide +kernel)
theorem q_lsF : Cond.laysStatic "jdk/internal/util/Preconditions" "SIOOBE_FORMATTER" "Ljava/util/function/BiFunction;" ∈ tables_1 := List.mem_of_getElem? (i := 593) (by decide +kernel)
theorem q_iO : Cond.initialized "ObjectMachine" ∈ tables_1 := List.mem_of_getElem? (i := 1) (by decide +kernel)
theorem q_iS : Cond.initialized "java/lang/String" ∈ tables_1 := List.mem_of_getElem? (i := 14) (by decide +kernel)
theorem q_iP : Cond.initialized "jdk/internal/util/Preconditions" ∈ tables_1 := List.mem_of_getElem? (i := 16) (by decide +kernel)
theorem q_isn : ∀ ci, ci < 13 → Cond.instantiable (q_c0 ci).1 (q_nf ci) ∈ q_T := by
  intro ci h
  match ci, h with
  | 0, _ => exact q_is0
  | 1, _ => exact q_is1
  | 2, _ => exact q_is2
  | 3, _ => exact q_is3
  | 4, _ => exact q_is4
  | 5, _ => exact q_is5
  | 6, _ => exact q_is6
  | 7, _ => exact q_is7
  | 8, _ => exact q_is8
  | 9, _ => exact q_is9
  | 10, _ => exact q_is10
  | 11, _ => exact q_is11
  | 12, _ => exact q_is12
theorem q_acn4 : ∀ t, t < 4 → Cond.arrayClass (q_et t) ∈ q_T := by
  intro t h
  match t, h with
  | 0, _ => exact q_ac0
  | 1, _ => exact q_ac1
  | 2, _ => exact q_ac2
  | 3, _ => exact q_ac3
/-- what the Statement gives at the law's start is what the walk wants -/
theorem q_begin {b L : Nat} {xs : Nat → Int32} {s : State} (l : Launch) (hL : L < 2 ^ 31) (hts : ∀ w ∈ lw_tbl, w.before #[Value.ref b] s = true) (hX : va_X b L xs s s.heap) (hgv : (Jvm.Cond.and given_1 narrow_1).before #[Value.ref b] s = true) :
    ∃ g : QG, g.1 = l ∧ g.2.1 = s.heap.size ∧ q_rv g (.ref 1000300) = .ref b ∧ g.2.2.2.2.2.1 = L ∧ g.2.2.2.2.2.2 = xs ∧ q_B g s s.heap := by
  have hf := flat_of_before _ hgv
  have htq : ∀ w ∈ q_T, w.before #[Value.ref b] s = true := fun w hw => hts w (List.mem_filter.mp hw).1
  have ht1 : ∀ w ∈ tables_1, w.before #[Value.ref b] s = true := fun w hw => hts w (List.mem_append_right _ hw)
  have hA : ∀ a : Nat, a < s.heap.size → ¬ (fun q : Nat => s.heap.size ≤ q) a := fun a h => Nat.not_le.mpr h
  -- classes
  have h1 : ∀ ci : Nat, ∃ y : ClassId × (Nat → Nat), ci < 13 → u_Kn s (q_c0 ci).1 (q_F ci) (q_nf ci) y.1 y.2 := by
    intro ci
    by_cases h : ci < 13
    · obtain ⟨cC, iS, hk⟩ := u_known (C := (q_c0 ci).1) (T := q_F ci) (N := q_nf ci) (n := q_nf ci) htq (q_lays h) (htq _ (q_isn ci h))
      exact ⟨(cC, iS), fun _ => hk⟩
    · exact ⟨(0, fun _ => 0), fun h' => absurd h' h⟩
  obtain ⟨D, hD⟩ := Classical.axiomOfChoice h1
  -- arrays
  have h2 : ∀ t : Nat, ∃ cA : ClassId, t < 4 → ArrOfT s cA (q_et t) ∧ va_RA s cA (q_et t) := by
    intro t
    by_cases h : t < 4
    · obtain ⟨cA, kA, comp, a1, a2, a3⟩ := Cond.arrayClass_spec (args := #[Value.ref b]) (first := s) (o := none) (s := s) (idx := []) (htq _ (q_acn4 t h))
      refine ⟨cA, fun _ => ⟨fun n z => ⟨fun k h => (by cases h), kA, a2, comp, a3⟩, ?_⟩⟩
      match t, h with
      | 0, _ => exact a1
      | 1, _ => exact a1
      | 2, _ => exact a1
      | 3, _ => exact a1
    · exact ⟨0, fun h' => absurd h' h⟩
  obtain ⟨cA, hcA⟩ := Classical.axiomOfChoice h2
  -- texts
  have h3 : ∀ j : Nat, ∃ y : Nat × Nat, ∀ (own : String) (k : Nat) (tx : String) (bs : List Int32), q_strs[j]? = some (own, k, tx, bs) → vk_R own k tx y.1 s ∧ va_O "java/lang/String" y.1 (fun q : Nat => s.heap.size ≤ q) s s.heap ∧ va_OF "java/lang/String" "coder" "B" (.int 0) y.1 (fun q : Nat => s.heap.size ≤ q) s s.heap ∧ va_OF "java/lang/String" "value" "[B" (.ref y.2) y.1 (fun q : Nat => s.heap.size ≤ q) s s.heap ∧ va_T .byte y.2 bs.length (fun i => .int (bs.getD i 0)) (fun q : Nat => s.heap.size ≤ q) s s.heap := by
    intro j
    cases hx : q_strs[j]? with
    | none => exact ⟨(0, 0), fun own k tx bs h => by cases h⟩
    | some x =>
      have hm := List.mem_of_getElem? hx
      have hw : ∀ w ∈ q_scW x, w.before #[Value.ref b] s = true := fun w h => hf w (q_scIn w (List.mem_flatMap.mpr ⟨x, hm, h⟩))
      obtain ⟨a, c, cell, kA, q1, q2, q3, q4, q5, q6, -⟩ := Cond.exactly_spec (args := #[Value.ref b]) (first := s) (o := none) (s := s) (idx := []) (t := q_scT x) (cls := "java/lang/String") (hw (.exactly (q_scT x) "java/lang/String") (by simp [q_scW]))
      obtain ⟨t, ht, hT⟩ := va_Tof (f := fun i => .int (x.2.2.2.getD i 0)) (A := fun q : Nat => s.heap.size ≤ q) (tm := q_scV x) (ty := .byte) (q_slen x hm) (hw (.arrayOf (q_scV x) .byte) (by simp [q_scW])) (va_eqt (hw (.eq (.length (q_scV x)) (.int (Int32.ofNat x.2.2.2.length))) (by simp [q_scW]))) (fun i hi => va_eqt (hw (.eq (.elem (q_scV x) (.int (Int32.ofNat i))) (.int (x.2.2.2.getD i 0))) (List.mem_append_right _ (List.mem_map.mpr ⟨i, List.mem_range.mpr hi, rfl⟩)))) hA
      refine ⟨(a, t), fun own k tx bs h => ?_⟩
      cases h
      exact ⟨vk_R.of (ht1 _ (q_srIn _ (List.mem_map.mpr ⟨_, hm, rfl⟩))) q1, ⟨cell, q3, q5, by rw [q6]; exact q2, hA a (Array.getElem?_eq_some_iff.mp q3).1⟩, vk_OFof q1 (va_eqt (hw (.eq (.field (q_scT (own, k, tx, bs)) "java/lang/String" "coder" "B") (.int 0)) (by simp [q_scW]))) hA, vk_OFof q1 ht hA, hT⟩
  obtain ⟨ys, hys⟩ := Classical.axiomOfChoice h3
  -- tables
  have h4 : ∀ j : Nat, ∃ t : Nat, ∀ (nm : String) (vs : List Int32), q_stat[j]? = some (nm, vs) → va_Z "ObjectMachine" nm "[I" (.ref t) (fun q : Nat => s.heap.size ≤ q) s s.heap ∧ va_T .int t vs.length (fun i => .int (vs.getD i 0)) (fun q : Nat => s.heap.size ≤ q) s s.heap := by
    intro j
    cases hx : q_stat[j]? with
    | none => exact ⟨0, fun nm vs h => by cases h⟩
    | some x =>
      have hm := List.mem_of_getElem? hx
      have hw : ∀ w ∈ q_stW x, w.before #[Value.ref b] s = true := fun w h => hf w (q_stIn w (List.mem_flatMap.mpr ⟨x, hm, h⟩))
      obtain ⟨t, ht, hT⟩ := va_Tof (f := fun i => .int (x.2.getD i 0)) (A := fun q : Nat => s.heap.size ≤ q) (tm := q_stT x.1) (ty := .int) (q_tlen x hm) (hw (.arrayOf (q_stT x.1) .int) (by simp [q_stW])) (va_eqt (hw (.eq (.length (q_stT x.1)) (.int (Int32.ofNat x.2.length))) (by simp [q_stW]))) (fun i hi => va_eqt (hw (.eq (.elem (q_stT x.1) (.int (Int32.ofNat i))) (.int (x.2.getD i 0))) (List.mem_append_right _ (List.mem_map.mpr ⟨i, List.mem_range.mpr hi, rfl⟩)))) hA
      refine ⟨t, fun nm vs h => ?_⟩
      cases h
      exact ⟨va_Zref (ht1 _ (q_lsT _ hm)) (ht1 _ q_iO) ht hA, hT⟩
  obtain ⟨zs, hzs⟩ := Classical.axiomOfChoice h4
  have h5 : va_Z "java/lang/String" "COMPACT_STRINGS" "Z" (.int 1) (fun q : Nat => s.heap.size ≤ q) s s.heap := va_Zof (ht1 _ q_lsC) (ht1 _ q_iS) (va_eqi (hf _ q_flC)) hA
  have h6 : va_T .int b L (fun i => .int (xs i)) (fun q : Nat => s.heap.size ≤ q) s s.heap := by
    obtain ⟨scr, a1, a2, a3, a4, a5⟩ := hX
    exact ⟨scr, a1, a2, a3, by omega, by first | (rw [a4]; done) | (rw [a4]; rfl), a5, hA b (Array.getElem?_eq_some_iff.mp a1).1⟩
  have h7 : ∃ t : Nat, va_Z "jdk/internal/util/Preconditions" "SIOOBE_FORMATTER" "Ljava/util/function/BiFunction;" .null (fun q : Nat => s.heap.size ≤ q) s s.heap ∨ va_Z "jdk/internal/util/Preconditions" "SIOOBE_FORMATTER" "Ljava/util/function/BiFunction;" (.ref t) (fun q : Nat => s.heap.size ≤ q) s s.heap := by
    rcases va_Zqof (A := fun q : Nat => s.heap.size ≤ q) (ht1 _ q_lsF) (ht1 _ q_iP) (hf _ q_flF) hA with h | ⟨t, h⟩
    · exact ⟨0, Or.inl h⟩
    · exact ⟨t, Or.inr h⟩
  obtain ⟨tf, htf⟩ := h7
  let kad : Nat → Nat := fun k => if k < 94 then (if k % 2 = 0 then (ys (k / 2)).1 else (ys (k / 2)).2) else if k < 300 then zs (k - 200) else if k = 300 then b else tf
  refine ⟨(l, s.heap.size, (fun k => (D k).1, fun k => (D k).2), cA, kad, L, xs), rfl, rfl, ?_, rfl, rfl, ?_⟩
  · have := q_rv_con (g := (l, s.heap.size, (fun k => (D k).1, fun k => (D k).2), cA, kad, L, xs)) 300 (by omega)
    exact this
  · refine ⟨fun w hw => ?_, ⟨fun ci y hy => ?_, fun t y hy => ?_⟩, ?_⟩
    · exact q_word (List.mem_filter.mp hw).2 (State.WarmedH.refl s) (htq w hw)
    · have hc : ci < 13 := (List.getElem?_eq_some_iff.mp hy).1
      rw [q_cl_at hc] at hy
      cases hy
      exact hD ci hc
    · have hc : t < 4 := (List.getElem?_eq_some_iff.mp hy).1
      rw [q_ty_at _ t hc] at hy
      cases hy
      exact hcA t hc
    · refine ⟨fun j own k tx bs hj => ?_, fun j nm vs hj => ?_, h5, ?_, ?_⟩
      · have hjl := q_strsN hj
        have e1 : kad (2 * j) = (ys j).1 := by
          show (if 2 * j < 94 then _ else _) = _
          rw [if_pos (by omega), if_pos (by omega), show 2 * j / 2 = j by omega]
        have e2 : kad (2 * j + 1) = (ys j).2 := by
          show (if 2 * j + 1 < 94 then _ else _) = _
          rw [if_pos (by omega), if_neg (by omega), show (2 * j + 1) / 2 = j by omega]
        show vk_R own k tx (kad (2 * j)) s ∧ va_O _ (kad (2 * j)) _ s s.heap ∧ va_OF _ _ _ _ (kad (2 * j)) _ s s.heap ∧ va_OF _ _ _ (.ref (kad (2 * j + 1))) (kad (2 * j)) _ s s.heap ∧ va_T _ (kad (2 * j + 1)) _ _ _ s s.heap
        rw [e1, e2]
        exact hys j own k tx bs hj
      · have hjl : j < 2 := (List.getElem?_eq_some_iff.mp hj).1
        have e1 : kad (200 + j) = zs j := by
          show (if 200 + j < 94 then _ else _) = _
          rw [if_neg (by omega), if_pos (by omega), show 200 + j - 200 = j by omega]
        show va_Z _ _ _ (.ref (kad (200 + j))) _ s s.heap ∧ va_T _ (kad (200 + j)) _ _ _ s s.heap
        rw [e1]
        exact hzs j nm vs hj
      · exact h6
      · rcases htf with h | h
        · exact ⟨2000000, h⟩
        · refine ⟨1000000 + 301, ?_⟩
          rw [q_rv_con _ (by omega)]
          exact h
