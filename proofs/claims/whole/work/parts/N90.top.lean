def R_law : String := "ObjectMachineLaw"
def lw_P (b : Addr) (xs : List Int32) (args : Array Value) (s : State) : Prop := args = #[.ref b] ∧ s.IntsAt b xs ∧ xs.length ≤ 3072 ∧ (Jvm.Cond.and given_1 narrow_1).before args s = true
def lw_Q (_ : Array Value) (s : State) (o : Outcome) (t : State) : Prop := o = .returned (some (.int 1)) ∧ Framed s o t [] 183 332315
def lw_Z (below : List Frame) (a : Array Value) (s : State) : State → Prop := fun t => ∃ o, t.status = .running ∧ Ended t below o ∧ lw_Q a s o t
/-- the law's own end, with 1 on the stack, nothing written that was there before, its room as the claim has it -/
theorem lw_ret {p : Program} {l : Launch} {e : Env} {s : State} {m : MethodId} {below : List Frame} {meth : Method} {c : Code} {b : Nat} (hx : p.tables.exec = Jvm.exec) (hb : c.code = code) (hr : meth.sig.returnType = ret) (hlocks : meth.locks = false) {pc : Nat} {H : Heap} {ls : Array Slot} (hdg : decode code pc = .ok (.ireturn, 1)) : W p l e room_1 s m #[Value.ref b] below meth c H [] 183 332315 (lw_Z below #[Value.ref b] s) (F0 m pc ls [.int 1]) := by
  intro T hT X
  obtain ⟨fs, hret, hrun, hended, hW, hframe⟩ := X.leave (v := some (.int 1)) (hlocks := hlocks) (fun h => by rw [hr] at h; cases h)
  have hmeth' : T.vm.method? m = some meth := X.method'
  refine ⟨T.setFrames fs, ?_, .returned (some (.int 1)), hrun, hended, rfl, ⟨_, rfl⟩, hW, hframe⟩
  jvm_step X.here [X.here.top, hx, hb, hdg, hmeth', hr, ret, narrow_b1]
  (try refine ⟨rfl, ?_⟩); (try refine ⟨rfl, ?_⟩)
  first | (intro acts; rw [hret _ acts rfl rfl rfl]) | rw [hret _ _ rfl rfl rfl]
  exact Steps.refl _
/-- what holds at the law's entry: the machine, the code, the tables' words (any of lw_tbl by 'hts w (by decide +kernel)'), the script of L ints xs at the cell b, what the Statement gives of the start (any of its parts by flat_of_before) -/
def lw_At (p : Program) (s : State) (m : MethodId) (meth : Method) (c : Code) (b L : Nat) (xs : Nat → Int32) : Prop :=
  p.tables.exec = Jvm.exec ∧ c.code = code ∧ meth.sig.returnType = ret ∧ c.maxLocals = 4 ∧ s.vm.findClass R_law = some m.cls ∧ (∀ w ∈ lw_tbl, w.before #[Value.ref b] s = true) ∧ va_X b L xs s s.heap ∧ b < s.heap.size ∧ meth.locks = false ∧ (Jvm.Cond.and given_1 narrow_1).before #[Value.ref b] s = true ∧ meth.name = "law"
/-- what the law wants of the pure side -/
def q_Want (L : Nat) (xs : Nat → Int32) : Prop := ∃ S, fL_law_18 q_Sinit L xs 0 = some (true, S)
set_option maxHeartbeats 4000000 in
theorem whole_of {p : Program} {e : Env} {s : State} {m : MethodId} {below : List Frame} {meth : Method} {c : Code} (l : Launch) {b L : Nat} {xs : Nat → Int32} (hL : L ≤ 3072) (hW : q_Want L xs) (C0 : lw_At p s m meth c b L xs) : W p l e room_1 s m #[Value.ref b] below meth c s.heap [] 0 0 (lw_Z below #[Value.ref b] s) (entryFrame m ([Value.ref b] : List Value).toArray 4) := by
  obtain ⟨hx, hb, hr, hml, hown, hts, hX, hbl, hlocks, hgv, hnm⟩ := id C0
  obtain ⟨g, hg1, hg2, hg3, hg4, hg5, hB⟩ := q_begin l (by omega) hts hX hgv
  obtain ⟨S, hS⟩ := hW
  have hq := kL_law (Q := fun r _ => r = some (.int 1)) hg4 hg5 hS rfl
  have C : q_C g mL_law p s m meth c := ⟨hx, hb, hml, hr, hlocks, hown, hnm, hB⟩
  have hP : q_P g q_Z0 s.heap := ⟨Nat.zero_le _, by rw [hg2]; rfl, fun k q h => by simp [q_w, q_Z0] at h⟩
  have hl := lv_entry ([.ref b]) (n := 4) (Nat.le_of_ble_eq_true rfl)
  rw [lg_entry_eq]
  have hl2 : lv_has (lg_sl [.ref b] ++ List.replicate (4 - (lg_sl [Value.ref b]).length) Slot.unset).toArray mL_law.2.2.1 (q_lv g (lv_args 0 [.ref 1000300])) := by
    have e : q_lv g (lv_args 0 [.ref 1000300]) = lv_args 0 [.ref b] := by
      show [(0, q_rv g (.ref 1000300))] = [(0, .ref b)]
      rw [hg3]
    rw [e]
    exact hl
  have hw := hq p e s m #[Value.ref b] below meth c s.heap [] _ C hP va_S.rf ⟨by rw [hg2]; exact Nat.le_refl _, rfl⟩ hl2
  subst hg1
  refine q_W_room (R := q_room 16 183 332315) (R' := room_1) (by decide) (by decide) (by decide) (by decide) ?_
  intro T hT X
  obtain ⟨t, a, o, h1, h2, ⟨r, S', h3, h4, -⟩, Lc, hF, hLc⟩ := hw T hT X
  refine ⟨t, a, o, h1, h2, ?_, ?_⟩
  · rw [h3, h4]
    rfl
  · obtain ⟨f1, f2, f3⟩ := hF
    exact ⟨f1, f2, f3.weaken (fun y hy hlt => absurd hlt (Nat.not_lt.mpr (by have := hLc y hy; simp only [q_A, hg2] at this; exact this))) (Nat.le_refl _) (Nat.le_refl _)⟩
