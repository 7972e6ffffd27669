section QCALL
variable {g : QG} {M Mc : QM} {d K N kc nc : Nat} {Q Qc : Option Value → QS → Prop} {k n pc : Nat} {lv : List (Nat × Value)} {st : List Value} {S : QS}
theorem q_met {As : List Value} (hpl : plainName Mc.1.cls = true) (ha : (lg_sl As).length ≤ Mc.2.2.1) (hM : q_M g Mc d kc nc As S Qc) : Met g.1 Mc.1 [.code Mc.1 Mc.2.1 Mc.2.2.1 Mc.2.2.2] (q_room d kc nc) (va_Pc (As.map (q_rv g)) (fun U => q_B g U U.heap ∧ g.2.1 ≤ U.heap.size ∧ q_P g S U.heap)) (q_Q g kc Qc) kc nc (q_A g) := by
  have ha2 : (lg_sl (As.map (q_rv g))).length ≤ Mc.2.2.1 := by
    have e : (lg_sl (As.map (q_rv g))).length = (lg_sl As).length := by
      clear ha hM
      induction As with
      | nil => rfl
      | cons v vs ih =>
        simp only [lg_sl, List.map_cons, List.flatMap_cons, List.length_append, q_rv_cat] at ih ⊢
        rw [ih]
        split <;> rfl
    rw [e]; exact ha
  refine Met.ofW (cc := Mc.2.1) (maxL := Mc.2.2.1) (ret := Mc.2.2.2) hpl rfl ?_
  intro p e s m args below meth c s₁ B hml hv
  obtain ⟨rfl, hB, hbase, hP⟩ := hv
  have C : q_C g Mc p s m meth c := ⟨B.exec, B.bytes, hml, B.returns, B.notSynchronized, findClass_of_methodNamed B.named, (name_of_methodNamed B.named B.method).1, hB⟩
  rw [lg_entry_eq]
  exact hM p e s m _ below meth c s.heap [] _ C hP va_S.rf ⟨hbase, rfl⟩ (by have h := lv_entry (As.map (q_rv g)) ha2; rw [q_lv_args] at h; exact h)
theorem q_blind {As : List Value} : FrameBlind (va_Pc (As.map (q_rv g)) (fun U => q_B g U U.heap ∧ g.2.1 ≤ U.heap.size ∧ q_P g S U.heap)) := by
  intro a U gf mk h
  obtain ⟨h1, h2, h3, h4⟩ := h
  exact ⟨h1, q_B.warm (s := U) (U := U.calling gf mk a) (State.WarmedH.refl U) h2, h3, h4⟩
theorem q_behind {p : Program} {e : Env} {s : State} {m : MethodId} {args : Array Value} {below : List Frame} {meth : Method} {c : Code} {H : Heap} {locs : List Loc} {ls : Array Slot} {st0 : List Value} {a : Array Value} (hr : va_Run p g.1 e (q_room (d + 1) K N) s m args below meth c H locs k n kc nc (F0 m pc ls st0) (st.map (q_rv g)) (q_Q g kc Qc a) (q_A g)) (h : ∀ (r : Option Value) (S' : QS), Qc r S' → q_L g M (d + 1) K N Q (k + kc) (n + nc) (pc + 3) lv (r.toList ++ st) S') (C : q_C g M p s m meth c) (hS : va_S (q_A g) s.heap H locs) (hb : g.2.1 ≤ s.heap.size ∧ H.size = s.heap.size + k) (hl : lv_has ls M.2.2.1 (q_lv g lv)) :
    W p g.1 e (q_room (d + 1) K N) s m args below meth c H locs k n (MQ below (q_Q g K Q) args s K N (q_A g)) (F0 m pc ls st0) := by
  intro T hT X
  obtain ⟨v, st₀, t, T', L, h0, X', hL, e1, e2, ⟨r, S', hv, hq, hP', hF, hz⟩, go⟩ := hr T hT X
  obtain ⟨hF1, hF2⟩ := hF
  rw [h0] at hF1 hF2 hz
  have hvv : v = r.map (q_rv g) := by injection hv
  have hW := h r S' hq p e s m args below meth c T'.heap (locs ++ L) ls C (by rw [e1]; exact hP') ⟨Nat.le_trans hS.1 (by rw [e1]; exact hF1), fun q h1 h2 => by rw [e1, hF2 q (Nat.lt_of_lt_of_le h1 hS.1) h2]; exact hS.2.1 q h1 h2, fun q hq => by
      rcases List.mem_append.mp hq with h | h
      · exact hS.2.2 q h
      · exact hL q h⟩ ⟨hb.1, by rw [e1, hz, hb.2, Nat.add_assoc]⟩ hl
  obtain ⟨t2, a1, b1⟩ := hW T' rfl X'
  refine ⟨t2, go t2 ?_, b1⟩
  have e3 : (r.toList ++ st).map (q_rv g) = v.toList ++ st.map (q_rv g) := by
    rw [hvv, List.map_append]
    cases r <;> rfl
  rw [e3] at a1
  exact a1
/-- what the tables say of a method of ours -/
def q_mok (Mc : QM) : Prop := plainName Mc.1.cls = true ∧ Cond.code Mc.1 Mc.2.1 Mc.2.2.1 Mc.2.2.2 ∈ q_T ∧ Cond.initialized Mc.1.cls ∈ q_T ∧ (Mc.1.cls ≠ "java/lang/invoke/MethodHandle" ∧ Mc.1.cls ≠ "java/lang/invoke/VarHandle") ∧ Mc.2.2.1 ≤ 21 ∧ goodWord (Cond.code Mc.1 Mc.2.1 Mc.2.2.1 Mc.2.2.2) = true
theorem q_cb {s : State} {args : Array Value} {nA idx : Nat} (hm : q_mok Mc) (hts : ∀ w ∈ q_T, w.before args s = true) (hlink : (Cond.methodLink M.1.cls idx Mc.1).before args s = true) (hpar : (parseMethodDescriptor Mc.1.desc).map (fun x => x.parameters.length) = some nA) : CallB (q_room (d + 1) K N) s args M.1.cls idx Mc.1 Mc.2.1 Mc.2.2.1 Mc.2.2.2 [.code Mc.1 Mc.2.1 Mc.2.2.1 Mc.2.2.2] (q_room d kc nc) kc nc nA := by
  obtain ⟨h1, h2, h3, h4, h5, h6⟩ := hm
  refine ⟨rfl, rfl, Nat.le_refl _, ?_, fun w hw a' U hW => ?_, List.mem_cons_self, hts _ h2, hts _ h3, h4, fun sig h => ?_, hlink⟩
  · show 8 + (Mc.2.2.1 + 11) + 40 * d ≤ 40 * (d + 1)
    omega
  · rw [List.mem_singleton.mp hw]
    exact word_at hW (good_of_word h6) (hts _ h2)
  · rw [h] at hpar
    exact (Option.some.inj hpar).symm
theorem q_callV {ci o idx : Nat} (As : List Value) (hm : q_mok Mc) (hs : S.1[o]? = some (.inl ci)) (hc : ci < 13) (hcls : Mc.1.cls = (q_c0 ci).1) (hlink : Cond.methodLink M.1.cls idx Mc.1 ∈ q_T) (hinst : Cond.instanceMethod Mc.1 ∈ q_T) (hsel : Cond.selects (q_c0 ci).1 Mc.1 Mc.1 ∈ q_T) (hpar : (parseMethodDescriptor Mc.1.desc).map (fun x => x.parameters.length) = some As.length) (ha : (lg_sl (.ref o :: As)).length ≤ Mc.2.2.1) (hst : (st.map fun v => v.category).sum ≤ 8) (hk : k + kc ≤ K) (hn : n + nc ≤ N) (hd : decode M.2.1 pc = .ok (.invokevirtual idx, 3)) (hM : q_M g Mc d kc nc (.ref o :: As) S Qc) (h : ∀ (r : Option Value) (S' : QS), Qc r S' → q_L g M (d + 1) K N Q (k + kc) (n + nc) (pc + 3) lv (r.toList ++ st) S') : q_L g M (d + 1) K N Q k n pc lv (As.reverse ++ .ref o :: st) S := by
  intro p e s m args below meth c H locs ls C hP hS hb hl
  have hst2 : ((st.map (q_rv g)).map fun v => v.category).sum ≤ 8 := by
    rw [List.map_map]
    have : ((fun v : Value => v.category) ∘ q_rv g) = fun v => v.category := funext fun v => q_rv_cat g v
    rw [this]; exact hst
  have e1 : (As.reverse ++ .ref o :: st).map (q_rv g) = (As.map (q_rv g)).reverse ++ .ref (g.2.1 + o) :: st.map (q_rv g) := by
    rw [List.map_append, List.map_reverse, List.map_cons, q_rv_lt (hP.lt hs)]
  rw [e1]
  have hB : q_B g s H := C.2.2.2.2.2.2.2.kept hS.2.1
  have hA0 : (Value.ref o :: As).map (q_rv g) = .ref (g.2.1 + o) :: As.map (q_rv g) := by rw [List.map_cons, q_rv_lt (hP.lt hs)]
  refine q_behind (d := d) (va_runV (As := As.map (q_rv g)) (rest := st.map (q_rv g)) (C := (q_c0 ci).1) ⟨C.1, C.2.1, C.2.2.1, C.own, C.hts args⟩ (q_met hm.1 ha hM) ⟨q_cb (nA := As.length) hm (C.hts args) (C.hts args _ hlink) hpar, C.hts args _ hinst, C.hts args _ hsel⟩ ⟨q_blind, va_recv (q := ((q_c0 ci).1, q_F ci, q_nf ci)) C.hK hP.2.2 (q_cl_at hc) (q_w_at hs), fun U hU hW => ?_⟩ rfl (by simp) hl.1 rfl (lv_room hst2) hd ⟨hk, hn⟩) h C hS hb hl
  refine ⟨by rw [hA0], by rw [hU]; exact q_B.warm hW hB, by rw [hU]; exact Nat.le_trans hb.1 hS.1, by rw [hU]; exact hP⟩
theorem q_callS {idx : Nat} (As : List Value) (hm : q_mok Mc) (hlink : Cond.methodLink M.1.cls idx Mc.1 ∈ q_T) (hstat : Cond.static Mc.1 ∈ q_T) (hpar : (parseMethodDescriptor Mc.1.desc).map (fun x => x.parameters.length) = some As.length) (ha : (lg_sl As).length ≤ Mc.2.2.1) (hst : (st.map fun v => v.category).sum ≤ 8) (hk : k + kc ≤ K) (hn : n + nc ≤ N) (hd : decode M.2.1 pc = .ok (.invokestatic idx, 3)) (hM : q_M g Mc d kc nc As S Qc) (h : ∀ (r : Option Value) (S' : QS), Qc r S' → q_L g M (d + 1) K N Q (k + kc) (n + nc) (pc + 3) lv (r.toList ++ st) S') : q_L g M (d + 1) K N Q k n pc lv (As.reverse ++ st) S := by
  intro p e s m args below meth c H locs ls C hP hS hb hl
  have hst2 : ((st.map (q_rv g)).map fun v => v.category).sum ≤ 8 := by
    rw [List.map_map]
    have : ((fun v : Value => v.category) ∘ q_rv g) = fun v => v.category := funext fun v => q_rv_cat g v
    rw [this]; exact hst
  have e1 : (As.reverse ++ st).map (q_rv g) = (As.map (q_rv g)).reverse ++ st.map (q_rv g) := by
    rw [List.map_append, List.map_reverse]
  rw [e1]
  have hB : q_B g s H := C.2.2.2.2.2.2.2.kept hS.2.1
  refine q_behind (d := d) (va_runS (As := As.map (q_rv g)) (rest := st.map (q_rv g)) ⟨C.1, C.2.1, C.2.2.1, C.own, C.hts args⟩ (q_met hm.1 ha hM) ⟨q_cb (nA := As.length) hm (C.hts args) (C.hts args _ hlink) hpar, C.hts args _ hstat⟩ ⟨q_blind, fun U hU hW => ?_⟩ rfl (by simp) hl.1 rfl (lv_room hst2) hd ⟨hk, hn⟩) h C hS hb hl
  refine ⟨rfl, by rw [hU]; exact q_B.warm hW hB, by rw [hU]; exact Nat.le_trans hb.1 hS.1, by rw [hU]; exact hP⟩
/-- a method of a String constant -/
theorem q_callT {j ix idx o : Nat} {own tx : String} {bs : List Int32} (As : List Value) (hm : q_mok Mc) (hj : q_strs[j]? = some (own, ix, tx, bs)) (ho : o = 1000000 + 2 * j) (hcls : Mc.1.cls = "java/lang/String") (hlink : Cond.methodLink M.1.cls idx Mc.1 ∈ q_T) (hinst : Cond.instanceMethod Mc.1 ∈ q_T) (hsel : Cond.selects "java/lang/String" Mc.1 Mc.1 ∈ q_T) (hpar : (parseMethodDescriptor Mc.1.desc).map (fun x => x.parameters.length) = some As.length) (ha : (lg_sl (.ref o :: As)).length ≤ Mc.2.2.1) (hst : (st.map fun v => v.category).sum ≤ 8) (hk : k + kc ≤ K) (hn : n + nc ≤ N) (hd : decode M.2.1 pc = .ok (.invokevirtual idx, 3)) (hM : q_M g Mc d kc nc (.ref o :: As) S Qc) (h : ∀ (r : Option Value) (S' : QS), Qc r S' → q_L g M (d + 1) K N Q (k + kc) (n + nc) (pc + 3) lv (r.toList ++ st) S') : q_L g M (d + 1) K N Q k n pc lv (As.reverse ++ .ref o :: st) S := by
  intro p e s m args below meth c H locs ls C hP hS hb hl
  have hst2 : ((st.map (q_rv g)).map fun v => v.category).sum ≤ 8 := by
    rw [List.map_map]
    have : ((fun v : Value => v.category) ∘ q_rv g) = fun v => v.category := funext fun v => q_rv_cat g v
    rw [this]; exact hst
  have hjl := q_strsN hj
  have eo : q_rv g (.ref o) = .ref (g.2.2.2.2.1 (2 * j)) := by rw [ho, q_rv_con _ (by omega)]
  have e1 : (As.reverse ++ .ref o :: st).map (q_rv g) = (As.map (q_rv g)).reverse ++ .ref (g.2.2.2.2.1 (2 * j)) :: st.map (q_rv g) := by
    rw [List.map_append, List.map_reverse, List.map_cons, eo]
  rw [e1]
  have hB : q_B g s H := C.2.2.2.2.2.2.2.kept hS.2.1
  have hA0 : (Value.ref o :: As).map (q_rv g) = .ref (g.2.2.2.2.1 (2 * j)) :: As.map (q_rv g) := by rw [List.map_cons, eo]
  have hrc : ∃ cell : Cell, H[g.2.2.2.2.1 (2 * j)]? = some cell ∧ cell.vm.isStatics = false ∧ s.vm.findClass "java/lang/String" = some cell.cls := by
    obtain ⟨cell, h1, h2, h3, -⟩ := ((C.con.1 j own ix tx bs hj).2.1).kept hS.2.1
    exact ⟨cell, h1, h2, h3⟩
  refine q_behind (d := d) (va_runV (As := As.map (q_rv g)) (rest := st.map (q_rv g)) (C := "java/lang/String") ⟨C.1, C.2.1, C.2.2.1, C.own, C.hts args⟩ (q_met hm.1 ha hM) ⟨q_cb (nA := As.length) hm (C.hts args) (C.hts args _ hlink) hpar, C.hts args _ hinst, C.hts args _ hsel⟩ ⟨q_blind, hrc, fun U hU hW => ?_⟩ rfl (by simp) hl.1 rfl (lv_room hst2) hd ⟨hk, hn⟩) h C hS hb hl
  refine ⟨by rw [hA0], by rw [hU]; exact q_B.warm hW hB, by rw [hU]; exact Nat.le_trans hb.1 hS.1, by rw [hU]; exact hP⟩
theorem q_callI {o idx : Nat} (As : List Value) (hm : q_mok Mc) (hr : Mc.2.2.2 = none) (ho : o < S.1.length) (hini : Mc.1.name = "<init>") (hlink : Cond.methodLink M.1.cls idx Mc.1 ∈ q_T) (hinst : Cond.instanceMethod Mc.1 ∈ q_T) (hpar : (parseMethodDescriptor Mc.1.desc).map (fun x => x.parameters.length) = some As.length) (ha : (lg_sl (.ref o :: As)).length ≤ Mc.2.2.1) (hst : (st.map fun v => v.category).sum ≤ 8) (hk : k + kc ≤ K) (hn : n + nc ≤ N) (hd : decode M.2.1 pc = .ok (.invokespecial idx, 3)) (hM : q_M g Mc d kc nc (.ref o :: As) S Qc) (h : ∀ (r : Option Value) (S' : QS), Qc r S' → q_L g M (d + 1) K N Q (k + kc) (n + nc) (pc + 3) lv (r.toList ++ st) S') : q_L g M (d + 1) K N Q k n pc lv (As.reverse ++ .ref o :: st) S := by
  intro p e s m args below meth c H locs ls C hP hS hb hl
  have hst2 : ((st.map (q_rv g)).map fun v => v.category).sum ≤ 8 := by
    rw [List.map_map]
    have : ((fun v : Value => v.category) ∘ q_rv g) = fun v => v.category := funext fun v => q_rv_cat g v
    rw [this]; exact hst
  have hol : o < 1000000 := Nat.lt_of_lt_of_le ho hP.1
  have e1 : (As.reverse ++ .ref o :: st).map (q_rv g) = (As.map (q_rv g)).reverse ++ .ref (g.2.1 + o) :: st.map (q_rv g) := by
    rw [List.map_append, List.map_reverse, List.map_cons, q_rv_lt hol]
  rw [e1]
  have hB : q_B g s H := C.2.2.2.2.2.2.2.kept hS.2.1
  have hA0 : (Value.ref o :: As).map (q_rv g) = .ref (g.2.1 + o) :: As.map (q_rv g) := by rw [List.map_cons, q_rv_lt hol]
  have hcb := q_cb (M := M) (d := d) (K := K) (N := N) (kc := kc) (nc := nc) (nA := As.length) hm (C.hts args) (C.hts args _ hlink) hpar
  rw [hr] at hcb
  have hmet := q_met (d := d) (kc := kc) (nc := nc) hm.1 ha hM
  rw [hr] at hmet
  refine q_behind (d := d) (va_runI (As := As.map (q_rv g)) (rest := st.map (q_rv g)) ⟨C.1, C.2.1, C.2.2.1, C.own, C.hts args⟩ hmet ⟨hcb, hini, C.hts args _ hinst⟩ ⟨q_blind, fun U hU hW => ?_⟩ rfl (by simp) hl.1 rfl (lv_room hst2) hd ⟨hk, hn⟩) h C hS hb hl
  refine ⟨by rw [hA0], by rw [hU]; exact q_B.warm hW hB, by rw [hU]; exact Nat.le_trans hb.1 hS.1, by rw [hU]; exact hP⟩
theorem q_callIN {o idx : Nat} {host : String} (As : List Value) (hm : q_mok Mc) (hr : Mc.2.2.2 = none) (ho : o < S.1.length) (hini : Mc.1.name = "<init>") (hlink : Cond.methodLinkNest M.1.cls idx Mc.1 host ∈ q_T) (hinst : Cond.instanceMethod Mc.1 ∈ q_T) (hpar : (parseMethodDescriptor Mc.1.desc).map (fun x => x.parameters.length) = some As.length) (ha : (lg_sl (.ref o :: As)).length ≤ Mc.2.2.1) (hst : (st.map fun v => v.category).sum ≤ 8) (hk : k + kc ≤ K) (hn : n + nc ≤ N) (hd : decode M.2.1 pc = .ok (.invokespecial idx, 3)) (hM : q_M g Mc d kc nc (.ref o :: As) S Qc) (h : ∀ (r : Option Value) (S' : QS), Qc r S' → q_L g M (d + 1) K N Q (k + kc) (n + nc) (pc + 3) lv (r.toList ++ st) S') : q_L g M (d + 1) K N Q k n pc lv (As.reverse ++ .ref o :: st) S := by
  intro p e s m args below meth c H locs ls C hP hS hb hl
  have hst2 : ((st.map (q_rv g)).map fun v => v.category).sum ≤ 8 := by
    rw [List.map_map]
    have : ((fun v : Value => v.category) ∘ q_rv g) = fun v => v.category := funext fun v => q_rv_cat g v
    rw [this]; exact hst
  have hol : o < 1000000 := Nat.lt_of_lt_of_le ho hP.1
  have e1 : (As.reverse ++ .ref o :: st).map (q_rv g) = (As.map (q_rv g)).reverse ++ .ref (g.2.1 + o) :: st.map (q_rv g) := by
    rw [List.map_append, List.map_reverse, List.map_cons, q_rv_lt hol]
  rw [e1]
  have hB : q_B g s H := C.2.2.2.2.2.2.2.kept hS.2.1
  have hA0 : (Value.ref o :: As).map (q_rv g) = .ref (g.2.1 + o) :: As.map (q_rv g) := by rw [List.map_cons, q_rv_lt hol]
  have hmet := q_met (d := d) (kc := kc) (nc := nc) hm.1 ha hM
  rw [hr] at hmet
  obtain ⟨m1, m2, m3, m4, m5, m6⟩ := hm
  rw [hr] at m2 m6
  refine q_behind (d := d) (va_runIN (n := As.length) (As := As.map (q_rv g)) (rest := st.map (q_rv g)) (host := host) ⟨C.1, C.2.1, C.2.2.1, C.own, C.hts args⟩ hmet ⟨⟨⟨rfl, rfl, Nat.le_refl _, (show 8 + (Mc.2.2.1 + 11) + 40 * d ≤ 40 * (d + 1) by omega), fun w hw a' U hW => ?_, List.mem_cons_self⟩, C.hts args _ m2, C.hts args _ m3, m4, fun sig h => ?_, C.hts args _ hlink⟩, hini, C.hts args _ hinst⟩ ⟨q_blind, fun U hU hW => ?_⟩ rfl (by simp) hl.1 rfl (lv_room hst2) hd ⟨hk, hn⟩) h C hS hb hl
  · rw [List.mem_singleton.mp hw]
    exact word_at hW (good_of_word m6) (C.hts args _ m2)
  · rw [h] at hpar
    exact (Option.some.inj hpar).symm
  · refine ⟨by rw [hA0], by rw [hU]; exact q_B.warm hW hB, by rw [hU]; exact Nat.le_trans hb.1 hS.1, by rw [hU]; exact hP⟩
end QCALL
