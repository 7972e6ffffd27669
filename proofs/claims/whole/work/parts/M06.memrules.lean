section QMEM
variable {g : QG} {M : QM} {d K N : Nat} {Q : Option Value → QS → Prop} {k n pc : Nat} {lv : List (Nat × Value)} {st : List Value} {S : QS}
theorem q_C.hts {p : Program} {s : State} {m : MethodId} {meth : Method} {c : Code} (C : q_C g M p s m meth c) (args : Array Value) : ∀ w ∈ q_T, w.before args s = true := C.2.2.2.2.2.2.2.1.use args
theorem q_C.hK {p : Program} {s : State} {m : MethodId} {meth : Method} {c : Code} (C : q_C g M p s m meth c) : va_K g.2.2.1 q_cl (q_tys g) s := C.2.2.2.2.2.2.2.2.1
theorem q_C.own {p : Program} {s : State} {m : MethodId} {meth : Method} {c : Code} (C : q_C g M p s m meth c) : s.vm.findClass M.1.cls = some m.cls := C.2.2.2.2.2.1
theorem q_C.con {p : Program} {s : State} {m : MethodId} {meth : Method} {c : Code} (C : q_C g M p s m meth c) : q_con g s s.heap := C.2.2.2.2.2.2.2.2.2
theorem q_fs_at {o ci j : Nat} (hj : j < q_nf ci) : ((List.range (q_nf ci)).map (q_fv g S o ci))[j]? = some (q_fv g S o ci j) := by simp [hj]
theorem q_fvI {o ci j : Nat} (hr : q_isR (q_ty ci j) = false) : q_fv g S o ci j = .int (S.2.1 o j) := by simp [q_fv, hr]
theorem q_fvR {o ci j : Nat} (hr : q_isR (q_ty ci j) = true) : q_fv g S o ci j = q_rv g (.ref (S.2.2.2 o j)) := by simp [q_fv, hr, q_rv]
theorem q_top {o : Nat} {p : Program} {e : Env} {R : Room} {s : State} {m : MethodId} {args : Array Value} {below : List Frame} {meth : Method} {c : Code} {H : Heap} {locs : List Loc} {Qs : State → Prop} {ls : Array Slot} {a : Nat} {rest : List Value} (e1 : q_rv g (.ref o) = .ref a) (h : W p g.1 e R s m args below meth c H locs k n Qs (F0 m pc ls (.ref a :: rest))) : W p g.1 e R s m args below meth c H locs k n Qs (F0 m pc ls (q_rv g (.ref o) :: rest)) := by rw [e1]; exact h
/-- getfield of a number -/
theorem q_getI {o ci j idx : Nat} (hs : S.1[o]? = some (.inl ci)) (hc : ci < 13) (hj : j < q_nf ci) (hr : q_isR (q_ty ci j) = false) (hw : Cond.fieldLink M.1.cls idx (q_F ci j).1 (q_F ci j).2.1 (q_F ci j).2.2.1 ∈ q_T) (hd : decode M.2.1 pc = .ok (.getfield idx, 3)) (h : q_L g M d K N Q k n (pc + 3) lv (.int (S.2.1 o j) :: st) S) : q_L g M d K N Q k n pc lv (.ref o :: st) S := by
  intro p e s m args below meth c H locs ls C hP hS hb hl
  refine q_top (q_rv_lt (hP.lt hs)) ?_
  exact va_get C.1 C.2.1 (C.hts args) (q_lays hc) C.own C.hK hP.2.2 o (q_w_at hs) (q_cl_at hc) j hj (C.hts args _ hw) (fun _ q => q) ((q_fs_at hj).trans (by rw [q_fvI hr]; rfl)) hd (h p e s m args below meth c H locs ls C hP hS hb hl)
theorem q_getR {o ci j idx : Nat} (hs : S.1[o]? = some (.inl ci)) (hc : ci < 13) (hj : j < q_nf ci) (hr : q_isR (q_ty ci j) = true) (hw : Cond.fieldLink M.1.cls idx (q_F ci j).1 (q_F ci j).2.1 (q_F ci j).2.2.1 ∈ q_T) (hd : decode M.2.1 pc = .ok (.getfield idx, 3)) {r : Nat} (hq : S.2.2.2 o j = r) (h : q_L g M d K N Q k n (pc + 3) lv (.ref r :: st) S) : q_L g M d K N Q k n pc lv (.ref o :: st) S := by
  subst hq
  intro p e s m args below meth c H locs ls C hP hS hb hl
  refine q_top (q_rv_lt (hP.lt hs)) ?_
  exact va_get C.1 C.2.1 (C.hts args) (q_lays hc) C.own C.hK hP.2.2 o (q_w_at hs) (q_cl_at hc) j hj (C.hts args _ hw) (fun _ q => q) ((q_fs_at hj).trans (by rw [q_fvR hr])) hd (h p e s m args below meth c H locs ls C hP hS hb hl)
theorem q_getIN {o ci j idx : Nat} {host : String} (hs : S.1[o]? = some (.inl ci)) (hc : ci < 13) (hj : j < q_nf ci) (hr : q_isR (q_ty ci j) = false) (hw : Cond.fieldLinkNest M.1.cls idx (q_F ci j).1 (q_F ci j).2.1 (q_F ci j).2.2.1 host ∈ q_T) (hd : decode M.2.1 pc = .ok (.getfield idx, 3)) (h : q_L g M d K N Q k n (pc + 3) lv (.int (S.2.1 o j) :: st) S) : q_L g M d K N Q k n pc lv (.ref o :: st) S := by
  intro p e s m args below meth c H locs ls C hP hS hb hl
  refine q_top (q_rv_lt (hP.lt hs)) ?_
  exact va_getN C.1 C.2.1 (C.hts args) (q_lays hc) C.own C.hK hP.2.2 o (q_w_at hs) (q_cl_at hc) j hj (C.hts args _ hw) (fun _ q => q) ((q_fs_at hj).trans (by rw [q_fvI hr]; rfl)) hd (h p e s m args below meth c H locs ls C hP hS hb hl)
theorem q_getRN {o ci j idx : Nat} {host : String} (hs : S.1[o]? = some (.inl ci)) (hc : ci < 13) (hj : j < q_nf ci) (hr : q_isR (q_ty ci j) = true) (hw : Cond.fieldLinkNest M.1.cls idx (q_F ci j).1 (q_F ci j).2.1 (q_F ci j).2.2.1 host ∈ q_T) (hd : decode M.2.1 pc = .ok (.getfield idx, 3)) {r : Nat} (hq : S.2.2.2 o j = r) (h : q_L g M d K N Q k n (pc + 3) lv (.ref r :: st) S) : q_L g M d K N Q k n pc lv (.ref o :: st) S := by
  subst hq
  intro p e s m args below meth c H locs ls C hP hS hb hl
  refine q_top (q_rv_lt (hP.lt hs)) ?_
  exact va_getN C.1 C.2.1 (C.hts args) (q_lays hc) C.own C.hK hP.2.2 o (q_w_at hs) (q_cl_at hc) j hj (C.hts args _ hw) (fun _ q => q) ((q_fs_at hj).trans (by rw [q_fvR hr])) hd (h p e s m args below meth c H locs ls C hP hS hb hl)
/-! putfield -/
theorem q_wI {o ci j : Nat} {v : Int32} (hs : S.1[o]? = some (.inl ci)) (hr : q_isR (q_ty ci j) = false) : (q_w g S).set o (g.2.1 + o, .inr (ci, ((List.range (q_nf ci)).map (q_fv g S o ci)).set j (.int v))) = q_w g (q_sI S o j v) := by
  rw [← q_w_set (S := S) (S' := q_sI S o j v) rfl hs (fun x hx => ⟨by simp [q_sI, hx], rfl, rfl⟩)]
  congr 2
  show Sum.inr (ci, _) = Sum.inr (ci, _)
  congr 2
  refine q_set_map (fun x => ?_)
  by_cases hx : x = j
  · subst hx
    simp [q_fv, hr, q_sI, upd]
  · simp [q_fv, q_sI, upd, hx]
theorem q_wR {o ci j r : Nat} (hs : S.1[o]? = some (.inl ci)) (hr : q_isR (q_ty ci j) = true) : (q_w g S).set o (g.2.1 + o, .inr (ci, ((List.range (q_nf ci)).map (q_fv g S o ci)).set j (q_rv g (.ref r)))) = q_w g (q_sR S o j r) := by
  rw [← q_w_set (S := S) (S' := q_sR S o j r) rfl hs (fun x hx => ⟨rfl, rfl, by simp [q_sR, hx]⟩)]
  congr 2
  show Sum.inr (ci, _) = Sum.inr (ci, _)
  congr 2
  refine q_set_map (fun x => ?_)
  by_cases hx : x = j
  · subst hx
    simp [q_fv, hr, q_sR, va_up, q_rv]
  · simp [q_fv, q_sR, va_up, hx]
theorem q_P.to {S' : QS} {H H1 : Heap} (h : q_P g S H) (hs : S'.1 = S.1) (hz : H1.size = H.size) (hP : va_P g.2.2.1 q_cl (q_w g S') H1) : q_P g S' H1 := ⟨by rw [hs]; exact h.1, by rw [hz, hs]; exact h.2.1, hP⟩
/-! a walk may take its heap as no larger than the cells that it has made -/
theorem q_sz {p : Program} {l : Launch} {e : Env} {R : Room} {s : State} {m : MethodId} {args : Array Value} {below : List Frame} {meth : Method} {c : Code} {H : Heap} {locs : List Loc} {Qs : State → Prop} {gf : JFrame} (h : H.size ≤ s.heap.size + k → W p l e R s m args below meth c H locs k n Qs gf) : W p l e R s m args below meth c H locs k n Qs gf := fun T hT X => h (by rw [← hT]; exact X.heapSize) T hT X
theorem q_SS0 {A : Nat → Prop} {H0 H : Heap} {locs : List Loc} (h : va_S A H0 H locs) : va_S A H H locs := ⟨Nat.le_refl _, fun _ _ _ => rfl, h.2.2⟩
theorem q_S1 {A : Nat → Prop} {H0 H H1 : Heap} {locs locs1 : List Loc} (h : va_S A H0 H locs) (h1 : va_S A H H1 locs1) : va_S A H0 H1 locs1 := ⟨Nat.le_trans h.1 h1.1, fun q a b => (h1.2.1 q (Nat.lt_of_lt_of_le a h.1) b).trans (h.2.1 q a b), h1.2.2⟩
/-- a store has been done: what goes on -/
theorem q_put {S' : QS} {p : Program} {e : Env} {s : State} {m : MethodId} {args : Array Value} {below : List Frame} {meth : Method} {c : Code} {H : Heap} {locs : List Loc} {ls : Array Slot} {st' : List Value} {pc' : Nat} (hs : S'.1 = S.1) (h : q_L g M d K N Q k n pc' lv st' S') (C : q_C g M p s m meth c) (hP : q_P g S H) (hS : va_S (q_A g) s.heap H locs) (hb : g.2.1 ≤ s.heap.size ∧ H.size = s.heap.size + k) (hl : lv_has ls M.2.2.1 (q_lv g lv)) :
    ∀ (H1 : Heap) (locs1 : List Loc), va_P g.2.2.1 q_cl (q_w g S') H1 → va_D (q_A g) (q_w g S') → va_S (q_A g) H H1 locs1 → W p g.1 e (q_room d K N) s m args below meth c H1 locs1 k n (MQ below (q_Q g K Q) args s K N (q_A g)) (F0 m pc' ls (st'.map (q_rv g))) := by
  intro H1 locs1 hP1 _ hS1
  refine q_sz fun hz => ?_
  have hz1 : H1.size = H.size := by
    have := hS1.1
    have := hb.2
    omega
  exact h p e s m args below meth c H1 locs1 ls C (hP.to hs hz1 hP1) (q_S1 hS hS1) ⟨hb.1, hz1.trans hb.2⟩ hl
theorem q_putI {o ci j idx : Nat} {v : Int32} (hs : S.1[o]? = some (.inl ci)) (hc : ci < 13) (hj : j < q_nf ci) (hr : q_isR (q_ty ci j) = false) (hfin : (q_F ci j).2.2.2 = false) (hv : narrow (q_ty ci j) (.int v) = .int v ∧ fits (q_ty ci j) (.int v) = true) (hw : Cond.fieldLink M.1.cls idx (q_F ci j).1 (q_F ci j).2.1 (q_F ci j).2.2.1 ∈ q_T) (hd : decode M.2.1 pc = .ok (.putfield idx, 3)) (h : q_L g M d K N Q k n (pc + 3) lv st (q_sI S o j v)) : q_L g M d K N Q k n pc lv (.int v :: .ref o :: st) S := by
  intro p e s m args below meth c H locs ls C hP hS hb hl
  show W _ _ _ _ _ _ _ _ _ _ _ _ _ _ _ (F0 m pc ls (.int v :: q_rv g (.ref o) :: st.map (q_rv g)))
  rw [q_rv_lt (hP.lt hs)]
  refine va_put C.1 C.2.1 (C.hts args) (q_lays hc) (q_ty ci) (q_tyok hc) (q_nmok hc) C.own C.hK hP.2.2 (q_w_D g S) (q_SS0 hS) o (q_w_at hs) (q_cl_at hc) j hj (C.hts args _ hw) (fun _ q => q) hfin (q_tyok hc j hj) hv.1 hv.2 (by simpa using hj) hd ?_
  rw [q_wI hs hr]
  exact q_put (S := S) rfl h C hP hS hb hl
theorem q_putIN {o ci j idx : Nat} {host : String} {v : Int32} (hs : S.1[o]? = some (.inl ci)) (hc : ci < 13) (hj : j < q_nf ci) (hr : q_isR (q_ty ci j) = false) (hfin : (q_F ci j).2.2.2 = false) (hv : narrow (q_ty ci j) (.int v) = .int v ∧ fits (q_ty ci j) (.int v) = true) (hw : Cond.fieldLinkNest M.1.cls idx (q_F ci j).1 (q_F ci j).2.1 (q_F ci j).2.2.1 host ∈ q_T) (hd : decode M.2.1 pc = .ok (.putfield idx, 3)) (h : q_L g M d K N Q k n (pc + 3) lv st (q_sI S o j v)) : q_L g M d K N Q k n pc lv (.int v :: .ref o :: st) S := by
  intro p e s m args below meth c H locs ls C hP hS hb hl
  show W _ _ _ _ _ _ _ _ _ _ _ _ _ _ _ (F0 m pc ls (.int v :: q_rv g (.ref o) :: st.map (q_rv g)))
  rw [q_rv_lt (hP.lt hs)]
  refine va_putN C.1 C.2.1 (C.hts args) (q_lays hc) (q_ty ci) (q_tyok hc) (q_nmok hc) C.own C.hK hP.2.2 (q_w_D g S) (q_SS0 hS) o (q_w_at hs) (q_cl_at hc) j hj (C.hts args _ hw) (fun _ q => q) hfin (q_tyok hc j hj) hv.1 hv.2 (by simpa using hj) hd ?_
  rw [q_wI hs hr]
  exact q_put (S := S) rfl h C hP hS hb hl
theorem q_rfit {ci j r : Nat} (hr : q_isR (q_ty ci j) = true) : narrow (q_ty ci j) (q_rv g (.ref r)) = q_rv g (.ref r) ∧ fits (q_ty ci j) (q_rv g (.ref r)) = true := by
  generalize q_ty ci j = t at hr
  rcases q_rv_isref g r with e1 | ⟨a, e1⟩ <;> rw [e1] <;> cases t <;> first | exact ⟨rfl, rfl⟩ | simp [q_isR] at hr
theorem q_putR {o ci j idx r : Nat} (hs : S.1[o]? = some (.inl ci)) (hc : ci < 13) (hj : j < q_nf ci) (hr : q_isR (q_ty ci j) = true) (hfin : (q_F ci j).2.2.2 = false) (hw : Cond.fieldLink M.1.cls idx (q_F ci j).1 (q_F ci j).2.1 (q_F ci j).2.2.1 ∈ q_T) (hd : decode M.2.1 pc = .ok (.putfield idx, 3)) (h : q_L g M d K N Q k n (pc + 3) lv st (q_sR S o j r)) : q_L g M d K N Q k n pc lv (.ref r :: .ref o :: st) S := by
  intro p e s m args below meth c H locs ls C hP hS hb hl
  show W _ _ _ _ _ _ _ _ _ _ _ _ _ _ _ (F0 m pc ls (q_rv g (.ref r) :: q_rv g (.ref o) :: st.map (q_rv g)))
  rw [q_rv_lt (k := o) (hP.lt hs)]
  refine va_put C.1 C.2.1 (C.hts args) (q_lays hc) (q_ty ci) (q_tyok hc) (q_nmok hc) C.own C.hK hP.2.2 (q_w_D g S) (q_SS0 hS) o (q_w_at hs) (q_cl_at hc) j hj (C.hts args _ hw) (fun _ q => q) hfin (q_tyok hc j hj) (q_rfit hr).1 (q_rfit hr).2 (by simpa using hj) hd ?_
  rw [q_wR hs hr]
  exact q_put (S := S) rfl h C hP hS hb hl
theorem q_putFI {o ci j idx : Nat} {v : Int32} (hs : S.1[o]? = some (.inl ci)) (hc : ci < 13) (hj : j < q_nf ci) (hr : q_isR (q_ty ci j) = false) (hfin : (q_F ci j).2.2.2 = true) (hini : M.1.name = "<init>") (hdc : (q_F ci j).1 = M.1.cls) (hv : narrow (q_ty ci j) (.int v) = .int v ∧ fits (q_ty ci j) (.int v) = true) (hw : Cond.fieldLink M.1.cls idx (q_F ci j).1 (q_F ci j).2.1 (q_F ci j).2.2.1 ∈ q_T) (hd : decode M.2.1 pc = .ok (.putfield idx, 3)) (h : q_L g M d K N Q k n (pc + 3) lv st (q_sI S o j v)) : q_L g M d K N Q k n pc lv (.int v :: .ref o :: st) S := by
  intro p e s m args below meth c H locs ls C hP hS hb hl
  show W _ _ _ _ _ _ _ _ _ _ _ _ _ _ _ (F0 m pc ls (.int v :: q_rv g (.ref o) :: st.map (q_rv g)))
  rw [q_rv_lt (hP.lt hs)]
  refine va_putF C.1 C.2.1 (C.hts args) (q_lays hc) (q_ty ci) (q_tyok hc) (q_nmok hc) C.own C.hK hP.2.2 (q_w_D g S) (q_SS0 hS) o (q_w_at hs) (q_cl_at hc) j hj (C.hts args _ hw) (fun _ q => q) hfin (C.2.2.2.2.2.2.1.trans hini) hdc (q_tyok hc j hj) hv.1 hv.2 (by simpa using hj) hd ?_
  rw [q_wI hs hr]
  exact q_put (S := S) rfl h C hP hS hb hl
theorem q_putFR {o ci j idx r : Nat} (hs : S.1[o]? = some (.inl ci)) (hc : ci < 13) (hj : j < q_nf ci) (hr : q_isR (q_ty ci j) = true) (hfin : (q_F ci j).2.2.2 = true) (hini : M.1.name = "<init>") (hdc : (q_F ci j).1 = M.1.cls) (hw : Cond.fieldLink M.1.cls idx (q_F ci j).1 (q_F ci j).2.1 (q_F ci j).2.2.1 ∈ q_T) (hd : decode M.2.1 pc = .ok (.putfield idx, 3)) (h : q_L g M d K N Q k n (pc + 3) lv st (q_sR S o j r)) : q_L g M d K N Q k n pc lv (.ref r :: .ref o :: st) S := by
  intro p e s m args below meth c H locs ls C hP hS hb hl
  show W _ _ _ _ _ _ _ _ _ _ _ _ _ _ _ (F0 m pc ls (q_rv g (.ref r) :: q_rv g (.ref o) :: st.map (q_rv g)))
  rw [q_rv_lt (k := o) (hP.lt hs)]
  refine va_putF C.1 C.2.1 (C.hts args) (q_lays hc) (q_ty ci) (q_tyok hc) (q_nmok hc) C.own C.hK hP.2.2 (q_w_D g S) (q_SS0 hS) o (q_w_at hs) (q_cl_at hc) j hj (C.hts args _ hw) (fun _ q => q) hfin (C.2.2.2.2.2.2.1.trans hini) hdc (q_tyok hc j hj) (q_rfit hr).1 (q_rfit hr).2 (by simpa using hj) hd ?_
  rw [q_wR hs hr]
  exact q_put (S := S) rfl h C hP hS hb hl
end QMEM
