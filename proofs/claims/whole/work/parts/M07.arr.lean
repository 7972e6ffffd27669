section QARR
variable {g : QG} {M : QM} {d K N : Nat} {Q : Option Value → QS → Prop} {k n pc : Nat} {lv : List (Nat × Value)} {st : List Value} {S : QS}
theorem q_iald {o len : Nat} {i : Int32} (hs : S.1[o]? = some (.inr (0, len))) (hin : vp_in i len) (hd : decode M.2.1 pc = .ok (.iaload, 1)) (h : q_L g M d K N Q k n (pc + 1) lv (.int (S.2.1 o i.toNatClampNeg) :: st) S) : q_L g M d K N Q k n pc lv (.int i :: .ref o :: st) S := by
  intro p e s m args below meth c H locs ls C hP hS hb hl
  show W _ _ _ _ _ _ _ _ _ _ _ _ _ _ _ (F0 m pc ls (.int i :: q_rv g (.ref o) :: st.map (q_rv g)))
  rw [q_rv_lt (hP.lt hs)]
  exact va_iald C.1 C.2.1 C.hK hP.2.2 o 0 (q_w_at hs) rfl hin hd (h p e s m args below meth c H locs ls C hP hS hb hl)
theorem q_bald {o len : Nat} {i : Int32} (hs : S.1[o]? = some (.inr (1, len))) (hin : vp_in i len) (hd : decode M.2.1 pc = .ok (.baload, 1)) (h : q_L g M d K N Q k n (pc + 1) lv (.int (S.2.1 o i.toNatClampNeg) :: st) S) : q_L g M d K N Q k n pc lv (.int i :: .ref o :: st) S := by
  intro p e s m args below meth c H locs ls C hP hS hb hl
  show W _ _ _ _ _ _ _ _ _ _ _ _ _ _ _ (F0 m pc ls (.int i :: q_rv g (.ref o) :: st.map (q_rv g)))
  rw [q_rv_lt (hP.lt hs)]
  exact va_bald C.1 C.2.1 C.hK hP.2.2 o 1 (q_w_at hs) rfl hin hd (h p e s m args below meth c H locs ls C hP hS hb hl)
theorem q_zald {o len : Nat} {i : Int32} (hs : S.1[o]? = some (.inr (3, len))) (hin : vp_in i len) (hd : decode M.2.1 pc = .ok (.baload, 1)) (h : q_L g M d K N Q k n (pc + 1) lv (.int (S.2.1 o i.toNatClampNeg) :: st) S) : q_L g M d K N Q k n pc lv (.int i :: .ref o :: st) S := by
  intro p e s m args below meth c H locs ls C hP hS hb hl
  show W _ _ _ _ _ _ _ _ _ _ _ _ _ _ _ (F0 m pc ls (.int i :: q_rv g (.ref o) :: st.map (q_rv g)))
  rw [q_rv_lt (hP.lt hs)]
  exact va_zald C.1 C.2.1 C.hK hP.2.2 o 3 (q_w_at hs) rfl hin hd (h p e s m args below meth c H locs ls C hP hS hb hl)
theorem q_lald {o len : Nat} {i : Int32} (hs : S.1[o]? = some (.inr (2, len))) (hin : vp_in i len) (hd : decode M.2.1 pc = .ok (.laload, 1)) (h : q_L g M d K N Q k n (pc + 1) lv (.long (S.2.2.1 o i.toNatClampNeg) :: st) S) : q_L g M d K N Q k n pc lv (.int i :: .ref o :: st) S := by
  intro p e s m args below meth c H locs ls C hP hS hb hl
  show W _ _ _ _ _ _ _ _ _ _ _ _ _ _ _ (F0 m pc ls (.int i :: q_rv g (.ref o) :: st.map (q_rv g)))
  rw [q_rv_lt (hP.lt hs)]
  exact va_lald C.1 C.2.1 C.hK hP.2.2 o 2 (q_w_at hs) rfl hin hd (h p e s m args below meth c H locs ls C hP hS hb hl)
theorem q_wA {o t len j : Nat} {v : Int32} (hs : S.1[o]? = some (.inr (t, len))) (ht : t ≠ 2) : (q_w g S).set o (g.2.1 + o, .inl (g.2.2.2.1 t, len, .inl (upd (S.2.1 o) j v))) = q_w g (q_sI S o j v) := by
  rw [← q_w_set (S := S) (S' := q_sI S o j v) rfl hs (fun x hx => ⟨by simp [q_sI, hx], rfl, rfl⟩)]
  simp [q_e, ht, q_sI]
theorem q_wAJ {o len j : Nat} {v : Int64} (hs : S.1[o]? = some (.inr (2, len))) : (q_w g S).set o (g.2.1 + o, .inl (g.2.2.2.1 2, len, .inr (.inl (vp_updL (S.2.2.1 o) j v)))) = q_w g (q_sJ S o j v) := by
  rw [← q_w_set (S := S) (S' := q_sJ S o j v) rfl hs (fun x hx => ⟨rfl, by simp [q_sJ, hx], rfl⟩)]
  simp [q_e, q_sJ]
theorem q_wC {a b t len sp dp c : Nat} (hs : S.1[b]? = some (.inr (t, len))) (ht : t ≠ 2) : (q_w g S).set b (g.2.1 + b, .inl (g.2.2.2.1 t, len, .inl (va_cpy (S.2.1 a) (S.2.1 b) sp dp c))) = q_w g (q_cpI S a sp b dp c) := by
  rw [← q_w_set (S := S) (S' := q_cpI S a sp b dp c) rfl hs (fun x hx => ⟨by simp [q_cpI, hx], rfl, rfl⟩)]
  simp [q_e, ht, q_cpI]
theorem q_iast {o len : Nat} {i x : Int32} (hs : S.1[o]? = some (.inr (0, len))) (hin : vp_in i len) (hd : decode M.2.1 pc = .ok (.iastore, 1)) (h : q_L g M d K N Q k n (pc + 1) lv st (q_sI S o i.toNatClampNeg x)) : q_L g M d K N Q k n pc lv (.int x :: .int i :: .ref o :: st) S := by
  intro p e s m args below meth c H locs ls C hP hS hb hl
  show W _ _ _ _ _ _ _ _ _ _ _ _ _ _ _ (F0 m pc ls (.int x :: .int i :: q_rv g (.ref o) :: st.map (q_rv g)))
  rw [q_rv_lt (hP.lt hs)]
  refine va_iast C.1 C.2.1 C.hK hP.2.2 (q_w_D g S) (q_SS0 hS) o 0 (cA := g.2.2.2.1 0) (n := len) (f := S.2.1 o) (q_w_at hs) rfl hin hd ?_
  rw [q_wA hs (by decide)]
  exact q_put (S := S) rfl h C hP hS hb hl
theorem q_bast {o len : Nat} {i x : Int32} (hs : S.1[o]? = some (.inr (1, len))) (hin : vp_in i len) (hd : decode M.2.1 pc = .ok (.bastore, 1)) (h : q_L g M d K N Q k n (pc + 1) lv st (q_sI S o i.toNatClampNeg (vp_nar .byte x))) : q_L g M d K N Q k n pc lv (.int x :: .int i :: .ref o :: st) S := by
  intro p e s m args below meth c H locs ls C hP hS hb hl
  show W _ _ _ _ _ _ _ _ _ _ _ _ _ _ _ (F0 m pc ls (.int x :: .int i :: q_rv g (.ref o) :: st.map (q_rv g)))
  rw [q_rv_lt (hP.lt hs)]
  refine va_bast C.1 C.2.1 C.hK hP.2.2 (q_w_D g S) (q_SS0 hS) o 1 (cA := g.2.2.2.1 1) (n := len) (f := S.2.1 o) (q_w_at hs) rfl hin hd ?_
  rw [q_wA hs (by decide)]
  exact q_put (S := S) rfl h C hP hS hb hl
theorem q_zast {o len : Nat} {i x : Int32} (hs : S.1[o]? = some (.inr (3, len))) (hin : vp_in i len) (hd : decode M.2.1 pc = .ok (.bastore, 1)) (h : q_L g M d K N Q k n (pc + 1) lv st (q_sI S o i.toNatClampNeg (vp_nar .boolean x))) : q_L g M d K N Q k n pc lv (.int x :: .int i :: .ref o :: st) S := by
  intro p e s m args below meth c H locs ls C hP hS hb hl
  show W _ _ _ _ _ _ _ _ _ _ _ _ _ _ _ (F0 m pc ls (.int x :: .int i :: q_rv g (.ref o) :: st.map (q_rv g)))
  rw [q_rv_lt (hP.lt hs)]
  refine va_zast C.1 C.2.1 C.hK hP.2.2 (q_w_D g S) (q_SS0 hS) o 3 (cA := g.2.2.2.1 3) (n := len) (f := S.2.1 o) (q_w_at hs) rfl hin hd ?_
  rw [q_wA hs (by decide)]
  exact q_put (S := S) rfl h C hP hS hb hl
theorem q_last {o len : Nat} {i : Int32} {x : Int64} (hs : S.1[o]? = some (.inr (2, len))) (hin : vp_in i len) (hd : decode M.2.1 pc = .ok (.lastore, 1)) (h : q_L g M d K N Q k n (pc + 1) lv st (q_sJ S o i.toNatClampNeg x)) : q_L g M d K N Q k n pc lv (.long x :: .int i :: .ref o :: st) S := by
  intro p e s m args below meth c H locs ls C hP hS hb hl
  show W _ _ _ _ _ _ _ _ _ _ _ _ _ _ _ (F0 m pc ls (.long x :: .int i :: q_rv g (.ref o) :: st.map (q_rv g)))
  rw [q_rv_lt (hP.lt hs)]
  refine va_last C.1 C.2.1 C.hK hP.2.2 (q_w_D g S) (q_SS0 hS) o 2 (cA := g.2.2.2.1 2) (n := len) (f := S.2.2.1 o) (q_w_at hs) rfl hin hd ?_
  rw [q_wAJ hs]
  exact q_put (S := S) rfl h C hP hS hb hl
theorem q_alen {o t len : Nat} (hs : S.1[o]? = some (.inr (t, len))) (ht : t < 4) (hd : decode M.2.1 pc = .ok (.arraylength, 1)) (h : q_L g M d K N Q k n (pc + 1) lv (.int (nI len) :: st) S) : q_L g M d K N Q k n pc lv (.ref o :: st) S := by
  intro p e s m args below meth c H locs ls C hP hS hb hl
  refine q_top (q_rv_lt (hP.lt hs)) ?_
  exact va_alen C.1 C.2.1 C.hK hP.2.2 o t (q_w_at hs) (q_ty_at g t ht) rfl hd (h p e s m args below meth c H locs ls C hP hS hb hl)
theorem q_tabI {j : Nat} {nm : String} {vs : List Int32} {r : Nat} {i : Int32} (hj : q_stat[j]? = some (nm, vs)) (hr : r = 1000000 + (200 + j)) (hin : vp_in i vs.length) (hd : decode M.2.1 pc = .ok (.iaload, 1)) (h : q_L g M d K N Q k n (pc + 1) lv (.int (vs.getD i.toNatClampNeg 0) :: st) S) : q_L g M d K N Q k n pc lv (.int i :: .ref r :: st) S := by
  intro p e s m args below meth c H locs ls C hP hS hb hl
  show W _ _ _ _ _ _ _ _ _ _ _ _ _ _ _ (F0 m pc ls (.int i :: q_rv g (.ref r) :: st.map (q_rv g)))
  have hjl : j < 2 := (List.getElem?_eq_some_iff.mp hj).1
  rw [hr, q_rv_con _ (by omega)]
  exact va_ti C.1 C.2.1 (C.con.2.1 j nm vs hj).2 hS hin rfl hd (h p e s m args below meth c H locs ls C hP hS hb hl)
theorem q_scrI {i : Int32} (hin : vp_in i g.2.2.2.2.2.1) (hd : decode M.2.1 pc = .ok (.iaload, 1)) (h : q_L g M d K N Q k n (pc + 1) lv (.int (g.2.2.2.2.2.2 i.toNatClampNeg) :: st) S) : q_L g M d K N Q k n pc lv (.int i :: .ref 1000300 :: st) S := by
  intro p e s m args below meth c H locs ls C hP hS hb hl
  show W _ _ _ _ _ _ _ _ _ _ _ _ _ _ _ (F0 m pc ls (.int i :: q_rv g (.ref (1000000 + 300)) :: st.map (q_rv g)))
  rw [q_rv_con _ (by omega)]
  exact va_ti C.1 C.2.1 C.con.2.2.2.1 hS hin rfl hd (h p e s m args below meth c H locs ls C hP hS hb hl)
theorem q_scrL (hd : decode M.2.1 pc = .ok (.arraylength, 1)) (h : q_L g M d K N Q k n (pc + 1) lv (.int (nI g.2.2.2.2.2.1) :: st) S) : q_L g M d K N Q k n pc lv (.ref 1000300 :: st) S := by
  intro p e s m args below meth c H locs ls C hP hS hb hl
  refine q_top (o := 1000000 + 300) (q_rv_con _ (by omega)) ?_
  exact va_tlen C.1 C.2.1 C.con.2.2.2.1 hS rfl hd (h p e s m args below meth c H locs ls C hP hS hb hl)
theorem q_strsN {j : Nat} {x : String × Nat × String × List Int32} (h : q_strs[j]? = some x) : j < 47 := (List.getElem?_eq_some_iff.mp h).1
theorem q_bytI {j : Nat} {own tx : String} {ix : Nat} {bs : List Int32} {r : Nat} {i : Int32} (hj : q_strs[j]? = some (own, ix, tx, bs)) (hr : r = 1000000 + (2 * j + 1)) (hin : vp_in i bs.length) (hd : decode M.2.1 pc = .ok (.baload, 1)) (h : q_L g M d K N Q k n (pc + 1) lv (.int (bs.getD i.toNatClampNeg 0) :: st) S) : q_L g M d K N Q k n pc lv (.int i :: .ref r :: st) S := by
  intro p e s m args below meth c H locs ls C hP hS hb hl
  show W _ _ _ _ _ _ _ _ _ _ _ _ _ _ _ (F0 m pc ls (.int i :: q_rv g (.ref r) :: st.map (q_rv g)))
  have hjl := q_strsN hj
  rw [hr, q_rv_con _ (by omega)]
  exact va_tb C.1 C.2.1 (C.con.1 j own ix tx bs hj).2.2.2.2 hS hin rfl hd (h p e s m args below meth c H locs ls C hP hS hb hl)
theorem q_bytL {j : Nat} {own tx : String} {ix : Nat} {bs : List Int32} {r : Nat} (hj : q_strs[j]? = some (own, ix, tx, bs)) (hr : r = 1000000 + (2 * j + 1)) (hd : decode M.2.1 pc = .ok (.arraylength, 1)) (h : q_L g M d K N Q k n (pc + 1) lv (.int (nI bs.length) :: st) S) : q_L g M d K N Q k n pc lv (.ref r :: st) S := by
  intro p e s m args below meth c H locs ls C hP hS hb hl
  have hjl := q_strsN hj
  refine q_top (o := r) (by rw [hr, q_rv_con _ (by omega)]) ?_
  exact va_tlen C.1 C.2.1 (C.con.1 j own ix tx bs hj).2.2.2.2 hS rfl hd (h p e s m args below meth c H locs ls C hP hS hb hl)
theorem q_ldcS {j idx : Nat} {tx : String} {bs : List Int32} {r : Nat} (hj : q_strs[j]? = some (M.1.cls, idx, tx, bs)) (hr : r = 1000000 + 2 * j) (hd : decode M.2.1 pc = .ok (.ldc idx, 2)) (h : q_L g M d K N Q k n (pc + 2) lv (.ref r :: st) S) : q_L g M d K N Q k n pc lv st S := by
  intro p e s m args below meth c H locs ls C hP hS hb hl
  have hjl := q_strsN hj
  have h1 : W p g.1 e (q_room d K N) s m args below meth c H locs k n (MQ below (q_Q g K Q) args s K N (q_A g)) (F0 m (pc + 2) ls (q_rv g (.ref r) :: st.map (q_rv g))) := (h p e s m args below meth c H locs ls C hP hS hb hl)
  rw [hr, q_rv_con _ (by omega)] at h1
  exact va_ldcS C.1 C.2.1 C.own (C.con.1 j _ idx tx bs hj).1 hd h1
theorem q_strV {j idx : Nat} {own tx : String} {ix : Nat} {bs : List Int32} {r r2 : Nat} (hj : q_strs[j]? = some (own, ix, tx, bs)) (hr : r = 1000000 + 2 * j) (hr2 : r2 = 1000000 + (2 * j + 1)) (hw : Cond.fieldLink M.1.cls idx "java/lang/String" "value" "[B" ∈ q_T) (hd : decode M.2.1 pc = .ok (.getfield idx, 3)) (h : q_L g M d K N Q k n (pc + 3) lv (.ref r2 :: st) S) : q_L g M d K N Q k n pc lv (.ref r :: st) S := by
  intro p e s m args below meth c H locs ls C hP hS hb hl
  have hjl := q_strsN hj
  have h1 : W p g.1 e (q_room d K N) s m args below meth c H locs k n (MQ below (q_Q g K Q) args s K N (q_A g)) (F0 m (pc + 3) ls (q_rv g (.ref r2) :: st.map (q_rv g))) := (h p e s m args below meth c H locs ls C hP hS hb hl)
  rw [hr2, q_rv_con _ (by omega)] at h1
  refine q_top (o := r) (by rw [hr, q_rv_con _ (by omega)]) ?_
  exact vk_getf C.1 C.2.1 (C.con.1 j own ix tx bs hj).2.2.2.1 hS C.own (C.hts args _ hw) (fun _ q => q) hd h1
theorem q_strC {j idx : Nat} {own tx : String} {ix : Nat} {bs : List Int32} {r : Nat} (hj : q_strs[j]? = some (own, ix, tx, bs)) (hr : r = 1000000 + 2 * j) (hw : Cond.fieldLink M.1.cls idx "java/lang/String" "coder" "B" ∈ q_T) (hd : decode M.2.1 pc = .ok (.getfield idx, 3)) (h : q_L g M d K N Q k n (pc + 3) lv (.int 0 :: st) S) : q_L g M d K N Q k n pc lv (.ref r :: st) S := by
  intro p e s m args below meth c H locs ls C hP hS hb hl
  have hjl := q_strsN hj
  refine q_top (o := r) (by rw [hr, q_rv_con _ (by omega)]) ?_
  exact vk_getf C.1 C.2.1 (C.con.1 j own ix tx bs hj).2.2.1 hS C.own (C.hts args _ hw) (fun _ q => q) hd (h p e s m args below meth c H locs ls C hP hS hb hl)
theorem q_getsC {idx : Nat} (hw : Cond.fieldLink M.1.cls idx "java/lang/String" "COMPACT_STRINGS" "Z" ∈ q_T) (hd : decode M.2.1 pc = .ok (.getstatic idx, 3)) (h : q_L g M d K N Q k n (pc + 3) lv (.int 1 :: st) S) : q_L g M d K N Q k n pc lv st S := by
  intro p e s m args below meth c H locs ls C hP hS hb hl
  exact va_gets C.1 C.2.1 C.con.2.2.1 hS C.own (C.hts args _ hw) (fun _ q => q) hd (h p e s m args below meth c H locs ls C hP hS hb hl)
theorem q_getsT {j idx : Nat} {nm host : String} {vs : List Int32} {r : Nat} (hj : q_stat[j]? = some (nm, vs)) (hr : r = 1000000 + (200 + j)) (hw : Cond.fieldLinkNest M.1.cls idx "ObjectMachine" nm "[I" host ∈ q_T) (hd : decode M.2.1 pc = .ok (.getstatic idx, 3)) (h : q_L g M d K N Q k n (pc + 3) lv (.ref r :: st) S) : q_L g M d K N Q k n pc lv st S := by
  intro p e s m args below meth c H locs ls C hP hS hb hl
  have hjl : j < 2 := (List.getElem?_eq_some_iff.mp hj).1
  have h1 : W p g.1 e (q_room d K N) s m args below meth c H locs k n (MQ below (q_Q g K Q) args s K N (q_A g)) (F0 m (pc + 3) ls (q_rv g (.ref r) :: st.map (q_rv g))) := (h p e s m args below meth c H locs ls C hP hS hb hl)
  rw [hr, q_rv_con _ (by omega)] at h1
  exact va_getsN C.1 C.2.1 (C.con.2.1 j nm vs hj).1 hS C.own (C.hts args _ hw) (fun _ q => q) hd h1
theorem q_ldc {idx : Nat} {v : Int32} (hw : Cond.constant M.1.cls idx v ∈ q_T) (hd : decode M.2.1 pc = .ok (.ldc idx, 2)) (h : q_L g M d K N Q k n (pc + 2) lv (.int v :: st) S) : q_L g M d K N Q k n pc lv st S := by
  intro p e s m args below meth c H locs ls C hP hS hb hl
  exact lv_ldc C.1 C.2.1 C.own (C.hts args _ hw) hd (h p e s m args below meth c H locs ls C hP hS hb hl)
theorem q_ldcw {idx : Nat} {v : Int32} (hw : Cond.constant M.1.cls idx v ∈ q_T) (hd : decode M.2.1 pc = .ok (.ldc_w idx, 3)) (h : q_L g M d K N Q k n (pc + 3) lv (.int v :: st) S) : q_L g M d K N Q k n pc lv st S := by
  intro p e s m args below meth c H locs ls C hP hS hb hl
  exact lv_ldcw C.1 C.2.1 C.own (C.hts args _ hw) hd (h p e s m args below meth c H locs ls C hP hS hb hl)
theorem q_ldc2 {idx : Nat} {v : Int64} (hw : Cond.constantLong M.1.cls idx v ∈ q_T) (hd : decode M.2.1 pc = .ok (.ldc2_w idx, 3)) (h : q_L g M d K N Q k n (pc + 3) lv (.long v :: st) S) : q_L g M d K N Q k n pc lv st S := by
  intro p e s m args below meth c H locs ls C hP hS hb hl
  exact lv_ldc2 C.1 C.2.1 C.own (C.hts args _ hw) hd (h p e s m args below meth c H locs ls C hP hS hb hl)
theorem q_lookup {dflt : Int} {ps : Array (Int × Int)} {len : Nat} {x : Int32} {off : Int} (tgt : Nat) (hp : (ps.toList.zip (ps.toList.drop 1)).all (fun (a, next) => a.1 < next.1) = true) (ho : Op.lookupswitch.offset ps.toList dflt x.toInt = off) (ht : (pc : Int) + off = (tgt : Int)) (hd : decode M.2.1 pc = .ok (.lookupswitch dflt ps, len)) (h : q_L g M d K N Q k n tgt lv st S) : q_L g M d K N Q k n pc lv (.int x :: st) S := by
  intro p e s m args below meth c H locs ls C hP hS hb hl
  exact lv_lookup C.1 C.2.1 hd hp ho ht (h p e s m args below meth c H locs ls C hP hS hb hl)
theorem q_tabOut {dflt lo hi : Int} {offs : Array Int} {len : Nat} {x : Int32} (tgt : Nat) (hx : x.toInt < lo ∨ hi < x.toInt) (ht : (pc : Int) + dflt = (tgt : Int)) (hd : decode M.2.1 pc = .ok (.tableswitch dflt lo hi offs, len)) (h : q_L g M d K N Q k n tgt lv st S) : q_L g M d K N Q k n pc lv (.int x :: st) S := by
  intro p e s m args below meth c H locs ls C hP hS hb hl
  exact lv_tableOut C.1 C.2.1 hd hx ht (h p e s m args below meth c H locs ls C hP hS hb hl)
theorem q_tabIn {dflt lo hi : Int} {offs : Array Int} {len : Nat} {x : Int32} {off : Int} (tgt : Nat) (h1 : ¬ x.toInt < lo) (h2 : ¬ hi < x.toInt) (ho : offs[(x.toInt - lo).toNat]? = some off) (ht : (pc : Int) + off = (tgt : Int)) (hd : decode M.2.1 pc = .ok (.tableswitch dflt lo hi offs, len)) (h : q_L g M d K N Q k n tgt lv st S) : q_L g M d K N Q k n pc lv (.int x :: st) S := by
  intro p e s m args below meth c H locs ls C hP hS hb hl
  exact lv_tableIn C.1 C.2.1 hd h1 h2 ho ht (h p e s m args below meth c H locs ls C hP hS hb hl)
theorem q_iret {ty : FieldType} {v : Int32} (hr : M.2.2.2 = some ty) (hn : narrow ty (.int v) = .int v) (hd : decode M.2.1 pc = .ok (.ireturn, 1)) (hQ : Q (some (.int v)) S) : q_L g M d k n Q k n pc lv [.int v] S := by
  intro p e s m args below meth c H locs ls C hP hS hb hl
  exact W.zret C.1 C.2.1 (C.2.2.2.1.trans hr) hn (fun t ht _ => ⟨some (.int v), S, rfl, hQ, by rw [ht]; exact hP, hS.F ht, by rw [ht]; exact hb.2⟩) hS.2.2 hd C.2.2.2.2.1
theorem q_lret {v : Int64} (hr : M.2.2.2 = some .long) (hd : decode M.2.1 pc = .ok (.lreturn, 1)) (hQ : Q (some (.long v)) S) : q_L g M d k n Q k n pc lv [.long v] S := by
  intro p e s m args below meth c H locs ls C hP hS hb hl
  exact W.lret C.1 C.2.1 (C.2.2.2.1.trans hr) (fun t ht _ => ⟨some (.long v), S, rfl, hQ, by rw [ht]; exact hP, hS.F ht, by rw [ht]; exact hb.2⟩) hS.2.2 hd C.2.2.2.2.1
theorem q_aret {rt : FieldType} {r : Nat} (hr : M.2.2.2 = some rt) (hrt : (∃ x, rt = .object x) ∨ ∃ t, rt = .array t) (hd : decode M.2.1 pc = .ok (.areturn, 1)) (hQ : Q (some (.ref r)) S) : q_L g M d k n Q k n pc lv [.ref r] S := by
  intro p e s m args below meth c H locs ls C hP hS hb hl
  exact W.aret C.1 C.2.1 (C.2.2.2.1.trans hr) hrt (q_rv_isref g r) (fun t ht _ => ⟨some (.ref r), S, rfl, hQ, by rw [ht]; exact hP, hS.F ht, by rw [ht]; exact hb.2⟩) hS.2.2 hd C.2.2.2.2.1
theorem q_vret (hr : M.2.2.2 = none) (hd : decode M.2.1 pc = .ok (.return_, 1)) (hQ : Q none S) : q_L g M d k n Q k n pc lv [] S := by
  intro p e s m args below meth c H locs ls C hP hS hb hl
  exact W.vret C.1 C.2.1 (C.2.2.2.1.trans hr) (fun t ht _ => ⟨none, S, rfl, hQ, by rw [ht]; exact hP, hS.F ht, by rw [ht]; exact hb.2⟩) hS.2.2 hd C.2.2.2.2.1
theorem q_getsF {idx : Nat} (hw : Cond.fieldLink M.1.cls idx "jdk/internal/util/Preconditions" "SIOOBE_FORMATTER" "Ljava/util/function/BiFunction;" ∈ q_T) (hd : decode M.2.1 pc = .ok (.getstatic idx, 3)) (h : ∀ r : Nat, q_L g M d K N Q k n (pc + 3) lv (.ref r :: st) S) : q_L g M d K N Q k n pc lv st S := by
  intro p e s m args below meth c H locs ls C hP hS hb hl
  obtain ⟨r, hr⟩ := C.con.2.2.2.2
  exact va_gets C.1 C.2.1 hr hS C.own (C.hts args _ hw) (fun _ q => q) hd (h r p e s m args below meth c H locs ls C hP hS hb hl)
theorem q_mmin {idx : Nat} {x y : Int32} (hlink : Cond.methodLink M.1.cls idx Lib.Math.min.name ∈ q_T) (hstat : Cond.static Lib.Math.min.name ∈ q_T) (hini : Cond.initialized "java/lang/Math" ∈ q_T) (hcode : Cond.code Lib.Math.min.name Lib.Math.min.code 2 (some .int) ∈ q_T) (hst : (st.map fun v => v.category).sum ≤ 8) (hk : k ≤ K) (hn : n ≤ N) (hd : decode M.2.1 pc = .ok (.invokestatic idx, 3)) (h : q_L g M (d + 1) K N Q k n (pc + 3) lv (.int (if y < x then y else x) :: st) S) : q_L g M (d + 1) K N Q k n pc lv (.int y :: .int x :: st) S := by
  intro p e s m args below meth c H locs ls C hP hS hb hl
  have hst2 : ((st.map (q_rv g)).map fun v => v.category).sum ≤ 8 := by
    rw [List.map_map]
    have : ((fun v : Value => v.category) ∘ q_rv g) = fun v => v.category := funext fun v => q_rv_cat g v
    rw [this]; exact hst
  exact va_mmin C.1 C.2.1 (C.2.2.1.trans hl.1.symm) C.own (C.hts args _ hlink) (C.hts args _ hstat) (C.hts args _ hini) (C.hts args _ hcode) (Nat.le_add_left 1 d) (by show _ + 13 ≤ 40 * (d + 1); omega) hk hn hd (h p e s m args below meth c H locs ls C hP hS hb hl)
end QARR
