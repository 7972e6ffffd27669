section QRULES
variable {g : QG} {M : QM} {d K N : Nat} {Q : Option Value → QS → Prop} {k n pc : Nat} {lv : List (Nat × Value)} {st : List Value} {S : QS}
theorem q_iconst {i : Int} {v : Int32} (hv : Int32.ofInt i = v) (hd : decode M.2.1 pc = .ok (.iconst i, 1)) (h : q_L g M d K N Q k n (pc + 1) lv (.int v :: st) S) : q_L g M d K N Q k n pc lv st S :=
  fun p e s m args below meth c H locs ls C hP hS hb hl => lv_iconst C.1 C.2.1 hd hv (h p e s m args below meth c H locs ls C hP hS hb hl)
theorem q_bipush {i : Int} {v : Int32} (hv : (Int8.ofInt i).toInt32 = v) (hd : decode M.2.1 pc = .ok (.bipush i, 2)) (h : q_L g M d K N Q k n (pc + 2) lv (.int v :: st) S) : q_L g M d K N Q k n pc lv st S :=
  fun p e s m args below meth c H locs ls C hP hS hb hl => lv_bipush C.1 C.2.1 hd hv (h p e s m args below meth c H locs ls C hP hS hb hl)
theorem q_sipush {i : Int} {v : Int32} (hv : (Int16.ofInt i).toInt32 = v) (hd : decode M.2.1 pc = .ok (.sipush i, 3)) (h : q_L g M d K N Q k n (pc + 3) lv (.int v :: st) S) : q_L g M d K N Q k n pc lv st S :=
  fun p e s m args below meth c H locs ls C hP hS hb hl => lv_sipush C.1 C.2.1 hd hv (h p e s m args below meth c H locs ls C hP hS hb hl)
theorem q_lconst {i : Fin 2} {v : Int64} (hv : Int64.ofNat (i : Nat) = v) (hd : decode M.2.1 pc = .ok (.lconst i, 1)) (h : q_L g M d K N Q k n (pc + 1) lv (.long v :: st) S) : q_L g M d K N Q k n pc lv st S :=
  fun p e s m args below meth c H locs ls C hP hS hb hl => lv_lconst C.1 C.2.1 hd hv (h p e s m args below meth c H locs ls C hP hS hb hl)
theorem q_iload_n {i : Fin 4} {i1 : Nat} {x : Int32} (j : Nat) (hi : (i : Nat) = i1) (hj : lv[j]? = some (i1, .int x)) (hd : decode M.2.1 pc = .ok (.iload_n i, 1)) (h : q_L g M d K N Q k n (pc + 1) lv (.int x :: st) S) : q_L g M d K N Q k n pc lv st S :=
  fun p e s m args below meth c H locs ls C hP hS hb hl => lv_iload_n C.1 C.2.1 hd hi (q_lv_at hl hj) (h p e s m args below meth c H locs ls C hP hS hb hl)
theorem q_iload {i1 : Nat} {x : Int32} (j : Nat) (hj : lv[j]? = some (i1, .int x)) (hd : decode M.2.1 pc = .ok (.iload i1, 2)) (h : q_L g M d K N Q k n (pc + 2) lv (.int x :: st) S) : q_L g M d K N Q k n pc lv st S :=
  fun p e s m args below meth c H locs ls C hP hS hb hl => lv_iload C.1 C.2.1 hd (q_lv_at hl hj) (h p e s m args below meth c H locs ls C hP hS hb hl)
theorem q_lload_n {i : Fin 4} {i1 : Nat} {x : Int64} (j : Nat) (hi : (i : Nat) = i1) (hj : lv[j]? = some (i1, .long x)) (hd : decode M.2.1 pc = .ok (.lload_n i, 1)) (h : q_L g M d K N Q k n (pc + 1) lv (.long x :: st) S) : q_L g M d K N Q k n pc lv st S :=
  fun p e s m args below meth c H locs ls C hP hS hb hl => lv_lload_n C.1 C.2.1 hd hi (q_lv_at hl hj) (h p e s m args below meth c H locs ls C hP hS hb hl)
theorem q_lload {i1 : Nat} {x : Int64} (j : Nat) (hj : lv[j]? = some (i1, .long x)) (hd : decode M.2.1 pc = .ok (.lload i1, 2)) (h : q_L g M d K N Q k n (pc + 2) lv (.long x :: st) S) : q_L g M d K N Q k n pc lv st S :=
  fun p e s m args below meth c H locs ls C hP hS hb hl => lv_lload C.1 C.2.1 hd (q_lv_at hl hj) (h p e s m args below meth c H locs ls C hP hS hb hl)
theorem q_aload_n {i : Fin 4} {i1 : Nat} {x : Nat} (j : Nat) (hi : (i : Nat) = i1) (hj : lv[j]? = some (i1, .ref x)) (hd : decode M.2.1 pc = .ok (.aload_n i, 1)) (h : q_L g M d K N Q k n (pc + 1) lv (.ref x :: st) S) : q_L g M d K N Q k n pc lv st S := by
  intro p e s m args below meth c H locs ls C hP hS hb hl
  have h1 := q_lv_at hl hj
  have h2 : W p g.1 e (q_room d K N) s m args below meth c H locs k n (MQ below (q_Q g K Q) args s K N (q_A g)) (F0 m (pc + 1) ls (q_rv g (.ref x) :: st.map (q_rv g))) := h p e s m args below meth c H locs ls C hP hS hb hl
  rcases q_rv_isref g x with e1 | ⟨a, e1⟩ <;> rw [e1] at h1 h2
  · exact lv_aload_nN C.1 C.2.1 hd hi h1 h2
  · exact lv_aload_n C.1 C.2.1 hd hi h1 h2
theorem q_aload {i1 : Nat} {x : Nat} (j : Nat) (hj : lv[j]? = some (i1, .ref x)) (hd : decode M.2.1 pc = .ok (.aload i1, 2)) (h : q_L g M d K N Q k n (pc + 2) lv (.ref x :: st) S) : q_L g M d K N Q k n pc lv st S := by
  intro p e s m args below meth c H locs ls C hP hS hb hl
  have h1 := q_lv_at hl hj
  have h2 : W p g.1 e (q_room d K N) s m args below meth c H locs k n (MQ below (q_Q g K Q) args s K N (q_A g)) (F0 m (pc + 2) ls (q_rv g (.ref x) :: st.map (q_rv g))) := h p e s m args below meth c H locs ls C hP hS hb hl
  rcases q_rv_isref g x with e1 | ⟨a, e1⟩ <;> rw [e1] at h1 h2
  · exact lv_aloadN C.1 C.2.1 hd h1 h2
  · exact lv_aload C.1 C.2.1 hd h1 h2
theorem q_lv_filter {g : QG} (f : Nat → Nat → Bool) (lv : List (Nat × Value)) : (q_lv g lv).filter (fun q => f q.1 q.2.category) = q_lv g (lv.filter (fun q => f q.1 q.2.category)) := by
  simp only [q_lv, List.filter_map]
  congr 1
  apply List.filter_congr
  intro x _
  simp only [Function.comp, q_rv_cat]
theorem q_st1 {g : QG} {lv lv' : List (Nat × Value)} {i1 : Nat} {v : Value} (hl : (i1, v) :: lv.filter (fun q => !(q.1 == i1) && !(q.1 + 1 == i1 && q.2.category == 2)) = lv') : (i1, q_rv g v) :: (q_lv g lv).filter (fun q => !(q.1 == i1) && !(q.1 + 1 == i1 && q.2.category == 2)) = q_lv g lv' := by
  rw [← hl]
  show _ = (i1, q_rv g v) :: q_lv g _
  rw [← q_lv_filter (fun a b => !(a == i1) && !(a + 1 == i1 && b == 2))]
theorem q_st2 {g : QG} {lv lv' : List (Nat × Value)} {i1 : Nat} {v : Value} (hl : (i1, v) :: lv.filter (fun q => !(q.1 == i1) && (!(q.1 == i1 + 1) && !(q.1 + 1 == i1 && q.2.category == 2))) = lv') : (i1, q_rv g v) :: (q_lv g lv).filter (fun q => !(q.1 == i1) && (!(q.1 == i1 + 1) && !(q.1 + 1 == i1 && q.2.category == 2))) = q_lv g lv' := by
  rw [← hl]
  show _ = (i1, q_rv g v) :: q_lv g _
  rw [← q_lv_filter (fun a b => !(a == i1) && (!(a == i1 + 1) && !(a + 1 == i1 && b == 2)))]
theorem q_istore_n {i : Fin 4} {i1 : Nat} {x : Int32} (lv' : List (Nat × Value)) (hi : (i : Nat) = i1) (hn : i1 < M.2.2.1) (hl' : (i1, Value.int x) :: lv.filter (fun q => !(q.1 == i1) && !(q.1 + 1 == i1 && q.2.category == 2)) = lv') (hd : decode M.2.1 pc = .ok (.istore_n i, 1)) (h : q_L g M d K N Q k n (pc + 1) lv' st S) : q_L g M d K N Q k n pc lv (.int x :: st) S :=
  fun p e s m args below meth c H locs ls C hP hS hb hl => lv_istore_n C.1 C.2.1 hd hi hl hn (q_st1 hl') (fun ls' hl2 => h p e s m args below meth c H locs ls' C hP hS hb hl2)
theorem q_istore {i1 : Nat} {x : Int32} (lv' : List (Nat × Value)) (hn : i1 < M.2.2.1) (hl' : (i1, Value.int x) :: lv.filter (fun q => !(q.1 == i1) && !(q.1 + 1 == i1 && q.2.category == 2)) = lv') (hd : decode M.2.1 pc = .ok (.istore i1, 2)) (h : q_L g M d K N Q k n (pc + 2) lv' st S) : q_L g M d K N Q k n pc lv (.int x :: st) S :=
  fun p e s m args below meth c H locs ls C hP hS hb hl => lv_istore C.1 C.2.1 hd hl hn (q_st1 hl') (fun ls' hl2 => h p e s m args below meth c H locs ls' C hP hS hb hl2)
theorem q_lstore_n {i : Fin 4} {i1 : Nat} {x : Int64} (lv' : List (Nat × Value)) (hi : (i : Nat) = i1) (hn : i1 + 1 < M.2.2.1) (hl' : (i1, Value.long x) :: lv.filter (fun q => !(q.1 == i1) && (!(q.1 == i1 + 1) && !(q.1 + 1 == i1 && q.2.category == 2))) = lv') (hd : decode M.2.1 pc = .ok (.lstore_n i, 1)) (h : q_L g M d K N Q k n (pc + 1) lv' st S) : q_L g M d K N Q k n pc lv (.long x :: st) S :=
  fun p e s m args below meth c H locs ls C hP hS hb hl => lv_lstore_n C.1 C.2.1 hd hi hl hn (q_st2 hl') (fun ls' hl2 => h p e s m args below meth c H locs ls' C hP hS hb hl2)
theorem q_lstore {i1 : Nat} {x : Int64} (lv' : List (Nat × Value)) (hn : i1 + 1 < M.2.2.1) (hl' : (i1, Value.long x) :: lv.filter (fun q => !(q.1 == i1) && (!(q.1 == i1 + 1) && !(q.1 + 1 == i1 && q.2.category == 2))) = lv') (hd : decode M.2.1 pc = .ok (.lstore i1, 2)) (h : q_L g M d K N Q k n (pc + 2) lv' st S) : q_L g M d K N Q k n pc lv (.long x :: st) S :=
  fun p e s m args below meth c H locs ls C hP hS hb hl => lv_lstore C.1 C.2.1 hd hl hn (q_st2 hl') (fun ls' hl2 => h p e s m args below meth c H locs ls' C hP hS hb hl2)
theorem q_astore_n {i : Fin 4} {i1 : Nat} {x : Nat} (lv' : List (Nat × Value)) (hi : (i : Nat) = i1) (hn : i1 < M.2.2.1) (hl' : (i1, Value.ref x) :: lv.filter (fun q => !(q.1 == i1) && !(q.1 + 1 == i1 && q.2.category == 2)) = lv') (hd : decode M.2.1 pc = .ok (.astore_n i, 1)) (h : q_L g M d K N Q k n (pc + 1) lv' st S) : q_L g M d K N Q k n pc lv (.ref x :: st) S := by
  intro p e s m args below meth c H locs ls C hP hS hb hl
  have h1 := q_st1 (g := g) hl'
  have h2 : ∀ ls' : Array Slot, lv_has ls' M.2.2.1 (q_lv g lv') → W p g.1 e (q_room d K N) s m args below meth c H locs k n (MQ below (q_Q g K Q) args s K N (q_A g)) (F0 m (pc + 1) ls' (st.map (q_rv g))) := fun ls' hl2 => h p e s m args below meth c H locs ls' C hP hS hb hl2
  show W p g.1 e (q_room d K N) s m args below meth c H locs k n (MQ below (q_Q g K Q) args s K N (q_A g)) (F0 m pc ls (q_rv g (.ref x) :: st.map (q_rv g)))
  rcases q_rv_isref g x with e1 | ⟨a, e1⟩ <;> rw [e1] at h1 ⊢
  · exact lv_astore_nN C.1 C.2.1 hd hi hl hn h1 h2
  · exact lv_astore_n C.1 C.2.1 hd hi hl hn h1 h2
theorem q_astore {i1 : Nat} {x : Nat} (lv' : List (Nat × Value)) (hn : i1 < M.2.2.1) (hl' : (i1, Value.ref x) :: lv.filter (fun q => !(q.1 == i1) && !(q.1 + 1 == i1 && q.2.category == 2)) = lv') (hd : decode M.2.1 pc = .ok (.astore i1, 2)) (h : q_L g M d K N Q k n (pc + 2) lv' st S) : q_L g M d K N Q k n pc lv (.ref x :: st) S := by
  intro p e s m args below meth c H locs ls C hP hS hb hl
  have h1 := q_st1 (g := g) hl'
  have h2 : ∀ ls' : Array Slot, lv_has ls' M.2.2.1 (q_lv g lv') → W p g.1 e (q_room d K N) s m args below meth c H locs k n (MQ below (q_Q g K Q) args s K N (q_A g)) (F0 m (pc + 2) ls' (st.map (q_rv g))) := fun ls' hl2 => h p e s m args below meth c H locs ls' C hP hS hb hl2
  show W p g.1 e (q_room d K N) s m args below meth c H locs k n (MQ below (q_Q g K Q) args s K N (q_A g)) (F0 m pc ls (q_rv g (.ref x) :: st.map (q_rv g)))
  rcases q_rv_isref g x with e1 | ⟨a, e1⟩ <;> rw [e1] at h1 ⊢
  · exact lv_astoreN C.1 C.2.1 hd hl hn h1 h2
  · exact lv_astore C.1 C.2.1 hd hl hn h1 h2
theorem q_iinc {i1 : Nat} {i : Int} {x v : Int32} (j : Nat) (lv' : List (Nat × Value)) (hn : i1 < M.2.2.1) (hj : lv[j]? = some (i1, .int x)) (hv : x + Int32.ofInt i = v) (hl' : (i1, Value.int v) :: lv.filter (fun q => !(q.1 == i1) && !(q.1 + 1 == i1 && q.2.category == 2)) = lv') (hd : decode M.2.1 pc = .ok (.iinc i1 i, 3)) (h : q_L g M d K N Q k n (pc + 3) lv' st S) : q_L g M d K N Q k n pc lv st S :=
  fun p e s m args below meth c H locs ls C hP hS hb hl => lv_iinc C.1 C.2.1 hd hl (k := j) (by rw [q_lv, List.getElem?_map, hj]; rfl) hv hn (q_st1 hl') (fun ls' hl2 => h p e s m args below meth c H locs ls' C hP hS hb hl2)
theorem q_iadd {x y : Int32} (hd : decode M.2.1 pc = .ok (.iadd, 1)) (h : q_L g M d K N Q k n (pc + 1) lv (.int (x + y) :: st) S) : q_L g M d K N Q k n pc lv (.int y :: .int x :: st) S :=
  fun p e s m args below meth c H locs ls C hP hS hb hl => lv_iadd C.1 C.2.1 hd (h p e s m args below meth c H locs ls C hP hS hb hl)
theorem q_isub {x y : Int32} (hd : decode M.2.1 pc = .ok (.isub, 1)) (h : q_L g M d K N Q k n (pc + 1) lv (.int (x - y) :: st) S) : q_L g M d K N Q k n pc lv (.int y :: .int x :: st) S :=
  fun p e s m args below meth c H locs ls C hP hS hb hl => lv_isub C.1 C.2.1 hd (h p e s m args below meth c H locs ls C hP hS hb hl)
theorem q_imul {x y : Int32} (hd : decode M.2.1 pc = .ok (.imul, 1)) (h : q_L g M d K N Q k n (pc + 1) lv (.int (x * y) :: st) S) : q_L g M d K N Q k n pc lv (.int y :: .int x :: st) S :=
  fun p e s m args below meth c H locs ls C hP hS hb hl => lv_imul C.1 C.2.1 hd (h p e s m args below meth c H locs ls C hP hS hb hl)
theorem q_iand {x y : Int32} (hd : decode M.2.1 pc = .ok (.iand, 1)) (h : q_L g M d K N Q k n (pc + 1) lv (.int (x &&& y) :: st) S) : q_L g M d K N Q k n pc lv (.int y :: .int x :: st) S :=
  fun p e s m args below meth c H locs ls C hP hS hb hl => lv_iand C.1 C.2.1 hd (h p e s m args below meth c H locs ls C hP hS hb hl)
theorem q_ior {x y : Int32} (hd : decode M.2.1 pc = .ok (.ior, 1)) (h : q_L g M d K N Q k n (pc + 1) lv (.int (x ||| y) :: st) S) : q_L g M d K N Q k n pc lv (.int y :: .int x :: st) S :=
  fun p e s m args below meth c H locs ls C hP hS hb hl => lv_ior C.1 C.2.1 hd (h p e s m args below meth c H locs ls C hP hS hb hl)
theorem q_ixor {x y : Int32} (hd : decode M.2.1 pc = .ok (.ixor, 1)) (h : q_L g M d K N Q k n (pc + 1) lv (.int (x ^^^ y) :: st) S) : q_L g M d K N Q k n pc lv (.int y :: .int x :: st) S :=
  fun p e s m args below meth c H locs ls C hP hS hb hl => lv_ixor C.1 C.2.1 hd (h p e s m args below meth c H locs ls C hP hS hb hl)
theorem q_ishl {x y : Int32} (hd : decode M.2.1 pc = .ok (.ishl, 1)) (h : q_L g M d K N Q k n (pc + 1) lv (.int (x <<< (y &&& 31)) :: st) S) : q_L g M d K N Q k n pc lv (.int y :: .int x :: st) S :=
  fun p e s m args below meth c H locs ls C hP hS hb hl => lv_ishl C.1 C.2.1 hd (h p e s m args below meth c H locs ls C hP hS hb hl)
theorem q_ishr {x y : Int32} (hd : decode M.2.1 pc = .ok (.ishr, 1)) (h : q_L g M d K N Q k n (pc + 1) lv (.int (x >>> (y &&& 31)) :: st) S) : q_L g M d K N Q k n pc lv (.int y :: .int x :: st) S :=
  fun p e s m args below meth c H locs ls C hP hS hb hl => lv_ishr C.1 C.2.1 hd (h p e s m args below meth c H locs ls C hP hS hb hl)
theorem q_ladd {x y : Int64} (hd : decode M.2.1 pc = .ok (.ladd, 1)) (h : q_L g M d K N Q k n (pc + 1) lv (.long (x + y) :: st) S) : q_L g M d K N Q k n pc lv (.long y :: .long x :: st) S :=
  fun p e s m args below meth c H locs ls C hP hS hb hl => lv_ladd C.1 C.2.1 hd (h p e s m args below meth c H locs ls C hP hS hb hl)
theorem q_lsub {x y : Int64} (hd : decode M.2.1 pc = .ok (.lsub, 1)) (h : q_L g M d K N Q k n (pc + 1) lv (.long (x - y) :: st) S) : q_L g M d K N Q k n pc lv (.long y :: .long x :: st) S :=
  fun p e s m args below meth c H locs ls C hP hS hb hl => lv_lsub C.1 C.2.1 hd (h p e s m args below meth c H locs ls C hP hS hb hl)
theorem q_lmul {x y : Int64} (hd : decode M.2.1 pc = .ok (.lmul, 1)) (h : q_L g M d K N Q k n (pc + 1) lv (.long (x * y) :: st) S) : q_L g M d K N Q k n pc lv (.long y :: .long x :: st) S :=
  fun p e s m args below meth c H locs ls C hP hS hb hl => lv_lmul C.1 C.2.1 hd (h p e s m args below meth c H locs ls C hP hS hb hl)
theorem q_idiv {x y : Int32} (hne : ¬ y = 0) (hd : decode M.2.1 pc = .ok (.idiv, 1)) (h : q_L g M d K N Q k n (pc + 1) lv (.int (x / y) :: st) S) : q_L g M d K N Q k n pc lv (.int y :: .int x :: st) S :=
  fun p e s m args below meth c H locs ls C hP hS hb hl => lv_idiv C.1 C.2.1 hd hne (h p e s m args below meth c H locs ls C hP hS hb hl)
theorem q_irem {x y : Int32} (hne : ¬ y = 0) (hd : decode M.2.1 pc = .ok (.irem, 1)) (h : q_L g M d K N Q k n (pc + 1) lv (.int (x - x / y * y) :: st) S) : q_L g M d K N Q k n pc lv (.int y :: .int x :: st) S :=
  fun p e s m args below meth c H locs ls C hP hS hb hl => lv_irem C.1 C.2.1 hd hne (h p e s m args below meth c H locs ls C hP hS hb hl)
theorem q_ineg {x : Int32} (hd : decode M.2.1 pc = .ok (.ineg, 1)) (h : q_L g M d K N Q k n (pc + 1) lv (.int (-x) :: st) S) : q_L g M d K N Q k n pc lv (.int x :: st) S :=
  fun p e s m args below meth c H locs ls C hP hS hb hl => lv_ineg C.1 C.2.1 hd (h p e s m args below meth c H locs ls C hP hS hb hl)
theorem q_lneg {x : Int64} (hd : decode M.2.1 pc = .ok (.lneg, 1)) (h : q_L g M d K N Q k n (pc + 1) lv (.long (-x) :: st) S) : q_L g M d K N Q k n pc lv (.long x :: st) S :=
  fun p e s m args below meth c H locs ls C hP hS hb hl => lv_lneg C.1 C.2.1 hd (h p e s m args below meth c H locs ls C hP hS hb hl)
theorem q_i2l {x : Int32} (hd : decode M.2.1 pc = .ok (.i2l, 1)) (h : q_L g M d K N Q k n (pc + 1) lv (.long x.toInt64 :: st) S) : q_L g M d K N Q k n pc lv (.int x :: st) S :=
  fun p e s m args below meth c H locs ls C hP hS hb hl => lv_i2l C.1 C.2.1 hd rfl (h p e s m args below meth c H locs ls C hP hS hb hl)
theorem q_l2i {x : Int64} (hd : decode M.2.1 pc = .ok (.l2i, 1)) (h : q_L g M d K N Q k n (pc + 1) lv (.int x.toInt32 :: st) S) : q_L g M d K N Q k n pc lv (.long x :: st) S :=
  fun p e s m args below meth c H locs ls C hP hS hb hl => lv_l2i C.1 C.2.1 hd rfl (h p e s m args below meth c H locs ls C hP hS hb hl)
theorem q_i2b {x : Int32} (hd : decode M.2.1 pc = .ok (.i2b, 1)) (h : q_L g M d K N Q k n (pc + 1) lv (.int x.toInt8.toInt32 :: st) S) : q_L g M d K N Q k n pc lv (.int x :: st) S :=
  fun p e s m args below meth c H locs ls C hP hS hb hl => lv_i2b C.1 C.2.1 hd rfl (h p e s m args below meth c H locs ls C hP hS hb hl)
theorem q_i2c {x : Int32} (hd : decode M.2.1 pc = .ok (.i2c, 1)) (h : q_L g M d K N Q k n (pc + 1) lv (.int (x.toUInt32 % 65536).toInt32 :: st) S) : q_L g M d K N Q k n pc lv (.int x :: st) S :=
  fun p e s m args below meth c H locs ls C hP hS hb hl => lv_i2c C.1 C.2.1 hd rfl (h p e s m args below meth c H locs ls C hP hS hb hl)
theorem q_iushr {x y : Int32} (hd : decode M.2.1 pc = .ok (.iushr, 1)) (h : q_L g M d K N Q k n (pc + 1) lv (.int (x.toUInt32 >>> (y.toUInt32 &&& Int32.toUInt32 31)).toInt32 :: st) S) : q_L g M d K N Q k n pc lv (.int y :: .int x :: st) S :=
  fun p e s m args below meth c H locs ls C hP hS hb hl => lv_iushr C.1 C.2.1 hd rfl (h p e s m args below meth c H locs ls C hP hS hb hl)
theorem q_lcmp {x y : Int64} (hd : decode M.2.1 pc = .ok (.lcmp, 1)) (h : q_L g M d K N Q k n (pc + 1) lv (.int (lg_cmp x y) :: st) S) : q_L g M d K N Q k n pc lv (.long y :: .long x :: st) S :=
  fun p e s m args below meth c H locs ls C hP hS hb hl => W.lcmp C.1 C.2.1 hd (h p e s m args below meth c H locs ls C hP hS hb hl)
theorem q_dup {v : Value} (hv : v.category = 1) (hd : decode M.2.1 pc = .ok (.dup, 1)) (h : q_L g M d K N Q k n (pc + 1) lv (v :: v :: st) S) : q_L g M d K N Q k n pc lv (v :: st) S :=
  fun p e s m args below meth c H locs ls C hP hS hb hl => lv_dup C.1 C.2.1 hd ((q_rv_cat g v).trans hv) (h p e s m args below meth c H locs ls C hP hS hb hl)
theorem q_dup2 {v w : Value} (hv : v.category = 1) (hw : w.category = 1) (hd : decode M.2.1 pc = .ok (.dup2, 1)) (h : q_L g M d K N Q k n (pc + 1) lv (v :: w :: v :: w :: st) S) : q_L g M d K N Q k n pc lv (v :: w :: st) S :=
  fun p e s m args below meth c H locs ls C hP hS hb hl => lv_dup2_11 C.1 C.2.1 hd ((q_rv_cat g v).trans hv) ((q_rv_cat g w).trans hw) (h p e s m args below meth c H locs ls C hP hS hb hl)
theorem q_pop {v : Value} (hv : v.category = 1) (hd : decode M.2.1 pc = .ok (.pop, 1)) (h : q_L g M d K N Q k n (pc + 1) lv st S) : q_L g M d K N Q k n pc lv (v :: st) S :=
  fun p e s m args below meth c H locs ls C hP hS hb hl => lv_pop C.1 C.2.1 hd ((q_rv_cat g v).trans hv) (h p e s m args below meth c H locs ls C hP hS hb hl)
theorem q_if_eq {x : Int32} {off : Int} (tgt : Nat) (ht : (pc : Int) + off = (tgt : Int)) (hd : decode M.2.1 pc = .ok (.ifCond .eq off, 3)) (h1 : x = 0 → q_L g M d K N Q k n tgt lv st S) (h2 : ¬ x = 0 → q_L g M d K N Q k n (pc + 3) lv st S) : q_L g M d K N Q k n pc lv (.int x :: st) S :=
  fun p e s m args below meth c H locs ls C hP hS hb hl => lv_if_eq C.1 C.2.1 hd ht (fun q => h1 q p e s m args below meth c H locs ls C hP hS hb hl) (fun q => h2 q p e s m args below meth c H locs ls C hP hS hb hl)
theorem q_icmp_eq {x y : Int32} {off : Int} (tgt : Nat) (ht : (pc : Int) + off = (tgt : Int)) (hd : decode M.2.1 pc = .ok (.if_icmp .eq off, 3)) (h1 : x = y → q_L g M d K N Q k n tgt lv st S) (h2 : ¬ x = y → q_L g M d K N Q k n (pc + 3) lv st S) : q_L g M d K N Q k n pc lv (.int y :: .int x :: st) S :=
  fun p e s m args below meth c H locs ls C hP hS hb hl => lv_icmp_eq C.1 C.2.1 hd ht (fun q => h1 q p e s m args below meth c H locs ls C hP hS hb hl) (fun q => h2 q p e s m args below meth c H locs ls C hP hS hb hl)
theorem q_if_ne {x : Int32} {off : Int} (tgt : Nat) (ht : (pc : Int) + off = (tgt : Int)) (hd : decode M.2.1 pc = .ok (.ifCond .ne off, 3)) (h1 : ¬ x = 0 → q_L g M d K N Q k n tgt lv st S) (h2 : x = 0 → q_L g M d K N Q k n (pc + 3) lv st S) : q_L g M d K N Q k n pc lv (.int x :: st) S :=
  fun p e s m args below meth c H locs ls C hP hS hb hl => lv_if_ne C.1 C.2.1 hd ht (fun q => h1 q p e s m args below meth c H locs ls C hP hS hb hl) (fun q => h2 q p e s m args below meth c H locs ls C hP hS hb hl)
theorem q_icmp_ne {x y : Int32} {off : Int} (tgt : Nat) (ht : (pc : Int) + off = (tgt : Int)) (hd : decode M.2.1 pc = .ok (.if_icmp .ne off, 3)) (h1 : ¬ x = y → q_L g M d K N Q k n tgt lv st S) (h2 : x = y → q_L g M d K N Q k n (pc + 3) lv st S) : q_L g M d K N Q k n pc lv (.int y :: .int x :: st) S :=
  fun p e s m args below meth c H locs ls C hP hS hb hl => lv_icmp_ne C.1 C.2.1 hd ht (fun q => h1 q p e s m args below meth c H locs ls C hP hS hb hl) (fun q => h2 q p e s m args below meth c H locs ls C hP hS hb hl)
theorem q_if_lt {x : Int32} {off : Int} (tgt : Nat) (ht : (pc : Int) + off = (tgt : Int)) (hd : decode M.2.1 pc = .ok (.ifCond .lt off, 3)) (h1 : x < 0 → q_L g M d K N Q k n tgt lv st S) (h2 : ¬ x < 0 → q_L g M d K N Q k n (pc + 3) lv st S) : q_L g M d K N Q k n pc lv (.int x :: st) S :=
  fun p e s m args below meth c H locs ls C hP hS hb hl => lv_if_lt C.1 C.2.1 hd ht (fun q => h1 q p e s m args below meth c H locs ls C hP hS hb hl) (fun q => h2 q p e s m args below meth c H locs ls C hP hS hb hl)
theorem q_icmp_lt {x y : Int32} {off : Int} (tgt : Nat) (ht : (pc : Int) + off = (tgt : Int)) (hd : decode M.2.1 pc = .ok (.if_icmp .lt off, 3)) (h1 : x < y → q_L g M d K N Q k n tgt lv st S) (h2 : ¬ x < y → q_L g M d K N Q k n (pc + 3) lv st S) : q_L g M d K N Q k n pc lv (.int y :: .int x :: st) S :=
  fun p e s m args below meth c H locs ls C hP hS hb hl => lv_icmp_lt C.1 C.2.1 hd ht (fun q => h1 q p e s m args below meth c H locs ls C hP hS hb hl) (fun q => h2 q p e s m args below meth c H locs ls C hP hS hb hl)
theorem q_if_ge {x : Int32} {off : Int} (tgt : Nat) (ht : (pc : Int) + off = (tgt : Int)) (hd : decode M.2.1 pc = .ok (.ifCond .ge off, 3)) (h1 : 0 ≤ x → q_L g M d K N Q k n tgt lv st S) (h2 : ¬ 0 ≤ x → q_L g M d K N Q k n (pc + 3) lv st S) : q_L g M d K N Q k n pc lv (.int x :: st) S :=
  fun p e s m args below meth c H locs ls C hP hS hb hl => lv_if_ge C.1 C.2.1 hd ht (fun q => h1 q p e s m args below meth c H locs ls C hP hS hb hl) (fun q => h2 q p e s m args below meth c H locs ls C hP hS hb hl)
theorem q_icmp_ge {x y : Int32} {off : Int} (tgt : Nat) (ht : (pc : Int) + off = (tgt : Int)) (hd : decode M.2.1 pc = .ok (.if_icmp .ge off, 3)) (h1 : y ≤ x → q_L g M d K N Q k n tgt lv st S) (h2 : ¬ y ≤ x → q_L g M d K N Q k n (pc + 3) lv st S) : q_L g M d K N Q k n pc lv (.int y :: .int x :: st) S :=
  fun p e s m args below meth c H locs ls C hP hS hb hl => lv_icmp_ge C.1 C.2.1 hd ht (fun q => h1 q p e s m args below meth c H locs ls C hP hS hb hl) (fun q => h2 q p e s m args below meth c H locs ls C hP hS hb hl)
theorem q_if_gt {x : Int32} {off : Int} (tgt : Nat) (ht : (pc : Int) + off = (tgt : Int)) (hd : decode M.2.1 pc = .ok (.ifCond .gt off, 3)) (h1 : 0 < x → q_L g M d K N Q k n tgt lv st S) (h2 : ¬ 0 < x → q_L g M d K N Q k n (pc + 3) lv st S) : q_L g M d K N Q k n pc lv (.int x :: st) S :=
  fun p e s m args below meth c H locs ls C hP hS hb hl => lv_if_gt C.1 C.2.1 hd ht (fun q => h1 q p e s m args below meth c H locs ls C hP hS hb hl) (fun q => h2 q p e s m args below meth c H locs ls C hP hS hb hl)
theorem q_icmp_gt {x y : Int32} {off : Int} (tgt : Nat) (ht : (pc : Int) + off = (tgt : Int)) (hd : decode M.2.1 pc = .ok (.if_icmp .gt off, 3)) (h1 : y < x → q_L g M d K N Q k n tgt lv st S) (h2 : ¬ y < x → q_L g M d K N Q k n (pc + 3) lv st S) : q_L g M d K N Q k n pc lv (.int y :: .int x :: st) S :=
  fun p e s m args below meth c H locs ls C hP hS hb hl => lv_icmp_gt C.1 C.2.1 hd ht (fun q => h1 q p e s m args below meth c H locs ls C hP hS hb hl) (fun q => h2 q p e s m args below meth c H locs ls C hP hS hb hl)
theorem q_if_le {x : Int32} {off : Int} (tgt : Nat) (ht : (pc : Int) + off = (tgt : Int)) (hd : decode M.2.1 pc = .ok (.ifCond .le off, 3)) (h1 : x ≤ 0 → q_L g M d K N Q k n tgt lv st S) (h2 : ¬ x ≤ 0 → q_L g M d K N Q k n (pc + 3) lv st S) : q_L g M d K N Q k n pc lv (.int x :: st) S :=
  fun p e s m args below meth c H locs ls C hP hS hb hl => lv_if_le C.1 C.2.1 hd ht (fun q => h1 q p e s m args below meth c H locs ls C hP hS hb hl) (fun q => h2 q p e s m args below meth c H locs ls C hP hS hb hl)
theorem q_icmp_le {x y : Int32} {off : Int} (tgt : Nat) (ht : (pc : Int) + off = (tgt : Int)) (hd : decode M.2.1 pc = .ok (.if_icmp .le off, 3)) (h1 : x ≤ y → q_L g M d K N Q k n tgt lv st S) (h2 : ¬ x ≤ y → q_L g M d K N Q k n (pc + 3) lv st S) : q_L g M d K N Q k n pc lv (.int y :: .int x :: st) S :=
  fun p e s m args below meth c H locs ls C hP hS hb hl => lv_icmp_le C.1 C.2.1 hd ht (fun q => h1 q p e s m args below meth c H locs ls C hP hS hb hl) (fun q => h2 q p e s m args below meth c H locs ls C hP hS hb hl)
theorem q_goto {off : Int} (tgt : Nat) (ht : (pc : Int) + off = (tgt : Int)) (hd : decode M.2.1 pc = .ok (.goto off, 3)) (h : q_L g M d K N Q k n tgt lv st S) : q_L g M d K N Q k n pc lv st S :=
  fun p e s m args below meth c H locs ls C hP hS hb hl => lv_goto C.1 C.2.1 hd ht (h p e s m args below meth c H locs ls C hP hS hb hl)
end QRULES
