/-! ===== the run: moves ===== -/
theorem o_bs {α : Type} (x : Option α) : (x.bind fun r => some r) = x := by cases x <;> rfl
theorem k_up_self {α : Type} (h : Nat → α) (d : Nat) : k_up h d (h d) = h := by
  funext f
  by_cases e : f = d
  · rw [e, k_up_eq]
  · rw [k_up_ne e]
theorem k_up_up {α : Type} (h : Nat → α) (d : Nat) (a b : α) : k_up (k_up h d a) d b = k_up h d b := by
  funext f
  by_cases e : f = d
  · rw [e, k_up_eq, k_up_eq]
  · rw [k_up_ne e, k_up_ne e, k_up_ne e]
theorem r_uv_F {V : Nat → Nat → Nat × Int32} {d s f : Nat} {x : Nat × Int32} (h : f ≠ d) : r_uv V d s x f = V f := k_up_ne h
theorem r_uv_id {V : Nat → Nat → Nat × Int32} {d s : Nat} : r_uv V d s (V d s) = V := by rw [r_uv, k_up_self, k_up_self]
section ZRO
variable {p q n m : Nat} {g : ZT} {K : ZK} {M : ZM} {P : ZP} {hh : Nat → Nat → Int32} {R : Nat → Nat → Bool} {T : Nat → Nat → Nat → Nat} {Cx Dx C D : QS} {d i k : Nat} {h : Nat → Nat} {V : Nat → Nat → Nat × Int32} {pa pd : Nat → Nat} {H H' : ZH} {X : ZX} {to pl : Nat}
theorem rC.popN (hp : z_pp p) (I : rC p Cx d (k_up h d (k + 1)) V pa H X to pl C) : ∃ C' c, fX6_pop C = some (c, C') ∧ ((V d (12 + k)).1 ≠ 67 → c = (V d (12 + k)).2) ∧ rC p Cx d (k_up h d k) V pa H X to pl C' ∧ C' = q_sI C 99 d (nI k) := by
  obtain ⟨C', e, I', ec⟩ := I.pop hp (by rw [k_up_eq]; omega)
  rw [k_up_eq, k_up_up, Nat.add_sub_cancel] at I'
  rw [k_up_eq, Nat.add_sub_cancel] at ec
  have tv := I.tv (s := 12 + k) (by rw [k_up_eq]; omega)
  rw [k_up_eq, show 11 + (k + 1) = 12 + k by omega] at e
  exact ⟨C', _, e, tv.2.2, I', ec⟩
theorem rC.pushN (hp : z_pp p) (I : rC p Cx d (k_up h d k) V pa H X to pl C) (h0 : k < 8) {x : Nat × Int32} {c : Int32} (hx : x.1 ≤ 67) (hc : x.1 ≠ 67 → c = x.2) : ∃ C', fX6_push C c (nI x.1) = some C' ∧ rC p Cx d (k_up h d (k + 1)) (r_uv V d (12 + k) x) pa H X to pl C' := by
  obtain ⟨C', e, I'⟩ := I.push hp (by rw [k_up_eq]; exact h0) hx hc
  rw [k_up_eq, k_up_up] at I'
  exact ⟨C', e, I'⟩
theorem rC.pushIntN (hp : z_pp p) (I : rC p Cx d (k_up h d k) V pa H X to pl C) (h0 : k < 8) (c : Int32) : ∃ C', fX6_pushInt C c = some C' ∧ rC p Cx d (k_up h d (k + 1)) (r_uv V d (12 + k) (66, c)) pa H X to pl C' := by
  obtain ⟨C', e, I'⟩ := I.pushInt hp (by rw [k_up_eq]; exact h0) c
  rw [k_up_eq, k_up_up] at I'
  exact ⟨C', e, I'⟩
theorem rC.pushObjN (hp : z_pp p) (B : r_ob K H) (I : rC p Cx d (k_up h d k) V pa H X to pl C) (h0 : k < 8) {o : Nat} (ho : o ≤ H.n) : ∃ C', fX6_pushObject C (nI o) = some C' ∧ rC p Cx d (k_up h d (k + 1)) (r_uv V d (12 + k) (r_th H o, nI o)) pa H X to pl C' := by
  obtain ⟨C', e, I'⟩ := I.pushObj hp B (by rw [k_up_eq]; exact h0) ho
  rw [k_up_eq, k_up_up] at I'
  exact ⟨C', e, I'⟩
theorem rD.popN (hq : z_qq q) (I : rD q Dx d (k_up h d (k + 1)) V pd H X pl D) : ∃ D', fX12_pop D = some (r_e (V d (12 + k)), D') ∧ rD q Dx d (k_up h d k) V pd H X pl D' := by
  obtain ⟨D', e, I'⟩ := I.pop hq (by rw [k_up_eq]; omega)
  rw [k_up_eq, k_up_up, Nat.add_sub_cancel] at I'
  rw [k_up_eq, show 11 + (k + 1) = 12 + k by omega] at e
  exact ⟨D', e, I'⟩
theorem rD.pushN (hq : z_qq q) (I : rD q Dx d (k_up h d k) V pd H X pl D) (h0 : k < 8) {x : Nat × Int32} {w : Int64} (hw : w = r_e x) : ∃ D', fX12_push D w = some D' ∧ rD q Dx d (k_up h d (k + 1)) (r_uv V d (12 + k) x) pd H X pl D' := by
  obtain ⟨D', e, I'⟩ := I.push hq (by rw [k_up_eq]; exact h0) hw
  rw [k_up_eq, k_up_up] at I'
  exact ⟨D', e, I'⟩
theorem rC.set96 (hp : z_pp p) (I : rC p Cx d h V pa H X to pl C) {s : Nat} (hs : s < 12) (c : Int32) : rC p Cx d h (r_uv V d s ((V d s).1, c)) pa H X to pl (q_sI C 96 (d * 20 + s) c) := by
  refine ⟨I.g.sI hp (by decide), ⟨I.F.d, I.F.lt, I.F.h, fun f t hf ht => ?_⟩, I.P, I.H, I.X⟩
  have h8 := (I.F.h f hf).1
  obtain ⟨a1, a2, a3⟩ := I.F.v f t hf ht
  show _ ∧ C.2.1 97 (f * 20 + t) = _ ∧ (_ → (q_sI C 96 (d * 20 + s) c).2.1 96 (f * 20 + t) = _)
  rw [q_sI_I]
  by_cases e : f = d
  · subst e
    by_cases e2 : t = s
    · subst e2
      rw [r_uv_eq, if_pos ⟨rfl, rfl⟩]
      exact ⟨a1, a2, fun _ => rfl⟩
    · rw [r_uv_s e2, if_neg (by omega)]
      exact ⟨a1, a2, a3⟩
  · rw [r_uv_f e, if_neg (by omega)]
    exact ⟨a1, a2, a3⟩
/-- the types behind an instruction that leaves one value -/
theorem r_M.ty1 (Z : r_M p q n g K M P m hh R T Cx Dx d h V pa pd H X pl i C D) (h2 : P.op i ≠ 2) (h3 : P.op i ≠ 3) (h5 : P.op i ≠ 5) (h7 : P.op i ≠ 7) (h33 : P.op i ≠ 33) (hl : k_lv M P i = 1) {v : Nat → Nat × Int32} (u : r_up H H') (a1 : ∀ s, s < 12 + (h d - k_tk M P i) → v s = V d s) (a2 : r_vo H' (v (12 + (h d - k_tk M P i))) ∧ k_blw K (v (12 + (h d - k_tk M P i))).1 (k_lf M P i) = true) : ∃ r, k_tr M P (hh (P.bd i)) i (T (P.bd i) i) = some r ∧ ∀ s, s < 12 + (h d - k_tk M P i + k_lv M P i) → r_vo H' (v s) ∧ k_blw K (v s).1 (r s) = true := by
  obtain ⟨t1, -⟩ := Z.t.h8 Z.W
  have ew : k_wd (hh (P.bd i)) i = 12 + h d := by rw [k_wd, Z.t.2.2.1]
  refine ⟨k_up (T (P.bd i) i) (12 + (h d - k_tk M P i)) (k_lf M P i), ?_, fun s hs => ?_⟩
  · rw [k_tr, if_neg h2, if_neg h3, if_neg h5, if_neg h7, if_neg h33, if_pos hl, ew, show 12 + h d - k_tk M P i = 12 + (h d - k_tk M P i) by omega]
  · by_cases e : s = 12 + (h d - k_tk M P i)
    · rw [e, k_up_eq]; exact a2
    · rw [k_up_ne e, a1 s (by omega)]
      have x := Z.t.2.2.2 s (by omega)
      exact ⟨u.vo x.1, x.2⟩
/-- the types behind an instruction that leaves nothing -/
theorem r_M.ty0 (Z : r_M p q n g K M P m hh R T Cx Dx d h V pa pd H X pl i C D) (h2 : P.op i ≠ 2) (h3 : P.op i ≠ 3) (h5 : P.op i ≠ 5) (h7 : P.op i ≠ 7) (h33 : P.op i ≠ 33) (hl : k_lv M P i = 0) {v : Nat → Nat × Int32} (u : r_up H H') (a1 : ∀ s, s < 12 + (h d - k_tk M P i) → v s = V d s) : ∃ r, k_tr M P (hh (P.bd i)) i (T (P.bd i) i) = some r ∧ ∀ s, s < 12 + (h d - k_tk M P i + k_lv M P i) → r_vo H' (v s) ∧ k_blw K (v s).1 (r s) = true := by
  refine ⟨T (P.bd i) i, ?_, fun s hs => ?_⟩
  · rw [k_tr, if_neg h2, if_neg h3, if_neg h5, if_neg h7, if_neg h33, if_neg (by omega)]
  · obtain ⟨t1, -⟩ := Z.t.h8 Z.W
    rw [a1 s (by omega)]
    have x := Z.t.2.2.2 s (by omega)
    exact ⟨u.vo x.1, x.2⟩
theorem r_M.hk (Z : r_M p q n g K M P m hh R T Cx Dx d h V pa pd H X pl i C D) : rC p Cx d (k_up h d (h d)) V pa H X 0 i C ∧ rD q Dx d (k_up h d (h d)) V pd H X pl D := by
  rw [k_up_self]; exact ⟨Z.C, Z.D⟩
/-- what the reference's step reads -/
theorem r_M.rdD (Z : r_M p q n g K M P m hh R T Cx Dx d h V pa pd H X pl i C D) : q_inb (nI i) 1024 = true ∧ (nI i).toNatClampNeg = i ∧ D.2.1 (q + 15) i = nI (P.op i) ∧ D.2.1 (q + 16) i = P.ya i ∧ D.2.1 (q + 17) i = P.xb i := by
  have bn := Z.W.N.S.bn
  have hi := Z.t.1
  obtain ⟨y1, y2, y3, -⟩ := Z.W.N.S.iD i hi
  exact ⟨z_inbN (show i < 1024 by omega) (by decide), z_cl (by omega), by rw [Z.D.g 15 (by decide)]; exact y1, by rw [Z.D.g 16 (by decide)]; exact y2, by rw [Z.D.g 17 (by decide)]; exact y3⟩
theorem r_op0 (Z : r_M p q n g K M P m hh R T Cx Dx d h V pa pd H X pl i C D) (hop : P.op i = 0) : r_res p q K M P hh R T Cx Dx X.sp ((fX6_move C 0 (P.xa i) (P.xb i)).bind (r_pu p)) (fX12_step D q (nI i)) := by
  obtain ⟨i1, c1, d1, d2, d3⟩ := Z.rdD
  obtain ⟨k1, k2⟩ := k_tk_at (M := M) 0 hop (by decide) (by decide)
  have k1 : k_tk M P i = 0 := k1
  have k2 : k_lv M P i = 1 := k2
  have h8 := Z.t.h8 Z.W
  have xy := (Z.W.N.S.wI i Z.t.1).o0 (by omega) (by omega) (by omega) (by omega) (by omega) (by omega) (by omega) (by omega) (by omega) (by omega)
  obtain ⟨C1, e1, IC1⟩ := Z.hk.1.pushIntN Z.W.hp (by omega) (P.xa i)
  obtain ⟨D1, e2, ID1⟩ := Z.hk.2.pushN Z.W.hq (by omega) (x := (66, P.xa i)) rfl
  obtain ⟨r, r1, r2⟩ := Z.ty1 (v := r_uv V d (12 + h d) (66, P.xa i) d) (by omega) (by omega) (by omega) (by omega) (by omega) k2 (r_up.refl H) (fun s hs => r_uv_s (by omega)) (by
    rw [k1, Nat.sub_zero, r_uv_eq, k_lf]
    simp only [hop]
    exact ⟨Or.inl rfl, k_blw_refl _⟩)
  refine Z.fin1 (by rw [hop]; rfl) (C' := C1) (D' := D1) ?_ ?_ IC1 ID1 (fun f hf => ⟨k_up_ne (by omega), r_uv_F (by omega)⟩) r1 (by rw [k_up_eq]; omega) (by rw [k_up_eq, show h d + 1 = h d - k_tk M P i + k_lv M P i by omega]; exact r2)
  · simp only [fX6_move, Z.C.top, Option.bind_some, if_true, e1]
  · have hD : D.2.1 (q + 15) i = 0 := by rw [d1, hop]; rfl
    simp only [fX12_step, i1, if_true, c1, hD, d2, ← xy]
    rw [show (P.xa i).toInt64 = r_e (66, P.xa i) from rfl, e2, Option.bind_some]
theorem r_op1 (Z : r_M p q n g K M P m hh R T Cx Dx d h V pa pd H X pl i C D) (hop : P.op i = 1) : r_res p q K M P hh R T Cx Dx X.sp ((fX6_move C 1 (P.xa i) (P.xb i)).bind (r_pu p)) (fX12_step D q (nI i)) := by
  obtain ⟨i1, c1, d1, d2, d3⟩ := Z.rdD
  obtain ⟨k1, k2⟩ := k_tk_at (M := M) 1 hop (by decide) (by decide)
  have k1 : k_tk M P i = 0 := k1
  have k2 : k_lv M P i = 1 := k2
  have h8 := Z.t.h8 Z.W
  obtain ⟨C1, e1, IC1⟩ := Z.hk.1.pushObjN Z.W.hp Z.B (by omega) (Nat.zero_le _)
  obtain ⟨D1, e2, ID1⟩ := Z.hk.2.pushN Z.W.hq (by omega) (x := (r_th H 0, nI 0)) rfl
  obtain ⟨r, r1, r2⟩ := Z.ty1 (v := r_uv V d (12 + h d) (r_th H 0, nI 0) d) (by omega) (by omega) (by omega) (by omega) (by omega) k2 (r_up.refl H) (fun s hs => r_uv_s (by omega)) (by
    rw [k1, Nat.sub_zero, r_uv_eq, k_lf]
    simp only [hop]
    exact ⟨Or.inr (Or.inr ⟨0, Nat.zero_le _, rfl⟩), k_blw_refl _⟩)
  refine Z.fin1 (by rw [hop]; rfl) (C' := C1) (D' := D1) ?_ ?_ IC1 ID1 (fun f hf => ⟨k_up_ne (by omega), r_uv_F (by omega)⟩) r1 (by rw [k_up_eq]; omega) (by rw [k_up_eq, show h d + 1 = h d - k_tk M P i + k_lv M P i by omega]; exact r2)
  · have e1' : fX6_pushObject C 0 = some C1 := e1
    simp (decide := true) only [fX6_move, Z.C.top, Option.bind_some, if_true, if_false, e1']
  · have hD : D.2.1 (q + 15) i = 1 := by rw [d1, hop]; rfl
    have e2' : fX12_push D 1099511627776 = some D1 := by
      rw [← e2, r_e_r Z.B (Nat.zero_le _)]; rfl
    simp (decide := true) only [fX12_step, i1, if_true, if_false, c1, hD, e2', Option.bind_some]
theorem r_op2 (Z : r_M p q n g K M P m hh R T Cx Dx d h V pa pd H X pl i C D) (hop : P.op i = 2) : r_res p q K M P hh R T Cx Dx X.sp ((fX6_move C 2 (P.xa i) (P.xb i)).bind (r_pu p)) (fX12_step D q (nI i)) := by
  obtain ⟨i1, c1, d1, d2, d3⟩ := Z.rdD
  obtain ⟨k1, k2⟩ := k_tk_at (M := M) 2 hop (by decide) (by decide)
  have k1 : k_tk M P i = 0 := k1
  have k2 : k_lv M P i = 1 := k2
  have h8 := Z.t.h8 Z.W
  have hd := Z.C.F.lt
  obtain ⟨a1, a2, a3⟩ := k_xa_12 Z.W.N Z.t.1 (Or.inl hop)
  obtain ⟨v1, v2, v3⟩ := Z.C.tv (s := k_xa P i) (by omega)
  obtain ⟨C1, e1, IC1⟩ := Z.hk.1.pushN Z.W.hp (by omega) (x := V d (k_xa P i)) v1 v3
  obtain ⟨D1, e2, ID1⟩ := Z.hk.2.pushN Z.W.hq (by omega) (x := V d (k_xa P i)) rfl
  have ew : k_wd (hh (P.bd i)) i = 12 + h d := by rw [k_wd, Z.t.2.2.1]
  refine Z.fin1 (by rw [hop]; rfl) (C' := C1) (D' := D1) (r := k_up (T (P.bd i) i) (k_wd (hh (P.bd i)) i) (T (P.bd i) i (k_xa P i))) ?_ ?_ IC1 ID1 (fun f hf => ⟨k_up_ne (by omega), r_uv_F (by omega)⟩) (by rw [k_tr, if_pos hop]) (by rw [k_up_eq]; omega) (fun s hs => ?_)
  · have e20 : nI d * (20 : Int32) + nI (k_xa P i) = nI (d * 20 + k_xa P i) := by rw [show nI d * (20 : Int32) = nI (d * 20) from nI_mulN d 20, nI_add]
    simp (decide := true) only [fX6_move, Z.C.top, Option.bind_some, if_true, if_false, Z.C.F.d, a2, e20, z_inbN (show d * 20 + k_xa P i < 1280 by omega) (by decide), z_cl (show d * 20 + k_xa P i < 2147483648 by omega), v2, e1]
  · have hD : D.2.1 (q + 15) i = 2 := by rw [d1, hop]; rfl
    simp (decide := true) only [fX12_step, i1, if_true, if_false, c1, hD, d2, a3, Z.D.loc a1, e2, Option.bind_some]
  · rw [k_up_eq] at hs
    rw [ew]
    by_cases e : s = 12 + h d
    · rw [e, r_uv_eq, k_up_eq]; exact Z.t.2.2.2 _ (by omega)
    · rw [r_uv_s e, k_up_ne e]; exact Z.t.2.2.2 _ (by omega)
theorem r_op3 (Z : r_M p q n g K M P m hh R T Cx Dx d h V pa pd H X pl i C D) (hop : P.op i = 3) : r_res p q K M P hh R T Cx Dx X.sp ((fX6_move C 3 (P.xa i) (P.xb i)).bind (r_pu p)) (fX12_step D q (nI i)) := by
  obtain ⟨i1, c1, d1, d2, d3⟩ := Z.rdD
  obtain ⟨k1, k2⟩ := k_tk_at (M := M) 3 hop (by decide) (by decide)
  have k1 : k_tk M P i = 1 := k1
  have k2 : k_lv M P i = 0 := k2
  have h8 := Z.t.h8 Z.W
  have hd := Z.C.F.lt
  obtain ⟨a1, a2, a3⟩ := k_xa_12 Z.W.N Z.t.1 (Or.inr (Or.inl hop))
  obtain ⟨j, hj⟩ : ∃ j, h d = j + 1 := ⟨h d - 1, by omega⟩
  obtain ⟨HC, HD⟩ := Z.hk
  rw [hj] at HC HD
  obtain ⟨C1, c, e1, ec, IC1, eC⟩ := HC.popN Z.W.hp
  obtain ⟨D1, e2, ID1⟩ := HD.popN Z.W.hq
  obtain ⟨v1, v2, v3⟩ := Z.C.tv (s := 12 + j) (by omega)
  have IC2 := IC1.setv Z.W.hp (s := k_xa P i) (by omega) (x := V d (12 + j)) v1 ec
  have ID2 := ID1.setl a1 (V d (12 + j))
  have ew : k_wd (hh (P.bd i)) i = 12 + h d := by rw [k_wd, Z.t.2.2.1]
  refine Z.fin1 (by rw [hop]; rfl) (r := k_up (T (P.bd i) i) (k_xa P i) (T (P.bd i) i (k_wd (hh (P.bd i)) i - 1))) ?_ ?_ IC2 ID2 (fun f hf => ⟨k_up_ne (by omega), r_uv_F (by omega)⟩) (by rw [k_tr, if_neg (by omega), if_pos hop]) (by rw [k_up_eq]; omega) (fun s hs => ?_)
  · have e20 : nI d * (20 : Int32) + nI (k_xa P i) = nI (d * 20 + k_xa P i) := by rw [show nI d * (20 : Int32) = nI (d * 20) from nI_mulN d 20, nI_add]
    have et : nI (d * 20 + (12 + h d)) - (1 : Int32) = nI (d * 20 + (12 + j)) := by
      rw [z_sub1 (by omega)]; congr 1; omega
    have v2' : (q_sI C1 96 (d * 20 + k_xa P i) c).2.1 97 (d * 20 + (12 + j)) = nI (V d (12 + j)).1 := by
      rw [eC]; exact v2
    have nr : vp_nar .byte (nI (V d (12 + j)).1) = nI (V d (12 + j)).1 := z_bytn (z_bytN (by omega))
    simp (decide := true) only [fX6_move, Z.C.top, Option.bind_some, if_true, if_false, Z.C.F.d, a2, e1, e20, z_inbN (show d * 20 + k_xa P i < 1280 by omega) (by decide), z_cl (show d * 20 + k_xa P i < 2147483648 by omega), et, z_inbN (show d * 20 + (12 + j) < 1280 by omega) (by decide), z_cl (show d * 20 + (12 + j) < 2147483648 by omega), v2', nr]
  · have hD : D.2.1 (q + 15) i = 3 := by rw [d1, hop]; rfl
    have e12 : nI d * (12 : Int32) + nI (k_xa P i) = nI (d * 12 + k_xa P i) := by rw [show nI d * (12 : Int32) = nI (d * 12) from nI_mulN d 12, nI_add]
    simp (decide := true) only [fX12_step, i1, if_true, if_false, c1, hD, d2, a3, e2, Option.bind_some, Z.D.dm, e12, z_inbN (show d * 12 + k_xa P i < 768 by omega) (by decide), z_cl (show d * 12 + k_xa P i < 2147483648 by omega)]
  · rw [k_up_eq] at hs
    rw [ew, show 12 + h d - 1 = 12 + j by omega]
    by_cases e : s = k_xa P i
    · rw [e, r_uv_eq, k_up_eq]; exact Z.t.2.2.2 _ (by omega)
    · rw [r_uv_s e, k_up_ne e]; exact Z.t.2.2.2 _ (by omega)
theorem r_op4 (Z : r_M p q n g K M P m hh R T Cx Dx d h V pa pd H X pl i C D) (hop : P.op i = 4) : r_res p q K M P hh R T Cx Dx X.sp ((fX6_move C 4 (P.xa i) (P.xb i)).bind (r_pu p)) (fX12_step D q (nI i)) := by
  obtain ⟨i1, c1, d1, d2, d3⟩ := Z.rdD
  obtain ⟨k1, k2⟩ := k_tk_at (M := M) 4 hop (by decide) (by decide)
  have k1 : k_tk M P i = 0 := k1
  have k2 : k_lv M P i = 0 := k2
  have h8 := Z.t.h8 Z.W
  have hd := Z.C.F.lt
  obtain ⟨a1, a2, a3⟩ := k_xa_12 Z.W.N Z.t.1 (Or.inr (Or.inr hop))
  have ft := Z.W.fit Z.t.1 Z.t.2.1
  rw [k_ft, if_neg (by omega), if_pos hop] at ft
  obtain ⟨u1, u2⟩ := Z.t.2.2.2 (k_xa P i) (by omega)
  have u66 := r_blw66 (ft ▸ u2)
  obtain ⟨v1, v2, v3⟩ := Z.C.tv (s := k_xa P i) (by omega)
  have v4 := v3 (by omega)
  have IC2 := Z.C.set96 Z.W.hp a1 ((V d (k_xa P i)).2 + P.xb i)
  have ID2 := Z.D.setl a1 ((V d (k_xa P i)).1, (V d (k_xa P i)).2 + P.xb i)
  refine Z.fin1 (by rw [hop]; rfl) (r := T (P.bd i) i) ?_ ?_ IC2 ID2 (fun f hf => ⟨rfl, r_uv_F (by omega)⟩) (by rw [k_tr, if_neg (by omega), if_neg (by omega), if_neg (by omega), if_neg (by omega), if_neg (by omega), if_neg (by omega)]) (by omega) (fun s hs => ?_)
  · have e20 : nI d * (20 : Int32) + nI (k_xa P i) = nI (d * 20 + k_xa P i) := by rw [show nI d * (20 : Int32) = nI (d * 20) from nI_mulN d 20, nI_add]
    simp (decide := true) only [fX6_move, Z.C.top, Option.bind_some, if_true, if_false, Z.C.F.d, a2, e20, z_inbN (show d * 20 + k_xa P i < 1280 by omega) (by decide), z_cl (show d * 20 + k_xa P i < 2147483648 by omega), v4]
  · have hD : D.2.1 (q + 15) i = 4 := by rw [d1, hop]; rfl
    have e12 : nI d * (12 : Int32) + nI (k_xa P i) = nI (d * 12 + k_xa P i) := by rw [show nI d * (12 : Int32) = nI (d * 12) from nI_mulN d 12, nI_add]
    have ev : r_e ((V d (k_xa P i)).1, (V d (k_xa P i)).2 + P.xb i) = ((V d (k_xa P i)).2 + P.xb i).toInt64 := r_e_i u66
    simp (decide := true) only [fX12_step, i1, if_true, if_false, c1, hD, d2, d3, a3, Z.D.loc a1, r_e_i u66, i64_back, Option.bind_some, Z.D.dm, e12, z_inbN (show d * 12 + k_xa P i < 768 by omega) (by decide), z_cl (show d * 12 + k_xa P i < 2147483648 by omega), ev]
  · by_cases e : s = k_xa P i
    · rw [e, r_uv_eq, ft, u66]; exact ⟨Or.inl rfl, k_blw_refl _⟩
    · rw [r_uv_s e]; exact Z.t.2.2.2 _ hs
theorem r_op5 (Z : r_M p q n g K M P m hh R T Cx Dx d h V pa pd H X pl i C D) (hop : P.op i = 5) : r_res p q K M P hh R T Cx Dx X.sp ((fX6_move C 5 (P.xa i) (P.xb i)).bind (r_pu p)) (fX12_step D q (nI i)) := by
  obtain ⟨i1, c1, d1, d2, d3⟩ := Z.rdD
  obtain ⟨k1, k2⟩ := k_tk_at (M := M) 5 hop (by decide) (by decide)
  have k1 : k_tk M P i = 1 := k1
  have k2 : k_lv M P i = 2 := k2
  have h8 := Z.t.h8 Z.W
  have hd := Z.C.F.lt
  obtain ⟨j, hj⟩ : ∃ j, h d = j + 1 := ⟨h d - 1, by omega⟩
  obtain ⟨HC, HD⟩ := Z.hk
  rw [hj] at HC HD
  obtain ⟨v1, v2, v3⟩ := Z.C.tv (s := 12 + j) (by omega)
  obtain ⟨C1, e1, IC1⟩ := HC.pushN Z.W.hp (by omega) (x := V d (12 + j)) v1 v3
  obtain ⟨D1, e2, ID1⟩ := HD.popN Z.W.hq
  obtain ⟨D2, e3, ID2⟩ := ID1.pushN Z.W.hq (by omega) (x := V d (12 + j)) rfl
  obtain ⟨D3, e4, ID3⟩ := ID2.pushN Z.W.hq (by omega) (x := V d (12 + j)) rfl
  rw [r_uv_id] at ID3
  have ew : k_wd (hh (P.bd i)) i = 12 + h d := by rw [k_wd, Z.t.2.2.1]
  refine Z.fin1 (by rw [hop]; rfl) (r := k_up (T (P.bd i) i) (k_wd (hh (P.bd i)) i) (T (P.bd i) i (k_wd (hh (P.bd i)) i - 1))) ?_ ?_ IC1 ID3 (fun f hf => ⟨k_up_ne (by omega), r_uv_F (by omega)⟩) (by rw [k_tr, if_neg (by omega), if_neg (by omega), if_pos hop]) (by rw [k_up_eq]; omega) (fun s hs => ?_)
  · have et : nI (d * 20 + (12 + h d)) - (1 : Int32) = nI (d * 20 + (12 + j)) := by
      rw [z_sub1 (by omega)]; congr 1; omega
    simp (decide := true) only [fX6_move, Z.C.top, Option.bind_some, if_true, if_false, et, z_inbN (show d * 20 + (12 + j) < 1280 by omega) (by decide), z_cl (show d * 20 + (12 + j) < 2147483648 by omega), v2, e1]
  · have hD : D.2.1 (q + 15) i = 5 := by rw [d1, hop]; rfl
    simp (decide := true) only [fX12_step, i1, if_true, if_false, c1, hD, e2, e3, e4, Option.bind_some]
  · rw [k_up_eq] at hs
    rw [ew, show 12 + h d - 1 = 12 + j by omega, show 12 + h d = 12 + (j + 1) by omega]
    by_cases e : s = 12 + (j + 1)
    · rw [e, r_uv_eq, k_up_eq]; exact Z.t.2.2.2 _ (by omega)
    · rw [r_uv_s e, k_up_ne e]; exact Z.t.2.2.2 _ (by omega)
theorem r_op6 (Z : r_M p q n g K M P m hh R T Cx Dx d h V pa pd H X pl i C D) (hop : P.op i = 6) : r_res p q K M P hh R T Cx Dx X.sp ((fX6_move C 6 (P.xa i) (P.xb i)).bind (r_pu p)) (fX12_step D q (nI i)) := by
  obtain ⟨i1, c1, d1, d2, d3⟩ := Z.rdD
  obtain ⟨k1, k2⟩ := k_tk_at (M := M) 6 hop (by decide) (by decide)
  have k1 : k_tk M P i = 1 := k1
  have k2 : k_lv M P i = 0 := k2
  have h8 := Z.t.h8 Z.W
  obtain ⟨j, hj⟩ : ∃ j, h d = j + 1 := ⟨h d - 1, by omega⟩
  obtain ⟨HC, HD⟩ := Z.hk
  rw [hj] at HC HD
  obtain ⟨C1, c, e1, ec, IC1, -⟩ := HC.popN Z.W.hp
  obtain ⟨D1, e2, ID1⟩ := HD.popN Z.W.hq
  obtain ⟨r, r1, r2⟩ := Z.ty0 (v := V d) (by omega) (by omega) (by omega) (by omega) (by omega) k2 (r_up.refl H) (fun s hs => rfl)
  refine Z.fin1 (by rw [hop]; rfl) ?_ ?_ IC1 ID1 (fun f hf => ⟨k_up_ne (by omega), rfl⟩) r1 (by rw [k_up_eq]; omega) (by rw [k_up_eq, show j = h d - k_tk M P i + k_lv M P i by omega]; exact r2)
  · simp (decide := true) only [fX6_move, Z.C.top, Option.bind_some, if_true, if_false, e1]
  · have hD : D.2.1 (q + 15) i = 6 := by rw [d1, hop]; rfl
    simp (decide := true) only [fX12_step, i1, if_true, if_false, c1, hD, e2, Option.bind_some]
theorem r_op7 (Z : r_M p q n g K M P m hh R T Cx Dx d h V pa pd H X pl i C D) (hop : P.op i = 7) : r_res p q K M P hh R T Cx Dx X.sp ((fX6_move C 7 (P.xa i) (P.xb i)).bind (r_pu p)) (fX12_step D q (nI i)) := by
  obtain ⟨i1, c1, d1, d2, d3⟩ := Z.rdD
  obtain ⟨k1, k2⟩ := k_tk_at (M := M) 7 hop (by decide) (by decide)
  have k1 : k_tk M P i = 2 := k1
  have k2 : k_lv M P i = 2 := k2
  have h8 := Z.t.h8 Z.W
  have hd := Z.C.F.lt
  obtain ⟨j, hj⟩ : ∃ j, h d = j + 1 + 1 := ⟨h d - 2, by omega⟩
  obtain ⟨HC, HD⟩ := Z.hk
  rw [hj] at HC HD
  obtain ⟨v1, v2, v3⟩ := Z.C.tv (s := 12 + j) (by omega)
  obtain ⟨w1, w2, w3⟩ := Z.C.tv (s := 12 + (j + 1)) (by omega)
  obtain ⟨D1, e2, ID1⟩ := HD.popN Z.W.hq
  obtain ⟨D2, e3, ID2⟩ := ID1.popN Z.W.hq
  obtain ⟨D3, e4, ID3⟩ := ID2.pushN Z.W.hq (by omega) (x := V d (12 + (j + 1))) rfl
  obtain ⟨D4, e5, ID4⟩ := ID3.pushN Z.W.hq (by omega) (x := V d (12 + j)) rfl
  have IC1 := HC.setv Z.W.hp (s := 12 + j) (by omega) (x := V d (12 + (j + 1))) w1 w3
  have IC2 := IC1.setv Z.W.hp (s := 12 + (j + 1)) (by omega) (x := V d (12 + j)) v1 v3
  have ew : k_wd (hh (P.bd i)) i = 12 + h d := by rw [k_wd, Z.t.2.2.1]
  refine Z.fin1 (by rw [hop]; rfl) (r := k_up (k_up (T (P.bd i) i) (k_wd (hh (P.bd i)) i - 2) (T (P.bd i) i (k_wd (hh (P.bd i)) i - 1))) (k_wd (hh (P.bd i)) i - 1) (T (P.bd i) i (k_wd (hh (P.bd i)) i - 2))) ?_ ?_ IC2 ID4 (fun f hf => ⟨k_up_ne (by omega), by rw [r_uv_F (by omega), r_uv_F (by omega)]⟩) (by rw [k_tr, if_neg (by omega), if_neg (by omega), if_neg (by omega), if_pos hop]) (by rw [k_up_eq]; omega) (fun s hs => ?_)
  · have et : nI (d * 20 + (12 + h d)) - (1 : Int32) = nI (d * 20 + (12 + (j + 1))) := by
      rw [z_sub1 (by omega)]; congr 1; omega
    have et2 : nI (d * 20 + (12 + h d)) - (2 : Int32) = nI (d * 20 + (12 + j)) := by
      rw [show (2 : Int32) = nI 2 from rfl, z_subN (by omega)]; congr 1; omega
    have nr : vp_nar .byte (nI (V d (12 + j)).1) = nI (V d (12 + j)).1 := z_bytn (z_bytN (by omega))
    have nr2 : vp_nar .byte (nI (V d (12 + (j + 1))).1) = nI (V d (12 + (j + 1))).1 := z_bytn (z_bytN (by omega))
    have w2' : (q_sI C 96 (d * 20 + (12 + j)) (C.2.1 96 (d * 20 + (12 + (j + 1))))).2.1 97 (d * 20 + (12 + (j + 1))) = nI (V d (12 + (j + 1))).1 := w2
    simp (decide := true) only [fX6_move, Z.C.top, Option.bind_some, if_true, if_false, et, et2, fX6_swap, z_inbN (show d * 20 + (12 + j) < 1280 by omega) (by decide), z_cl (show d * 20 + (12 + j) < 2147483648 by omega), z_inbN (show d * 20 + (12 + (j + 1)) < 1280 by omega) (by decide), z_cl (show d * 20 + (12 + (j + 1)) < 2147483648 by omega), w2', nr2, v2, nr]
  · have hD : D.2.1 (q + 15) i = 7 := by rw [d1, hop]; rfl
    simp (decide := true) only [fX12_step, i1, if_true, if_false, c1, hD, e2, e3, e4, e5, Option.bind_some]
  · rw [k_up_eq] at hs
    rw [ew, show 12 + h d - 1 = 12 + (j + 1) by omega, show 12 + h d - 2 = 12 + j by omega]
    by_cases e : s = 12 + (j + 1)
    · rw [e, r_uv_eq, k_up_eq]; exact Z.t.2.2.2 _ (by omega)
    · rw [r_uv_s e, k_up_ne e]
      by_cases e2 : s = 12 + j
      · rw [e2, r_uv_eq, k_up_eq]; exact Z.t.2.2.2 _ (by omega)
      · rw [r_uv_s e2, k_up_ne e2]; exact Z.t.2.2.2 _ (by omega)
end ZRO
