section QNEW
variable {g : QG} {M : QM} {d K N : Nat} {Q : Option Value → QS → Prop} {k n pc : Nat} {lv : List (Nat × Value)} {st : List Value} {S : QS}
theorem q_dflt : ∀ ci, ci < 13 → ∀ j, j < q_nf ci → defaultValue (q_ty ci j) = if q_isR (q_ty ci j) then .null else .int 0 := by decide +kernel
theorem q_w_nw (g : QG) (S : QS) (sp : QSp) : q_w g (q_nw S sp) = q_w g S ++ [(g.2.1 + S.1.length, q_e g (q_nw S sp) S.1.length sp)] := by
  apply List.ext_getElem?
  intro j
  by_cases hj : j < S.1.length
  · rw [List.getElem?_append_left (by simpa [q_w] using hj)]
    simp only [q_w, List.getElem?_mapIdx]
    have e : (q_nw S sp).1[j]? = S.1[j]? := List.getElem?_append_left hj
    rw [e]
    have hne : j ≠ S.1.length := by omega
    cases S.1[j]? with
    | none => rfl
    | some x => simp only [Option.map_some]; rw [q_e_congr (S := S) (S' := q_nw S sp) (by simp [q_nw, hne]) (by simp [q_nw, hne]) (by simp [q_nw, hne])]
  · rw [List.getElem?_append_right (by simpa [q_w] using hj)]
    have hl : (q_w g S).length = S.1.length := by simp [q_w]
    by_cases he : j = S.1.length
    · subst he
      rw [hl, Nat.sub_self]
      rw [q_w_at (g := g) (S := q_nw S sp) (k := S.1.length) (sp := sp) (by show (S.1 ++ [sp])[S.1.length]? = some sp; simp)]
      rfl
    · rw [List.getElem?_eq_none (by simp [q_w, q_nw]; omega), List.getElem?_eq_none (by simp [hl]; omega)]
theorem q_P.nw {sp : QSp} {H H1 : Heap} (h : q_P g S H) (hl : S.1.length < 1000000) (hz : H1.size = H.size + 1) (ho : ∀ q, q < H.size → H1[q]? = H[q]?) (ha : va_at g.2.2.1 q_cl (g.2.1 + S.1.length, q_e g (q_nw S sp) S.1.length sp) H1) : q_P g (q_nw S sp) H1 := by
  refine ⟨?_, ?_, ?_⟩
  · show (S.1 ++ [sp]).length ≤ _
    simp
    omega
  · show H1.size = g.2.1 + (S.1 ++ [sp]).length
    have := h.2.1
    simp
    omega
  · rw [q_w_nw]
    refine va_P.app (h.2.2.kept (fun j x hx => ho x.1 ((h.2.2 j x hx).lt))) (fun j x hx => ?_)
    have hz : j < 1 := (List.getElem?_eq_some_iff.mp hx).1
    rw [show j = 0 by omega] at hx
    cases hx
    exact ha
theorem q_S.nw {A : Nat → Prop} {H0 H H1 : Heap} {locs : List Loc} (hS : va_S A H0 H locs) (hz : H1.size = H.size + 1) (ho : ∀ q, q < H.size → H1[q]? = H[q]?) : va_S A H0 H1 locs := ⟨Nat.le_trans hS.1 (by omega), fun x h1 h2 => (ho x (Nat.lt_of_lt_of_le h1 hS.1)).trans (hS.2.1 x h1 h2), hS.2.2⟩
theorem q_new {ci idx : Nat} (hc : ci < 13) (hcl : Cond.classLink M.1.cls idx (q_c0 ci).1 ∈ q_T) (hinst : Cond.instantiable (q_c0 ci).1 (q_nf ci) ∈ q_T) (hini : Cond.initialized (q_c0 ci).1 ∈ q_T) (hk : k + 1 ≤ K) (hn : n + q_nf ci ≤ N) (hlen : S.1.length < 1000000) (hd : decode M.2.1 pc = .ok (.new idx, 3)) (h : q_L g M d K N Q (k + 1) (n + q_nf ci) (pc + 3) lv (.ref S.1.length :: st) (q_nw S (.inl ci))) : q_L g M d K N Q k n pc lv st S := by
  intro p e s m args below meth c H locs ls C hP hS hb hl
  have hKn := C.hK.1 ci _ (q_cl_at hc)
  refine W.newcK C.1 C.2.1 C.own (C.hts args _ hcl) (C.hts args _ hinst) (C.hts args _ hini) rfl hd hk hn hKn.2.1 rfl fun H1 kC hkC e1 z1 o1 => ?_
  have hat : va_at g.2.2.1 q_cl (g.2.1 + S.1.length, q_e g (q_nw S (.inl ci)) S.1.length (.inl ci)) H1 := by
    refine ⟨_, q_cl_at hc, ?_⟩
    rw [← hP.2.1]
    refine (u_born (q_ty ci) (C.hts args) (q_lays hc) hKn hkC e1 (q_tyok hc)).to (fun j hj => ?_)
    show defaultValue (q_ty ci j) = vp_V ((List.range (q_nf ci)).map (q_fv g (q_nw S (.inl ci)) S.1.length ci)) j
    have hj : j < q_nf ci := hj
    rw [q_dflt ci hc j hj]
    simp only [vp_V, List.getD_eq_getElem?_getD, q_fs_at hj, Option.getD_some, q_fv, q_nw, if_true]
    by_cases hr : q_isR (q_ty ci j) = true
    · rw [if_pos hr, if_pos hr]
      simp [q_ro, va_rf]
    · rw [if_neg hr, if_neg hr]
  have hW := h p e s m args below meth c H1 locs ls C (hP.nw hlen z1 o1 hat) (q_S.nw hS z1 o1) ⟨hb.1, by rw [z1, hb.2]; omega⟩ hl
  have e2 : (Value.ref S.1.length :: st).map (q_rv g) = .ref H.size :: st.map (q_rv g) := by rw [List.map_cons, q_rv_lt hlen, hP.2.1]
  rw [e2] at hW
  exact hW
theorem q_newa {t len idx : Nat} {at_ : ArrayType} {i : Int32} (ht : t < 4) (hty : newarray.typeOf at_ = q_et t) (hw : Cond.arrayClass (q_et t) ∈ q_T) (hi : ¬ i < 0) (hlen1 : i.toNatClampNeg = len) (hbig : len ≤ 1000000) (hk : k + 1 ≤ K) (hn : n + len ≤ N) (hlen : S.1.length < 1000000) (hd : decode M.2.1 pc = .ok (.newarray at_, 2)) (h : q_L g M d K N Q (k + 1) (n + len) (pc + 2) lv (.ref S.1.length :: st) (q_nw S (.inr (t, len)))) : q_L g M d K N Q k n pc lv (.int i :: st) S := by
  intro p e s m args below meth c H locs ls C hP hS hb hl
  have hcb : componentBytes (newarray.typeOf at_) ≤ 8 := by cases at_ <;> decide
  refine va_newaK C.1 C.2.1 (by rw [hty]; exact C.hts args _ hw) rfl hd rfl hi hlen1 (Nat.le_trans (Nat.mul_le_mul hbig hcb) (by decide)) hk hn rfl fun H1 cA e1 z1 o1 hAr hNm => ?_
  have hcA : g.2.2.2.1 t = cA := by
    have h1 := (C.hK.2 t _ (q_ty_at g t ht)).2
    rw [hty] at hNm
    match t, ht with
    | 0, _ => exact Option.some.inj (Eq.trans (Eq.symm h1) hNm)
    | 1, _ => exact Option.some.inj (Eq.trans (Eq.symm h1) hNm)
    | 2, _ => exact Option.some.inj (Eq.trans (Eq.symm h1) hNm)
    | 3, _ => exact Option.some.inj (Eq.trans (Eq.symm h1) hNm)
  have hat : va_at g.2.2.1 q_cl (g.2.1 + S.1.length, q_e g (q_nw S (.inr (t, len))) S.1.length (.inr (t, len))) H1 := by
    rw [← hP.2.1]
    show H1[H.size]? = some (vp_cell (g.2.2.2.1 t) (len, if t = 2 then _ else _))
    rw [e1, hty, hcA]
    match t, ht with
    | 0, _ => simp [vp_cell, q_nw, q_et, defaultValue]
    | 1, _ => simp [vp_cell, q_nw, q_et, defaultValue]
    | 2, _ => simp [vp_cell, q_nw, q_et, defaultValue]
    | 3, _ => simp [vp_cell, q_nw, q_et, defaultValue]
  have hW := h p e s m args below meth c H1 locs ls C (hP.nw hlen z1 o1 hat) (q_S.nw hS z1 o1) ⟨hb.1, by rw [z1, hb.2]; omega⟩ hl
  have e2 : (Value.ref S.1.length :: st).map (q_rv g) = .ref H.size :: st.map (q_rv g) := by rw [List.map_cons, q_rv_lt hlen, hP.2.1]
  rw [e2] at hW
  exact hW
theorem q_objI {idx o : Nat} (ho : o < S.1.length) (hlink : Cond.methodLink M.1.cls idx objectInit ∈ q_T) (hinst : Cond.instanceMethod objectInit ∈ q_T) (hcode : Cond.code objectInit ⟨#[0xb1]⟩ 1 none ∈ q_T) (hst : (st.map fun v => v.category).sum ≤ 8) (hd : decode M.2.1 pc = .ok (.invokespecial idx, 3)) (h : q_L g M (d + 1) K N Q k n (pc + 3) lv st S) : q_L g M (d + 1) K N Q k n pc lv (.ref o :: st) S := by
  intro p e s m args below meth c H locs ls C hP hS hb hl
  have hst2 : ((st.map (q_rv g)).map fun v => v.category).sum ≤ 8 := by
    rw [List.map_map]
    have : ((fun v : Value => v.category) ∘ q_rv g) = fun v => v.category := funext fun v => q_rv_cat g v
    rw [this]; exact hst
  refine q_top (q_rv_lt (Nat.lt_of_lt_of_le ho hP.1)) ?_
  exact W.objInit C.1 C.2.1 C.own (C.hts args _ hlink) (C.hts args _ hinst) (C.hts args _ hcode) rfl (hl.1.trans C.2.2.1.symm) rfl hd (Nat.le_add_left 1 d) (by show 2 * 0 + _ + 12 ≤ 40 * (d + 1); omega) (h p e s m args below meth c H locs ls C hP hS hb hl)
theorem q_copy {t la lb idx a b : Nat} {sp dp c0 : Int32} (ht : t < 4) (ht2 : t ≠ 2) (hsa : S.1[a]? = some (.inr (t, la))) (hsb : S.1[b]? = some (.inr (t, lb))) (h1 : ¬ sp < 0) (h2 : ¬ dp < 0) (h3 : ¬ c0 < 0) (h4 : sp.toNatClampNeg + c0.toNatClampNeg ≤ la) (h5 : dp.toNatClampNeg + c0.toNatClampNeg ≤ lb) (hfit : ∀ i, i < c0.toNatClampNeg → fits (q_et t) (.int (S.2.1 a (sp.toNatClampNeg + i))) = true) (hlink : Cond.methodLink M.1.cls idx arraycopyName ∈ q_T) (hnat : Cond.native arraycopyName ∈ q_T) (hstat : Cond.static arraycopyName ∈ q_T) (hini : Cond.initialized "java/lang/System" ∈ q_T) (hst : (st.map fun v => v.category).sum ≤ 8) (hd : decode M.2.1 pc = .ok (.invokestatic idx, 3)) (h : q_L g M (d + 1) K N Q k n (pc + 3) lv st (q_cpI S a sp.toNatClampNeg b dp.toNatClampNeg c0.toNatClampNeg)) : q_L g M (d + 1) K N Q k n pc lv (.int c0 :: .int dp :: .ref b :: .int sp :: .ref a :: st) S := by
  intro p e s m args below meth c H locs ls C hP hS hb hl
  have hst2 : ((st.map (q_rv g)).map fun v => v.category).sum ≤ 8 := by
    rw [List.map_map]
    have : ((fun v : Value => v.category) ∘ q_rv g) = fun v => v.category := funext fun v => q_rv_cat g v
    rw [this]; exact hst
  show W _ _ _ _ _ _ _ _ _ _ _ _ _ _ _ (F0 m pc ls (.int c0 :: .int dp :: q_rv g (.ref b) :: .int sp :: q_rv g (.ref a) :: st.map (q_rv g)))
  rw [q_rv_lt (hP.lt hsa), q_rv_lt (hP.lt hsb)]
  have ea : (q_w g S)[a]? = some (g.2.1 + a, .inl (g.2.2.2.1 t, la, .inl (S.2.1 a))) := by rw [q_w_at hsa]; simp [q_e, ht2]
  have eb : (q_w g S)[b]? = some (g.2.1 + b, .inl (g.2.2.2.1 t, lb, .inl (S.2.1 b))) := by rw [q_w_at hsb]; simp [q_e, ht2]
  refine va_copyi C.1 C.2.1 (C.2.2.1.trans hl.1.symm) C.own (C.hts args _ hlink) (C.hts args _ hnat) (C.hts args _ hstat) (C.hts args _ hini) C.hK hP.2.2 (q_w_D g S) (q_SS0 hS) a b t t ea eb (q_ty_at g t ht) (q_ty_at g t ht) (by match t, ht with | 0, _ => rfl | 1, _ => rfl | 2, _ => rfl | 3, _ => rfl) h1 h2 h3 h4 h5 hfit (Nat.le_add_left 1 d) (by show _ + (5 + 2 + 11) ≤ 40 * (d + 1); omega) hd ?_
  rw [q_wC hsb ht2]
  exact q_put (S := S) rfl h C hP hS hb hl
end QNEW
