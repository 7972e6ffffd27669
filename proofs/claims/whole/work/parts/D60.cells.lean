/-! ===== the run: cells ===== -/
def ZH.sc : ZH → Nat → Nat × Int32 → ZH := fun (H : ZH0) c x => ((H.1, H.2.1, H.2.2.1, H.2.2.2.1, H.2.2.2.2.1, H.2.2.2.2.2.1, k_up H.2.2.2.2.2.2 c x) : ZH0)
section ZRE
variable {p q n m : Nat} {g : ZT} {K : ZK} {M : ZM} {P : ZP} {hh : Nat → Nat → Int32} {R : Nat → Nat → Bool} {T : Nat → Nat → Nat → Nat} {Cx Dx C D : QS} {d i k : Nat} {h h' : Nat → Nat} {V : Nat → Nat → Nat × Int32} {pa pd : Nat → Nat} {H H' : ZH} {X : ZX} {to pl : Nat}
theorem sc_hp {c : Nat} {x : Nat × Int32} : (H.sc c x).hp = k_up H.hp c x := rfl
theorem sc_up {c : Nat} {x : Nat × Int32} : r_up H (H.sc c x) := ⟨Nat.le_refl _, fun _ _ _ => rfl⟩
theorem sc_ob {c : Nat} {x : Nat × Int32} (B : r_ob K H) : r_ob K (H.sc c x) := B
theorem rC.setc (hp : z_pp p) (I : rC p Cx d h V pa H X to pl C) {c : Nat} (x : Nat × Int32) : rC p Cx d h V pa (H.sc c x) X to pl (q_sI C 95 c x.2) := by
  refine ⟨I.g.sI hp (by decide), I.F, I.P, ⟨I.H.n, I.H.n2, I.H.u, I.H.u2, I.H.z, I.H.o, fun c' hc' => ?_⟩, I.X⟩
  rw [q_sI_I, sc_hp]
  by_cases e : c' = c
  · rw [if_pos ⟨rfl, e⟩, e, k_up_eq]
  · rw [if_neg (by omega), k_up_ne e]; exact I.H.c c' hc'
theorem rD.setc (I : rD q Dx d h V pd H X pl D) {c : Nat} (x : Nat × Int32) : rD q Dx d h V pd (H.sc c x) X pl (q_sJ D 180 c (r_e x)) := by
  refine ⟨r_gD.sJ I.g, I.F, I.P, ⟨I.H.n, I.H.u, I.H.o, fun c' hc' => ?_⟩, I.X⟩
  rw [q_sJ_J, sc_hp]
  by_cases e : c' = c
  · rw [if_pos ⟨rfl, e⟩, e, k_up_eq]
  · rw [if_neg (by omega), k_up_ne e]; exact I.H.c c' hc'
theorem sc_hc (W : r_W p q n g K M P m hh R T Cx Dx) (B : r_ob K H) (hc : r_hc K M H) {o j : Nat} {x : Nat × Int32} (o1 : 1 ≤ o) (o2 : o ≤ H.n) (hj : j < H.ln o) (hx : r_vo H x) (ha : 32 ≤ H.th o → k_blw K x.1 (k_el (H.th o)) = true) (hf : H.th o < 32 → ∃ f, f < M.fc ∧ k_anc K.cp (M.fo f) (H.th o) = true ∧ M.fs f = j ∧ k_blw K x.1 (M.ft f) = true) : r_hc K M (H.sc (H.st o + j) x) := by
  intro o' a1 a2
  have u : r_up H (H.sc (H.st o + j) x) := sc_up
  obtain ⟨b1, b2, b3, b4⟩ := hc o' a1 a2
  obtain ⟨e1, e2, e3, e4⟩ := hc o o1 o2
  show H.st o' + H.ln o' ≤ H.u ∧ (∀ o'', o' < o'' → o'' ≤ H.n → H.st o' + H.ln o' ≤ H.st o'') ∧ (32 ≤ H.th o' → ∀ j', j' < H.ln o' → r_vo (H.sc (H.st o + j) x) (k_up H.hp (H.st o + j) x (H.st o' + j')) ∧ k_blw K (k_up H.hp (H.st o + j) x (H.st o' + j')).1 (k_el (H.th o')) = true) ∧ (H.th o' < 32 → ∀ f, f < M.fc → k_anc K.cp (M.fo f) (H.th o') = true → M.fs f < H.ln o' ∧ r_vo (H.sc (H.st o + j) x) (k_up H.hp (H.st o + j) x (H.st o' + M.fs f)) ∧ k_blw K (k_up H.hp (H.st o + j) x (H.st o' + M.fs f)).1 (M.ft f) = true)
  refine ⟨b1, b2, fun a j' hj' => ?_, fun a f f1 f2 => ?_⟩
  · by_cases e : H.st o' + j' = H.st o + j
    · rw [e, k_up_eq]
      have : o' = o := by
        rcases Nat.lt_trichotomy o' o with c | c | c
        · have := b2 o c o2; omega
        · exact c
        · have := e2 o' c a2; omega
      subst this
      exact ⟨u.vo hx, ha a⟩
    · rw [k_up_ne e]; exact ⟨u.vo (b3 a j' hj').1, (b3 a j' hj').2⟩
  · obtain ⟨x1, x2, x3⟩ := b4 a f f1 f2
    by_cases e : H.st o' + M.fs f = H.st o + j
    · rw [e, k_up_eq]
      have : o' = o := by
        rcases Nat.lt_trichotomy o' o with c | c | c
        · have := b2 o c o2; omega
        · exact c
        · have := e2 o' c a2; omega
      subst this
      obtain ⟨f', f3, f4, f5, f6⟩ := hf a
      have hcc : H.th o' < K.cc := by
        have h32 := W.hK.2.1
        rcases (B.2 o' o1 o2).1 with t | t | t | t <;> omega
      have : f = f' := by
        rcases Nat.lt_trichotomy f f' with c | c | c
        · have := r_slots W c f3 hcc f2 f4; omega
        · exact c
        · have := r_slots W c f1 hcc f4 f2; omega
      subst this
      exact ⟨x1, u.vo hx, f6⟩
    · rw [k_up_ne e]; exact ⟨x1, u.vo x2, x3⟩
theorem rC.has (I : rC p Cx d h V pa H X to pl C) (hc : r_hc K M H) {o : Nat} (o1 : 1 ≤ o) (o2 : o ≤ H.n) {j : Nat} (hj : j < 2147483648) : fX2_hasCell C (nI o) (nI j) = some (decide (j < H.ln o)) := by
  have n2 := I.H.n2
  have u2 := I.H.u2
  have ho := (hc o o1 o2).1
  have l1 : (nI o ≤ 0) = (o ≤ 0) := by rw [show (0 : Int32) = nI 0 from rfl, z_leN (by omega) (by decide)]
  have l2 : (nI H.n < nI o) = (H.n < o) := z_ltN (by omega) (by omega)
  have l3 : (nI (H.ln o) ≤ nI j) = (H.ln o ≤ j) := z_leN (by omega) hj
  simp only [fX2_hasCell, l1, if_neg (show ¬ o ≤ 0 by omega), I.H.n, l2, if_neg (show ¬ H.n < o by omega), z_negN hj, if_false, z_inbN (show o < 2001 by omega) (by decide), if_true, z_cl (show o < 2147483648 by omega), (I.H.o o o1 o2).2.2.1, l3]
  by_cases c : H.ln o ≤ j
  · rw [if_pos c, decide_eq_false (by omega)]
  · rw [if_neg c, decide_eq_true (by omega)]
theorem rC.hasN (I : rC p Cx d h V pa H X to pl C) {o : Nat} (o1 : 1 ≤ o) (o2 : o ≤ H.n) {v : Int32} (hv : v < 0) : fX2_hasCell C (nI o) v = some false := by
  have n2 := I.H.n2
  have l1 : (nI o ≤ 0) = (o ≤ 0) := by rw [show (0 : Int32) = nI 0 from rfl, z_leN (by omega) (by decide)]
  have l2 : (nI H.n < nI o) = (H.n < o) := z_ltN (by omega) (by omega)
  simp only [fX2_hasCell, l1, if_neg (show ¬ o ≤ 0 by omega), I.H.n, l2, if_neg (show ¬ H.n < o by omega), if_pos hv]
theorem rC.cell (I : rC p Cx d h V pa H X to pl C) (hc : r_hc K M H) {o : Nat} (o1 : 1 ≤ o) (o2 : o ≤ H.n) {j : Nat} (hj : j < H.ln o) : fX2_cell C (nI o) (nI j) = some (H.hp (H.st o + j)).2 ∧ ∀ v, fX2_setCell C (nI o) (nI j) v = some (q_sI C 95 (H.st o + j) v) := by
  have n2 := I.H.n2
  have u2 := I.H.u2
  have ho := (hc o o1 o2).1
  have hh := I.has hc o1 o2 (show j < 2147483648 by omega)
  rw [decide_eq_true hj] at hh
  constructor
  · simp only [fX2_cell, hh, Option.bind_some, if_true, z_inbN (show o < 2001 by omega) (by decide), z_cl (show o < 2147483648 by omega), (I.H.o o o1 o2).2.1, nI_add, z_inbN (show H.st o + j < 12000 by omega) (by decide), z_cl (show H.st o + j < 2147483648 by omega), I.H.c _ (show H.st o + j < H.u by omega)]
  · intro v
    simp only [fX2_setCell, hh, Option.bind_some, if_true, z_inbN (show o < 2001 by omega) (by decide), z_cl (show o < 2147483648 by omega), (I.H.o o o1 o2).2.1, nI_add, z_inbN (show H.st o + j < 12000 by omega) (by decide), z_cl (show H.st o + j < 2147483648 by omega)]
/-- a cell's value comes onto the stack -/
theorem rC.pushCell (hp : z_pp p) (B : r_ob K H) (I : rC p Cx d (k_up h d k) V pa H X to pl C) (h0 : k < 8) (hc : r_hc K M H) {o : Nat} (o1 : 1 ≤ o) (o2 : o ≤ H.n) {j : Nat} (hj : j < H.ln o) {t : Nat} (hv : r_vo H (H.hp (H.st o + j))) (hb : k_blw K (H.hp (H.st o + j)).1 t = true) (ht : t ≤ 66) : ∃ C', fX6_pushCell C (nI o) (nI j) (decide (t = 66)) = some C' ∧ rC p Cx d (k_up h d (k + 1)) (r_uv V d (12 + k) (H.hp (H.st o + j))) pa H X to pl C' := by
  obtain ⟨e1, -⟩ := I.cell hc o1 o2 hj
  by_cases c : t = 66
  · rw [c] at hb
    have h66 := r_blw66 hb
    obtain ⟨C', e2, I'⟩ := I.pushIntN hp h0 (H.hp (H.st o + j)).2
    refine ⟨C', ?_, ?_⟩
    · rw [fX6_pushCell, e1, Option.bind_some, decide_eq_true c, if_pos rfl, e2]; rfl
    · rw [show H.hp (H.st o + j) = (66, (H.hp (H.st o + j)).2) by rw [← h66]]; exact I'
  · obtain ⟨o', p1, p2⟩ := hv.ref (r_blw65 hb (by omega))
    obtain ⟨C', e2, I'⟩ := I.pushObjN hp B h0 p1
    refine ⟨C', ?_, ?_⟩
    · rw [fX6_pushCell, e1, Option.bind_some, decide_eq_false c, if_neg (by decide), p2, e2]; rfl
    · rw [p2]; exact I'
theorem r_M.cls (Z : r_M p q n g K M P m hh R T Cx Dx d h V pa pd H X pl i C D) {o c : Nat} (o1 : 1 ≤ o) (o2 : o ≤ H.n) (h8 : 8 ≤ c) (hc : c < K.cc) (hb : k_blw K (H.th o) c = true) : H.th o < K.cc ∧ k_anc K.cp c (H.th o) = true := by
  have h32 := Z.W.hK.2.1
  have t64 := (Z.B.2 o o1 o2).2
  rcases k_blw_iff.mp hb with e | e | ⟨e1, e2, e3⟩
  · rw [e]; exact ⟨hc, k_anc_self _ _⟩
  · omega
  · rcases e3 with e3 | e3 | e3 | e3
    · omega
    · omega
    · exact ⟨e3.2.1, e3.2.2⟩
    · omega
theorem r_op35 (Z : r_M p q n g K M P m hh R T Cx Dx d h V pa pd H X pl i C D) (hop : P.op i = 35) : r_res p q K M P hh R T Cx Dx X.sp ((fX6_useObject C p (nI i)).bind (r_pu p)) (fX12_step D q (nI i)) := by
  obtain ⟨i1, c1, d1, d2, d3⟩ := Z.rdD
  obtain ⟨p11, p12, p13, p16⟩ := Z.rdC
  obtain ⟨k1, k2⟩ := k_tk_at (M := M) 35 hop (by decide) (by decide)
  have k1 : k_tk M P i = 1 := k1
  have k2 : k_lv M P i = 1 := k2
  have hC : C.2.1 (p + 11) i = 35 := by rw [p11, hop]; rfl
  have h8 := Z.t.h8 Z.W
  have hn := Z.B.1
  have h32 := Z.W.hK.2.1
  obtain ⟨j, hj⟩ : ∃ j, h d = j + 1 := ⟨h d - 1, by omega⟩
  obtain ⟨HC, HD⟩ := Z.hk
  rw [hj] at HC HD
  obtain ⟨f, cc, x1, x2, x3, x4, x5, x6⟩ := (Z.W.N.S.wI i Z.t.1).oF (Or.inl hop)
  have f48 := Z.W.N.S.mJ.mF.1
  have fo8 := (Z.W.N.S.mJ.mF.2 f x4).2.2
  have hx := k_anc_le _ x6
  have kxb : k_xb P i = cc := by rw [k_xb, x3, z_cl (by omega)]
  have t0 : k_told M P i 0 = cc := by simp [k_told, hop, kxb]
  obtain ⟨o, o1, o2, o3⟩ := Z.ref (j := 0) (by omega) (by omega) (by omega) (by omega) (by rw [t0]; omega)
  rw [t0] at o3
  rw [k1, show 12 + h d - 1 + 0 = 12 + j by omega] at o2
  have tho := r_th_le Z.B o1
  obtain ⟨C1, a', e1, ea, IC1, -⟩ := HC.popN Z.W.hp
  rw [o2] at ea
  have ea : a' = nI o := ea (show r_th H o ≠ 67 by omega)
  subst ea
  obtain ⟨D1, f1, ID1⟩ := HD.popN Z.W.hq
  rw [o2] at f1
  have cmp := r_e_null Z.B o1
  have o0 : (nI o = 0) = (o = 0) := by rw [show (0 : Int32) = nI 0 from rfl, z_eqN (by omega) (by decide)]
  rw [r_stepOb Z (by omega) (by omega), hop]
  show r_res p q K M P hh R T Cx Dx X.sp _ (fX12_objectStep D q 35 (P.ya i) (nI i))
  by_cases c : o = 0
  · have x := Z.raise (x := 2) (by decide) (by decide) IC1 ID1
    have a1 : fX6_useObject C p (nI i) = fX6_raise C1 (nI 2) := by
      simp (decide := true) only [fX6_useObject, i1, if_true, if_false, c1, hC, Option.bind_some, e1, o0, c, o_bs]; rfl
    have a2 : fX12_objectStep D q 35 (P.ya i) (nI i) = fX12_raise D1 q (nI (2 - 2)) (nI i) := by
      simp (decide := true) only [fX12_objectStep, if_true, if_false, f1, Option.bind_some, cmp]
      rw [if_pos c, o_bs]; rfl
    rw [a1, a2]; exact x
  · rw [r_th_p (by omega)] at o3
    obtain ⟨t1, t2⟩ := Z.cls (by omega) o1 (by omega) x5 o3
    have anc := k_anc_trans Z.W.hK _ t1 x6 t2
    obtain ⟨g1, g2, g3⟩ := (Z.hc o (by omega) o1).2.2.2 (by omega) f x4 anc
    have hst := (Z.hc o (by omega) o1).1
    have ftok := k_tok_lt Z.W.hK (Z.W.N.S.mJ.ft f x4)
    have ft66 : M.ft f ≤ 66 := by rcases Z.W.N.S.mJ.ft f x4 with t | t | t | t <;> omega
    obtain ⟨C2, e2, IC2⟩ := IC1.pushCell Z.W.hp Z.B (by omega) Z.hc (by omega) o1 g1 g2 g3 ft66
    obtain ⟨-, d178, -, -⟩ := ID1.H.o o (by omega) o1
    have u2 := Z.C.H.u2
    obtain ⟨D2, f2, ID2⟩ := ID1.pushN Z.W.hq (by omega) (x := H.hp (H.st o + M.fs f)) rfl
    have bC : ∃ b, fX0_isBelow C1 p (C1.2.1 91 o) (nI f) = some b := by
      rw [(IC1.H.o o (by omega) o1).1]
      exact ⟨_, z_isBelow Z.W.hK (r_kC Z.W IC1.g) (by omega) (by omega)⟩
    obtain ⟨b, bC⟩ := bC
    have cF := (Z.W.N.S.mJ.cF.2 f x4).2.2
    have cD := Z.W.N.sI.2.1 f x4 (Z.W.N.S.mJ.mF.2 f x4).2.1
    have e66 : (nI (M.ft f) = 66) = (M.ft f = 66) := by rw [show (66 : Int32) = nI 66 from rfl, z_eqN (by omega) (by decide)]
    refine Z.fin11 (by omega) (by omega) (by omega) k2 (by omega) ⟨g2, ?_⟩ IC2 ID2 ?_ ?_
    · rw [k_lf, if_neg (by omega), if_neg (by omega), if_pos hop, k_xa, x1, z_cl (by omega)]; exact g3
    · simp (decide := true) only [fX6_useObject, i1, if_true, if_false, c1, hC, p12, x1, Option.bind_some, e1, o0, c, z_inbN (show o < 2001 by omega) (by decide), z_cl (show o < 2147483648 by omega), bC, z_inbN (show f < 48 by omega) (by decide), z_cl (show f < 2147483648 by omega), IC1.g 8 (by decide), IC1.g 9 (by decide), cF.1, cF.2, e66]
      have red : ∀ (Y : Option QS), (Option.bind (α := Bool) (if b = true then some true else some false) fun _ => Y) = Y := fun Y => by cases b <;> rfl
      by_cases c66 : M.ft f = 66
      · rw [decide_eq_true c66] at e2
        simp only [if_pos c66, e2, Option.bind_some, red]
      · rw [decide_eq_false c66] at e2
        simp only [if_neg c66, e2, Option.bind_some, red]
    · simp (decide := true) only [fX12_objectStep, if_true, if_false, f1, Option.bind_some, cmp]
      rw [if_neg c, r_e_obj Z.B o1 (by omega), Option.bind_some, if_pos (z_inbN (show o - 1 < 2000 by omega) (by decide)), z_cl (show o - 1 < 2147483648 by omega), x2, if_pos (z_inbN (show f < 48 by omega) (by decide)), z_cl (show f < 2147483648 by omega), d178, ID1.g 5 (by decide), cD, nI_add, if_pos (z_inbN (show H.st o + M.fs f < 12000 by omega) (by decide)), z_cl (show H.st o + M.fs f < 2147483648 by omega), ID1.H.c _ (by omega), f2, Option.bind_some]
end ZRE
