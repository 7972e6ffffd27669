/-! ===== load: the names, both sides ===== -/
/-- references that a load may set -/
def z_ex (o j : Nat) : Bool := (o == 77 && j == 1) || ((o == 78 && (j == 1 || (j == 2 || j == 3))) || ((o == 81 && (j == 0 || j == 1)) || (o == 84 && (j == 0 || (j == 1 || j == 2)))))
def z_rx (C C' : QS) : Prop := C'.1 = C.1 ∧ ∀ o j, z_ex o j = false → C'.2.2.2 o j = C.2.2.2 o j
theorem z_rx.refl (C : QS) : z_rx C C := ⟨rfl, fun _ _ _ => rfl⟩
theorem z_rx.trans {C C' C'' : QS} (h : z_rx C C') (h' : z_rx C' C'') : z_rx C C'' := ⟨h'.1.trans h.1, fun o j a => (h'.2 o j a).trans (h.2 o j a)⟩
theorem z_rx.fx {C C' : QS} (h : q_Fx C C') : z_rx C C' := ⟨h.1, fun o j a => h.2 o j (fun c => by rw [c.1, c.2] at a; exact absurd a (by decide))⟩
theorem z_rx.sI (C : QS) (o j : Nat) (v : Int32) : z_rx C (q_sI C o j v) := ⟨rfl, fun _ _ _ => rfl⟩
theorem z_rx.sR {C : QS} {o j r : Nat} (h : z_ex o j = true) : z_rx C (q_sR C o j r) := by
  refine ⟨rfl, fun o' j' a => ?_⟩
  rw [z_sR_R, if_neg (fun c => by rw [c.1, c.2, h] at a; cases a)]
theorem q_WL_ex : ∀ x ∈ q_WL, z_ex x.1 x.2.1 = false := by decide +kernel
theorem q_okO_rx {C C' : QS} {pp ps : Nat} (h : z_rx C C') (ho : q_okO C pp ps = true) : q_okO C' pp ps = true := by
  rw [q_okO, decide_eq_true_eq] at ho ⊢
  obtain ⟨a1, a2, a3, a4⟩ := ho
  exact ⟨h.1.trans a1, fun x hx => (h.2 _ _ (q_WL_ex x hx)).trans (a2 x hx), (h.2 _ _ (by decide)).trans a3, (h.2 _ _ (by decide)).trans a4⟩
theorem q_aNb_fx {C C' : QS} {p : Nat} (h : q_Fx C C') (ha : q_aNb C p = true) : q_aNb C' p = true := by
  rw [q_aNb, decide_eq_true_eq] at ha ⊢
  rw [h.2 78 1 (by decide), h.2 78 2 (by decide), h.2 78 3 (by decide)]
  exact ha
section ZLN
variable {C D : QS} {n p q : Nat} {g : ZT}
theorem z_beginN {pp : Nat} (ho : q_okO C pp p = true) : ∃ C', fX4_begin C p = some C' ∧ k_C C' p (k_K0 8) ∧ z_offC p C C' ∧ k_z C' p (k_K0 8) ∧ z_rx C C' ∧ q_aNb C' p = true := by
  obtain ⟨C', h1, h2, h3, h4⟩ := z_namesBegin (C := C) (p := p)
  refine ⟨C', h1, h2, h3, h4, ?_⟩
  have h := h1
  unfold fX4_begin at h
  simp only [Option.bind_some] at h
  obtain ⟨r13, h13, h⟩ := q_bind h
  cases h
  have fx := fxX5_begin h13
  refine ⟨((z_rx.sR (by decide)).trans ((z_rx.sR (by decide)).trans (z_rx.sR (by decide)))).trans (z_rx.fx fx), q_aNb_fx fx ?_⟩
  rw [q_aNb, decide_eq_true_eq]
  refine ⟨?_, ?_, ?_⟩ <;> simp [z_sR_R]
/-- the reference's names -/
noncomputable def z_nmD (D : QS) (q : Nat) : Option (Int32 × QS) :=
  (fX12_classNames D q).bind fun r16 =>
      if r16.1 = true then
        (fX12_members r16.2 q).bind fun r19 =>
        if r19.1 = true then
          (fX12_lines r19.2 q).bind fun r22 =>
          if r22.1 = true then
            (fX12_settled r22.2 q).bind fun r25 =>
            if r25.1 = true then
              fX12_fault_70 r25.2 q ((0 : Int32))
            else
              some (((3 : Int32), r25.2))
          else
            some (((3 : Int32), r22.2))
        else
          some (((3 : Int32), r19.2))
      else
        some (((3 : Int32), r16.2))
theorem z_allNames {pp : Nat} (hp : z_pp p) (hq : z_qq q) (hG : z_G n g) (ho : e_ok g) (hC : z_C C n g) (hD : z_D D n g) (hkd : ∀ i, i < g.1 → C.2.1 6 i = e_kind g i) (okO : q_okO C pp p = true) : ∃ r D', fX10_nameFault C pp p = some r ∧ z_offC p C r.2 ∧ z_rx C r.2 ∧ z_offD q D D' ∧ ((∃ f, f ≤ g.1 ∧ r.1 = nI f ∧ z_nmD D q = some (3, D') ∧ D'.2.1 102 12 = nI f) ∨ (r.1 = -1 ∧ z_nmD D q = fX12_fault_70 D' q 0 ∧ ∃ K M P m, k_K g K ∧ k_KD g K ∧ s_N p q n g K M P m r.2 D')) := by
  have hg := hG.1
  have hg2 := hG.2.1
  have nm : ∀ f, f ≤ g.1 → ¬ nI f = -1 := fun f hf => by rw [z_m1N (by omega)]; exact id
  obtain ⟨C1, b1, b2, b3, b4, b5, b6⟩ := z_beginN okO
  have hC1 := hC.off hp b3
  have hkd1 : ∀ i, i < g.1 → C1.2.1 6 i = e_kind g i := fun i hi => (b3.1 _ _ (by rcases hp with rfl | rfl <;> omega) (by omega)).trans (hkd i hi)
  have ok1 := q_okO_rx b5 okO
  obtain ⟨r2, d2, x1, x2, x3, x4, x5⟩ := z_classes hp hq hG ho hC1 hD hkd1 b2 b4
  have fx2 := fxX4_classFault x1
  have a2 := q_aNb_fx fx2 b6
  obtain ⟨r20, C2⟩ := r2
  obtain ⟨d20, D2⟩ := d2
  rcases x5 with ⟨f, f1, f2, f3, f4⟩ | ⟨f2, f3, K, k1, k2, k3, k4, k5, k6⟩
  · have f2 : r20 = nI f := f2
    have f3 : d20 = false := f3
    subst f2; subst f3
    refine ⟨(nI f, C2), D2, ?_, b3.trans x3, b5.trans (z_rx.fx fx2), x4, Or.inl ⟨f, f1, rfl, ?_, f4⟩⟩
    · simp only [fX10_nameFault, b1, Option.bind_some, ok1, b6, if_true, x1, if_neg (nm f f1)]
    · simp only [z_nmD, x2, Option.bind_some, Bool.false_eq_true, if_false]
  have f2 : r20 = -1 := f2
  have f3 : d20 = true := f3
  subst f2; subst f3
  have hC2 := hC1.off hp x3
  have hkd2 : ∀ i, i < g.1 → C2.2.1 6 i = e_kind g i := fun i hi => (x3.1 _ _ (by rcases hp with rfl | rfl <;> omega) (by omega)).trans (hkd1 i hi)
  obtain ⟨r3, d3, y1, y2, y3, y4, y5⟩ := z_members hp hq hG ho hC2 (hD.off hq x4) hkd2 k1 k2 k3 k4 k5
  have fx3 := fxX4_memberFault y1
  have a3 := q_aNb_fx fx3 a2
  obtain ⟨r30, C3⟩ := r3
  obtain ⟨d30, D3⟩ := d3
  rcases y5 with ⟨f, f1, f2, f3, f4⟩ | ⟨f2, f3, M, m1, m2⟩
  · have f2 : r30 = nI f := f2
    have f3 : d30 = false := f3
    subst f2; subst f3
    refine ⟨(nI f, C3), D3, ?_, (b3.trans x3).trans y3, (b5.trans (z_rx.fx fx2)).trans (z_rx.fx fx3), x4.trans y4, Or.inl ⟨f, f1, rfl, ?_, f4⟩⟩
    · simp only [fX10_nameFault, b1, Option.bind_some, ok1, b6, if_true, x1, a2, y1, if_neg (nm f f1)]
    · simp only [z_nmD, x2, y2, Option.bind_some, if_true, Bool.false_eq_true, if_false]
  have f2 : r30 = -1 := f2
  have f3 : d30 = true := f3
  subst f2; subst f3
  obtain ⟨r4, d4, u1, u2, u3, u4, u5⟩ := z_lines hp hq hG k3 ho m1 m2
  have fx4 := fxX4_lineFault u1
  have a4 := q_aNb_fx fx4 a3
  obtain ⟨r40, C4⟩ := r4
  obtain ⟨d40, D4⟩ := d4
  rcases u5 with ⟨f, f1, f2, f3, f4⟩ | ⟨f2, f3, P, p1⟩
  · have f2 : r40 = nI f := f2
    have f3 : d40 = false := f3
    subst f2; subst f3
    refine ⟨(nI f, C4), D4, ?_, ((b3.trans x3).trans y3).trans u3, ((b5.trans (z_rx.fx fx2)).trans (z_rx.fx fx3)).trans (z_rx.fx fx4), (x4.trans y4).trans u4, Or.inl ⟨f, f1, rfl, ?_, f4⟩⟩
    · simp only [fX10_nameFault, b1, Option.bind_some, ok1, b6, if_true, x1, a2, y1, a3, u1, if_neg (nm f f1)]
    · simp only [z_nmD, x2, y2, u2, Option.bind_some, if_true, Bool.false_eq_true, if_false]
  have f2 : r40 = -1 := f2
  have f3 : d40 = true := f3
  subst f2; subst f3
  obtain ⟨r5, d5, v1, v2, v3, v4, v5⟩ := z_main hp hq hG k3 k6 p1
  have fx5 := fxX4_mainFault v1
  obtain ⟨r50, C5⟩ := r5
  obtain ⟨d50, D5⟩ := d5
  refine ⟨(r50, C5), D5, ?_, (((b3.trans x3).trans y3).trans u3).trans v3, (((b5.trans (z_rx.fx fx2)).trans (z_rx.fx fx3)).trans (z_rx.fx fx4)).trans (z_rx.fx fx5), ((x4.trans y4).trans u4).trans v4, ?_⟩
  · simp only [fX10_nameFault, b1, Option.bind_some, ok1, b6, if_true, x1, a2, y1, a3, u1, a4, v1]
  rcases v5 with ⟨f, f1, f2, f3, f4⟩ | ⟨f2, f3, m, mN⟩
  · have f3 : d50 = false := f3
    subst f3
    refine Or.inl ⟨f, f1, f2, ?_, f4⟩
    simp only [z_nmD, x2, y2, u2, v2, Option.bind_some, if_true, Bool.false_eq_true, if_false]
  · have f3 : d50 = true := f3
    subst f3
    refine Or.inr ⟨f2, ?_, K, M, P, m, k3, k6, mN⟩
    simp only [z_nmD, x2, y2, u2, v2, Option.bind_some, if_true]
end ZLN
