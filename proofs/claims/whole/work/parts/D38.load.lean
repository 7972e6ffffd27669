/-! ===== load, both sides ===== -/
/-- cells that a load of the class may write -/
def l_C (ps o j : Nat) : Bool := (o == 0 && j == 12) || ((o == 2 && (j == 1 || j == 5)) || (o == 4 || (o == 5 || (o == 6 || ((o == 77 && (j == 2 || j == 3)) || ((decide (78 ≤ o) && decide (o ≤ 88)) || (decide (ps ≤ o) && decide (o ≤ ps + 34))))))))
def l_D (qs o j : Nat) : Bool := (o == 102 && (j == 7 || (j == 10 || (j == 11 || (j == 12 || (j == 19 || j == 23)))))) || (o == 161 || (o == 162 || ((decide (163 ≤ o) && decide (o ≤ 171)) || (decide (qs ≤ o) && decide (o ≤ qs + 27)))))
def l_fC (ps : Nat) (C C' : QS) : Prop := ∀ o j, l_C ps o j = false → C'.2.1 o j = C.2.1 o j ∧ C'.2.2.1 o j = C.2.2.1 o j
def l_fD (qs : Nat) (D D' : QS) : Prop := ∀ o j, l_D qs o j = false → D'.2.1 o j = D.2.1 o j ∧ D'.2.2.1 o j = D.2.2.1 o j
theorem l_fC.trans {ps : Nat} {C C' C'' : QS} (h : l_fC ps C C') (h' : l_fC ps C' C'') : l_fC ps C C'' := fun o j a => ⟨(h' o j a).1.trans (h o j a).1, (h' o j a).2.trans (h o j a).2⟩
theorem l_fD.trans {qs : Nat} {D D' D'' : QS} (h : l_fD qs D D') (h' : l_fD qs D' D'') : l_fD qs D D'' := fun o j a => ⟨(h' o j a).1.trans (h o j a).1, (h' o j a).2.trans (h o j a).2⟩
theorem l_fC.refl (ps : Nat) (C : QS) : l_fC ps C C := fun _ _ _ => ⟨rfl, rfl⟩
theorem l_fD.refl (qs : Nat) (D : QS) : l_fD qs D D := fun _ _ _ => ⟨rfl, rfl⟩
theorem l_fC.sI {ps o j : Nat} {C : QS} {v : Int32} (h : l_C ps o j = true) : l_fC ps C (q_sI C o j v) := fun o' j' a => ⟨by rw [q_sI_I, if_neg (fun c => by rw [c.1, c.2, h] at a; cases a)], rfl⟩
theorem l_fD.sI {qs o j : Nat} {D : QS} {v : Int32} (h : l_D qs o j = true) : l_fD qs D (q_sI D o j v) := fun o' j' a => ⟨by rw [q_sI_I, if_neg (fun c => by rw [c.1, c.2, h] at a; cases a)], rfl⟩
theorem l_fC.sR {ps o j r : Nat} {C : QS} : l_fC ps C (q_sR C o j r) := fun _ _ _ => ⟨rfl, rfl⟩
theorem l_fD.sR {qs o j r : Nat} {D : QS} : l_fD qs D (q_sR D o j r) := fun _ _ _ => ⟨rfl, rfl⟩
theorem l_fC.fw {ps : Nat} {l : List (Nat × Nat × Nat)} {C C' : QS} (h : q_Fw l 0 C C') (hl : ∀ o j, l_C ps o j = false → q_W l 0 o j = false) : l_fC ps C C' := fun o j a => h.1 o j (hl o j a)
theorem l_fD.fw {qs : Nat} {l : List (Nat × Nat × Nat)} {D D' : QS} (h : q_Fw l 0 D D') (hl : ∀ o j, l_D qs o j = false → q_W l 0 o j = false) : l_fD qs D D' := fun o j a => h.1 o j (hl o j a)
theorem l_fC.off {ps : Nat} {C C' : QS} (h : z_offC ps C C') : l_fC ps C C' := by
  intro o j a
  simp only [l_C, Bool.or_eq_false_iff, Bool.and_eq_false_iff, beq_eq_false_iff_ne, decide_eq_false_iff_not] at a
  exact ⟨h.1 o j (by omega) (by omega), by rw [h.2.2.1]⟩
theorem l_fD.off {qs : Nat} {D D' : QS} (h : z_offD qs D D') : l_fD qs D D' := by
  intro o j a
  simp only [l_D, Bool.or_eq_false_iff, Bool.and_eq_false_iff, beq_eq_false_iff_ne, decide_eq_false_iff_not] at a
  exact ⟨h.1 o j (by omega) (by omega) (by omega), by rw [h.2.2]⟩
theorem l_fC.tf {ps : Nat} {C C' : QS} (hp : z_pp ps) (h : t_fC ps C C') : l_fC ps C C' := by
  intro o j a
  simp only [l_C, Bool.or_eq_false_iff, Bool.and_eq_false_iff, beq_eq_false_iff_ne, decide_eq_false_iff_not] at a
  exact ⟨h.1 o j (by omega) (by omega) (by omega) (by omega) (by omega) (by omega) (by omega) (by omega) (by omega), by rw [h.2.2]⟩
theorem l_fD.tf {qs : Nat} {D D' : QS} (hq : z_qq qs) (h : t_fD qs D D') : l_fD qs D D' := by
  intro o j a
  simp only [l_D, Bool.or_eq_false_iff, Bool.and_eq_false_iff, beq_eq_false_iff_ne, decide_eq_false_iff_not] at a
  exact ⟨h.1 o j (by omega) (by omega) (by omega) (by omega) (by omega) (by omega), by rw [h.2.2]⟩
theorem l_split {ps : Nat} {C : QS} {r : Bool × QS} (h : fX8_split C = some r) : l_fC ps C r.2 ∧ z_rx C r.2 := by
  refine ⟨l_fC.fw (fwX8_split h) (fun o j a => ?_), z_rx.fx (fxX8_split h)⟩
  simp only [l_C, Bool.or_eq_false_iff, Bool.and_eq_false_iff, beq_eq_false_iff_ne, decide_eq_false_iff_not] at a
  simp [q_W, wlX8_split, q_hit, q_base]
  omega
theorem l_syn {ps : Nat} {C : QS} {r : Int32 × QS} (h : fX7_firstFault C = some r) : l_fC ps C r.2 ∧ z_rx C r.2 := by
  refine ⟨l_fC.fw (fwX7_firstFault h) (fun o j a => ?_), z_rx.fx (fxX7_firstFault h)⟩
  simp only [l_C, Bool.or_eq_false_iff, Bool.and_eq_false_iff, beq_eq_false_iff_ne, decide_eq_false_iff_not] at a
  simp [q_W, wlX7_firstFault, q_hit, q_base]
  omega
theorem l_cut {qs : Nat} {D : QS} {r : Bool × QS} (h : fX12_cut D = some r) : l_fD qs D r.2 ∧ z_rx D r.2 := by
  refine ⟨l_fD.fw (fwX12_cut h) (fun o j a => ?_), z_rx.fx (fxX12_cut h)⟩
  simp only [l_D, Bool.or_eq_false_iff, Bool.and_eq_false_iff, beq_eq_false_iff_ne, decide_eq_false_iff_not] at a
  simp [q_W, wlX12_cut, q_hit, q_base]
  omega
/-- what is clean stays so where the load has not been -/
theorem l_cln {C C' : QS} (h : ∀ y j, 81 ≤ y → y ≤ 88 → C'.2.1 y j = C.2.1 y j) (h1 : h_cln C) (h2 : ty_cln C) : h_cln C' ∧ ty_cln C' := by
  refine ⟨⟨fun i hi => by rw [h _ _ (by decide) (by decide)]; exact h1.1 i hi, by rw [h _ _ (by decide) (by decide)]; exact h1.2⟩, fun i hi => by rw [h _ _ (by decide) (by decide)]; exact h2.1 i hi, by rw [h _ _ (by decide) (by decide)]; exact h2.2.1, fun j => ?_⟩
  rw [h _ _ (by decide) (by decide), h _ _ (by decide) (by decide)]; exact h2.2.2 j
