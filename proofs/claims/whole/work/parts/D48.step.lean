/-! ===== the run: cells, slots, and one step ===== -/
/-- the cells keep to their types -/
def r_hc (K : ZK) (M : ZM) (H : ZH) : Prop := ∀ o, 1 ≤ o → o ≤ H.n → H.st o + H.ln o ≤ H.u ∧ (∀ o', o < o' → o' ≤ H.n → H.st o + H.ln o ≤ H.st o') ∧ (32 ≤ H.th o → ∀ j, j < H.ln o → r_vo H (H.hp (H.st o + j)) ∧ k_blw K (H.hp (H.st o + j)).1 (k_el (H.th o)) = true) ∧ (H.th o < 32 → ∀ f, f < M.fc → k_anc K.cp (M.fo f) (H.th o) = true → M.fs f < H.ln o ∧ r_vo H (H.hp (H.st o + M.fs f)) ∧ k_blw K (H.hp (H.st o + M.fs f)).1 (M.ft f) = true)
/-- more objects -/
def r_up (H H' : ZH) : Prop := H.n ≤ H'.n ∧ ∀ o, 1 ≤ o → o ≤ H.n → H'.th o = H.th o
theorem r_up.refl (H : ZH) : r_up H H := ⟨Nat.le_refl _, fun _ _ _ => rfl⟩
theorem r_up.th {H H' : ZH} (u : r_up H H') {o : Nat} (h : o ≤ H.n) : r_th H' o = r_th H o := by
  rw [r_th, r_th]
  by_cases c : o = 0
  · rw [if_pos c, if_pos c]
  · rw [if_neg c, if_neg c]; exact u.2 o (by omega) h
theorem r_up.vo {H H' : ZH} (u : r_up H H') {x : Nat × Int32} (h : r_vo H x) : r_vo H' x := by
  rcases h with h | h | ⟨o, h1, h2⟩
  · exact Or.inl h
  · exact Or.inr (Or.inl h)
  · exact Or.inr (Or.inr ⟨o, Nat.le_trans h1 u.1, by rw [u.th h1]; exact h2⟩)
theorem r_up.tf {K : ZK} {P : ZP} {hh : Nat → Nat → Int32} {R : Nat → Nat → Bool} {T : Nat → Nat → Nat → Nat} {H H' : ZH} {i hf : Nat} {v : Nat → Nat × Int32} (u : r_up H H') (t : r_tf K P hh R T H i hf v) : r_tf K P hh R T H' i hf v := ⟨t.1, t.2.1, t.2.2.1, fun s hs => ⟨u.vo (t.2.2.2 s hs).1, (t.2.2.2 s hs).2⟩⟩
theorem r_up.lf {K : ZK} {M : ZM} {P : ZP} {hh : Nat → Nat → Int32} {R : Nat → Nat → Bool} {T : Nat → Nat → Nat → Nat} {H H' : ZH} {i hf b : Nat} {v : Nat → Nat × Int32} (u : r_up H H') (t : r_lf K M P hh R T H i hf v b) : r_lf K M P hh R T H' i hf v b := ⟨t.1, t.2.1, t.2.2.1, t.2.2.2.1, t.2.2.2.2.1, fun s hs => ⟨u.vo (t.2.2.2.2.2 s hs).1, (t.2.2.2.2.2 s hs).2⟩⟩
theorem k_cnt_sub {A B : Nat → Bool} : ∀ m, (∀ i, i < m → A i = true → B i = true) → k_cnt A m ≤ k_cnt B m
  | 0, _ => Nat.le_refl _
  | m + 1, h => by
    have := k_cnt_sub m (fun i hi => h i (by omega))
    rw [k_cnt, k_cnt]
    by_cases c : A m = true
    · rw [if_pos c, if_pos (h m (by omega) c)]; omega
    · rw [if_neg c]; omega
section ZRS
variable {p q n m : Nat} {g : ZT} {K : ZK} {M : ZM} {P : ZP} {hh : Nat → Nat → Int32} {R : Nat → Nat → Bool} {T : Nat → Nat → Nat → Nat} {Cx Dx C D : QS} {d : Nat} {h : Nat → Nat} {V : Nat → Nat → Nat × Int32} {pa pd : Nat → Nat} {H : ZH} {X : ZX} {to pl : Nat}
theorem r_slot (W : r_W p q n g K M P m hh R T Cx Dx) {f c : Nat} (hf : f < M.fc) (hc : c < K.cc) (ha : k_anc K.cp (M.fo f) c = true) : M.fs f < k_cnt (m_slP K M c) M.fc := by
  have fs := W.N.S.mJ.fs f hf
  have s1 : k_cnt (m_slP K M (M.fo f)) f ≤ k_cnt (m_slP K M c) f := k_cnt_sub f (fun i hi x => by
    rw [m_slP] at x ⊢
    exact k_anc_trans W.hK c hc x ha)
  have s2 : k_cnt (m_slP K M c) (f + 1) ≤ k_cnt (m_slP K M c) M.fc := k_cnt_mono _ (by omega)
  rw [k_cnt, if_pos (show m_slP K M c f = true from ha)] at s2
  omega
theorem r_slots (W : r_W p q n g K M P m hh R T Cx Dx) {f f' c : Nat} (hlt : f < f') (hf' : f' < M.fc) (hc : c < K.cc) (ha : k_anc K.cp (M.fo f) c = true) (ha' : k_anc K.cp (M.fo f') c = true) : M.fs f < M.fs f' := by
  have fs := W.N.S.mJ.fs f (by omega)
  have fs' := W.N.S.mJ.fs f' hf'
  have hle := W.N.S.mJ.mo f f' hlt hf'
  have hx := k_anc_le _ ha'
  have aa := k_anc_cmp W.hK c hc ha ha' hle
  have s1 : k_cnt (m_slP K M (M.fo f)) f ≤ k_cnt (m_slP K M (M.fo f')) f := k_cnt_sub f (fun i hi x => by
    rw [m_slP] at x ⊢
    exact k_anc_trans W.hK _ (by omega) x aa)
  have s2 : k_cnt (m_slP K M (M.fo f')) (f + 1) ≤ k_cnt (m_slP K M (M.fo f')) f' := k_cnt_mono _ (by omega)
  rw [k_cnt, if_pos (show m_slP K M (M.fo f') f = true from aa)] at s2
  omega
theorem k_same_mid {B : Nat → Int32} {u v u' v' w x : Nat} (h : k_same B u v w x = true) (h' : k_same B u' v' w x = true) : k_same B u v u' v' = true := by
  rw [k_same_trans h, k_same_symm]; exact h'
/-- the body by name and the body by root are one -/
theorem r_chosen (W : r_W p q n g K M P m hh R T Cx Dx) {f c : Nat} (hf : f < M.bc) (hc : c < K.cc) (ha : k_anc K.cp (M.bo f) c = true) (hm : M.bm f = true) : ∃ b, b < M.bc ∧ k_mt g K M c f = some b ∧ k_lst (m_chP K M c (M.bt f)) M.bc = some b ∧ M.bm b = true ∧ M.bt b = M.bt f ∧ k_anc K.cp (M.bo b) c = true := by
  have J := W.N.S.mJ
  have key : ∀ b, f ≤ b → b < M.bc → k_bP g K M c (g.2.2.1 (M.bw f)) (g.2.2.2 (M.bw f)) b = true → M.bm b = true ∧ M.bt b = M.bt f := by
    intro b
    induction b using Nat.strongRecOn with
    | _ b ih =>
      intro h1 h2 h3
      by_cases e : b = f
      · rw [e]; exact ⟨hm, rfl⟩
      rw [k_bP, Bool.and_eq_true] at h3
      have hle := J.mB.2.2.1 f b (by omega) h2
      have hx := k_anc_le _ h3.1
      have aa := k_anc_cmp W.hK c hc ha h3.1 hle
      have nm : e_at g (g.2.2.1 (M.bw b)) (g.2.2.2 (M.bw b)) (M.bw f) = true := by
        rw [e_at, k_same_symm]; exact h3.2
      rcases J.ov b h2 with ⟨o1, o2⟩ | ⟨r, o1, o2, o3, o4, -⟩
      · have := k_lst_none _ o1 f (by omega)
        rw [k_bP, aa, nm] at this
        cases this
      · obtain ⟨r1, r2, r3⟩ := k_lst_some _ o1
        rw [k_bP, Bool.and_eq_true] at r2
        have hfr : f ≤ r := by
          apply Classical.byContradiction
          intro hn
          have := r3 f (by omega) (by omega)
          rw [k_bP, aa, nm] at this
          cases this
        have ir := ih r r1 hfr (by omega) (by
          rw [k_bP, k_anc_trans W.hK c hc r2.1 h3.1, Bool.true_and, e_at]
          rw [e_at] at nm
          have := r2.2
          rw [e_at, k_same_trans nm] at this
          exact this)
        exact ⟨o3, by rw [o2]; exact ir.2⟩
  have key2 : ∀ b, b < M.bc → m_chP K M c (M.bt f) b = true → k_bP g K M c (g.2.2.1 (M.bw f)) (g.2.2.2 (M.bw f)) b = true := by
    intro b h2 h3
    rw [m_chP, Bool.and_eq_true, Bool.and_eq_true, decide_eq_true_eq] at h3
    obtain ⟨-, -, -, -, -, -, -, x1⟩ := m_root W.hG J f hf
    obtain ⟨-, -, -, -, -, -, -, x2⟩ := m_root W.hG J b h2
    rw [h3.2.2] at x2
    rw [k_bP, h3.2.1, Bool.true_and, e_at]
    exact k_same_mid x1 x2
  have ff : k_bP g K M c (g.2.2.1 (M.bw f)) (g.2.2.2 (M.bw f)) f = true := by
    rw [k_bP, ha, Bool.true_and, e_at]; exact k_same_refl
  cases hb : k_mt g K M c f with
  | none =>
    have := k_lst_none _ hb f hf
    rw [ff] at this; cases this
  | some b =>
    obtain ⟨b1, b2, b3⟩ := k_lst_some _ hb
    have hfb : f ≤ b := by
      apply Classical.byContradiction
      intro hn
      have := b3 f (by omega) hf
      rw [ff] at this; cases this
    obtain ⟨c1, c2⟩ := key b hfb b1 b2
    have b2' := b2
    rw [k_bP, Bool.and_eq_true] at b2'
    refine ⟨b, b1, rfl, k_lst_of _ b1 ?_ (fun i i1 i2 => ?_), c1, c2, b2'.1⟩
    · rw [m_chP, c1, b2'.1, c2, decide_eq_true rfl]; rfl
    · cases hx : m_chP K M c (M.bt f) i with
      | false => rfl
      | true =>
        have := key2 i i2 hx
        rw [b3 i i1 i2] at this; cases this
end ZRS

/-- inside of a step -/
def r_M (p : Nat) (q : Nat) (n : Nat) (g : ZT) (K : ZK) (M : ZM) (P : ZP) (m : Nat) (hh : Nat → Nat → Int32) (R : Nat → Nat → Bool) (T : Nat → Nat → Nat → Nat) (Cx : QS) (Dx : QS) (d : Nat) (h : Nat → Nat) (V : Nat → Nat → Nat × Int32) (pa : Nat → Nat) (pd : Nat → Nat) (H : ZH) (X : ZX) (pl : Nat) (i : Nat) (C : QS) (D : QS) : Prop := (r_W p q n g K M P m hh R T Cx Dx) ∧ (rC p Cx d h V pa H X 0 i C) ∧ (rD q Dx d h V pd H X pl D) ∧ (r_tf K P hh R T H i (h d) (V d)) ∧ (∀ f, f < d → r_lf K M P hh R T H (pd f) (h f) (V f) (P.bd (pd (f + 1)))) ∧ (r_ob K H) ∧ (r_hc K M H) ∧ (pd d = i) ∧ (pa d = i + 1) ∧ (∀ f, f < d → pa f = pd f + 1) ∧ (X.oc = -1) ∧ (X.nx < X.sp) ∧ (X.w < X.sp)
theorem r_M.W {p : Nat} {q : Nat} {n : Nat} {g : ZT} {K : ZK} {M : ZM} {P : ZP} {m : Nat} {hh : Nat → Nat → Int32} {R : Nat → Nat → Bool} {T : Nat → Nat → Nat → Nat} {Cx : QS} {Dx : QS} {d : Nat} {h : Nat → Nat} {V : Nat → Nat → Nat × Int32} {pa : Nat → Nat} {pd : Nat → Nat} {H : ZH} {X : ZX} {pl : Nat} {i : Nat} {C : QS} {D : QS} (I : r_M p q n g K M P m hh R T Cx Dx d h V pa pd H X pl i C D) : r_W p q n g K M P m hh R T Cx Dx := I.1
theorem r_M.C {p : Nat} {q : Nat} {n : Nat} {g : ZT} {K : ZK} {M : ZM} {P : ZP} {m : Nat} {hh : Nat → Nat → Int32} {R : Nat → Nat → Bool} {T : Nat → Nat → Nat → Nat} {Cx : QS} {Dx : QS} {d : Nat} {h : Nat → Nat} {V : Nat → Nat → Nat × Int32} {pa : Nat → Nat} {pd : Nat → Nat} {H : ZH} {X : ZX} {pl : Nat} {i : Nat} {C : QS} {D : QS} (I : r_M p q n g K M P m hh R T Cx Dx d h V pa pd H X pl i C D) : rC p Cx d h V pa H X 0 i C := I.2.1
theorem r_M.D {p : Nat} {q : Nat} {n : Nat} {g : ZT} {K : ZK} {M : ZM} {P : ZP} {m : Nat} {hh : Nat → Nat → Int32} {R : Nat → Nat → Bool} {T : Nat → Nat → Nat → Nat} {Cx : QS} {Dx : QS} {d : Nat} {h : Nat → Nat} {V : Nat → Nat → Nat × Int32} {pa : Nat → Nat} {pd : Nat → Nat} {H : ZH} {X : ZX} {pl : Nat} {i : Nat} {C : QS} {D : QS} (I : r_M p q n g K M P m hh R T Cx Dx d h V pa pd H X pl i C D) : rD q Dx d h V pd H X pl D := I.2.2.1
theorem r_M.t {p : Nat} {q : Nat} {n : Nat} {g : ZT} {K : ZK} {M : ZM} {P : ZP} {m : Nat} {hh : Nat → Nat → Int32} {R : Nat → Nat → Bool} {T : Nat → Nat → Nat → Nat} {Cx : QS} {Dx : QS} {d : Nat} {h : Nat → Nat} {V : Nat → Nat → Nat × Int32} {pa : Nat → Nat} {pd : Nat → Nat} {H : ZH} {X : ZX} {pl : Nat} {i : Nat} {C : QS} {D : QS} (I : r_M p q n g K M P m hh R T Cx Dx d h V pa pd H X pl i C D) : r_tf K P hh R T H i (h d) (V d) := I.2.2.2.1
theorem r_M.lo {p : Nat} {q : Nat} {n : Nat} {g : ZT} {K : ZK} {M : ZM} {P : ZP} {m : Nat} {hh : Nat → Nat → Int32} {R : Nat → Nat → Bool} {T : Nat → Nat → Nat → Nat} {Cx : QS} {Dx : QS} {d : Nat} {h : Nat → Nat} {V : Nat → Nat → Nat × Int32} {pa : Nat → Nat} {pd : Nat → Nat} {H : ZH} {X : ZX} {pl : Nat} {i : Nat} {C : QS} {D : QS} (I : r_M p q n g K M P m hh R T Cx Dx d h V pa pd H X pl i C D) : ∀ f, f < d → r_lf K M P hh R T H (pd f) (h f) (V f) (P.bd (pd (f + 1))) := I.2.2.2.2.1
theorem r_M.B {p : Nat} {q : Nat} {n : Nat} {g : ZT} {K : ZK} {M : ZM} {P : ZP} {m : Nat} {hh : Nat → Nat → Int32} {R : Nat → Nat → Bool} {T : Nat → Nat → Nat → Nat} {Cx : QS} {Dx : QS} {d : Nat} {h : Nat → Nat} {V : Nat → Nat → Nat × Int32} {pa : Nat → Nat} {pd : Nat → Nat} {H : ZH} {X : ZX} {pl : Nat} {i : Nat} {C : QS} {D : QS} (I : r_M p q n g K M P m hh R T Cx Dx d h V pa pd H X pl i C D) : r_ob K H := I.2.2.2.2.2.1
theorem r_M.hc {p : Nat} {q : Nat} {n : Nat} {g : ZT} {K : ZK} {M : ZM} {P : ZP} {m : Nat} {hh : Nat → Nat → Int32} {R : Nat → Nat → Bool} {T : Nat → Nat → Nat → Nat} {Cx : QS} {Dx : QS} {d : Nat} {h : Nat → Nat} {V : Nat → Nat → Nat × Int32} {pa : Nat → Nat} {pd : Nat → Nat} {H : ZH} {X : ZX} {pl : Nat} {i : Nat} {C : QS} {D : QS} (I : r_M p q n g K M P m hh R T Cx Dx d h V pa pd H X pl i C D) : r_hc K M H := I.2.2.2.2.2.2.1
theorem r_M.ei {p : Nat} {q : Nat} {n : Nat} {g : ZT} {K : ZK} {M : ZM} {P : ZP} {m : Nat} {hh : Nat → Nat → Int32} {R : Nat → Nat → Bool} {T : Nat → Nat → Nat → Nat} {Cx : QS} {Dx : QS} {d : Nat} {h : Nat → Nat} {V : Nat → Nat → Nat × Int32} {pa : Nat → Nat} {pd : Nat → Nat} {H : ZH} {X : ZX} {pl : Nat} {i : Nat} {C : QS} {D : QS} (I : r_M p q n g K M P m hh R T Cx Dx d h V pa pd H X pl i C D) : pd d = i := I.2.2.2.2.2.2.2.1
theorem r_M.ea {p : Nat} {q : Nat} {n : Nat} {g : ZT} {K : ZK} {M : ZM} {P : ZP} {m : Nat} {hh : Nat → Nat → Int32} {R : Nat → Nat → Bool} {T : Nat → Nat → Nat → Nat} {Cx : QS} {Dx : QS} {d : Nat} {h : Nat → Nat} {V : Nat → Nat → Nat × Int32} {pa : Nat → Nat} {pd : Nat → Nat} {H : ZH} {X : ZX} {pl : Nat} {i : Nat} {C : QS} {D : QS} (I : r_M p q n g K M P m hh R T Cx Dx d h V pa pd H X pl i C D) : pa d = i + 1 := I.2.2.2.2.2.2.2.2.1
theorem r_M.el {p : Nat} {q : Nat} {n : Nat} {g : ZT} {K : ZK} {M : ZM} {P : ZP} {m : Nat} {hh : Nat → Nat → Int32} {R : Nat → Nat → Bool} {T : Nat → Nat → Nat → Nat} {Cx : QS} {Dx : QS} {d : Nat} {h : Nat → Nat} {V : Nat → Nat → Nat × Int32} {pa : Nat → Nat} {pd : Nat → Nat} {H : ZH} {X : ZX} {pl : Nat} {i : Nat} {C : QS} {D : QS} (I : r_M p q n g K M P m hh R T Cx Dx d h V pa pd H X pl i C D) : ∀ f, f < d → pa f = pd f + 1 := I.2.2.2.2.2.2.2.2.2.1
theorem r_M.oc {p : Nat} {q : Nat} {n : Nat} {g : ZT} {K : ZK} {M : ZM} {P : ZP} {m : Nat} {hh : Nat → Nat → Int32} {R : Nat → Nat → Bool} {T : Nat → Nat → Nat → Nat} {Cx : QS} {Dx : QS} {d : Nat} {h : Nat → Nat} {V : Nat → Nat → Nat × Int32} {pa : Nat → Nat} {pd : Nat → Nat} {H : ZH} {X : ZX} {pl : Nat} {i : Nat} {C : QS} {D : QS} (I : r_M p q n g K M P m hh R T Cx Dx d h V pa pd H X pl i C D) : X.oc = -1 := I.2.2.2.2.2.2.2.2.2.2.1
theorem r_M.nx {p : Nat} {q : Nat} {n : Nat} {g : ZT} {K : ZK} {M : ZM} {P : ZP} {m : Nat} {hh : Nat → Nat → Int32} {R : Nat → Nat → Bool} {T : Nat → Nat → Nat → Nat} {Cx : QS} {Dx : QS} {d : Nat} {h : Nat → Nat} {V : Nat → Nat → Nat × Int32} {pa : Nat → Nat} {pd : Nat → Nat} {H : ZH} {X : ZX} {pl : Nat} {i : Nat} {C : QS} {D : QS} (I : r_M p q n g K M P m hh R T Cx Dx d h V pa pd H X pl i C D) : X.nx < X.sp := I.2.2.2.2.2.2.2.2.2.2.2.1
theorem r_M.w {p : Nat} {q : Nat} {n : Nat} {g : ZT} {K : ZK} {M : ZM} {P : ZP} {m : Nat} {hh : Nat → Nat → Int32} {R : Nat → Nat → Bool} {T : Nat → Nat → Nat → Nat} {Cx : QS} {Dx : QS} {d : Nat} {h : Nat → Nat} {V : Nat → Nat → Nat × Int32} {pa : Nat → Nat} {pd : Nat → Nat} {H : ZH} {X : ZX} {pl : Nat} {i : Nat} {C : QS} {D : QS} (I : r_M p q n g K M P m hh R T Cx Dx d h V pa pd H X pl i C D) : X.w < X.sp := I.2.2.2.2.2.2.2.2.2.2.2.2

/-- between two steps -/
def r_GG (p q : Nat) (K : ZK) (M : ZM) (P : ZP) (hh : Nat → Nat → Int32) (R : Nat → Nat → Bool) (T : Nat → Nat → Nat → Nat) (Cx Dx : QS) (sp : Nat) (C D : QS) : Prop := ∃ d h V pa pd H X pl pl', rC p Cx d h V pa H X 0 pl' C ∧ rD q Dx d h V pd H X pl D ∧ r_tf K P hh R T H (pd d) (h d) (V d) ∧ (∀ f, f < d → r_lf K M P hh R T H (pd f) (h f) (V f) (P.bd (pd (f + 1)))) ∧ r_ob K H ∧ r_hc K M H ∧ pa d = pd d ∧ (∀ f, f < d → pa f = pd f + 1) ∧ X.oc = -1 ∧ X.sp = sp
/-- at the end -/
def r_EE (p q : Nat) (Cx Dx : QS) (sp : Nat) (C D : QS) : Prop := ∃ H X pl, r_gC p Cx C ∧ r_gD q Dx D ∧ rC_H H C ∧ rD_H H D ∧ rC_X X 0 pl C ∧ rD_X X pl D ∧ 0 ≤ X.oc ∧ X.sp = sp
/-- what a step gives -/
def r_res (p q : Nat) (K : ZK) (M : ZM) (P : ZP) (hh : Nat → Nat → Int32) (R : Nat → Nat → Bool) (T : Nat → Nat → Nat → Nat) (Cx Dx : QS) (sp : Nat) (c c' : Option QS) : Prop := ∃ C D, c = some C ∧ c' = some D ∧ (r_GG p q K M P hh R T Cx Dx sp C D ∨ r_EE p q Cx Dx sp C D)
noncomputable def r_pu (p : Nat) (C : QS) : Option QS := if C.2.1 89 9 = 0 then some C else fX6_passUp C p
section ZRM
variable {p q n m : Nat} {g : ZT} {K : ZK} {M : ZM} {P : ZP} {hh : Nat → Nat → Int32} {R : Nat → Nat → Bool} {T : Nat → Nat → Nat → Nat} {Cx Dx C D C' D' : QS} {d i j : Nat} {h h' : Nat → Nat} {V V' : Nat → Nat → Nat × Int32} {pa pd pa' pd' : Nat → Nat} {H H' : ZH} {X X' : ZX} {to pl pl' : Nat}
theorem r_pu_0 (I : rC p Cx d h V pa H X 0 pl C) : r_pu p C = some C := by rw [r_pu, if_pos (show C.2.1 89 9 = 0 from I.X.to)]
/-- the end of a step that goes on -/
theorem r_M.fin {c c' : Option QS} (Z : r_M p q n g K M P m hh R T Cx Dx d h V pa pd H X pl i C D) (ec : c = some C') (ed : c' = some D') (IC : rC p Cx d h' V' pa' H' X' 0 i C') (ID : rD q Dx d h' V' pd' H' X' pl' D') (t' : r_tf K P hh R T H' j (h' d) (V' d)) (ja : pa' d = j) (jd : pd' d = j) (hl : ∀ f, f < d → h' f = h f ∧ V' f = V f ∧ pa' f = pa f ∧ pd' f = pd f) (hb : P.bd j = P.bd i) (u : r_up H H') (B' : r_ob K H') (hc' : r_hc K M H') (oc : X'.oc = -1) (sp : X'.sp = X.sp) : r_res p q K M P hh R T Cx Dx X.sp (c.bind (r_pu p)) c' := by
  refine ⟨C', D', by rw [ec, Option.bind_some, r_pu_0 IC], ed, Or.inl ⟨d, h', V', pa', pd', H', X', pl', i, IC, ID, by rw [jd]; exact t', fun f hf => ?_, B', hc', ja.trans jd.symm, fun f hf => ?_, oc, sp⟩⟩
  · obtain ⟨e1, e2, e3, e4⟩ := hl f hf
    rw [e1, e2, e4]
    have x := u.lf (Z.lo f hf)
    by_cases e : f + 1 = d
    · rw [e, jd, hb]
      rw [e, Z.ei] at x
      exact x
    · rw [(hl (f + 1) (by omega)).2.2.2]; exact x
  · obtain ⟨e1, e2, e3, e4⟩ := hl f hf
    rw [e3, e4]; exact Z.el f hf
theorem r_M.nx' (Z : r_M p q n g K M P m hh R T Cx Dx d h V pa pd H X pl i C D) (hn : k_nx (P.op i) = true) : P.bd (i + 1) = P.bd i := by
  obtain ⟨hb, h1, h2⟩ := Z.W.in Z.t.1
  have B := Z.W.N.B _ hb
  exact B.bd _ (by omega) (k_nx_in B h2 hn)
/-- the end of a step to the next instruction, frames alone changed -/
theorem r_M.fin1 {c c' : Option QS} {r : Nat → Nat} (Z : r_M p q n g K M P m hh R T Cx Dx d h V pa pd H X pl i C D) (hn : k_nx (P.op i) = true) (ec : c = some C') (ed : c' = (fX12_next D').bind fun y => some y) (IC : rC p Cx d h' V' pa H X 0 i C') (ID : rD q Dx d h' V' pd H X pl D') (hl : ∀ f, f < d → h' f = h f ∧ V' f = V f) (ht : k_tr M P (hh (P.bd i)) i (T (P.bd i) i) = some r) (eh : h' d = h d - k_tk M P i + k_lv M P i) (hv : ∀ s, s < 12 + h' d → r_vo H (V' d s) ∧ k_blw K (V' d s).1 (r s) = true) : r_res p q K M P hh R T Cx Dx X.sp (c.bind (r_pu p)) c' := by
  obtain ⟨D2, e2, ID2⟩ := ID.next Z.W.hq
  have ed2 : c' = some D2 := by rw [ed, e2]; rfl
  rw [Z.ei] at ID2
  have t' := r_tf.go (H := H) (v := V' d) (hf := h' d) Z.W Z.t.1 Z.t.2.1 (j := i + 1) (Or.inl ⟨hn, rfl⟩) ht (by rw [eh, Z.t.2.2.1]) hv
  exact Z.fin ec ed2 IC ID2 t' Z.ea (by rw [k_up_eq]) (fun f hf => ⟨(hl f hf).1, (hl f hf).2, rfl, k_up_ne (by omega)⟩) (Z.nx' hn) (r_up.refl H) Z.B Z.hc Z.oc rfl
end ZRM
