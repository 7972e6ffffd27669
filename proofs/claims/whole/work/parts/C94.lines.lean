/-! ===== what the walk through the lines keeps ===== -/
/-- an instruction and its operands -/
def c_W (K : ZK) (M : ZM) (P : ZP) (i : Nat) : Prop := (P.op i < 46) ∧ (P.bd i < M.bc) ∧ (P.fi (P.bd i) ≤ i) ∧ (i < P.en (P.bd i)) ∧ ((P.op i < 19 ∨ 32 ≤ P.op i) → P.op i ≠ 2 → P.op i ≠ 3 → P.op i ≠ 4 → P.op i ≠ 35 → P.op i ≠ 36 → P.op i ≠ 37 → P.op i ≠ 38 → P.op i ≠ 39 → P.op i ≠ 40 → P.xa i = P.ya i) ∧ ((P.op i = 2 ∨ P.op i = 3 ∨ P.op i = 4) → P.xa i = P.ya i ∧ ∃ k, P.xa i = nI k ∧ k < M.bl (P.bd i)) ∧ (19 ≤ P.op i → P.op i ≤ 29 → P.xa i = P.ya i ∧ ∃ t, P.xa i = nI t ∧ P.fi (P.bd i) ≤ t ∧ t < P.en (P.bd i)) ∧ (P.op i = 30 → ∃ c, P.xa i = nI c ∧ c < K.cc ∧ P.ya i = nI (P.si i) ∧ P.si i < P.ns ∧ P.st (P.si i) = c) ∧ (P.op i = 31 → ∃ x, P.xa i = nI x ∧ ((32 ≤ x ∧ x < 32 + K.cc) ∨ x = 64) ∧ P.ya i = nI (P.si i) ∧ P.si i < P.ns ∧ P.st (P.si i) = x) ∧ ((P.op i = 35 ∨ P.op i = 36) → ∃ f c, P.xa i = nI f ∧ P.ya i = nI f ∧ P.xb i = nI c ∧ f < M.fc ∧ c < K.cc ∧ k_anc K.cp (M.fo f) c = true) ∧ ((P.op i = 37 ∨ P.op i = 38) → ∃ x, P.xa i = nI x ∧ P.ya i = k_y x ∧ k_tok K x ∧ x ≠ 66) ∧ ((P.op i = 39 ∨ P.op i = 40) → ∃ f c, P.ya i = nI f ∧ P.xa i = nI (M.bt f) ∧ P.xb i = nI c ∧ f < M.bc ∧ c < K.cc ∧ k_anc K.cp (M.bo f) c = true ∧ M.bm f = decide (P.op i = 40))
theorem c_W.op {K : ZK} {M : ZM} {P : ZP} {i : Nat} (I : c_W K M P i) : P.op i < 46 := I.1
theorem c_W.bd {K : ZK} {M : ZM} {P : ZP} {i : Nat} (I : c_W K M P i) : P.bd i < M.bc := I.2.1
theorem c_W.lo {K : ZK} {M : ZM} {P : ZP} {i : Nat} (I : c_W K M P i) : P.fi (P.bd i) ≤ i := I.2.2.1
theorem c_W.hi {K : ZK} {M : ZM} {P : ZP} {i : Nat} (I : c_W K M P i) : i < P.en (P.bd i) := I.2.2.2.1
theorem c_W.o0 {K : ZK} {M : ZM} {P : ZP} {i : Nat} (I : c_W K M P i) : (P.op i < 19 ∨ 32 ≤ P.op i) → P.op i ≠ 2 → P.op i ≠ 3 → P.op i ≠ 4 → P.op i ≠ 35 → P.op i ≠ 36 → P.op i ≠ 37 → P.op i ≠ 38 → P.op i ≠ 39 → P.op i ≠ 40 → P.xa i = P.ya i := I.2.2.2.2.1
theorem c_W.oK {K : ZK} {M : ZM} {P : ZP} {i : Nat} (I : c_W K M P i) : (P.op i = 2 ∨ P.op i = 3 ∨ P.op i = 4) → P.xa i = P.ya i ∧ ∃ k, P.xa i = nI k ∧ k < M.bl (P.bd i) := I.2.2.2.2.2.1
theorem c_W.oL {K : ZK} {M : ZM} {P : ZP} {i : Nat} (I : c_W K M P i) : 19 ≤ P.op i → P.op i ≤ 29 → P.xa i = P.ya i ∧ ∃ t, P.xa i = nI t ∧ P.fi (P.bd i) ≤ t ∧ t < P.en (P.bd i) := I.2.2.2.2.2.2.1
theorem c_W.oN {K : ZK} {M : ZM} {P : ZP} {i : Nat} (I : c_W K M P i) : P.op i = 30 → ∃ c, P.xa i = nI c ∧ c < K.cc ∧ P.ya i = nI (P.si i) ∧ P.si i < P.ns ∧ P.st (P.si i) = c := I.2.2.2.2.2.2.2.1
theorem c_W.oA {K : ZK} {M : ZM} {P : ZP} {i : Nat} (I : c_W K M P i) : P.op i = 31 → ∃ x, P.xa i = nI x ∧ ((32 ≤ x ∧ x < 32 + K.cc) ∨ x = 64) ∧ P.ya i = nI (P.si i) ∧ P.si i < P.ns ∧ P.st (P.si i) = x := I.2.2.2.2.2.2.2.2.1
theorem c_W.oF {K : ZK} {M : ZM} {P : ZP} {i : Nat} (I : c_W K M P i) : (P.op i = 35 ∨ P.op i = 36) → ∃ f c, P.xa i = nI f ∧ P.ya i = nI f ∧ P.xb i = nI c ∧ f < M.fc ∧ c < K.cc ∧ k_anc K.cp (M.fo f) c = true := I.2.2.2.2.2.2.2.2.2.1
theorem c_W.oT {K : ZK} {M : ZM} {P : ZP} {i : Nat} (I : c_W K M P i) : (P.op i = 37 ∨ P.op i = 38) → ∃ x, P.xa i = nI x ∧ P.ya i = k_y x ∧ k_tok K x ∧ x ≠ 66 := I.2.2.2.2.2.2.2.2.2.2.1
theorem c_W.oB {K : ZK} {M : ZM} {P : ZP} {i : Nat} (I : c_W K M P i) : (P.op i = 39 ∨ P.op i = 40) → ∃ f c, P.ya i = nI f ∧ P.xa i = nI (M.bt f) ∧ P.xb i = nI c ∧ f < M.bc ∧ c < K.cc ∧ k_anc K.cp (M.bo f) c = true ∧ M.bm f = decide (P.op i = 40) := I.2.2.2.2.2.2.2.2.2.2.2
theorem c_W.congr {K : ZK} {M : ZM} {P P' : ZP} {i : Nat} (h : c_W K M P i) (h1 : P'.op i = P.op i) (h2 : P'.xa i = P.xa i) (h3 : P'.ya i = P.ya i) (h4 : P'.xb i = P.xb i) (h5 : P'.bd i = P.bd i) (h6 : P'.si i = P.si i) (h7 : P'.fi (P.bd i) = P.fi (P.bd i)) (h8 : P'.en (P.bd i) = P.en (P.bd i)) (h9 : P.ns ≤ P'.ns) (h10 : ∀ s, s < P.ns → P'.st s = P.st s) : c_W K M P' i := by
  rw [c_W, h1, h2, h3, h4, h5, h6, h7, h8]
  refine ⟨h.op, h.bd, h.lo, h.hi, h.o0, h.oK, h.oL, fun x => ?_, fun x => ?_, h.oF, h.oT, h.oB⟩
  · obtain ⟨c, x1, x2, x3, x4, x5⟩ := h.oN x
    exact ⟨c, x1, x2, x3, by omega, by rw [h10 _ x4]; exact x5⟩
  · obtain ⟨c, x1, x2, x3, x4, x5⟩ := h.oA x
    exact ⟨c, x1, x2, x3, by omega, by rw [h10 _ x4]; exact x5⟩
/-- a catch -/
def c_K (K : ZK) (M : ZM) (P : ZP) (k : Nat) : Prop := (P.cb k < M.bc) ∧ (P.fi (P.cb k) ≤ P.cf k) ∧ (P.cf k < P.ct k) ∧ (P.ct k ≤ P.en (P.cb k)) ∧ (P.fi (P.cb k) ≤ P.ca k) ∧ (P.ca k < P.en (P.cb k)) ∧ (P.cl k < K.cc) ∧ (k_anc K.cp 1 (P.cl k) = true)
theorem c_K.cb {K : ZK} {M : ZM} {P : ZP} {k : Nat} (I : c_K K M P k) : P.cb k < M.bc := I.1
theorem c_K.lo {K : ZK} {M : ZM} {P : ZP} {k : Nat} (I : c_K K M P k) : P.fi (P.cb k) ≤ P.cf k := I.2.1
theorem c_K.ft {K : ZK} {M : ZM} {P : ZP} {k : Nat} (I : c_K K M P k) : P.cf k < P.ct k := I.2.2.1
theorem c_K.hi {K : ZK} {M : ZM} {P : ZP} {k : Nat} (I : c_K K M P k) : P.ct k ≤ P.en (P.cb k) := I.2.2.2.1
theorem c_K.al {K : ZK} {M : ZM} {P : ZP} {k : Nat} (I : c_K K M P k) : P.fi (P.cb k) ≤ P.ca k := I.2.2.2.2.1
theorem c_K.ah {K : ZK} {M : ZM} {P : ZP} {k : Nat} (I : c_K K M P k) : P.ca k < P.en (P.cb k) := I.2.2.2.2.2.1
theorem c_K.cl {K : ZK} {M : ZM} {P : ZP} {k : Nat} (I : c_K K M P k) : P.cl k < K.cc := I.2.2.2.2.2.2.1
theorem c_K.er {K : ZK} {M : ZM} {P : ZP} {k : Nat} (I : c_K K M P k) : k_anc K.cp 1 (P.cl k) = true := I.2.2.2.2.2.2.2
/-- the code so far, on both sides -/
def c_S (p : Nat) (q : Nat) (n : Nat) (g : ZT) (K : ZK) (M : ZM) (P : ZP) (C : QS) (D : QS) : Prop := (m_J p q n g K M C D) ∧ (C.2.1 (p + 10) 0 = nI P.n) ∧ (D.2.1 q 3 = nI P.n) ∧ (C.2.1 (p + 10) 8 = nI P.ns) ∧ (D.2.1 q 4 = nI P.ns) ∧ (C.2.1 (p + 10) 9 = nI P.nc) ∧ (D.2.1 q 5 = nI P.nc) ∧ (∀ i, i < P.n → C.2.1 (p + 11) i = nI (P.op i) ∧ C.2.1 (p + 12) i = P.xa i ∧ C.2.1 (p + 13) i = P.xb i ∧ C.2.1 (p + 14) i = nI (P.tk i) ∧ C.2.1 (p + 15) i = nI (P.bd i) ∧ C.2.1 (p + 16) i = nI (P.si i)) ∧ (∀ i, i < P.n → D.2.1 (q + 15) i = nI (P.op i) ∧ D.2.1 (q + 16) i = P.ya i ∧ D.2.1 (q + 17) i = P.xb i ∧ D.2.1 169 i = nI (P.tk i) ∧ D.2.1 (q + 18) i = nI (P.bd i)) ∧ (∀ s, s < P.ns → D.2.1 (q + 20) s = k_y (P.st s)) ∧ (∀ k, k < P.nc → C.2.1 (p + 18) k = nI (P.cf k) ∧ C.2.1 (p + 19) k = nI (P.ct k) ∧ C.2.1 (p + 20) k = nI (P.ca k) ∧ C.2.1 (p + 21) k = nI (P.cl k)) ∧ (∀ k, k < P.nc → D.2.1 (q + 21) k = nI (P.cb k) ∧ D.2.1 (q + 22) k = nI (P.cf k) ∧ D.2.1 (q + 23) k = nI (P.ct k) ∧ D.2.1 (q + 24) k = nI (P.ca k) ∧ D.2.1 (q + 25) k = nI (P.cl k)) ∧ (P.n ≤ 1024) ∧ (P.ns ≤ 48) ∧ (P.nc ≤ 64) ∧ (∀ i, i < P.n → c_W K M P i) ∧ (∀ i, i < P.n → P.tk i < g.1) ∧ (∀ i, i < P.n → P.si i ≤ P.ns) ∧ (∀ k, k < P.nc → c_K K M P k)
theorem c_S.mJ {p : Nat} {q : Nat} {n : Nat} {g : ZT} {K : ZK} {M : ZM} {P : ZP} {C : QS} {D : QS} (I : c_S p q n g K M P C D) : m_J p q n g K M C D := I.1
theorem c_S.nC {p : Nat} {q : Nat} {n : Nat} {g : ZT} {K : ZK} {M : ZM} {P : ZP} {C : QS} {D : QS} (I : c_S p q n g K M P C D) : C.2.1 (p + 10) 0 = nI P.n := I.2.1
theorem c_S.nD {p : Nat} {q : Nat} {n : Nat} {g : ZT} {K : ZK} {M : ZM} {P : ZP} {C : QS} {D : QS} (I : c_S p q n g K M P C D) : D.2.1 q 3 = nI P.n := I.2.2.1
theorem c_S.sC {p : Nat} {q : Nat} {n : Nat} {g : ZT} {K : ZK} {M : ZM} {P : ZP} {C : QS} {D : QS} (I : c_S p q n g K M P C D) : C.2.1 (p + 10) 8 = nI P.ns := I.2.2.2.1
theorem c_S.sD {p : Nat} {q : Nat} {n : Nat} {g : ZT} {K : ZK} {M : ZM} {P : ZP} {C : QS} {D : QS} (I : c_S p q n g K M P C D) : D.2.1 q 4 = nI P.ns := I.2.2.2.2.1
theorem c_S.cC {p : Nat} {q : Nat} {n : Nat} {g : ZT} {K : ZK} {M : ZM} {P : ZP} {C : QS} {D : QS} (I : c_S p q n g K M P C D) : C.2.1 (p + 10) 9 = nI P.nc := I.2.2.2.2.2.1
theorem c_S.cD {p : Nat} {q : Nat} {n : Nat} {g : ZT} {K : ZK} {M : ZM} {P : ZP} {C : QS} {D : QS} (I : c_S p q n g K M P C D) : D.2.1 q 5 = nI P.nc := I.2.2.2.2.2.2.1
theorem c_S.iC {p : Nat} {q : Nat} {n : Nat} {g : ZT} {K : ZK} {M : ZM} {P : ZP} {C : QS} {D : QS} (I : c_S p q n g K M P C D) : ∀ i, i < P.n → C.2.1 (p + 11) i = nI (P.op i) ∧ C.2.1 (p + 12) i = P.xa i ∧ C.2.1 (p + 13) i = P.xb i ∧ C.2.1 (p + 14) i = nI (P.tk i) ∧ C.2.1 (p + 15) i = nI (P.bd i) ∧ C.2.1 (p + 16) i = nI (P.si i) := I.2.2.2.2.2.2.2.1
theorem c_S.iD {p : Nat} {q : Nat} {n : Nat} {g : ZT} {K : ZK} {M : ZM} {P : ZP} {C : QS} {D : QS} (I : c_S p q n g K M P C D) : ∀ i, i < P.n → D.2.1 (q + 15) i = nI (P.op i) ∧ D.2.1 (q + 16) i = P.ya i ∧ D.2.1 (q + 17) i = P.xb i ∧ D.2.1 169 i = nI (P.tk i) ∧ D.2.1 (q + 18) i = nI (P.bd i) := I.2.2.2.2.2.2.2.2.1
theorem c_S.sT {p : Nat} {q : Nat} {n : Nat} {g : ZT} {K : ZK} {M : ZM} {P : ZP} {C : QS} {D : QS} (I : c_S p q n g K M P C D) : ∀ s, s < P.ns → D.2.1 (q + 20) s = k_y (P.st s) := I.2.2.2.2.2.2.2.2.2.1
theorem c_S.aC {p : Nat} {q : Nat} {n : Nat} {g : ZT} {K : ZK} {M : ZM} {P : ZP} {C : QS} {D : QS} (I : c_S p q n g K M P C D) : ∀ k, k < P.nc → C.2.1 (p + 18) k = nI (P.cf k) ∧ C.2.1 (p + 19) k = nI (P.ct k) ∧ C.2.1 (p + 20) k = nI (P.ca k) ∧ C.2.1 (p + 21) k = nI (P.cl k) := I.2.2.2.2.2.2.2.2.2.2.1
theorem c_S.aD {p : Nat} {q : Nat} {n : Nat} {g : ZT} {K : ZK} {M : ZM} {P : ZP} {C : QS} {D : QS} (I : c_S p q n g K M P C D) : ∀ k, k < P.nc → D.2.1 (q + 21) k = nI (P.cb k) ∧ D.2.1 (q + 22) k = nI (P.cf k) ∧ D.2.1 (q + 23) k = nI (P.ct k) ∧ D.2.1 (q + 24) k = nI (P.ca k) ∧ D.2.1 (q + 25) k = nI (P.cl k) := I.2.2.2.2.2.2.2.2.2.2.2.1
theorem c_S.bn {p : Nat} {q : Nat} {n : Nat} {g : ZT} {K : ZK} {M : ZM} {P : ZP} {C : QS} {D : QS} (I : c_S p q n g K M P C D) : P.n ≤ 1024 := I.2.2.2.2.2.2.2.2.2.2.2.2.1
theorem c_S.bs {p : Nat} {q : Nat} {n : Nat} {g : ZT} {K : ZK} {M : ZM} {P : ZP} {C : QS} {D : QS} (I : c_S p q n g K M P C D) : P.ns ≤ 48 := I.2.2.2.2.2.2.2.2.2.2.2.2.2.1
theorem c_S.bk {p : Nat} {q : Nat} {n : Nat} {g : ZT} {K : ZK} {M : ZM} {P : ZP} {C : QS} {D : QS} (I : c_S p q n g K M P C D) : P.nc ≤ 64 := I.2.2.2.2.2.2.2.2.2.2.2.2.2.2.1
theorem c_S.wI {p : Nat} {q : Nat} {n : Nat} {g : ZT} {K : ZK} {M : ZM} {P : ZP} {C : QS} {D : QS} (I : c_S p q n g K M P C D) : ∀ i, i < P.n → c_W K M P i := I.2.2.2.2.2.2.2.2.2.2.2.2.2.2.2.1
theorem c_S.tk {p : Nat} {q : Nat} {n : Nat} {g : ZT} {K : ZK} {M : ZM} {P : ZP} {C : QS} {D : QS} (I : c_S p q n g K M P C D) : ∀ i, i < P.n → P.tk i < g.1 := I.2.2.2.2.2.2.2.2.2.2.2.2.2.2.2.2.1
theorem c_S.si {p : Nat} {q : Nat} {n : Nat} {g : ZT} {K : ZK} {M : ZM} {P : ZP} {C : QS} {D : QS} (I : c_S p q n g K M P C D) : ∀ i, i < P.n → P.si i ≤ P.ns := I.2.2.2.2.2.2.2.2.2.2.2.2.2.2.2.2.2.1
theorem c_S.wK {p : Nat} {q : Nat} {n : Nat} {g : ZT} {K : ZK} {M : ZM} {P : ZP} {C : QS} {D : QS} (I : c_S p q n g K M P C D) : ∀ k, k < P.nc → c_K K M P k := I.2.2.2.2.2.2.2.2.2.2.2.2.2.2.2.2.2.2
theorem z_sI_comm (S : QS) {o j o' j' : Nat} (v v' : Int32) (h : ¬ (o = o' ∧ j = j')) : q_sI (q_sI S o j v) o' j' v' = q_sI (q_sI S o' j' v') o j v := by
  have : (q_sI (q_sI S o j v) o' j' v').2.1 = (q_sI (q_sI S o' j' v') o j v).2.1 := by
    funext y i
    simp only [q_sI_I]
    by_cases c : y = o ∧ i = j
    · have d : ¬ (y = o' ∧ i = j') := fun d => h ⟨c.1.symm.trans d.1, c.2.symm.trans d.2⟩
      simp only [if_pos c, if_neg d]
    · by_cases d : y = o' ∧ i = j'
      · simp only [if_pos d, if_neg c]
      · simp only [if_neg d, if_neg c]
  exact Prod.ext rfl (Prod.ext this rfl)
theorem z_sI_same (S : QS) {o j : Nat} {v : Int32} (h : S.2.1 o j = v) : q_sI S o j v = S := by rw [← h]; exact z_sI_self S o j
/-- an instruction laid down, without its operands -/
def z_C0 (C : QS) (p i s t k b d : Nat) : QS := q_sI (q_sI (q_sI (q_sI (q_sI (q_sI (q_sI (q_sI (q_sI C (p + 11) i (nI k)) (p + 12) i 0) (p + 13) i 0) (p + 14) i (nI t)) (p + 15) i (nI b)) (p + 17) i (-1)) (p + 16) i (nI s)) (p + 10) 8 (nI (s + d))) (p + 10) 0 (nI (i + 1))
def z_D0 (D : QS) (q i t k b : Nat) : QS := q_sI (q_sI (q_sI (q_sI (q_sI (q_sI D 169 i (nI t)) (q + 15) i (nI k)) (q + 18) i (nI b)) (q + 16) i 0) (q + 17) i 0) q 3 (nI (i + 1))
def z_C1 (C : QS) (p i s t k b d : Nat) (x z : Int32) : QS := q_sI (q_sI (z_C0 C p i s t k b d) (p + 12) i x) (p + 13) i z
def z_D1 (D : QS) (q i s t k b : Nat) (x : Nat) (y z : Int32) (d : Nat) : QS := q_sI (q_sI (if d = 1 then q_sI (q_sI (z_D0 D q i t k b) (q + 20) s (k_y x)) q 4 (nI (s + 1)) else z_D0 D q i t k b) (q + 16) i y) (q + 17) i z
/-- what a line of code changes -/
def c_fC (p : Nat) (P : ZP) (C C' : QS) : Prop := ∀ y j, ¬ (y = p + 10 ∧ (j = 0 ∨ j = 8)) → ¬ (j = P.n ∧ p + 11 ≤ y ∧ y ≤ p + 17) → C'.2.1 y j = C.2.1 y j
def c_fD (q : Nat) (P : ZP) (D D' : QS) : Prop := ∀ y j, ¬ (y = q ∧ (j = 3 ∨ j = 4)) → ¬ (j = P.n ∧ ((q + 15 ≤ y ∧ y ≤ q + 18) ∨ y = 169)) → ¬ (y = q + 20 ∧ j = P.ns) → D'.2.1 y j = D.2.1 y j
section ZINSE
variable {C D : QS} {n p q : Nat} {g : ZT} {K : ZK} {M : ZM} {P : ZP}
theorem z_C1_I (i s t k b d : Nat) (x z : Int32) (y j : Nat) : (z_C1 C p i s t k b d x z).2.1 y j = if y = p + 13 ∧ j = i then z else if y = p + 12 ∧ j = i then x else if y = p + 10 ∧ j = 0 then nI (i + 1) else if y = p + 10 ∧ j = 8 then nI (s + d) else if y = p + 16 ∧ j = i then nI s else if y = p + 17 ∧ j = i then -1 else if y = p + 15 ∧ j = i then nI b else if y = p + 14 ∧ j = i then nI t else if y = p + 11 ∧ j = i then nI k else C.2.1 y j := by
  simp only [z_C1, z_C0, q_sI_I]
  by_cases c1 : y = p + 13 ∧ j = i
  · rw [if_pos c1, if_pos c1]
  · simp only [if_neg c1]
    by_cases c2 : y = p + 12 ∧ j = i
    · rw [if_pos c2, if_pos c2]
    · simp only [if_neg c2]
theorem z_D1_I (i s t k b x d : Nat) (u z : Int32) (y j : Nat) (hq : z_qq q) (hd : d ≤ 1) : (z_D1 D q i s t k b x u z d).2.1 y j = if y = q + 17 ∧ j = i then z else if y = q + 16 ∧ j = i then u else if d = 1 ∧ y = q ∧ j = 4 then nI (s + 1) else if d = 1 ∧ y = q + 20 ∧ j = s then k_y x else if y = q ∧ j = 3 then nI (i + 1) else if y = q + 18 ∧ j = i then nI b else if y = q + 15 ∧ j = i then nI k else if y = 169 ∧ j = i then nI t else D.2.1 y j := by
  have e0 : ∀ y j, ¬ (y = q + 17 ∧ j = i) → ¬ (y = q + 16 ∧ j = i) → (z_D0 D q i t k b).2.1 y j = if y = q ∧ j = 3 then nI (i + 1) else if y = q + 18 ∧ j = i then nI b else if y = q + 15 ∧ j = i then nI k else if y = 169 ∧ j = i then nI t else D.2.1 y j := by
    intro y j c1 c2
    simp only [z_D0, q_sI_I, if_neg c1, if_neg c2]
  rw [z_D1, q_sI_I]
  by_cases c1 : y = q + 17 ∧ j = i
  · rw [if_pos c1, if_pos c1]
  · rw [if_neg c1, if_neg c1, q_sI_I]
    by_cases c2 : y = q + 16 ∧ j = i
    · rw [if_pos c2, if_pos c2]
    · rw [if_neg c2, if_neg c2]
      by_cases c3 : d = 1
      · subst c3
        simp only [if_true, q_sI_I, e0 y j c1 c2, true_and]
      · simp only [if_neg c3, e0 y j c1 c2, c3, false_and, if_false]
theorem z_insEnd {t k b F E x d : Nat} {u v z : Int32} (hp : z_pp p) (hq : z_qq q) (S : c_S p q n g K M P C D) (hk : k < 46) (ht : t < g.1) (hb : b < M.bc) (hF : P.fi b = F) (hE : P.en b = E) (hn1 : F ≤ P.n) (hn2 : P.n < E) (hN : P.n < 1024) (hd : d ≤ 1) (hs : P.ns + d ≤ 48) (hW : c_W K M (P.addI k t b u v z d x) P.n) : c_S p q n g K M (P.addI k t b u v z d x) (z_C1 C p P.n P.ns t k b d u z) (z_D1 D q P.n P.ns t k b x v z d) ∧ c_fC p P C (z_C1 C p P.n P.ns t k b d u z) ∧ c_fD q P D (z_D1 D q P.n P.ns t k b x v z d) ∧ z_offC p C (z_C1 C p P.n P.ns t k b d u z) ∧ z_offD q D (z_D1 D q P.n P.ns t k b x v z d) := by
  have bs := S.bs
  have bk := S.bk
  have gC := z_C1_I (C := C) (p := p) P.n P.ns t k b d u z
  have gD := fun y j => z_D1_I (D := D) (q := q) P.n P.ns t k b x d v z y j hq hd
  have fC : c_fC p P C (z_C1 C p P.n P.ns t k b d u z) := by
    intro y j h1 h2
    rw [gC]; simp (disch := omega) only [if_neg]
  have fD : c_fD q P D (z_D1 D q P.n P.ns t k b x v z d) := by
    intro y j h1 h2 h3
    rw [gD]; simp (disch := omega) only [if_neg]
  have oC : z_offC p C (z_C1 C p P.n P.ns t k b d u z) := by
    rw [z_C1, z_C0]
    refine z_offC.sI (z_offC.sI (z_offC.sI (z_offC.sI (z_offC.sI (z_offC.sI (z_offC.sI (z_offC.sI (z_offC.sI (z_offC.sI (z_offC.sI (z_offC.refl p C) ?_) ?_) ?_) ?_) ?_) ?_) ?_) ?_) ?_) ?_) ?_ <;> omega
  have oD : z_offD q D (z_D1 D q P.n P.ns t k b x v z d) := by
    have o0 : z_offD q D (z_D0 D q P.n t k b) := by
      rw [z_D0]
      refine z_offD.sI (z_offD.sI (z_offD.sI (z_offD.sI (z_offD.sI (z_offD.sI (z_offD.refl q D) ?_) ?_) ?_) ?_) ?_) ?_ <;> omega
    rw [z_D1]
    refine z_offD.sI (z_offD.sI ?_ (by omega)) (by omega)
    split
    · exact (o0.sI (by omega)).sI (by omega)
    · exact o0
  refine ⟨⟨?_, ?_, ?_, ?_, ?_, ?_, ?_, fun i hi => ?_, fun i hi => ?_, fun s hs' => ?_, fun c hc => ?_, fun c hc => ?_, ?_, ?_, ?_, fun i hi => ?_, fun i hi => ?_, fun i hi => ?_, fun c hc => ?_⟩, fC, fD, oC, oD⟩
  · refine S.mJ.fr hp hq (fun y j h => fC y j ?_ ?_) (fun y j h => fD y j ?_ ?_ ?_)
    · rw [z_rC] at h; rcases hp with rfl | rfl <;> omega
    · rw [z_rC] at h; rcases hp with rfl | rfl <;> omega
    · rw [z_rD] at h; rcases hq with rfl | rfl <;> omega
    · rw [z_rD] at h; rcases hq with rfl | rfl <;> omega
    · rw [z_rD] at h; rcases hq with rfl | rfl <;> omega
  · rw [gC]; simp (disch := omega) only [if_neg, and_self, if_true]; rfl
  · rw [gD]; simp (disch := omega) only [if_neg, and_self, if_true]; rfl
  · rw [gC]; simp (disch := omega) only [if_neg, and_self, if_true]; rfl
  · rw [gD, addI_ns]
    by_cases c : d = 1
    · subst c; simp (disch := omega) only [if_neg, and_self, if_true]
    · have d0 : d = 0 := by omega
      subst d0
      simp (disch := omega) only [if_neg]
      rcases hq with rfl | rfl
      · simp (disch := omega) only [if_neg]; exact S.sD
      · simp (disch := omega) only [if_neg]; exact S.sD
  · rw [fC _ _ (by omega) (by omega)]; exact S.cC
  · rw [fD _ _ (by omega) (by rcases hq with rfl | rfl <;> omega) (by omega)]; exact S.cD
  · rw [addI_n] at hi
    simp only [addI_op, addI_xa, addI_xb, addI_tk, addI_bd, addI_si]
    by_cases e : i = P.n
    · subst e
      simp only [k_up_eq]
      refine ⟨?_, ?_, ?_, ?_, ?_, ?_⟩ <;> rw [gC] <;> simp (disch := omega) only [if_neg, and_self, if_true]
    · simp only [k_up_ne e]
      obtain ⟨x1, x2, x3, x4, x5, x6⟩ := S.iC i (by omega)
      exact ⟨(fC _ _ (by omega) (by omega)).trans x1, (fC _ _ (by omega) (by omega)).trans x2, (fC _ _ (by omega) (by omega)).trans x3, (fC _ _ (by omega) (by omega)).trans x4, (fC _ _ (by omega) (by omega)).trans x5, (fC _ _ (by omega) (by omega)).trans x6⟩
  · rw [addI_n] at hi
    simp only [addI_op, addI_ya, addI_xb, addI_tk, addI_bd]
    by_cases e : i = P.n
    · subst e
      simp only [k_up_eq]
      refine ⟨?_, ?_, ?_, ?_, ?_⟩ <;> rw [gD] <;> rcases hq with rfl | rfl <;> simp (disch := omega) only [if_neg, and_self, if_true]
    · simp only [k_up_ne e]
      obtain ⟨x1, x2, x3, x4, x5⟩ := S.iD i (by omega)
      exact ⟨(fD _ _ (by omega) (by omega) (by omega)).trans x1, (fD _ _ (by omega) (by omega) (by omega)).trans x2, (fD _ _ (by omega) (by omega) (by omega)).trans x3, (fD _ _ (by rcases hq with rfl | rfl <;> omega) (by rcases hq with rfl | rfl <;> omega) (by rcases hq with rfl | rfl <;> omega)).trans x4, (fD _ _ (by omega) (by omega) (by omega)).trans x5⟩
  · rw [addI_ns] at hs'
    rw [addI_st]
    by_cases e : s = P.ns
    · subst e
      have d1 : d = 1 := by omega
      subst d1
      rw [k_up_eq, gD]
      rcases hq with rfl | rfl <;> simp (disch := omega) only [if_neg, and_self, if_true]
    · rw [k_up_ne e, fD _ _ (by omega) (by rcases hq with rfl | rfl <;> omega) (by omega)]
      exact S.sT s (by omega)
  · obtain ⟨x1, x2, x3, x4⟩ := S.aC c hc
    exact ⟨(fC _ _ (by omega) (by omega)).trans x1, (fC _ _ (by omega) (by omega)).trans x2, (fC _ _ (by omega) (by omega)).trans x3, (fC _ _ (by omega) (by omega)).trans x4⟩
  · obtain ⟨x1, x2, x3, x4, x5⟩ := S.aD c hc
    have f : ∀ y j, q + 21 ≤ y ∧ y ≤ q + 25 → (z_D1 D q P.n P.ns t k b x v z d).2.1 y j = D.2.1 y j := fun y j h => fD y j (by omega) (by rcases hq with rfl | rfl <;> omega) (by omega)
    exact ⟨(f _ _ (by omega)).trans x1, (f _ _ (by omega)).trans x2, (f _ _ (by omega)).trans x3, (f _ _ (by omega)).trans x4, (f _ _ (by omega)).trans x5⟩
  · rw [addI_n]; omega
  · rw [addI_ns]; omega
  · exact bk
  · rw [addI_n] at hi
    by_cases e : i = P.n
    · subst e; exact hW
    · refine (S.wI i (by omega)).congr ?_ ?_ ?_ ?_ ?_ ?_ rfl rfl ?_ ?_
      · rw [addI_op, k_up_ne e]
      · rw [addI_xa, k_up_ne e]
      · rw [addI_ya, k_up_ne e]
      · rw [addI_xb, k_up_ne e]
      · rw [addI_bd, k_up_ne e]
      · rw [addI_si, k_up_ne e]
      · rw [addI_ns]; omega
      · intro s hs; rw [addI_st, k_up_lt hs]
  · rw [addI_n] at hi
    rw [addI_tk]
    by_cases e : i = P.n
    · subst e; rw [k_up_eq]; exact ht
    · rw [k_up_ne e]; exact S.tk i (by omega)
  · rw [addI_n] at hi
    rw [addI_si, addI_ns]
    by_cases e : i = P.n
    · subst e; rw [k_up_eq]; omega
    · rw [k_up_ne e]; have := S.si i (by omega); omega
  · exact S.wK c hc
end ZINSE
