/-! ===== what the walk through the members keeps ===== -/
def k_up {α : Type} (f : Nat → α) (i : Nat) (v : α) : Nat → α := fun j => if j = i then v else f j
theorem k_up_eq {α : Type} {f : Nat → α} {i : Nat} {v : α} : k_up f i v i = v := if_pos rfl
theorem k_up_ne {α : Type} {f : Nat → α} {i j : Nat} {v : α} (h : j ≠ i) : k_up f i v j = f j := if_neg h
theorem k_up_lt {α : Type} {f : Nat → α} {i j : Nat} {v : α} (h : j < i) : k_up f i v j = f j := if_neg (by omega)
def k_cnt (P : Nat → Bool) : Nat → Nat
  | 0 => 0
  | m + 1 => k_cnt P m + (if P m = true then 1 else 0)
theorem k_cnt_le {P : Nat → Bool} : ∀ m, k_cnt P m ≤ m
  | 0 => Nat.le_refl _
  | m + 1 => by
    have := k_cnt_le (P := P) m
    rw [k_cnt]
    split <;> omega
theorem k_cnt_congr {P Q : Nat → Bool} : ∀ m, (∀ i, i < m → P i = Q i) → k_cnt P m = k_cnt Q m
  | 0, _ => rfl
  | m + 1, h => by
    rw [k_cnt, k_cnt, k_cnt_congr m (fun i hi => h i (by omega)), h m (by omega)]
theorem k_cnt_mono {P : Nat → Bool} {a : Nat} : ∀ b, a ≤ b → k_cnt P a ≤ k_cnt P b
  | 0, h => by
    have : a = 0 := by omega
    subst this; exact Nat.le_refl _
  | b + 1, h => by
    by_cases e : a = b + 1
    · subst e; exact Nat.le_refl _
    · have := k_cnt_mono (P := P) (a := a) b (by omega)
      rw [k_cnt]
      omega
/-- a type that stands for something -/
def k_tok (K : ZK) (x : Nat) : Prop := x < K.cc ∨ (32 ≤ x ∧ x < 32 + K.cc) ∨ x = 64 ∨ x = 66
/-- the result that a token names -/
def k_rs (g : ZT) (K : ZK) (t : Nat) : Option Nat := if e_word g t w_none = true then some 68 else k_ty g K t
def ZM.addF : ZM → Nat → Nat → Nat → Nat → ZM := fun (M : ZM0) w o x s => ((M.1 + 1, k_up M.2.1 M.1 w, k_up M.2.2.1 M.1 o, k_up M.2.2.2.1 M.1 x, k_up M.2.2.2.2.1 M.1 s, M.2.2.2.2.2) : ZM0)
def ZM.addB (M : ZM) (w o : Nat) (m : Bool) (a : Nat) (ps : Nat → Nat) (res l root rt : Nat) : ZM := ((M.fc, M.fw, M.fo, M.ft, M.fs, M.bc + 1, k_up M.bw M.bc w, k_up M.bo M.bc o, k_up M.bm M.bc m, k_up M.ba M.bc a, k_up M.bp M.bc ps, k_up M.br M.bc res, k_up M.bl M.bc l, k_up M.bt M.bc root, k_up M.rt M.bc rt) : ZM0)
/-- the head of a body -/
def m_n0 (M : ZM) (b : Nat) : Nat := if M.bm b = true then 1 else 0
/-- the head of body b ends at e -/
def m_H (g : ZT) (K : ZK) (M : ZM) (b : Nat) (e : Nat) : Prop := (0 < M.bw b) ∧ (e_hd g (M.bw b - 1) e) ∧ (M.rt b = e + 1) ∧ (M.bm b = !e_word g (M.bw b - 1) w_static) ∧ (M.ba b = m_n0 M b + (e - (M.bw b + 2))) ∧ (M.ba b ≤ M.bl b) ∧ (M.bl b ≤ 12) ∧ (∀ i, i < M.ba b → M.bp b i = k_pi g K (M.bo b) (m_n0 M b) (M.bw b + 2) i) ∧ (k_rs g K (e + 1) = some (M.br b)) ∧ (∀ i, M.bw b + 2 ≤ i → i < e → (k_ty g K i).isSome = true)
theorem m_H.pos {g : ZT} {K : ZK} {M : ZM} {b : Nat} {e : Nat} (I : m_H g K M b e) : 0 < M.bw b := I.1
theorem m_H.hd {g : ZT} {K : ZK} {M : ZM} {b : Nat} {e : Nat} (I : m_H g K M b e) : e_hd g (M.bw b - 1) e := I.2.1
theorem m_H.rt {g : ZT} {K : ZK} {M : ZM} {b : Nat} {e : Nat} (I : m_H g K M b e) : M.rt b = e + 1 := I.2.2.1
theorem m_H.bm {g : ZT} {K : ZK} {M : ZM} {b : Nat} {e : Nat} (I : m_H g K M b e) : M.bm b = !e_word g (M.bw b - 1) w_static := I.2.2.2.1
theorem m_H.ba {g : ZT} {K : ZK} {M : ZM} {b : Nat} {e : Nat} (I : m_H g K M b e) : M.ba b = m_n0 M b + (e - (M.bw b + 2)) := I.2.2.2.2.1
theorem m_H.bl {g : ZT} {K : ZK} {M : ZM} {b : Nat} {e : Nat} (I : m_H g K M b e) : M.ba b ≤ M.bl b := I.2.2.2.2.2.1
theorem m_H.b12 {g : ZT} {K : ZK} {M : ZM} {b : Nat} {e : Nat} (I : m_H g K M b e) : M.bl b ≤ 12 := I.2.2.2.2.2.2.1
theorem m_H.bp {g : ZT} {K : ZK} {M : ZM} {b : Nat} {e : Nat} (I : m_H g K M b e) : ∀ i, i < M.ba b → M.bp b i = k_pi g K (M.bo b) (m_n0 M b) (M.bw b + 2) i := I.2.2.2.2.2.2.2.1
theorem m_H.br {g : ZT} {K : ZK} {M : ZM} {b : Nat} {e : Nat} (I : m_H g K M b e) : k_rs g K (e + 1) = some (M.br b) := I.2.2.2.2.2.2.2.2.1
theorem m_H.ty {g : ZT} {K : ZK} {M : ZM} {b : Nat} {e : Nat} (I : m_H g K M b e) : ∀ i, M.bw b + 2 ≤ i → i < e → (k_ty g K i).isSome = true := I.2.2.2.2.2.2.2.2.2
/-- the body that a body replaces -/
def m_rep (g : ZT) (K : ZK) (M : ZM) (b : Nat) : Option Nat := k_lst (k_bP g K M (M.bo b) (g.2.2.1 (M.bw b)) (g.2.2.2 (M.bw b))) b
def m_O (g : ZT) (K : ZK) (M : ZM) (b : Nat) : Prop := (m_rep g K M b = none ∧ M.bt b = b) ∨ ∃ r, m_rep g K M b = some r ∧ M.bt b = M.bt r ∧ M.bm b = true ∧ M.bm r = true ∧ M.bo r ≠ M.bo b ∧ k_hd g (M.bw b) (M.bw r) (M.rt b - 1) (M.bw b + 1) (M.rt b - 1 - M.bw b) = true
def m_chP (K : ZK) (M : ZM) (c r b : Nat) : Bool := M.bm b && (k_anc K.cp (M.bo b) c && decide (M.bt b = r))
def m_slP (K : ZK) (M : ZM) (c f : Nat) : Bool := k_anc K.cp (M.fo f) c
/-- the walk through the members, in class o -/
def m_I (p : Nat) (q : Nat) (n : Nat) (g : ZT) (K : ZK) (M : ZM) (o : Nat) (C : QS) (D : QS) : Prop := (z_C C n g) ∧ (z_D D n g) ∧ (∀ i, i < g.1 → C.2.1 6 i = e_kind g i) ∧ (k_C C p K) ∧ (k_D D q K) ∧ (m_CF C p M) ∧ (m_CB C p M) ∧ (m_DF D q M) ∧ (m_DB D q M) ∧ (m_F g K M) ∧ (m_B g K M) ∧ (∀ b, b < M.bc → M.bo b ≤ o) ∧ (∀ b, b < M.bc → 8 ≤ M.bo b) ∧ (∀ f, f < M.fc → M.fo f ≤ o) ∧ (∀ f f', f < f' → f' < M.fc → M.fo f ≤ M.fo f') ∧ (o < K.cc) ∧ (7 ≤ o) ∧ (∀ c, c ≤ o → C.2.1 (p + 5) c = nI (k_cnt (m_slP K M c) M.fc)) ∧ (∀ c, c ≤ o → ∀ r, r < 48 → C.2.1 (p + 34) (c * 48 + r) = k_oI (k_lst (m_chP K M c r) M.bc)) ∧ (∀ f, f < M.fc → M.fs f = k_cnt (m_slP K M (M.fo f)) f) ∧ (∀ f, f < M.fc → k_tok K (M.ft f)) ∧ (∀ b, b < M.bc → ∃ e, m_H g K M b e) ∧ (∀ b, b < M.bc → m_O g K M b) ∧ (∀ b, b < M.bc → M.bt b ≤ b) ∧ (C.2.1 p 16 = 0 ∧ C.2.1 (p + 10) 0 = 0 ∧ C.2.1 (p + 10) 8 = 0 ∧ C.2.1 (p + 10) 9 = 0)
theorem m_I.hC {p : Nat} {q : Nat} {n : Nat} {g : ZT} {K : ZK} {M : ZM} {o : Nat} {C : QS} {D : QS} (I : m_I p q n g K M o C D) : z_C C n g := I.1
theorem m_I.hD {p : Nat} {q : Nat} {n : Nat} {g : ZT} {K : ZK} {M : ZM} {o : Nat} {C : QS} {D : QS} (I : m_I p q n g K M o C D) : z_D D n g := I.2.1
theorem m_I.kd {p : Nat} {q : Nat} {n : Nat} {g : ZT} {K : ZK} {M : ZM} {o : Nat} {C : QS} {D : QS} (I : m_I p q n g K M o C D) : ∀ i, i < g.1 → C.2.1 6 i = e_kind g i := I.2.2.1
theorem m_I.kC {p : Nat} {q : Nat} {n : Nat} {g : ZT} {K : ZK} {M : ZM} {o : Nat} {C : QS} {D : QS} (I : m_I p q n g K M o C D) : k_C C p K := I.2.2.2.1
theorem m_I.kD {p : Nat} {q : Nat} {n : Nat} {g : ZT} {K : ZK} {M : ZM} {o : Nat} {C : QS} {D : QS} (I : m_I p q n g K M o C D) : k_D D q K := I.2.2.2.2.1
theorem m_I.cF {p : Nat} {q : Nat} {n : Nat} {g : ZT} {K : ZK} {M : ZM} {o : Nat} {C : QS} {D : QS} (I : m_I p q n g K M o C D) : m_CF C p M := I.2.2.2.2.2.1
theorem m_I.cB {p : Nat} {q : Nat} {n : Nat} {g : ZT} {K : ZK} {M : ZM} {o : Nat} {C : QS} {D : QS} (I : m_I p q n g K M o C D) : m_CB C p M := I.2.2.2.2.2.2.1
theorem m_I.dF {p : Nat} {q : Nat} {n : Nat} {g : ZT} {K : ZK} {M : ZM} {o : Nat} {C : QS} {D : QS} (I : m_I p q n g K M o C D) : m_DF D q M := I.2.2.2.2.2.2.2.1
theorem m_I.dB {p : Nat} {q : Nat} {n : Nat} {g : ZT} {K : ZK} {M : ZM} {o : Nat} {C : QS} {D : QS} (I : m_I p q n g K M o C D) : m_DB D q M := I.2.2.2.2.2.2.2.2.1
theorem m_I.mF {p : Nat} {q : Nat} {n : Nat} {g : ZT} {K : ZK} {M : ZM} {o : Nat} {C : QS} {D : QS} (I : m_I p q n g K M o C D) : m_F g K M := I.2.2.2.2.2.2.2.2.2.1
theorem m_I.mB {p : Nat} {q : Nat} {n : Nat} {g : ZT} {K : ZK} {M : ZM} {o : Nat} {C : QS} {D : QS} (I : m_I p q n g K M o C D) : m_B g K M := I.2.2.2.2.2.2.2.2.2.2.1
theorem m_I.oB {p : Nat} {q : Nat} {n : Nat} {g : ZT} {K : ZK} {M : ZM} {o : Nat} {C : QS} {D : QS} (I : m_I p q n g K M o C D) : ∀ b, b < M.bc → M.bo b ≤ o := I.2.2.2.2.2.2.2.2.2.2.2.1
theorem m_I.o8 {p : Nat} {q : Nat} {n : Nat} {g : ZT} {K : ZK} {M : ZM} {o : Nat} {C : QS} {D : QS} (I : m_I p q n g K M o C D) : ∀ b, b < M.bc → 8 ≤ M.bo b := I.2.2.2.2.2.2.2.2.2.2.2.2.1
theorem m_I.oF {p : Nat} {q : Nat} {n : Nat} {g : ZT} {K : ZK} {M : ZM} {o : Nat} {C : QS} {D : QS} (I : m_I p q n g K M o C D) : ∀ f, f < M.fc → M.fo f ≤ o := I.2.2.2.2.2.2.2.2.2.2.2.2.2.1
theorem m_I.mo {p : Nat} {q : Nat} {n : Nat} {g : ZT} {K : ZK} {M : ZM} {o : Nat} {C : QS} {D : QS} (I : m_I p q n g K M o C D) : ∀ f f', f < f' → f' < M.fc → M.fo f ≤ M.fo f' := I.2.2.2.2.2.2.2.2.2.2.2.2.2.2.1
theorem m_I.oc {p : Nat} {q : Nat} {n : Nat} {g : ZT} {K : ZK} {M : ZM} {o : Nat} {C : QS} {D : QS} (I : m_I p q n g K M o C D) : o < K.cc := I.2.2.2.2.2.2.2.2.2.2.2.2.2.2.2.1
theorem m_I.o7 {p : Nat} {q : Nat} {n : Nat} {g : ZT} {K : ZK} {M : ZM} {o : Nat} {C : QS} {D : QS} (I : m_I p q n g K M o C D) : 7 ≤ o := I.2.2.2.2.2.2.2.2.2.2.2.2.2.2.2.2.1
theorem m_I.sl {p : Nat} {q : Nat} {n : Nat} {g : ZT} {K : ZK} {M : ZM} {o : Nat} {C : QS} {D : QS} (I : m_I p q n g K M o C D) : ∀ c, c ≤ o → C.2.1 (p + 5) c = nI (k_cnt (m_slP K M c) M.fc) := I.2.2.2.2.2.2.2.2.2.2.2.2.2.2.2.2.2.1
theorem m_I.ch {p : Nat} {q : Nat} {n : Nat} {g : ZT} {K : ZK} {M : ZM} {o : Nat} {C : QS} {D : QS} (I : m_I p q n g K M o C D) : ∀ c, c ≤ o → ∀ r, r < 48 → C.2.1 (p + 34) (c * 48 + r) = k_oI (k_lst (m_chP K M c r) M.bc) := I.2.2.2.2.2.2.2.2.2.2.2.2.2.2.2.2.2.2.1
theorem m_I.fs {p : Nat} {q : Nat} {n : Nat} {g : ZT} {K : ZK} {M : ZM} {o : Nat} {C : QS} {D : QS} (I : m_I p q n g K M o C D) : ∀ f, f < M.fc → M.fs f = k_cnt (m_slP K M (M.fo f)) f := I.2.2.2.2.2.2.2.2.2.2.2.2.2.2.2.2.2.2.2.1
theorem m_I.ft {p : Nat} {q : Nat} {n : Nat} {g : ZT} {K : ZK} {M : ZM} {o : Nat} {C : QS} {D : QS} (I : m_I p q n g K M o C D) : ∀ f, f < M.fc → k_tok K (M.ft f) := I.2.2.2.2.2.2.2.2.2.2.2.2.2.2.2.2.2.2.2.2.1
theorem m_I.hd {p : Nat} {q : Nat} {n : Nat} {g : ZT} {K : ZK} {M : ZM} {o : Nat} {C : QS} {D : QS} (I : m_I p q n g K M o C D) : ∀ b, b < M.bc → ∃ e, m_H g K M b e := I.2.2.2.2.2.2.2.2.2.2.2.2.2.2.2.2.2.2.2.2.2.1
theorem m_I.ov {p : Nat} {q : Nat} {n : Nat} {g : ZT} {K : ZK} {M : ZM} {o : Nat} {C : QS} {D : QS} (I : m_I p q n g K M o C D) : ∀ b, b < M.bc → m_O g K M b := I.2.2.2.2.2.2.2.2.2.2.2.2.2.2.2.2.2.2.2.2.2.2.1
theorem m_I.bt {p : Nat} {q : Nat} {n : Nat} {g : ZT} {K : ZK} {M : ZM} {o : Nat} {C : QS} {D : QS} (I : m_I p q n g K M o C D) : ∀ b, b < M.bc → M.bt b ≤ b := I.2.2.2.2.2.2.2.2.2.2.2.2.2.2.2.2.2.2.2.2.2.2.2.1
theorem m_I.z0 {p : Nat} {q : Nat} {n : Nat} {g : ZT} {K : ZK} {M : ZM} {o : Nat} {C : QS} {D : QS} (I : m_I p q n g K M o C D) : C.2.1 p 16 = 0 ∧ C.2.1 (p + 10) 0 = 0 ∧ C.2.1 (p + 10) 8 = 0 ∧ C.2.1 (p + 10) 9 = 0 := I.2.2.2.2.2.2.2.2.2.2.2.2.2.2.2.2.2.2.2.2.2.2.2.2
