/-! ===== the code of a program ===== -/
abbrev ZP0 : Type := (Nat) × (Nat → Nat) × (Nat → Int32) × (Nat → Int32) × (Nat → Int32) × (Nat → Nat) × (Nat → Nat) × (Nat → Nat) × (Nat) × (Nat → Nat) × (Nat) × (Nat → Nat) × (Nat → Nat) × (Nat → Nat) × (Nat → Nat) × (Nat → Nat) × (Nat → Nat) × (Nat → Nat) × (Nat → Nat) × (Nat → Nat)
def ZP : Type := ZP0
def ZP.n : ZP → Nat := fun (P : ZP0) => P.1
def ZP.op : ZP → Nat → Nat := fun (P : ZP0) => P.2.1
def ZP.xa : ZP → Nat → Int32 := fun (P : ZP0) => P.2.2.1
def ZP.ya : ZP → Nat → Int32 := fun (P : ZP0) => P.2.2.2.1
def ZP.xb : ZP → Nat → Int32 := fun (P : ZP0) => P.2.2.2.2.1
def ZP.tk : ZP → Nat → Nat := fun (P : ZP0) => P.2.2.2.2.2.1
def ZP.bd : ZP → Nat → Nat := fun (P : ZP0) => P.2.2.2.2.2.2.1
def ZP.si : ZP → Nat → Nat := fun (P : ZP0) => P.2.2.2.2.2.2.2.1
def ZP.ns : ZP → Nat := fun (P : ZP0) => P.2.2.2.2.2.2.2.2.1
def ZP.st : ZP → Nat → Nat := fun (P : ZP0) => P.2.2.2.2.2.2.2.2.2.1
def ZP.nc : ZP → Nat := fun (P : ZP0) => P.2.2.2.2.2.2.2.2.2.2.1
def ZP.cb : ZP → Nat → Nat := fun (P : ZP0) => P.2.2.2.2.2.2.2.2.2.2.2.1
def ZP.cf : ZP → Nat → Nat := fun (P : ZP0) => P.2.2.2.2.2.2.2.2.2.2.2.2.1
def ZP.ct : ZP → Nat → Nat := fun (P : ZP0) => P.2.2.2.2.2.2.2.2.2.2.2.2.2.1
def ZP.ca : ZP → Nat → Nat := fun (P : ZP0) => P.2.2.2.2.2.2.2.2.2.2.2.2.2.2.1
def ZP.cl : ZP → Nat → Nat := fun (P : ZP0) => P.2.2.2.2.2.2.2.2.2.2.2.2.2.2.2.1
def ZP.fi : ZP → Nat → Nat := fun (P : ZP0) => P.2.2.2.2.2.2.2.2.2.2.2.2.2.2.2.2.1
def ZP.en : ZP → Nat → Nat := fun (P : ZP0) => P.2.2.2.2.2.2.2.2.2.2.2.2.2.2.2.2.2.1
def ZP.fk : ZP → Nat → Nat := fun (P : ZP0) => P.2.2.2.2.2.2.2.2.2.2.2.2.2.2.2.2.2.2.1
def ZP.sk : ZP → Nat → Nat := fun (P : ZP0) => P.2.2.2.2.2.2.2.2.2.2.2.2.2.2.2.2.2.2.2
def ZP.addI (P : ZP) (o t b : Nat) (x y z : Int32) (d s : Nat) : ZP := ((P.n + 1, k_up P.op P.n o, k_up P.xa P.n x, k_up P.ya P.n y, k_up P.xb P.n z, k_up P.tk P.n t, k_up P.bd P.n b, k_up P.si P.n P.ns, P.ns + d, k_up P.st P.ns s, P.nc, P.cb, P.cf, P.ct, P.ca, P.cl, P.fi, P.en, P.fk, P.sk) : ZP0)
theorem addI_n {P : ZP} {o t b : Nat} {x y z : Int32} {d s : Nat} : (P.addI o t b x y z d s).n = P.n + 1 := rfl
theorem addI_op {P : ZP} {o t b : Nat} {x y z : Int32} {d s : Nat} : (P.addI o t b x y z d s).op = k_up P.op P.n o := rfl
theorem addI_xa {P : ZP} {o t b : Nat} {x y z : Int32} {d s : Nat} : (P.addI o t b x y z d s).xa = k_up P.xa P.n x := rfl
theorem addI_ya {P : ZP} {o t b : Nat} {x y z : Int32} {d s : Nat} : (P.addI o t b x y z d s).ya = k_up P.ya P.n y := rfl
theorem addI_xb {P : ZP} {o t b : Nat} {x y z : Int32} {d s : Nat} : (P.addI o t b x y z d s).xb = k_up P.xb P.n z := rfl
theorem addI_tk {P : ZP} {o t b : Nat} {x y z : Int32} {d s : Nat} : (P.addI o t b x y z d s).tk = k_up P.tk P.n t := rfl
theorem addI_bd {P : ZP} {o t b : Nat} {x y z : Int32} {d s : Nat} : (P.addI o t b x y z d s).bd = k_up P.bd P.n b := rfl
theorem addI_si {P : ZP} {o t b : Nat} {x y z : Int32} {d s : Nat} : (P.addI o t b x y z d s).si = k_up P.si P.n P.ns := rfl
theorem addI_ns {P : ZP} {o t b : Nat} {x y z : Int32} {d s : Nat} : (P.addI o t b x y z d s).ns = P.ns + d := rfl
theorem addI_st {P : ZP} {o t b : Nat} {x y z : Int32} {d s : Nat} : (P.addI o t b x y z d s).st = k_up P.st P.ns s := rfl
theorem addI_nc {P : ZP} {o t b : Nat} {x y z : Int32} {d s : Nat} : (P.addI o t b x y z d s).nc = P.nc := rfl
theorem addI_cb {P : ZP} {o t b : Nat} {x y z : Int32} {d s : Nat} : (P.addI o t b x y z d s).cb = P.cb := rfl
theorem addI_cf {P : ZP} {o t b : Nat} {x y z : Int32} {d s : Nat} : (P.addI o t b x y z d s).cf = P.cf := rfl
theorem addI_ct {P : ZP} {o t b : Nat} {x y z : Int32} {d s : Nat} : (P.addI o t b x y z d s).ct = P.ct := rfl
theorem addI_ca {P : ZP} {o t b : Nat} {x y z : Int32} {d s : Nat} : (P.addI o t b x y z d s).ca = P.ca := rfl
theorem addI_cl {P : ZP} {o t b : Nat} {x y z : Int32} {d s : Nat} : (P.addI o t b x y z d s).cl = P.cl := rfl
theorem addI_fi {P : ZP} {o t b : Nat} {x y z : Int32} {d s : Nat} : (P.addI o t b x y z d s).fi = P.fi := rfl
theorem addI_en {P : ZP} {o t b : Nat} {x y z : Int32} {d s : Nat} : (P.addI o t b x y z d s).en = P.en := rfl
theorem addI_fk {P : ZP} {o t b : Nat} {x y z : Int32} {d s : Nat} : (P.addI o t b x y z d s).fk = P.fk := rfl
theorem addI_sk {P : ZP} {o t b : Nat} {x y z : Int32} {d s : Nat} : (P.addI o t b x y z d s).sk = P.sk := rfl
def ZP.addC (P : ZP) (b f t a c : Nat) : ZP := ((P.n, P.op, P.xa, P.ya, P.xb, P.tk, P.bd, P.si, P.ns, P.st, P.nc + 1, k_up P.cb P.nc b, k_up P.cf P.nc f, k_up P.ct P.nc t, k_up P.ca P.nc a, k_up P.cl P.nc c, P.fi, P.en, P.fk, P.sk) : ZP0)
theorem addC_n {P : ZP} {b f t a c : Nat} : (P.addC b f t a c).n = P.n := rfl
theorem addC_op {P : ZP} {b f t a c : Nat} : (P.addC b f t a c).op = P.op := rfl
theorem addC_xa {P : ZP} {b f t a c : Nat} : (P.addC b f t a c).xa = P.xa := rfl
theorem addC_ya {P : ZP} {b f t a c : Nat} : (P.addC b f t a c).ya = P.ya := rfl
theorem addC_xb {P : ZP} {b f t a c : Nat} : (P.addC b f t a c).xb = P.xb := rfl
theorem addC_tk {P : ZP} {b f t a c : Nat} : (P.addC b f t a c).tk = P.tk := rfl
theorem addC_bd {P : ZP} {b f t a c : Nat} : (P.addC b f t a c).bd = P.bd := rfl
theorem addC_si {P : ZP} {b f t a c : Nat} : (P.addC b f t a c).si = P.si := rfl
theorem addC_ns {P : ZP} {b f t a c : Nat} : (P.addC b f t a c).ns = P.ns := rfl
theorem addC_st {P : ZP} {b f t a c : Nat} : (P.addC b f t a c).st = P.st := rfl
theorem addC_nc {P : ZP} {b f t a c : Nat} : (P.addC b f t a c).nc = P.nc + 1 := rfl
theorem addC_cb {P : ZP} {b f t a c : Nat} : (P.addC b f t a c).cb = k_up P.cb P.nc b := rfl
theorem addC_cf {P : ZP} {b f t a c : Nat} : (P.addC b f t a c).cf = k_up P.cf P.nc f := rfl
theorem addC_ct {P : ZP} {b f t a c : Nat} : (P.addC b f t a c).ct = k_up P.ct P.nc t := rfl
theorem addC_ca {P : ZP} {b f t a c : Nat} : (P.addC b f t a c).ca = k_up P.ca P.nc a := rfl
theorem addC_cl {P : ZP} {b f t a c : Nat} : (P.addC b f t a c).cl = k_up P.cl P.nc c := rfl
theorem addC_fi {P : ZP} {b f t a c : Nat} : (P.addC b f t a c).fi = P.fi := rfl
theorem addC_en {P : ZP} {b f t a c : Nat} : (P.addC b f t a c).en = P.en := rfl
theorem addC_fk {P : ZP} {b f t a c : Nat} : (P.addC b f t a c).fk = P.fk := rfl
theorem addC_sk {P : ZP} {b f t a c : Nat} : (P.addC b f t a c).sk = P.sk := rfl
def ZP.begB (P : ZP) (b e : Nat) : ZP := ((P.n, P.op, P.xa, P.ya, P.xb, P.tk, P.bd, P.si, P.ns, P.st, P.nc, P.cb, P.cf, P.ct, P.ca, P.cl, k_up P.fi b P.n, k_up P.en b e, k_up P.fk b P.nc, P.sk) : ZP0)
theorem begB_n {P : ZP} {b e : Nat} : (P.begB b e).n = P.n := rfl
theorem begB_op {P : ZP} {b e : Nat} : (P.begB b e).op = P.op := rfl
theorem begB_xa {P : ZP} {b e : Nat} : (P.begB b e).xa = P.xa := rfl
theorem begB_ya {P : ZP} {b e : Nat} : (P.begB b e).ya = P.ya := rfl
theorem begB_xb {P : ZP} {b e : Nat} : (P.begB b e).xb = P.xb := rfl
theorem begB_tk {P : ZP} {b e : Nat} : (P.begB b e).tk = P.tk := rfl
theorem begB_bd {P : ZP} {b e : Nat} : (P.begB b e).bd = P.bd := rfl
theorem begB_si {P : ZP} {b e : Nat} : (P.begB b e).si = P.si := rfl
theorem begB_ns {P : ZP} {b e : Nat} : (P.begB b e).ns = P.ns := rfl
theorem begB_st {P : ZP} {b e : Nat} : (P.begB b e).st = P.st := rfl
theorem begB_nc {P : ZP} {b e : Nat} : (P.begB b e).nc = P.nc := rfl
theorem begB_cb {P : ZP} {b e : Nat} : (P.begB b e).cb = P.cb := rfl
theorem begB_cf {P : ZP} {b e : Nat} : (P.begB b e).cf = P.cf := rfl
theorem begB_ct {P : ZP} {b e : Nat} : (P.begB b e).ct = P.ct := rfl
theorem begB_ca {P : ZP} {b e : Nat} : (P.begB b e).ca = P.ca := rfl
theorem begB_cl {P : ZP} {b e : Nat} : (P.begB b e).cl = P.cl := rfl
theorem begB_fi {P : ZP} {b e : Nat} : (P.begB b e).fi = k_up P.fi b P.n := rfl
theorem begB_en {P : ZP} {b e : Nat} : (P.begB b e).en = k_up P.en b e := rfl
theorem begB_fk {P : ZP} {b e : Nat} : (P.begB b e).fk = k_up P.fk b P.nc := rfl
theorem begB_sk {P : ZP} {b e : Nat} : (P.begB b e).sk = P.sk := rfl
def ZP.endB (P : ZP) (b : Nat) : ZP := ((P.n, P.op, P.xa, P.ya, P.xb, P.tk, P.bd, P.si, P.ns, P.st, P.nc, P.cb, P.cf, P.ct, P.ca, P.cl, P.fi, P.en, P.fk, k_up P.sk b P.nc) : ZP0)
theorem endB_n {P : ZP} {b : Nat} : (P.endB b).n = P.n := rfl
theorem endB_op {P : ZP} {b : Nat} : (P.endB b).op = P.op := rfl
theorem endB_xa {P : ZP} {b : Nat} : (P.endB b).xa = P.xa := rfl
theorem endB_ya {P : ZP} {b : Nat} : (P.endB b).ya = P.ya := rfl
theorem endB_xb {P : ZP} {b : Nat} : (P.endB b).xb = P.xb := rfl
theorem endB_tk {P : ZP} {b : Nat} : (P.endB b).tk = P.tk := rfl
theorem endB_bd {P : ZP} {b : Nat} : (P.endB b).bd = P.bd := rfl
theorem endB_si {P : ZP} {b : Nat} : (P.endB b).si = P.si := rfl
theorem endB_ns {P : ZP} {b : Nat} : (P.endB b).ns = P.ns := rfl
theorem endB_st {P : ZP} {b : Nat} : (P.endB b).st = P.st := rfl
theorem endB_nc {P : ZP} {b : Nat} : (P.endB b).nc = P.nc := rfl
theorem endB_cb {P : ZP} {b : Nat} : (P.endB b).cb = P.cb := rfl
theorem endB_cf {P : ZP} {b : Nat} : (P.endB b).cf = P.cf := rfl
theorem endB_ct {P : ZP} {b : Nat} : (P.endB b).ct = P.ct := rfl
theorem endB_ca {P : ZP} {b : Nat} : (P.endB b).ca = P.ca := rfl
theorem endB_cl {P : ZP} {b : Nat} : (P.endB b).cl = P.cl := rfl
theorem endB_fi {P : ZP} {b : Nat} : (P.endB b).fi = P.fi := rfl
theorem endB_en {P : ZP} {b : Nat} : (P.endB b).en = P.en := rfl
theorem endB_fk {P : ZP} {b : Nat} : (P.endB b).fk = P.fk := rfl
theorem endB_sk {P : ZP} {b : Nat} : (P.endB b).sk = k_up P.sk b P.nc := rfl
/-- cells that the lines and all behind them leave alone -/
def z_rC (p y j : Nat) : Prop := (2 ≤ y ∧ y ≤ 6) ∨ (y = p ∧ j = 2) ∨ y = p + 1 ∨ (p + 2 ≤ y ∧ y ≤ p + 9) ∨ (p + 22 ≤ y ∧ y ≤ p + 28) ∨ y = p + 33 ∨ y = p + 34
def z_rD (q y j : Nat) : Prop := (y = 102 ∧ (j = 7 ∨ j = 10)) ∨ (160 ≤ y ∧ y ≤ 166) ∨ (y = q ∧ j ≤ 2) ∨ y = q + 1 ∨ y = q + 3 ∨ y = q + 4 ∨ (q + 6 ≤ y ∧ y ≤ q + 11)
/-- all that the members gave -/
def m_J (p : Nat) (q : Nat) (n : Nat) (g : ZT) (K : ZK) (M : ZM) (C : QS) (D : QS) : Prop := (z_C C n g) ∧ (z_D D n g) ∧ (∀ i, i < g.1 → C.2.1 6 i = e_kind g i) ∧ (k_C C p K) ∧ (k_D D q K) ∧ (m_CF C p M) ∧ (m_CB C p M) ∧ (m_DF D q M) ∧ (m_DB D q M) ∧ (m_F g K M) ∧ (m_B g K M) ∧ (∀ b, b < M.bc → 8 ≤ M.bo b) ∧ (∀ f f', f < f' → f' < M.fc → M.fo f ≤ M.fo f') ∧ (∀ c, c < K.cc → C.2.1 (p + 5) c = nI (k_cnt (m_slP K M c) M.fc)) ∧ (∀ c, c < K.cc → ∀ r, r < 48 → C.2.1 (p + 34) (c * 48 + r) = k_oI (k_lst (m_chP K M c r) M.bc)) ∧ (∀ f, f < M.fc → M.fs f = k_cnt (m_slP K M (M.fo f)) f) ∧ (∀ f, f < M.fc → k_tok K (M.ft f)) ∧ (∀ b, b < M.bc → ∃ e, m_H g K M b e) ∧ (∀ b, b < M.bc → m_O g K M b) ∧ (∀ b, b < M.bc → M.bt b ≤ b) ∧ (m_P g M g.1)
theorem m_J.hC {p : Nat} {q : Nat} {n : Nat} {g : ZT} {K : ZK} {M : ZM} {C : QS} {D : QS} (I : m_J p q n g K M C D) : z_C C n g := I.1
theorem m_J.hD {p : Nat} {q : Nat} {n : Nat} {g : ZT} {K : ZK} {M : ZM} {C : QS} {D : QS} (I : m_J p q n g K M C D) : z_D D n g := I.2.1
theorem m_J.kd {p : Nat} {q : Nat} {n : Nat} {g : ZT} {K : ZK} {M : ZM} {C : QS} {D : QS} (I : m_J p q n g K M C D) : ∀ i, i < g.1 → C.2.1 6 i = e_kind g i := I.2.2.1
theorem m_J.kC {p : Nat} {q : Nat} {n : Nat} {g : ZT} {K : ZK} {M : ZM} {C : QS} {D : QS} (I : m_J p q n g K M C D) : k_C C p K := I.2.2.2.1
theorem m_J.kD {p : Nat} {q : Nat} {n : Nat} {g : ZT} {K : ZK} {M : ZM} {C : QS} {D : QS} (I : m_J p q n g K M C D) : k_D D q K := I.2.2.2.2.1
theorem m_J.cF {p : Nat} {q : Nat} {n : Nat} {g : ZT} {K : ZK} {M : ZM} {C : QS} {D : QS} (I : m_J p q n g K M C D) : m_CF C p M := I.2.2.2.2.2.1
theorem m_J.cB {p : Nat} {q : Nat} {n : Nat} {g : ZT} {K : ZK} {M : ZM} {C : QS} {D : QS} (I : m_J p q n g K M C D) : m_CB C p M := I.2.2.2.2.2.2.1
theorem m_J.dF {p : Nat} {q : Nat} {n : Nat} {g : ZT} {K : ZK} {M : ZM} {C : QS} {D : QS} (I : m_J p q n g K M C D) : m_DF D q M := I.2.2.2.2.2.2.2.1
theorem m_J.dB {p : Nat} {q : Nat} {n : Nat} {g : ZT} {K : ZK} {M : ZM} {C : QS} {D : QS} (I : m_J p q n g K M C D) : m_DB D q M := I.2.2.2.2.2.2.2.2.1
theorem m_J.mF {p : Nat} {q : Nat} {n : Nat} {g : ZT} {K : ZK} {M : ZM} {C : QS} {D : QS} (I : m_J p q n g K M C D) : m_F g K M := I.2.2.2.2.2.2.2.2.2.1
theorem m_J.mB {p : Nat} {q : Nat} {n : Nat} {g : ZT} {K : ZK} {M : ZM} {C : QS} {D : QS} (I : m_J p q n g K M C D) : m_B g K M := I.2.2.2.2.2.2.2.2.2.2.1
theorem m_J.o8 {p : Nat} {q : Nat} {n : Nat} {g : ZT} {K : ZK} {M : ZM} {C : QS} {D : QS} (I : m_J p q n g K M C D) : ∀ b, b < M.bc → 8 ≤ M.bo b := I.2.2.2.2.2.2.2.2.2.2.2.1
theorem m_J.mo {p : Nat} {q : Nat} {n : Nat} {g : ZT} {K : ZK} {M : ZM} {C : QS} {D : QS} (I : m_J p q n g K M C D) : ∀ f f', f < f' → f' < M.fc → M.fo f ≤ M.fo f' := I.2.2.2.2.2.2.2.2.2.2.2.2.1
theorem m_J.sl {p : Nat} {q : Nat} {n : Nat} {g : ZT} {K : ZK} {M : ZM} {C : QS} {D : QS} (I : m_J p q n g K M C D) : ∀ c, c < K.cc → C.2.1 (p + 5) c = nI (k_cnt (m_slP K M c) M.fc) := I.2.2.2.2.2.2.2.2.2.2.2.2.2.1
theorem m_J.ch {p : Nat} {q : Nat} {n : Nat} {g : ZT} {K : ZK} {M : ZM} {C : QS} {D : QS} (I : m_J p q n g K M C D) : ∀ c, c < K.cc → ∀ r, r < 48 → C.2.1 (p + 34) (c * 48 + r) = k_oI (k_lst (m_chP K M c r) M.bc) := I.2.2.2.2.2.2.2.2.2.2.2.2.2.2.1
theorem m_J.fs {p : Nat} {q : Nat} {n : Nat} {g : ZT} {K : ZK} {M : ZM} {C : QS} {D : QS} (I : m_J p q n g K M C D) : ∀ f, f < M.fc → M.fs f = k_cnt (m_slP K M (M.fo f)) f := I.2.2.2.2.2.2.2.2.2.2.2.2.2.2.2.1
theorem m_J.ft {p : Nat} {q : Nat} {n : Nat} {g : ZT} {K : ZK} {M : ZM} {C : QS} {D : QS} (I : m_J p q n g K M C D) : ∀ f, f < M.fc → k_tok K (M.ft f) := I.2.2.2.2.2.2.2.2.2.2.2.2.2.2.2.2.1
theorem m_J.hd {p : Nat} {q : Nat} {n : Nat} {g : ZT} {K : ZK} {M : ZM} {C : QS} {D : QS} (I : m_J p q n g K M C D) : ∀ b, b < M.bc → ∃ e, m_H g K M b e := I.2.2.2.2.2.2.2.2.2.2.2.2.2.2.2.2.2.1
theorem m_J.ov {p : Nat} {q : Nat} {n : Nat} {g : ZT} {K : ZK} {M : ZM} {C : QS} {D : QS} (I : m_J p q n g K M C D) : ∀ b, b < M.bc → m_O g K M b := I.2.2.2.2.2.2.2.2.2.2.2.2.2.2.2.2.2.2.1
theorem m_J.bt {p : Nat} {q : Nat} {n : Nat} {g : ZT} {K : ZK} {M : ZM} {C : QS} {D : QS} (I : m_J p q n g K M C D) : ∀ b, b < M.bc → M.bt b ≤ b := I.2.2.2.2.2.2.2.2.2.2.2.2.2.2.2.2.2.2.2.1
theorem m_J.mP {p : Nat} {q : Nat} {n : Nat} {g : ZT} {K : ZK} {M : ZM} {C : QS} {D : QS} (I : m_J p q n g K M C D) : m_P g M g.1 := I.2.2.2.2.2.2.2.2.2.2.2.2.2.2.2.2.2.2.2.2
section ZMJ
variable {C D C' D' : QS} {n p q : Nat} {g : ZT} {K : ZK} {M : ZM}
theorem m_J.of (hK : k_K g K) (I : m_I p q n g K M (K.cc - 1) C D) (hP : m_P g M g.1) : m_J p q n g K M C D := by
  have := hK.1
  exact ⟨I.hC, I.hD, I.kd, I.kC, I.kD, I.cF, I.cB, I.dF, I.dB, I.mF, I.mB, I.o8, I.mo, fun c hc => I.sl c (by omega), fun c hc => I.ch c (by omega), I.fs, I.ft, I.hd, I.ov, I.bt, hP⟩
theorem m_J.fr (I : m_J p q n g K M C D) (hp : z_pp p) (hq : z_qq q) (fC : ∀ y j, z_rC p y j → C'.2.1 y j = C.2.1 y j) (fD : ∀ y j, z_rD q y j → D'.2.1 y j = D.2.1 y j) : m_J p q n g K M C' D' := by
  have rC : ∀ y j, z_rC p y j = ((2 ≤ y ∧ y ≤ 6) ∨ (y = p ∧ j = 2) ∨ y = p + 1 ∨ (p + 2 ≤ y ∧ y ≤ p + 9) ∨ (p + 22 ≤ y ∧ y ≤ p + 28) ∨ y = p + 33 ∨ y = p + 34) := fun _ _ => rfl
  have rD : ∀ y j, z_rD q y j = ((y = 102 ∧ (j = 7 ∨ j = 10)) ∨ (160 ≤ y ∧ y ≤ 166) ∨ (y = q ∧ j ≤ 2) ∨ y = q + 1 ∨ y = q + 3 ∨ y = q + 4 ∨ (q + 6 ≤ y ∧ y ≤ q + 11)) := fun _ _ => rfl
  refine ⟨I.hC.fr (fun y j h => fC y j (by rw [rC]; omega)), I.hD.fr (fun y j h => fD y j (by rw [rD]; omega)), fun i hi => (fC _ _ (by rw [rC]; omega)).trans (I.kd i hi), I.kC.fr (fun y j h => fC y j (by rw [rC]; omega)), I.kD.fr (fun y j h => fD y j (by rw [rD]; omega)), ?_, ?_, ?_, ?_, I.mF, I.mB, I.o8, I.mo, fun c hc => (fC _ _ (by rw [rC]; omega)).trans (I.sl c hc), fun c hc r hr => (fC _ _ (by rw [rC]; omega)).trans (I.ch c hc r hr), I.fs, I.ft, I.hd, I.ov, I.bt, I.mP⟩
  · refine ⟨(fC _ _ (by rw [rC]; omega)).trans I.cF.1, fun f hf => ?_⟩
    obtain ⟨x1, x2, x3, x4⟩ := I.cF.2 f hf
    exact ⟨(fC _ _ (by rw [rC]; omega)).trans x1, (fC _ _ (by rw [rC]; omega)).trans x2, (fC _ _ (by rw [rC]; omega)).trans x3, (fC _ _ (by rw [rC]; omega)).trans x4⟩
  · refine ⟨(fC _ _ (by rw [rC]; omega)).trans I.cB.1, fun b hb => ?_⟩
    obtain ⟨x1, x2, x3, x4, x5, x6, x7, x8⟩ := I.cB.2 b hb
    exact ⟨(fC _ _ (by rw [rC]; omega)).trans x1, (fC _ _ (by rw [rC]; omega)).trans x2, (fC _ _ (by rw [rC]; omega)).trans x3, (fC _ _ (by rw [rC]; omega)).trans x4, (fC _ _ (by rw [rC]; omega)).trans x5, (fC _ _ (by rw [rC]; omega)).trans x6, (fC _ _ (by rw [rC]; omega)).trans x7, fun k hk => (fC _ _ (by rw [rC]; omega)).trans (x8 k hk)⟩
  · refine ⟨(fD _ _ (by rw [rD]; omega)).trans I.dF.1, fun f hf => ?_⟩
    obtain ⟨x1, x2, x3⟩ := I.dF.2 f hf
    exact ⟨(fD _ _ (by rw [rD]; omega)).trans x1, (fD _ _ (by rw [rD]; omega)).trans x2, (fD _ _ (by rw [rD]; omega)).trans x3⟩
  · refine ⟨(fD _ _ (by rw [rD]; omega)).trans I.dB.1, fun b hb => ?_⟩
    obtain ⟨x1, x2, x3, x4, x5, x6, x7, x8⟩ := I.dB.2 b hb
    exact ⟨(fD _ _ (by rw [rD]; omega)).trans x1, (fD _ _ (by rw [rD]; omega)).trans x2, (fD _ _ (by rw [rD]; omega)).trans x3, (fD _ _ (by rw [rD]; omega)).trans x4, (fD _ _ (by rw [rD]; omega)).trans x5, (fD _ _ (by rw [rD]; omega)).trans x6, (fD _ _ (by rw [rD]; omega)).trans x7, fun k hk => (fD _ _ (by rw [rD]; omega)).trans (x8 k hk)⟩
end ZMJ
