/-! ===== the run: frames, heap, and the rest ===== -/
abbrev ZH0 : Type := (Nat) × (Nat) × (Nat → Nat) × (Nat → Nat) × (Nat → Nat) × (Nat → Int32) × (Nat → Nat × Int32)
def ZH : Type := ZH0
def ZH.n : ZH → Nat := fun (z : ZH0) => z.1
def ZH.u : ZH → Nat := fun (z : ZH0) => z.2.1
def ZH.th : ZH → Nat → Nat := fun (z : ZH0) => z.2.2.1
def ZH.st : ZH → Nat → Nat := fun (z : ZH0) => z.2.2.2.1
def ZH.ln : ZH → Nat → Nat := fun (z : ZH0) => z.2.2.2.2.1
def ZH.si : ZH → Nat → Int32 := fun (z : ZH0) => z.2.2.2.2.2.1
def ZH.hp : ZH → Nat → Nat × Int32 := fun (z : ZH0) => z.2.2.2.2.2.2
abbrev ZX0 : Type := (Nat) × (Nat → Int32) × (Nat) × (Nat) × (Nat → Int32) × (Nat) × (Int32) × (Int32) × (Int32)
def ZX : Type := ZX0
def ZX.ni : ZX → Nat := fun (z : ZX0) => z.1
def ZX.inp : ZX → Nat → Int32 := fun (z : ZX0) => z.2.1
def ZX.nx : ZX → Nat := fun (z : ZX0) => z.2.2.1
def ZX.w : ZX → Nat := fun (z : ZX0) => z.2.2.2.1
def ZX.out : ZX → Nat → Int32 := fun (z : ZX0) => z.2.2.2.2.1
def ZX.sp : ZX → Nat := fun (z : ZX0) => z.2.2.2.2.2.1
def ZX.oc : ZX → Int32 := fun (z : ZX0) => z.2.2.2.2.2.2.1
def ZX.ts : ZX → Int32 := fun (z : ZX0) => z.2.2.2.2.2.2.2.1
def ZX.sy : ZX → Int32 := fun (z : ZX0) => z.2.2.2.2.2.2.2.2
def r_e (x : Nat × Int32) : Int64 := if x.1 = 66 then x.2.toInt64 else if x.1 = 67 then 1125899906842624 else 1099511627776 + x.2.toInt64

def rC_F (d : Nat) (h : Nat → Nat) (V : Nat → Nat → Nat × Int32) (C : QS) : Prop := (C.2.1 89 7 = nI d) ∧ (d < 64) ∧ (∀ f, f ≤ d → h f ≤ 8 ∧ C.2.1 99 f = nI (h f)) ∧ (∀ f s, f ≤ d → s < 12 + h f → (V f s).1 ≤ 67 ∧ C.2.1 97 (f * 20 + s) = nI (V f s).1 ∧ ((V f s).1 ≠ 67 → C.2.1 96 (f * 20 + s) = (V f s).2))
theorem rC_F.d {d : Nat} {h : Nat → Nat} {V : Nat → Nat → Nat × Int32} {C : QS} (I : rC_F d h V C) : C.2.1 89 7 = nI d := I.1
theorem rC_F.lt {d : Nat} {h : Nat → Nat} {V : Nat → Nat → Nat × Int32} {C : QS} (I : rC_F d h V C) : d < 64 := I.2.1
theorem rC_F.h {d : Nat} {h : Nat → Nat} {V : Nat → Nat → Nat × Int32} {C : QS} (I : rC_F d h V C) : ∀ f, f ≤ d → h f ≤ 8 ∧ C.2.1 99 f = nI (h f) := I.2.2.1
theorem rC_F.v {d : Nat} {h : Nat → Nat} {V : Nat → Nat → Nat × Int32} {C : QS} (I : rC_F d h V C) : ∀ f s, f ≤ d → s < 12 + h f → (V f s).1 ≤ 67 ∧ C.2.1 97 (f * 20 + s) = nI (V f s).1 ∧ ((V f s).1 ≠ 67 → C.2.1 96 (f * 20 + s) = (V f s).2) := I.2.2.2

def rC_P (d : Nat) (pa : Nat → Nat) (C : QS) : Prop := ∀ f, f ≤ d → C.2.1 98 f = nI (pa f)
def rC_H (H : ZH) (C : QS) : Prop := (C.2.1 90 5 = nI H.n) ∧ (H.n ≤ 2000) ∧ (C.2.1 90 6 = nI H.u) ∧ (H.u ≤ 12000) ∧ (C.2.1 91 0 = nI 65) ∧ (∀ o, 1 ≤ o → o ≤ H.n → C.2.1 91 o = nI (H.th o) ∧ C.2.1 92 o = nI (H.st o) ∧ C.2.1 93 o = nI (H.ln o) ∧ C.2.1 94 o = H.si o) ∧ (∀ c, c < H.u → C.2.1 95 c = (H.hp c).2)
theorem rC_H.n {H : ZH} {C : QS} (I : rC_H H C) : C.2.1 90 5 = nI H.n := I.1
theorem rC_H.n2 {H : ZH} {C : QS} (I : rC_H H C) : H.n ≤ 2000 := I.2.1
theorem rC_H.u {H : ZH} {C : QS} (I : rC_H H C) : C.2.1 90 6 = nI H.u := I.2.2.1
theorem rC_H.u2 {H : ZH} {C : QS} (I : rC_H H C) : H.u ≤ 12000 := I.2.2.2.1
theorem rC_H.z {H : ZH} {C : QS} (I : rC_H H C) : C.2.1 91 0 = nI 65 := I.2.2.2.2.1
theorem rC_H.o {H : ZH} {C : QS} (I : rC_H H C) : ∀ o, 1 ≤ o → o ≤ H.n → C.2.1 91 o = nI (H.th o) ∧ C.2.1 92 o = nI (H.st o) ∧ C.2.1 93 o = nI (H.ln o) ∧ C.2.1 94 o = H.si o := I.2.2.2.2.2.1
theorem rC_H.c {H : ZH} {C : QS} (I : rC_H H C) : ∀ c, c < H.u → C.2.1 95 c = (H.hp c).2 := I.2.2.2.2.2.2

def rC_X (X : ZX) (to : Nat) (pl : Nat) (C : QS) : Prop := (C.2.1 89 11 = nI X.ni) ∧ (X.ni ≤ 256) ∧ (∀ i, i < X.ni → C.2.1 100 i = X.inp i) ∧ (C.2.1 89 12 = nI X.nx) ∧ (X.nx ≤ X.sp) ∧ (C.2.1 89 14 = nI X.w) ∧ (X.w ≤ X.sp) ∧ (∀ i, i < X.w → i < 256 → C.2.1 101 i = X.out i) ∧ (C.2.1 89 15 = nI X.sp) ∧ (X.sp ≤ 20000) ∧ (C.2.1 89 8 = X.oc) ∧ (C.2.1 89 17 = X.ts) ∧ (C.2.1 89 18 = X.sy) ∧ (C.2.1 89 9 = nI to) ∧ (C.2.1 89 16 = nI pl)
theorem rC_X.ni {X : ZX} {to : Nat} {pl : Nat} {C : QS} (I : rC_X X to pl C) : C.2.1 89 11 = nI X.ni := I.1
theorem rC_X.ni2 {X : ZX} {to : Nat} {pl : Nat} {C : QS} (I : rC_X X to pl C) : X.ni ≤ 256 := I.2.1
theorem rC_X.inp {X : ZX} {to : Nat} {pl : Nat} {C : QS} (I : rC_X X to pl C) : ∀ i, i < X.ni → C.2.1 100 i = X.inp i := I.2.2.1
theorem rC_X.nx {X : ZX} {to : Nat} {pl : Nat} {C : QS} (I : rC_X X to pl C) : C.2.1 89 12 = nI X.nx := I.2.2.2.1
theorem rC_X.nx2 {X : ZX} {to : Nat} {pl : Nat} {C : QS} (I : rC_X X to pl C) : X.nx ≤ X.sp := I.2.2.2.2.1
theorem rC_X.w {X : ZX} {to : Nat} {pl : Nat} {C : QS} (I : rC_X X to pl C) : C.2.1 89 14 = nI X.w := I.2.2.2.2.2.1
theorem rC_X.w2 {X : ZX} {to : Nat} {pl : Nat} {C : QS} (I : rC_X X to pl C) : X.w ≤ X.sp := I.2.2.2.2.2.2.1
theorem rC_X.out {X : ZX} {to : Nat} {pl : Nat} {C : QS} (I : rC_X X to pl C) : ∀ i, i < X.w → i < 256 → C.2.1 101 i = X.out i := I.2.2.2.2.2.2.2.1
theorem rC_X.sp {X : ZX} {to : Nat} {pl : Nat} {C : QS} (I : rC_X X to pl C) : C.2.1 89 15 = nI X.sp := I.2.2.2.2.2.2.2.2.1
theorem rC_X.sp2 {X : ZX} {to : Nat} {pl : Nat} {C : QS} (I : rC_X X to pl C) : X.sp ≤ 20000 := I.2.2.2.2.2.2.2.2.2.1
theorem rC_X.oc {X : ZX} {to : Nat} {pl : Nat} {C : QS} (I : rC_X X to pl C) : C.2.1 89 8 = X.oc := I.2.2.2.2.2.2.2.2.2.2.1
theorem rC_X.ts {X : ZX} {to : Nat} {pl : Nat} {C : QS} (I : rC_X X to pl C) : C.2.1 89 17 = X.ts := I.2.2.2.2.2.2.2.2.2.2.2.1
theorem rC_X.sy {X : ZX} {to : Nat} {pl : Nat} {C : QS} (I : rC_X X to pl C) : C.2.1 89 18 = X.sy := I.2.2.2.2.2.2.2.2.2.2.2.2.1
theorem rC_X.to {X : ZX} {to : Nat} {pl : Nat} {C : QS} (I : rC_X X to pl C) : C.2.1 89 9 = nI to := I.2.2.2.2.2.2.2.2.2.2.2.2.2.1
theorem rC_X.pl {X : ZX} {to : Nat} {pl : Nat} {C : QS} (I : rC_X X to pl C) : C.2.1 89 16 = nI pl := I.2.2.2.2.2.2.2.2.2.2.2.2.2.2

def rD_F (d : Nat) (h : Nat → Nat) (V : Nat → Nat → Nat × Int32) (D : QS) : Prop := (D.2.1 102 35 = nI (d + 1)) ∧ (d < 64) ∧ (∀ f, f ≤ d → h f ≤ 8 ∧ D.2.1 174 f = nI (h f)) ∧ (∀ f s, f ≤ d → s < 12 → D.2.2.1 172 (f * 12 + s) = r_e (V f s)) ∧ (∀ f s, f ≤ d → s < h f → D.2.2.1 173 (f * 8 + s) = r_e (V f (12 + s)))
theorem rD_F.d {d : Nat} {h : Nat → Nat} {V : Nat → Nat → Nat × Int32} {D : QS} (I : rD_F d h V D) : D.2.1 102 35 = nI (d + 1) := I.1
theorem rD_F.lt {d : Nat} {h : Nat → Nat} {V : Nat → Nat → Nat × Int32} {D : QS} (I : rD_F d h V D) : d < 64 := I.2.1
theorem rD_F.h {d : Nat} {h : Nat → Nat} {V : Nat → Nat → Nat × Int32} {D : QS} (I : rD_F d h V D) : ∀ f, f ≤ d → h f ≤ 8 ∧ D.2.1 174 f = nI (h f) := I.2.2.1
theorem rD_F.l {d : Nat} {h : Nat → Nat} {V : Nat → Nat → Nat × Int32} {D : QS} (I : rD_F d h V D) : ∀ f s, f ≤ d → s < 12 → D.2.2.1 172 (f * 12 + s) = r_e (V f s) := I.2.2.2.1
theorem rD_F.s {d : Nat} {h : Nat → Nat} {V : Nat → Nat → Nat × Int32} {D : QS} (I : rD_F d h V D) : ∀ f s, f ≤ d → s < h f → D.2.2.1 173 (f * 8 + s) = r_e (V f (12 + s)) := I.2.2.2.2

def rD_P (d : Nat) (pd : Nat → Nat) (D : QS) : Prop := ∀ f, f ≤ d → D.2.1 175 f = nI (pd f)
def rD_H (H : ZH) (D : QS) : Prop := (D.2.1 102 36 = nI H.n) ∧ (D.2.1 102 37 = nI H.u) ∧ (∀ o, 1 ≤ o → o ≤ H.n → D.2.1 176 (o - 1) = k_y (H.th o) ∧ D.2.1 178 (o - 1) = nI (H.st o) ∧ D.2.1 179 (o - 1) = nI (H.ln o) ∧ D.2.1 177 (o - 1) = H.si o) ∧ (∀ c, c < H.u → D.2.2.1 180 c = r_e (H.hp c))
theorem rD_H.n {H : ZH} {D : QS} (I : rD_H H D) : D.2.1 102 36 = nI H.n := I.1
theorem rD_H.u {H : ZH} {D : QS} (I : rD_H H D) : D.2.1 102 37 = nI H.u := I.2.1
theorem rD_H.o {H : ZH} {D : QS} (I : rD_H H D) : ∀ o, 1 ≤ o → o ≤ H.n → D.2.1 176 (o - 1) = k_y (H.th o) ∧ D.2.1 178 (o - 1) = nI (H.st o) ∧ D.2.1 179 (o - 1) = nI (H.ln o) ∧ D.2.1 177 (o - 1) = H.si o := I.2.2.1
theorem rD_H.c {H : ZH} {D : QS} (I : rD_H H D) : ∀ c, c < H.u → D.2.2.1 180 c = r_e (H.hp c) := I.2.2.2

def rD_X (X : ZX) (pl : Nat) (D : QS) : Prop := (D.2.1 102 38 = nI X.ni) ∧ (∀ i, i < X.ni → D.2.1 181 i = X.inp i) ∧ (D.2.1 102 39 = nI (min X.nx X.ni)) ∧ (D.2.1 102 40 = nI X.w) ∧ (∀ i, i < X.w → i < 256 → D.2.1 182 i = X.out i) ∧ (D.2.1 102 41 = nI X.sp) ∧ (D.2.1 102 44 = X.oc) ∧ (D.2.1 102 43 = X.ts) ∧ (D.2.1 102 45 = X.sy) ∧ (X.oc ≠ -1 → D.2.1 102 42 = nI pl)
theorem rD_X.ni {X : ZX} {pl : Nat} {D : QS} (I : rD_X X pl D) : D.2.1 102 38 = nI X.ni := I.1
theorem rD_X.inp {X : ZX} {pl : Nat} {D : QS} (I : rD_X X pl D) : ∀ i, i < X.ni → D.2.1 181 i = X.inp i := I.2.1
theorem rD_X.nx {X : ZX} {pl : Nat} {D : QS} (I : rD_X X pl D) : D.2.1 102 39 = nI (min X.nx X.ni) := I.2.2.1
theorem rD_X.w {X : ZX} {pl : Nat} {D : QS} (I : rD_X X pl D) : D.2.1 102 40 = nI X.w := I.2.2.2.1
theorem rD_X.out {X : ZX} {pl : Nat} {D : QS} (I : rD_X X pl D) : ∀ i, i < X.w → i < 256 → D.2.1 182 i = X.out i := I.2.2.2.2.1
theorem rD_X.sp {X : ZX} {pl : Nat} {D : QS} (I : rD_X X pl D) : D.2.1 102 41 = nI X.sp := I.2.2.2.2.2.1
theorem rD_X.oc {X : ZX} {pl : Nat} {D : QS} (I : rD_X X pl D) : D.2.1 102 44 = X.oc := I.2.2.2.2.2.2.1
theorem rD_X.ts {X : ZX} {pl : Nat} {D : QS} (I : rD_X X pl D) : D.2.1 102 43 = X.ts := I.2.2.2.2.2.2.2.1
theorem rD_X.sy {X : ZX} {pl : Nat} {D : QS} (I : rD_X X pl D) : D.2.1 102 45 = X.sy := I.2.2.2.2.2.2.2.2.1
theorem rD_X.pl {X : ZX} {pl : Nat} {D : QS} (I : rD_X X pl D) : X.oc ≠ -1 → D.2.1 102 42 = nI pl := I.2.2.2.2.2.2.2.2.2

/-- the class's memory in a run -/
def rC (p : Nat) (Cx : QS) (d : Nat) (h : Nat → Nat) (V : Nat → Nat → Nat × Int32) (pa : Nat → Nat) (H : ZH) (X : ZX) (to : Nat) (pl : Nat) (C : QS) : Prop := (r_gC p Cx C) ∧ (rC_F d h V C) ∧ (rC_P d pa C) ∧ (rC_H H C) ∧ (rC_X X to pl C)
theorem rC.g {p : Nat} {Cx : QS} {d : Nat} {h : Nat → Nat} {V : Nat → Nat → Nat × Int32} {pa : Nat → Nat} {H : ZH} {X : ZX} {to : Nat} {pl : Nat} {C : QS} (I : rC p Cx d h V pa H X to pl C) : r_gC p Cx C := I.1
theorem rC.F {p : Nat} {Cx : QS} {d : Nat} {h : Nat → Nat} {V : Nat → Nat → Nat × Int32} {pa : Nat → Nat} {H : ZH} {X : ZX} {to : Nat} {pl : Nat} {C : QS} (I : rC p Cx d h V pa H X to pl C) : rC_F d h V C := I.2.1
theorem rC.P {p : Nat} {Cx : QS} {d : Nat} {h : Nat → Nat} {V : Nat → Nat → Nat × Int32} {pa : Nat → Nat} {H : ZH} {X : ZX} {to : Nat} {pl : Nat} {C : QS} (I : rC p Cx d h V pa H X to pl C) : rC_P d pa C := I.2.2.1
theorem rC.H {p : Nat} {Cx : QS} {d : Nat} {h : Nat → Nat} {V : Nat → Nat → Nat × Int32} {pa : Nat → Nat} {H : ZH} {X : ZX} {to : Nat} {pl : Nat} {C : QS} (I : rC p Cx d h V pa H X to pl C) : rC_H H C := I.2.2.2.1
theorem rC.X {p : Nat} {Cx : QS} {d : Nat} {h : Nat → Nat} {V : Nat → Nat → Nat × Int32} {pa : Nat → Nat} {H : ZH} {X : ZX} {to : Nat} {pl : Nat} {C : QS} (I : rC p Cx d h V pa H X to pl C) : rC_X X to pl C := I.2.2.2.2

/-- the reference's memory in a run -/
def rD (q : Nat) (Dx : QS) (d : Nat) (h : Nat → Nat) (V : Nat → Nat → Nat × Int32) (pd : Nat → Nat) (H : ZH) (X : ZX) (pl : Nat) (D : QS) : Prop := (r_gD q Dx D) ∧ (rD_F d h V D) ∧ (rD_P d pd D) ∧ (rD_H H D) ∧ (rD_X X pl D)
theorem rD.g {q : Nat} {Dx : QS} {d : Nat} {h : Nat → Nat} {V : Nat → Nat → Nat × Int32} {pd : Nat → Nat} {H : ZH} {X : ZX} {pl : Nat} {D : QS} (I : rD q Dx d h V pd H X pl D) : r_gD q Dx D := I.1
theorem rD.F {q : Nat} {Dx : QS} {d : Nat} {h : Nat → Nat} {V : Nat → Nat → Nat × Int32} {pd : Nat → Nat} {H : ZH} {X : ZX} {pl : Nat} {D : QS} (I : rD q Dx d h V pd H X pl D) : rD_F d h V D := I.2.1
theorem rD.P {q : Nat} {Dx : QS} {d : Nat} {h : Nat → Nat} {V : Nat → Nat → Nat × Int32} {pd : Nat → Nat} {H : ZH} {X : ZX} {pl : Nat} {D : QS} (I : rD q Dx d h V pd H X pl D) : rD_P d pd D := I.2.2.1
theorem rD.H {q : Nat} {Dx : QS} {d : Nat} {h : Nat → Nat} {V : Nat → Nat → Nat × Int32} {pd : Nat → Nat} {H : ZH} {X : ZX} {pl : Nat} {D : QS} (I : rD q Dx d h V pd H X pl D) : rD_H H D := I.2.2.2.1
theorem rD.X {q : Nat} {Dx : QS} {d : Nat} {h : Nat → Nat} {V : Nat → Nat → Nat × Int32} {pd : Nat → Nat} {H : ZH} {X : ZX} {pl : Nat} {D : QS} (I : rD q Dx d h V pd H X pl D) : rD_X X pl D := I.2.2.2.2

theorem r_gC.sI {p o j : Nat} {Cx C : QS} {v : Int32} (hp : z_pp p) (e : r_gC p Cx C) (ho : 77 ≤ o) : r_gC p Cx (q_sI C o j v) := by
  intro k hk
  have hne : p + k ≠ o := by rcases hp with h | h <;> omega
  show (if p + k = o then _ else C.2.1 (p + k)) = _
  rw [if_neg hne]; exact e k hk
theorem r_gD.sI {q o j : Nat} {Dx D : QS} {v : Int32} (hq : z_qq q) (e : r_gD q Dx D) (ho : o = 102 ∨ 159 ≤ o) : r_gD q Dx (q_sI D o j v) := by
  intro k hk
  have hne : q + k ≠ o := by rcases hq with h | h <;> omega
  show (if q + k = o then _ else D.2.1 (q + k)) = _
  rw [if_neg hne]; exact e k hk
theorem r_gD.sJ {q o j : Nat} {Dx D : QS} {v : Int64} (e : r_gD q Dx D) : r_gD q Dx (q_sJ D o j v) := e
theorem r_gC.of {p : Nat} {Cx C C' : QS} (hp : z_pp p) (e : r_gC p Cx C) (h : ∀ o j, o ≤ 76 → C'.2.1 o j = C.2.1 o j) : r_gC p Cx C' := by
  intro k hk
  rw [← e k hk]
  funext j
  exact h _ _ (by rcases hp with h | h <;> omega)
theorem r_gD.of {q : Nat} {Dx D D' : QS} (hq : z_qq q) (e : r_gD q Dx D) (h : ∀ o j, 103 ≤ o → o ≤ 158 → D'.2.1 o j = D.2.1 o j) : r_gD q Dx D' := by
  intro k hk
  rw [← e k hk]
  funext j
  exact h _ _ (by rcases hq with h | h <;> omega) (by rcases hq with h | h <;> omega)
theorem z_up2 {α : Type} {f : Nat → Nat → α} {d : Nat} {g : Nat → α} : k_up f d g d = g := k_up_eq
/-- a cell of a frame -/
def r_uv (V : Nat → Nat → Nat × Int32) (d s : Nat) (x : Nat × Int32) : Nat → Nat → Nat × Int32 := k_up V d (k_up (V d) s x)
theorem r_uv_eq {V : Nat → Nat → Nat × Int32} {d s : Nat} {x : Nat × Int32} : r_uv V d s x d s = x := by rw [r_uv, k_up_eq, k_up_eq]
theorem r_uv_s {V : Nat → Nat → Nat × Int32} {d s t : Nat} {x : Nat × Int32} (h : t ≠ s) : r_uv V d s x d t = V d t := by rw [r_uv, k_up_eq, k_up_ne h]
theorem r_uv_f {V : Nat → Nat → Nat × Int32} {d s f t : Nat} {x : Nat × Int32} (h : f ≠ d) : r_uv V d s x f t = V f t := by rw [r_uv, k_up_ne h]
section ZRC
variable {p q n m : Nat} {g : ZT} {K : ZK} {M : ZM} {P : ZP} {hh : Nat → Nat → Int32} {R : Nat → Nat → Bool} {T : Nat → Nat → Nat → Nat} {Cx Dx C D : QS} {d : Nat} {h : Nat → Nat} {V : Nat → Nat → Nat × Int32} {pa pd : Nat → Nat} {H : ZH} {X : ZX} {to pl : Nat}
/-- another height of the top frame -/
theorem rC_F.sh (I : rC_F d h V C) {k : Nat} (hk : k ≤ h d) : rC_F d (k_up h d k) V (q_sI C 99 d (nI k)) := by
  have h8 := (I.h d (Nat.le_refl _)).1
  refine ⟨I.d, I.lt, fun f hf => ?_, fun f s hf hs => ?_⟩
  · rw [q_sI_I]
    by_cases e : f = d
    · rw [if_pos ⟨rfl, e⟩, e, k_up_eq]; exact ⟨by omega, rfl⟩
    · rw [if_neg (by omega), k_up_ne e]; exact I.h f hf
  · by_cases e : f = d
    · rw [e, k_up_eq] at hs
      rw [e]; exact I.v d s (Nat.le_refl _) (by omega)
    · rw [k_up_ne e] at hs
      exact I.v f s hf hs
theorem rD_F.sh (I : rD_F d h V D) {k : Nat} (hk : k ≤ h d) : rD_F d (k_up h d k) V (q_sI D 174 d (nI k)) := by
  have h8 := (I.h d (Nat.le_refl _)).1
  refine ⟨I.d, I.lt, fun f hf => ?_, I.l, fun f s hf hs => ?_⟩
  · rw [q_sI_I]
    by_cases e : f = d
    · rw [if_pos ⟨rfl, e⟩, e, k_up_eq]; exact ⟨by omega, rfl⟩
    · rw [if_neg (by omega), k_up_ne e]; exact I.h f hf
  · by_cases e : f = d
    · rw [e, k_up_eq] at hs
      rw [e]; exact I.s d s (Nat.le_refl _) (by omega)
    · rw [k_up_ne e] at hs
      exact I.s f s hf hs
theorem rC.sh (hp : z_pp p) (I : rC p Cx d h V pa H X to pl C) {k : Nat} (hk : k ≤ h d) : rC p Cx d (k_up h d k) V pa H X to pl (q_sI C 99 d (nI k)) := ⟨I.g.sI hp (by decide), I.F.sh hk, I.P, I.H, I.X⟩
theorem rD.sh (hq : z_qq q) (I : rD q Dx d h V pd H X pl D) {k : Nat} (hk : k ≤ h d) : rD q Dx d (k_up h d k) V pd H X pl (q_sI D 174 d (nI k)) := ⟨I.g.sI hq (by decide), I.F.sh hk, I.P, I.H, I.X⟩
theorem rC.top (I : rC p Cx d h V pa H X to pl C) : fX6_top C = some (nI (d * 20 + (12 + h d))) := by
  have hd := I.F.lt
  simp only [fX6_top, I.F.d, z_inbN hd (by decide), if_true, z_cl (show d < 2147483648 by omega), (I.F.h d (Nat.le_refl _)).2, show nI d * (20 : Int32) = nI (d * 20) from nI_mulN d 20, show (12 : Int32) = nI 12 from rfl, nI_add, Nat.add_assoc]
theorem rC.pop (hp : z_pp p) (I : rC p Cx d h V pa H X to pl C) (h0 : 0 < h d) : ∃ C', fX6_pop C = some (C.2.1 96 (d * 20 + (11 + h d)), C') ∧ rC p Cx d (k_up h d (h d - 1)) V pa H X to pl C' ∧ C' = q_sI C 99 d (nI (h d - 1)) := by
  have hd := I.F.lt
  obtain ⟨h8, eh⟩ := I.F.h d (Nat.le_refl _)
  have I' := I.sh hp (show h d - 1 ≤ h d by omega)
  have tp := I'.top
  rw [k_up_eq] at tp
  refine ⟨_, ?_, I', rfl⟩
  have e0 : (nI (h d) = 0) = (h d = 0) := by rw [show (0 : Int32) = nI 0 from rfl, z_eqN (by omega) (by decide)]
  simp only [fX6_pop, I.F.d, z_inbN hd (by decide), if_true, z_cl (show d < 2147483648 by omega), eh, e0, if_neg (show ¬ h d = 0 by omega), z_sub1 h0, Option.bind_some, tp, z_inbN (show d * 20 + (12 + (h d - 1)) < 1280 by omega) (by decide), z_cl (show d * 20 + (12 + (h d - 1)) < 2147483648 by omega)]
  show some (C.2.1 96 (d * 20 + (12 + (h d - 1))), _) = _
  rw [show 12 + (h d - 1) = 11 + h d by omega]
/-- the value that pop gives -/
theorem rC.tv (I : rC p Cx d h V pa H X to pl C) {s : Nat} (hs : s < 12 + h d) : (V d s).1 ≤ 67 ∧ C.2.1 97 (d * 20 + s) = nI (V d s).1 ∧ ((V d s).1 ≠ 67 → C.2.1 96 (d * 20 + s) = (V d s).2) := I.F.v d s (Nat.le_refl _) hs
theorem rC_F.sv (I : rC_F d h V C) {s : Nat} {x : Nat × Int32} {c : Int32} (hs : s < 20) (hx : x.1 ≤ 67) (hc : x.1 ≠ 67 → c = x.2) : rC_F d h (r_uv V d s x) (q_sI (q_sI C 96 (d * 20 + s) c) 97 (d * 20 + s) (nI x.1)) := by
  refine ⟨I.d, I.lt, I.h, fun f t hf ht => ?_⟩
  have h8 := (I.h f hf).1
  have e97 : (q_sI (q_sI C 96 (d * 20 + s) c) 97 (d * 20 + s) (nI x.1)).2.1 97 (f * 20 + t) = if f * 20 + t = d * 20 + s then nI x.1 else C.2.1 97 (f * 20 + t) := by
    rw [q_sI_I, q_sI_I]
    simp only [true_and, show ¬ (97 = 96 ∧ f * 20 + t = d * 20 + s) by omega, if_false]
  have e96 : (q_sI (q_sI C 96 (d * 20 + s) c) 97 (d * 20 + s) (nI x.1)).2.1 96 (f * 20 + t) = if f * 20 + t = d * 20 + s then c else C.2.1 96 (f * 20 + t) := by
    rw [q_sI_I, q_sI_I]
    simp only [true_and, show ¬ (96 = 97 ∧ f * 20 + t = d * 20 + s) by omega, if_false]
  rw [e97, e96]
  by_cases e : f = d
  · subst e
    by_cases e2 : t = s
    · subst e2
      rw [r_uv_eq, if_pos rfl, if_pos rfl]
      exact ⟨hx, rfl, hc⟩
    · rw [r_uv_s e2, if_neg (by omega), if_neg (by omega)]
      exact I.v f t hf ht
  · rw [r_uv_f e, if_neg (by omega), if_neg (by omega)]
    exact I.v f t hf ht
theorem rC_F.hi (I : rC_F d h V C) {k : Nat} (hk : k ≤ 8) (hv : ∀ s, 12 + h d ≤ s → s < 12 + k → (V d s).1 ≤ 67 ∧ C.2.1 97 (d * 20 + s) = nI (V d s).1 ∧ ((V d s).1 ≠ 67 → C.2.1 96 (d * 20 + s) = (V d s).2)) : rC_F d (k_up h d k) V (q_sI C 99 d (nI k)) := by
  refine ⟨I.d, I.lt, fun f hf => ?_, fun f s hf hs => ?_⟩
  · rw [q_sI_I]
    by_cases e : f = d
    · rw [if_pos ⟨rfl, e⟩, e, k_up_eq]; exact ⟨by omega, rfl⟩
    · rw [if_neg (by omega), k_up_ne e]; exact I.h f hf
  · by_cases e : f = d
    · subst e
      rw [k_up_eq] at hs
      by_cases c : s < 12 + h f
      · exact I.v f s hf c
      · exact hv s (by omega) hs
    · rw [k_up_ne e] at hs
      exact I.v f s hf hs
theorem rC.push (hp : z_pp p) (I : rC p Cx d h V pa H X to pl C) (h0 : h d < 8) {x : Nat × Int32} {c : Int32} (hx : x.1 ≤ 67) (hc : x.1 ≠ 67 → c = x.2) : ∃ C', fX6_push C c (nI x.1) = some C' ∧ rC p Cx d (k_up h d (h d + 1)) (r_uv V d (12 + h d) x) pa H X to pl C' := by
  have hd := I.F.lt
  obtain ⟨h8, eh⟩ := I.F.h d (Nat.le_refl _)
  have i2 := I.F.sv (s := 12 + h d) (by omega) hx hc
  have nr : vp_nar .byte (nI x.1).toInt8.toInt32 = nI x.1 := by rw [vp_nar_byte, z_bytv (z_bytN (show x.1 ≤ 127 by omega)), z_bytv (z_bytN (show x.1 ≤ 127 by omega))]
  have i3 := i2.hi (k := h d + 1) (by omega) (fun s a b => by
    have es : s = 12 + h d := by omega
    subst es
    refine ⟨by rw [r_uv_eq]; exact hx, by rw [r_uv_eq, q_sI_I, if_pos ⟨rfl, rfl⟩], fun hne => ?_⟩
    rw [r_uv_eq] at hne ⊢
    rw [q_sI_I, if_neg (by omega), q_sI_I, if_pos ⟨rfl, rfl⟩]; exact hc hne)
  refine ⟨_, ?_, ⟨((I.g.sI hp (by decide)).sI hp (by decide)).sI hp (by decide), i3, I.P, I.H, I.X⟩⟩
  have e8 : ((8 : Int32) ≤ nI (h d)) = (8 ≤ h d) := by rw [show (8 : Int32) = nI 8 from rfl, z_leN (by decide) (by omega)]
  have ea : nI d * (20 : Int32) + 12 + nI (h d) = nI (d * 20 + (12 + h d)) := by
    rw [show nI d * (20 : Int32) = nI (d * 20) from nI_mulN d 20, show (12 : Int32) = nI 12 from rfl, nI_add, nI_add, Nat.add_assoc]
  have d1 := i2.d
  have d2 := (i2.h d (Nat.le_refl _)).2
  simp only [fX6_push, I.F.d, z_inbN hd (by decide), if_true, z_cl (show d < 2147483648 by omega), eh, e8, if_neg (show ¬ 8 ≤ h d by omega), ea, z_inbN (show d * 20 + (12 + h d) < 1280 by omega) (by decide), z_cl (show d * 20 + (12 + h d) < 2147483648 by omega), Option.bind_some, nr, d1, d2, nI_1]
end ZRC
