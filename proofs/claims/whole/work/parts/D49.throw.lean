/-! ===== the run: an error goes up ===== -/
def r_ct (K : ZK) (P : ZP) (t i k : Nat) : Bool := k_cov P k i && k_blw K t (P.cl k)
theorem z_least {Q : Nat → Prop} : ∀ n, (∃ k, k < n ∧ Q k) → ∃ k, k < n ∧ Q k ∧ ∀ k', k' < k → ¬ Q k' := by
  intro n
  induction n with
  | zero => rintro ⟨k, hk, -⟩; omega
  | succ n ih =>
    rintro ⟨k, hk, hq⟩
    by_cases c : ∃ k, k < n ∧ Q k
    · obtain ⟨k1, a, b, c⟩ := ih c
      exact ⟨k1, by omega, b, c⟩
    · refine ⟨k, hk, hq, fun k' hk' hq' => c ⟨k', by omega, hq'⟩⟩
section ZRU
variable {p q n m : Nat} {g : ZT} {K : ZK} {M : ZM} {P : ZP} {hh : Nat → Nat → Int32} {R : Nat → Nat → Bool} {T : Nat → Nat → Nat → Nat} {Cx Dx C D : QS} {d : Nat} {h : Nat → Nat} {V : Nat → Nat → Nat × Int32} {pa pd : Nat → Nat} {H : ZH} {X : ZX} {to pl : Nat}
theorem rC.down (hp : z_pp p) (I : rC p Cx d h V pa H X to pl C) {f : Nat} (hf : f ≤ d) : rC p Cx f h V pa H X to pl (q_sI C 89 7 (nI f)) := by
  have hd := I.F.lt
  exact ⟨I.g.sI hp (by decide), ⟨by rw [q_sI_I, if_pos ⟨rfl, rfl⟩], by omega, fun k hk => I.F.h k (by omega), fun k s hk hs => I.F.v k s (by omega) hs⟩, fun k hk => I.P k (by omega), I.H, I.X⟩
theorem rD.down (hq : z_qq q) (I : rD q Dx d h V pd H X pl D) {f : Nat} (hf : f ≤ d) : rD q Dx f h V pd H X pl (q_sI D 102 35 (nI (f + 1))) := by
  have hd := I.F.lt
  exact ⟨I.g.sI hq (by decide), ⟨by rw [q_sI_I, if_pos ⟨rfl, rfl⟩], by omega, fun k hk => I.F.h k (by omega), fun k s hk hs => I.F.l k s (by omega) hs, fun k s hk hs => I.F.s k s (by omega) hs⟩, fun k hk => I.P k (by omega), I.H, I.X⟩
theorem r_hdC {t i : Nat} (W : r_W p q n g K M P m hh R T Cx Dx) (e : r_gC p Cx C) (hi : i < P.n) (ht : t ≤ 64) {z : Int32} (hz : (z = -1 ∧ ∀ k, k < P.nc → r_ct K P t i k = false) ∨ ∃ k0, k0 < P.nc ∧ r_ct K P t i k0 = true ∧ (∀ k, k < k0 → r_ct K P t i k = false) ∧ z = nI (P.ca k0)) : fX6_handlerOf C p (nI i) (nI t) = some z := by
  obtain ⟨hb, b1, b2⟩ := W.in hi
  have B := W.N.B _ hb
  have h48 := W.N.S.mJ.mB.1
  have bn := W.N.S.bn
  have bk := W.N.S.bk
  have hsk := B.sk
  have loop : ∀ e k, k + e = P.sk (P.bd i) → P.fk (P.bd i) ≤ k → (∀ k', k' < k → r_ct K P t i k' = false) → q_run (tX6_handlerOf_21 C p (nI i) (nI t) (nI (P.bd i))) (nI k) = some z := by
    intro e'
    induction e' with
    | zero =>
      intro k hk hfk hno
      rcases hz with ⟨rfl, -⟩ | ⟨k0, k1, k2, k3, -⟩
      · refine q_run_ret ?_
        simp only [tX6_handlerOf_21, z_inbN (show P.bd i < 48 by omega) (by decide), if_true, z_cl (show P.bd i < 2147483648 by omega), e 32 (by decide), B.C4]
        rw [if_pos (by rw [z_leN (by omega) (by omega)]; omega)]
      · exfalso
        have kc := k2
        rw [r_ct, k_cov, Bool.and_eq_true, Bool.and_eq_true, decide_eq_true_eq] at kc
        have := (B.cb k0 k1).mp kc.1.1
        rw [hno k0 (by omega)] at k2
        cases k2
    | succ e' ih =>
      intro k hk hfk hno
      have kn : k < P.nc := by omega
      have hcb := (B.cb k kn).mpr ⟨hfk, by omega⟩
      obtain ⟨a1, a2, a3, a4⟩ := W.N.S.aC k kn
      have hcl := (W.N.S.wK k kn).cl
      have h32 := W.hK.2.1
      have g1 : ¬ (nI (P.sk (P.bd i)) ≤ nI k) := by rw [z_leN (by omega) (by omega)]; omega
      have ec : fX1_isCaught C p (nI i) (nI k) = some (k_cov P k i) := by
        rw [r_isCaught e, z_isCaught W.N hi kn, k_cov, decide_eq_true hcb, Bool.true_and]
      have eb : fX0_isBelow C p (nI t) (nI (P.cl k)) = some (k_blw K t (P.cl k)) := z_isBelow W.hK (r_kC W e) (by omega) (by omega)
      have st : tX6_handlerOf_21 C p (nI i) (nI t) (nI (P.bd i)) (nI k) = if r_ct K P t i k = true then some (.inl (nI (P.ca k))) else some (.inr (nI (k + 1))) := by
        simp only [tX6_handlerOf_21, z_inbN (show P.bd i < 48 by omega) (by decide), if_true, z_cl (show P.bd i < 2147483648 by omega), e 32 (by decide), B.C4, if_neg g1, ec, Option.bind_some, z_inbN (show k < 64 by omega) (by decide), z_cl (show k < 2147483648 by omega), e 21 (by decide), e 20 (by decide), a3, a4, eb, nI_1, r_ct]
        by_cases h1 : k_cov P k i = true <;> by_cases h2 : k_blw K t (P.cl k) = true <;> simp [h1, h2]
      cases hr : r_ct K P t i k with
      | true =>
        rw [hr, if_pos rfl] at st
        rcases hz with ⟨-, z2⟩ | ⟨k0, k1, k2, k3, rfl⟩
        · rw [z2 k kn] at hr; cases hr
        · have : k0 = k := by
            rcases Nat.lt_trichotomy k0 k with c | c | c
            · rw [hno k0 c] at k2; cases k2
            · exact c
            · rw [k3 k c] at hr; cases hr
          subst this
          exact q_run_ret st
      | false =>
        rw [hr, if_neg (by decide)] at st
        refine (q_run_go st).trans (ih (k + 1) (by omega) (by omega) (fun k' hk' => ?_))
        by_cases c : k' = k
        · rw [c]; exact hr
        · exact hno k' (by omega)
  obtain ⟨y1, y2, -, -, y5, -⟩ := W.N.S.iC i hi
  have hfk := B.fk
  simp only [fX6_handlerOf, z_inbN (show i < 1024 by omega) (by decide), if_true, z_cl (show i < 2147483648 by omega), e 15 (by decide), y5, z_inbN (show P.bd i < 48 by omega) (by decide), z_cl (show P.bd i < 2147483648 by omega), e 31 (by decide), B.C3, fX6_handlerOf_21]
  refine loop (P.sk (P.bd i) - P.fk (P.bd i)) _ (by omega) (Nat.le_refl _) (fun k' hk' => ?_)
  cases hr : r_ct K P t i k' with
  | false => rfl
  | true =>
    rw [r_ct, k_cov, Bool.and_eq_true, Bool.and_eq_true, decide_eq_true_eq] at hr
    have := (B.cb k' (by omega)).mp hr.1.1
    omega
theorem r_hdD {t i : Nat} {w : Int64} {y3 : Int32} (W : r_W p q n g K M P m hh R T Cx Dx) (e : r_gD q Dx D) (hi : i < P.n) (ht : k_tok K t) {z : QS ⊕ QS} (hz : ((∀ k, k < P.nc → r_ct K P t i k = false) ∧ z = .inr (q_sI D 102 35 (D.2.1 102 35 - 1))) ∨ ∃ k0 D1, k0 < P.nc ∧ r_ct K P t i k0 = true ∧ (∀ k, k < k0 → r_ct K P t i k = false) ∧ q_inb (D.2.1 102 35 - 1) 64 = true ∧ fX12_push (q_sI D 174 (D.2.1 102 35 - 1).toNatClampNeg 0) w = some D1 ∧ q_inb (D1.2.1 102 35 - 1) 64 = true ∧ D1.2.1 (q + 24) = Dx.2.1 (q + 24) ∧ z = .inl (q_sI D1 175 (D1.2.1 102 35 - 1).toNatClampNeg (nI (P.ca k0)))) : uX12_toss_34 D q w y3 (k_y t) (nI i) 0 = some z := by
  have bn := W.N.S.bn
  have bk := W.N.S.bk
  have h32 := W.hK.2.1
  have e5 : D.2.1 q 5 = nI P.nc := by rw [show D.2.1 q = Dx.2.1 q from e 0 (by decide)]; exact W.N.S.cD
  have loop : ∀ e' k, k + e' = P.nc → (∀ k', k' < k → r_ct K P t i k' = false) → q_run (tX12_toss_34 q w y3 (k_y t) (nI i)) (nI k, D) = some z := by
    intro e'
    induction e' with
    | zero =>
      intro k hk hno
      rcases hz with ⟨-, rfl⟩ | ⟨k0, D1, k1, k2, -⟩
      · refine q_run_ret ?_
        simp only [tX12_toss_34, e5]
        rw [if_pos (by rw [z_leN (by omega) (by omega)]; omega), Option.bind_some]
      · rw [hno k0 (by omega)] at k2; cases k2
    | succ e' ih =>
      intro k hk hno
      have kn : k < P.nc := by omega
      have hcl := (W.N.S.wK k kn).cl
      obtain ⟨a1, a2, a3, a4, a5⟩ := W.N.S.aD k kn
      have g1 : ¬ (nI P.nc ≤ nI k) := by rw [z_leN (by omega) (by omega)]; omega
      have ec : fX12_covers D q (nI k) (nI i) = some (k_cov P k i) := by rw [r_covers e, z_covers W.N hi kn]
      have ey : (8 : Int32) + nI (P.cl k) = k_y (P.cl k) := by rw [k_y_c (by omega), show (8 : Int32) = nI 8 from rfl, nI_add, Nat.add_comm]
      have eb : fX12_isBelow D q (k_y t) (k_y (P.cl k)) = some (k_blw K t (P.cl k)) := by rw [r_isBelow e]; exact z_isBelow12 W.hK W.N.S.mJ.kD (Or.inl ht) (Or.inl (Or.inl hcl))
      cases hr : r_ct K P t i k with
      | true =>
        rcases hz with ⟨z2, -⟩ | ⟨k0, D1, k1, k2, k3, w1, w2, w3, w4, rfl⟩
        · rw [z2 k kn] at hr; cases hr
        · have : k0 = k := by
            rcases Nat.lt_trichotomy k0 k with c | c | c
            · rw [hno k0 c] at k2; cases k2
            · exact c
            · rw [k3 k c] at hr; cases hr
          subst this
          refine q_run_ret ?_
          rw [r_ct, Bool.and_eq_true] at hr
          simp only [tX12_toss_34, e5, if_neg g1, ec, Option.bind_some, hr.1, if_true, z_inbN (show k0 < 64 by omega) (by decide), z_cl (show k0 < 2147483648 by omega), e 25 (by decide), a5, ey, eb, hr.2, w1, w2, w3, w4, a4]
      | false =>
        refine (q_run_go ?_).trans (ih (k + 1) (by omega) (fun k' hk' => ?_))
        · rw [r_ct] at hr
          simp only [tX12_toss_34, e5, if_neg g1, ec, Option.bind_some, z_inbN (show k < 64 by omega) (by decide), if_true, z_cl (show k < 2147483648 by omega), e 25 (by decide), a5, ey, eb, nI_1]
          cases hcov : k_cov P k i with
          | false => rfl
          | true =>
            rw [hcov, Bool.true_and] at hr
            rw [hr]; rfl
        · by_cases c : k' = k
          · rw [c]; exact hr
          · exact hno k' (by omega)
  exact loop P.nc 0 (by omega) (fun k' hk' => by omega)
theorem rC.sto (hp : z_pp p) (I : rC p Cx d h V pa H X to pl C) (o : Nat) : rC p Cx d h V pa H X o pl (q_sI C 89 9 (nI o)) := ⟨I.g.sI hp (by decide), I.F, I.P, I.H, ⟨I.X.ni, I.X.ni2, I.X.inp, I.X.nx, I.X.nx2, I.X.w, I.X.w2, I.X.out, I.X.sp, I.X.sp2, I.X.oc, I.X.ts, I.X.sy, by rw [q_sI_I, if_pos ⟨rfl, rfl⟩], I.X.pl⟩⟩
/-- another outcome -/
def ZX.so : ZX → Int32 → Int32 → ZX := fun (X : ZX0) a b => ((X.1, X.2.1, X.2.2.1, X.2.2.2.1, X.2.2.2.2.1, X.2.2.2.2.2.1, a, b, X.2.2.2.2.2.2.2.2) : ZX0)
theorem rC_X.so (I : rC_X X to pl C) (a b : Int32) : rC_X (X.so a b) to pl (q_sI (q_sI C 89 8 a) 89 17 b) := ⟨I.ni, I.ni2, I.inp, I.nx, I.nx2, I.w, I.w2, I.out, I.sp, I.sp2, by rw [q_sI_I, if_neg (by decide), q_sI_I, if_pos ⟨rfl, rfl⟩]; rfl, by rw [q_sI_I, if_pos ⟨rfl, rfl⟩]; rfl, I.sy, I.to, I.pl⟩
theorem rC_X.so1 (I : rC_X X to pl C) (a : Int32) : rC_X (X.so a X.ts) to pl (q_sI C 89 8 a) := ⟨I.ni, I.ni2, I.inp, I.nx, I.nx2, I.w, I.w2, I.out, I.sp, I.sp2, by rw [q_sI_I, if_pos ⟨rfl, rfl⟩]; rfl, I.ts, I.sy, I.to, I.pl⟩
theorem rD_X.so {pl' : Nat} (I : rD_X X pl D) (a b : Int32) : rD_X (X.so a b) pl' (q_sI (q_sI (q_sI D 102 43 b) 102 44 a) 102 42 (nI pl')) := ⟨I.ni, I.inp, I.nx, I.w, I.out, I.sp, by rw [q_sI_I, if_neg (by decide), q_sI_I, if_pos ⟨rfl, rfl⟩]; rfl, by rw [q_sI_I, if_neg (by decide), q_sI_I, if_neg (by decide), q_sI_I, if_pos ⟨rfl, rfl⟩]; rfl, I.sy, fun _ => by rw [q_sI_I, if_pos ⟨rfl, rfl⟩]⟩
theorem rD_X.so1 {pl' : Nat} (I : rD_X X pl D) (a : Int32) : rD_X (X.so a X.ts) pl' (q_sI (q_sI D 102 44 a) 102 42 (nI pl')) := ⟨I.ni, I.inp, I.nx, I.w, I.out, I.sp, by rw [q_sI_I, if_neg (by decide), q_sI_I, if_pos ⟨rfl, rfl⟩]; rfl, I.ts, I.sy, fun _ => by rw [q_sI_I, if_pos ⟨rfl, rfl⟩]⟩
/-- the end of the run, with an outcome -/
theorem r_end1 (hp : z_pp p) (hq : z_qq q) (IC : rC p Cx d h V pa H X 0 pl C) {d' : Nat} {pl' : Nat} {h' : Nat → Nat} {V' : Nat → Nat → Nat × Int32} (ID : rD q Dx d' h' V' pd H X pl' D) (a : Int32) (ha : 0 ≤ a) : r_EE p q Cx Dx X.sp (q_sI C 89 8 a) (q_sI (q_sI D 102 44 a) 102 42 (nI pl)) := ⟨H, X.so a X.ts, pl, IC.g.sI hp (by decide), r_gD.sI hq (ID.g.sI hq (by decide)) (by decide), IC.H, ID.H, IC.X.so1 a, ID.X.so1 a, ha, rfl⟩
end ZRU
