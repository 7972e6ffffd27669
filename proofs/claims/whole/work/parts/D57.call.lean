/-! ===== the run: calls ===== -/
theorem z_fillB {a n0 lo hi k0 : Nat} (hk0 : k0 ≤ 127) (h1 : lo ≤ hi) (h2 : hi ≤ n0) (hn : n0 < 2147483648) (S : QS) : ∃ S', fJ7_fill_eb02e S a n0 (nI lo) (nI hi) (nI k0) = some S' ∧ (∀ y j, S'.2.1 y j = if y = a ∧ lo ≤ j ∧ j < hi then nI k0 else S.2.1 y j) ∧ S'.1 = S.1 ∧ S'.2.2 = S.2.2 := by
  have rc : fJ7_rangeCheck_23922 S (nI n0) (nI lo) (nI hi) = some () := by
    rw [fJ7_rangeCheck_23922, if_pos (by rw [z_leN (by omega) (by omega)]; exact h1), if_pos (nI_pos' (by omega)), if_pos (by rw [z_leN (by omega) (by omega)]; exact h2)]
  have nr : vp_nar .byte (nI k0) = nI k0 := z_bytn (z_bytN hk0)
  have loop : ∀ d k S, k + d = hi → ∃ S', q_run (tJ7_fill_eb02e_10 a n0 (nI hi) (nI k0)) (nI k, S) = some S' ∧ (∀ y j, S'.2.1 y j = if y = a ∧ k ≤ j ∧ j < hi then nI k0 else S.2.1 y j) ∧ S'.1 = S.1 ∧ S'.2.2 = S.2.2 := by
    intro d
    induction d with
    | zero =>
      intro k S hk
      refine ⟨S, q_run_ret ?_, fun y j => by rw [if_neg (by omega)], rfl, rfl⟩
      simp only [tJ7_fill_eb02e_10]
      rw [if_pos (by rw [z_leN (by omega) (by omega)]; omega)]
    | succ d ih =>
      intro k S hk
      have st : tJ7_fill_eb02e_10 a n0 (nI hi) (nI k0) (nI k, S) = some (.inr (nI (k + 1), q_sI S a k (nI k0))) := by
        simp only [tJ7_fill_eb02e_10, nr]
        rw [if_neg (by rw [z_leN (by omega) (by omega)]; omega), if_pos (z_inbN (by omega) (by omega)), z_cl (by omega), nI_1]
        rfl
      obtain ⟨S', y1, y2, y3, y4⟩ := ih (k + 1) (q_sI S a k (nI k0)) (by omega)
      refine ⟨S', (q_run_go st).trans y1, fun y j => ?_, y3, y4⟩
      rw [y2, q_sI_I]
      by_cases e : y = a ∧ k + 1 ≤ j ∧ j < hi
      · rw [if_pos e, if_pos (by omega)]
      · rw [if_neg e]
        by_cases e2 : y = a ∧ j = k
        · rw [if_pos e2, if_pos (by omega)]
        · rw [if_neg e2, if_neg (by omega)]
  obtain ⟨S', y1, y2, y3, y4⟩ := loop (hi - lo) lo S (by omega)
  refine ⟨S', ?_, y2, y3, y4⟩
  rw [fJ7_fill_eb02e, rc, Option.bind_some]
  exact y1
theorem z_cpok {S : QS} {t a la b lb sp dp c : Nat} (h1 : sp + c ≤ la) (h2 : dp + c ≤ lb) (h3 : la < 2147483648) (h4 : lb < 2147483648) (hf : ∀ x, x < c → fits (q_et t) (.int (S.2.1 a (sp + x))) = true) : q_cpok S t a la (nI sp) (nI dp) (nI c) b lb = true := by
  simp only [q_cpok, z_cl (show sp < 2147483648 by omega), z_cl (show dp < 2147483648 by omega), z_cl (show c < 2147483648 by omega), z_negN (show sp < 2147483648 by omega), z_negN (show dp < 2147483648 by omega), z_negN (show c < 2147483648 by omega), decide_false, Bool.not_false, Bool.true_and, Bool.and_eq_true, decide_eq_true_eq, List.all_eq_true, List.mem_range]
  exact ⟨h1, h2, hf⟩
def r_eh (h : Nat → Nat) (d a : Nat) : Nat → Nat := k_up (k_up h d (h d - a)) (d + 1) 0
def r_eV (V : Nat → Nat → Nat × Int32) (h : Nat → Nat) (d a : Nat) : Nat → Nat → Nat × Int32 := k_up V (d + 1) (fun s => if s < a then V d (12 + (h d - a) + s) else (67, 0))
section ZRL
variable {p q n m : Nat} {g : ZT} {K : ZK} {M : ZM} {P : ZP} {hh : Nat → Nat → Int32} {R : Nat → Nat → Bool} {T : Nat → Nat → Nat → Nat} {Cx Dx C D : QS} {d i k : Nat} {h h' : Nat → Nat} {V : Nat → Nat → Nat × Int32} {pa pd : Nat → Nat} {H H' : ZH} {X : ZX} {to pl : Nat}
theorem rC.enter {a b F : Nat} (hp : z_pp p) (I : rC p Cx d h V pa H X to pl C) (hd : d + 1 < 64) (ha : a ≤ h d) (hb : b < 48) (hF : C.2.1 (p + 29) b = nI F) : ∃ C', fX6_enter C p (nI b) (nI a) = some C' ∧ rC p Cx (d + 1) (r_eh h d a) (r_eV V h d a) (k_up pa (d + 1) F) H X to pl C' := by
  obtain ⟨h8, eh⟩ := I.F.h d (Nat.le_refl _)
  have I3 := I.sh hp (show h d - a ≤ h d by omega)
  have tp := I3.top
  rw [k_up_eq] at tp
  have tv := fun s hs => I.tv (s := s) hs
  have hok0 : ∀ S : QS, q_cpok S 0 96 1280 (nI (d * 20 + (12 + (h d - a)))) (nI ((d + 1) * 20)) (nI a) 96 1280 = true := fun S => z_cpok (by omega) (by omega) (by decide) (by decide) (fun x hx => rfl)
  obtain ⟨S', f1, f2, -⟩ := z_fillB (a := 97) (n0 := 1280) (lo := (d + 1) * 20 + a) (hi := (d + 1) * 20 + 12) (k0 := 67) (by decide) (by omega) (by omega) (by decide) (q_cpI (q_cpI (q_sI (q_sI C 99 d (nI (h d - a))) 89 7 (nI (d + 1))) 96 (d * 20 + (12 + (h d - a))) 96 ((d + 1) * 20) a) 97 (d * 20 + (12 + (h d - a))) 97 ((d + 1) * 20) a)
  have hok1 : q_cpok (q_cpI (q_sI (q_sI C 99 d (nI (h d - a))) 89 7 (nI (d + 1))) 96 (d * 20 + (12 + (h d - a))) 96 ((d + 1) * 20) a) 1 97 1280 (nI (d * 20 + (12 + (h d - a)))) (nI ((d + 1) * 20)) (nI a) 97 1280 = true := by
    refine z_cpok (by omega) (by omega) (by decide) (by decide) (fun x hx => z_fitB ?_)
    obtain ⟨t1, t2, -⟩ := tv (12 + (h d - a) + x) (by omega)
    show q_byt (C.2.1 97 (d * 20 + (12 + (h d - a)) + x))
    rw [Nat.add_assoc, t2]; exact z_bytN (by omega)
  have gC : ∀ y j, (q_sI (q_sI S' 99 (d + 1) 0) 98 (d + 1) (nI F)).2.1 y j = if y = 98 ∧ j = d + 1 then nI F else if y = 99 ∧ j = d + 1 then 0 else if y = 97 ∧ (d + 1) * 20 + a ≤ j ∧ j < (d + 1) * 20 + 12 then nI 67 else if y = 97 ∧ (d + 1) * 20 ≤ j ∧ j < (d + 1) * 20 + a then C.2.1 97 (d * 20 + (12 + (h d - a)) + (j - (d + 1) * 20)) else if y = 96 ∧ (d + 1) * 20 ≤ j ∧ j < (d + 1) * 20 + a then C.2.1 96 (d * 20 + (12 + (h d - a)) + (j - (d + 1) * 20)) else if y = 89 ∧ j = 7 then nI (d + 1) else if y = 99 ∧ j = d then nI (h d - a) else C.2.1 y j := by
    intro y j
    rw [q_sI_I, q_sI_I, f2, q_cpI_I _ _ _ _ _ _ y j, q_cpI_I _ _ _ _ _ _ y j, q_sI_I _ _ _ _ y j, q_sI_I _ _ _ _ y j]
    rfl
  have d7 : S'.2.1 89 7 = nI (d + 1) := by
    rw [f2, if_neg (by omega), q_cpI_I, if_neg (by omega), q_cpI_I, if_neg (by omega), q_sI_I, if_pos ⟨rfl, rfl⟩]
  have hF2 : (q_sI S' 99 (d + 1) 0).2.1 (p + 29) b = nI F := by
    have hne : ∀ z, z ≤ 76 → ∀ j, (q_sI S' 99 (d + 1) 0).2.1 z j = C.2.1 z j := fun z hz j => by
      rw [q_sI_I, if_neg (by omega), f2, if_neg (by omega), q_cpI_I, if_neg (by omega), q_cpI_I, if_neg (by omega), q_sI_I, if_neg (by omega), q_sI_I, if_neg (by omega)]
    rw [hne _ (by rcases hp with h | h <;> omega)]; exact hF
  obtain ⟨C', hC'⟩ : ∃ C', C' = q_sI (q_sI S' 99 (d + 1) 0) 98 (d + 1) (nI F) := ⟨_, rfl⟩
  rw [← hC'] at gC
  refine ⟨C', ?_, ⟨I.g.of hp (fun o j ho => ?_), ⟨?_, hd, fun f hf => ?_, fun f s hf hs => ?_⟩, fun f hf => ?_, ?_, ?_⟩⟩
  · have e64 : ¬ (nI (d + 1) = 64) := by rw [show (64 : Int32) = nI 64 from rfl, z_eqN (by omega) (by decide)]; omega
    have hs := I.F.d
    have i0 := z_inbN (show d < 64 by omega) (by decide)
    have i1 := z_inbN (show d + 1 < 64 by omega) (by decide)
    have e20 : nI (d + 1) * (20 : Int32) = nI ((d + 1) * 20) := nI_mulN (d + 1) 20
    simp only [fX6_enter, hs, nI_1, if_neg e64, i0, if_true, z_cl (show d < 2147483648 by omega), eh, z_subN ha, Option.bind_some, tp]
    have s3 : (q_sI C 99 d (nI (h d - a))).2.1 89 7 = nI d := hs
    simp only [s3, nI_1]
    have s8 : (q_sI (q_sI C 99 d (nI (h d - a))) 89 7 (nI (d + 1))).2.1 89 7 = nI (d + 1) := by rw [q_sI_I, if_pos ⟨rfl, rfl⟩]
    simp only [s8, e20, hok0, if_true, z_cl (show d * 20 + (12 + (h d - a)) < 2147483648 by omega), z_cl (show (d + 1) * 20 < 2147483648 by omega), z_cl (show a < 2147483648 by omega), hok1, show (12 : Int32) = nI 12 from rfl, nI_add]
    rw [show (67 : Int32) = nI 67 from rfl, f1, Option.bind_some, d7, if_pos i1, z_cl (show d + 1 < 2147483648 by omega)]
    have s9 : (q_sI S' 99 (d + 1) 0).2.1 89 7 = nI (d + 1) := d7
    rw [s9, if_pos (z_inbN hb (by decide)), if_pos i1, z_cl (show b < 2147483648 by omega), z_cl (show d + 1 < 2147483648 by omega), hF2, hC']
  · rw [gC]; simp (disch := omega) only [if_neg]
  · rw [gC]; simp (disch := omega) only [if_neg, and_self, if_true]
  · rw [gC, r_eh]
    by_cases c : f = d + 1
    · rw [c, k_up_eq]; simp (disch := omega) only [if_neg, and_self, if_true]; exact ⟨by omega, rfl⟩
    · rw [k_up_ne c]
      by_cases c2 : f = d
      · rw [c2, k_up_eq]; simp (disch := omega) only [if_neg, and_self, if_true]; exact ⟨by omega, trivial⟩
      · rw [k_up_ne c2]; simp (disch := omega) only [if_neg]; exact I.F.h f (by omega)
  · by_cases c : f = d + 1
    · subst c
      rw [r_eh, k_up_eq] at hs
      rw [r_eV, k_up_eq]
      by_cases c2 : s < a
      · obtain ⟨t1, t2, t3⟩ := tv (12 + (h d - a) + s) (by omega)
        rw [gC 97, gC 96, if_pos c2, if_neg (by omega), if_neg (by omega), if_neg (by omega), if_pos (by omega), if_neg (by omega), if_neg (by omega), if_neg (by omega), if_neg (by omega), if_pos (by omega)]
        rw [show d * 20 + (12 + (h d - a)) + ((d + 1) * 20 + s - (d + 1) * 20) = d * 20 + (12 + (h d - a) + s) by omega]
        exact ⟨t1, t2, t3⟩
      · rw [gC 97, if_neg c2, if_neg (by omega), if_neg (by omega), if_pos (by omega)]
        exact ⟨by decide, rfl, fun x => absurd rfl x⟩
    · rw [gC, gC, r_eV, k_up_ne c]
      have hs2 : s < 12 + h f := by
        rw [r_eh, k_up_ne c] at hs
        by_cases c2 : f = d
        · rw [c2, k_up_eq] at hs; rw [c2]; omega
        · rw [k_up_ne c2] at hs; exact hs
      have hf8 := (I.F.h f (by omega)).1
      simp (disch := omega) only [if_neg]
      exact I.F.v f s (by omega) hs2
  · rw [gC]
    by_cases c : f = d + 1
    · rw [c, k_up_eq]; simp (disch := omega) only [if_neg, and_self, if_true]
    · rw [k_up_ne c]; simp (disch := omega) only [if_neg]; exact I.P f (by omega)
  · have g : ∀ y j, 90 ≤ y → y ≤ 95 → C'.2.1 y j = C.2.1 y j := fun y j a b => by rw [gC]; simp (disch := omega) only [if_neg]
    exact ⟨(g _ _ (by omega) (by omega)).trans I.H.n, I.H.n2, (g _ _ (by omega) (by omega)).trans I.H.u, I.H.u2, (g _ _ (by omega) (by omega)).trans I.H.z, fun o a b => ⟨(g _ _ (by omega) (by omega)).trans (I.H.o o a b).1, (g _ _ (by omega) (by omega)).trans (I.H.o o a b).2.1, (g _ _ (by omega) (by omega)).trans (I.H.o o a b).2.2.1, (g _ _ (by omega) (by omega)).trans (I.H.o o a b).2.2.2⟩, fun c hc => (g _ _ (by omega) (by omega)).trans (I.H.c c hc)⟩
  · have g : ∀ y j, ((y = 89 ∧ j ≠ 7) ∨ y = 100 ∨ y = 101) → C'.2.1 y j = C.2.1 y j := fun y j a => by rw [gC]; simp (disch := omega) only [if_neg]
    exact ⟨(g _ _ (by omega)).trans I.X.ni, I.X.ni2, fun k hk => (g _ _ (by omega)).trans (I.X.inp k hk), (g _ _ (by omega)).trans I.X.nx, I.X.nx2, (g _ _ (by omega)).trans I.X.w, I.X.w2, fun k a b => (g _ _ (by omega)).trans (I.X.out k a b), (g _ _ (by omega)).trans I.X.sp, I.X.sp2, (g _ _ (by omega)).trans I.X.oc, (g _ _ (by omega)).trans I.X.ts, (g _ _ (by omega)).trans I.X.sy, (g _ _ (by omega)).trans I.X.to, (g _ _ (by omega)).trans I.X.pl⟩
/-- the reference's new frame -/
theorem r_enterD {d1 b F : Nat} (hq : z_qq q) (e35 : D.2.1 102 35 = nI d1) (hd1 : d1 < 64) (hb : b < 48) (e12 : D.2.1 (q + 12) b = nI F) : ∃ D', fX12_enter D q (nI b) = some D' ∧ (∀ y j, D'.2.1 y j = if y = 102 ∧ j = 35 then nI (d1 + 1) else if y = 175 ∧ j = d1 then nI F else if y = 174 ∧ j = d1 then 0 else D.2.1 y j) ∧ ∀ y j, D'.2.2.1 y j = if y = 172 ∧ d1 * 12 ≤ j ∧ j < d1 * 12 + 12 then 1125899906842624 else D.2.2.1 y j := by
  have loop : ∀ e k S, k + e = 12 → S.2.1 = D.2.1 → ∃ D', q_run (tX12_enter_2 q (nI b)) (nI k, S) = some D' ∧ (∀ y j, D'.2.1 y j = if y = 102 ∧ j = 35 then nI (d1 + 1) else if y = 175 ∧ j = d1 then nI F else if y = 174 ∧ j = d1 then 0 else D.2.1 y j) ∧ ∀ y j, D'.2.2.1 y j = if y = 172 ∧ d1 * 12 + k ≤ j ∧ j < d1 * 12 + 12 then 1125899906842624 else S.2.2.1 y j := by
    intro e
    induction e with
    | zero =>
      intro k S hk hS
      have s35 : S.2.1 102 35 = nI d1 := by rw [hS]; exact e35
      refine ⟨q_sI (q_sI (q_sI S 174 d1 0) 175 d1 (nI F)) 102 35 (nI (d1 + 1)), q_run_ret ?_, fun y j => by rw [q_sI_I, q_sI_I, q_sI_I, hS], fun y j => by rw [if_neg (by omega)]; rfl⟩
      have g1 : (12 : Int32) ≤ nI k := by rw [show (12 : Int32) = nI 12 from rfl, z_leN (by decide) (by omega)]; omega
      have i1 := z_inbN hd1 (show 64 < 2147483648 by decide)
      have c1 := z_cl (show d1 < 2147483648 by omega)
      have s1 : (q_sI S 174 d1 0).2.1 102 35 = nI d1 := s35
      have s2 : (q_sI S 174 d1 0).2.1 (q + 12) b = nI F := by
        rw [q_sI_I, if_neg (by rcases hq with h | h <;> omega), hS]; exact e12
      have s3 : (q_sI (q_sI S 174 d1 0) 175 d1 (nI F)).2.1 102 35 = nI d1 := s35
      simp only [tX12_enter_2, if_pos g1, s35, i1, if_true, c1, Option.bind_some, s1, s2, z_inbN hb (show 48 < 2147483648 by decide), z_cl (show b < 2147483648 by omega), s3, nI_1]
    | succ e ih =>
      intro k S hk hS
      have s35 : S.2.1 102 35 = nI d1 := by rw [hS]; exact e35
      have g1 : ¬ ((12 : Int32) ≤ nI k) := by rw [show (12 : Int32) = nI 12 from rfl, z_leN (by decide) (by omega)]; omega
      have e12' : nI d1 * (12 : Int32) + nI k = nI (d1 * 12 + k) := by rw [show nI d1 * (12 : Int32) = nI (d1 * 12) from nI_mulN d1 12, nI_add]
      obtain ⟨D', y1, y2, y3⟩ := ih (k + 1) (q_sJ S 172 (d1 * 12 + k) 1125899906842624) (by omega) hS
      refine ⟨D', (q_run_go ?_).trans y1, y2, fun y j => ?_⟩
      · simp only [tX12_enter_2, if_neg g1, s35, e12', z_inbN (show d1 * 12 + k < 768 by omega) (by decide), if_true, z_cl (show d1 * 12 + k < 2147483648 by omega), Option.bind_some, nI_1]
      · rw [y3, q_sJ_J]
        by_cases c : y = 172 ∧ d1 * 12 + (k + 1) ≤ j ∧ j < d1 * 12 + 12
        · rw [if_pos c, if_pos (by omega)]
        · rw [if_neg c]
          by_cases c2 : y = 172 ∧ j = d1 * 12 + k
          · rw [if_pos c2, if_pos (by omega)]
          · rw [if_neg c2, if_neg (by omega)]
  obtain ⟨D', y1, y2, y3⟩ := loop 12 0 D rfl rfl
  exact ⟨D', y1, y2, y3⟩
theorem r_copyD {a base d1 : Nat} : ∀ e k D, k + e = a → D.2.1 102 35 = nI (d1 + 1) → d1 < 64 → a ≤ 12 → base + a ≤ 512 → ∃ D', q_run (tX12_callStep_141 q (nI a) (nI base)) (nI k, D) = some D' ∧ D'.2.1 = D.2.1 ∧ ∀ y j, D'.2.2.1 y j = if y = 172 ∧ d1 * 12 + k ≤ j ∧ j < d1 * 12 + a then D.2.2.1 173 (base + (j - d1 * 12)) else D.2.2.1 y j := by
  intro e
  induction e with
  | zero =>
    intro k D hk e35 hd ha hb
    refine ⟨D, q_run_ret ?_, rfl, fun y j => by rw [if_neg (by omega)]⟩
    simp only [tX12_callStep_141]
    rw [if_pos (by rw [z_leN (by omega) (by omega)]; omega)]
  | succ e ih =>
    intro k D hk e35 hd ha hb
    have g1 : ¬ (nI a ≤ nI k) := by rw [z_leN (by omega) (by omega)]; omega
    have dm : D.2.1 102 35 - (1 : Int32) = nI d1 := by rw [e35, z_sub1 (by omega)]; rfl
    have e12' : nI d1 * (12 : Int32) + nI k = nI (d1 * 12 + k) := by rw [show nI d1 * (12 : Int32) = nI (d1 * 12) from nI_mulN d1 12, nI_add]
    obtain ⟨D', y1, y2, y3⟩ := ih (k + 1) (q_sJ D 172 (d1 * 12 + k) (D.2.2.1 173 (base + k))) (by omega) e35 hd ha hb
    refine ⟨D', (q_run_go ?_).trans y1, y2, fun y j => ?_⟩
    · simp only [tX12_callStep_141, if_neg g1, nI_add, z_inbN (show base + k < 512 by omega) (by decide), if_true, dm, e12', z_inbN (show d1 * 12 + k < 768 by omega) (by decide), z_cl (show base + k < 2147483648 by omega), z_cl (show d1 * 12 + k < 2147483648 by omega), Option.bind_some, nI_1]
    · have inn : ∀ x, (q_sJ D 172 (d1 * 12 + k) (D.2.2.1 173 (base + k))).2.2.1 173 x = D.2.2.1 173 x := fun _ => rfl
      rw [y3, inn, q_sJ_J]
      by_cases c : y = 172 ∧ d1 * 12 + (k + 1) ≤ j ∧ j < d1 * 12 + a
      · rw [if_pos c, if_pos (by omega)]
      · rw [if_neg c]
        by_cases c2 : y = 172 ∧ j = d1 * 12 + k
        · rw [if_pos c2, if_pos (by omega), show base + (j - d1 * 12) = base + k by omega]
        · rw [if_neg c2, if_neg (by omega)]
theorem rD.enter {a b F : Nat} (hq : z_qq q) (I : rD q Dx d h V pd H X pl D) (hd : d + 1 < 64) (ha : a ≤ h d) (hb : b < 48) (hF : D.2.1 (q + 12) b = nI F) {y3 : Int32} : ∃ D', fX12_callStep_100 D q y3 (nI a) (nI (d * 8 + (h d - a))) (nI b) = some D' ∧ rD q Dx (d + 1) (r_eh h d a) (r_eV V h d a) (k_up pd (d + 1) F) H X pl D' := by
  obtain ⟨h8, eh⟩ := I.F.h d (Nat.le_refl _)
  have I3 := I.sh hq (show h d - a ≤ h d by omega)
  have hF3 : (q_sI D 174 d (nI (h d - a))).2.1 (q + 12) b = nI F := by
    rw [q_sI_I, if_neg (by rcases hq with h | h <;> omega)]; exact hF
  obtain ⟨D1, x1, x2, x3⟩ := r_enterD hq I3.F.d hd hb hF3
  obtain ⟨D2, y1, y2, y3'⟩ := r_copyD (a := a) (q := q) (base := d * 8 + (h d - a)) (d1 := d + 1) a 0 D1 (by omega) (by rw [x2, if_pos ⟨rfl, rfl⟩]) hd (by omega) (by omega)
  have gI : ∀ y j, D2.2.1 y j = if y = 102 ∧ j = 35 then nI (d + 1 + 1) else if y = 175 ∧ j = d + 1 then nI F else if y = 174 ∧ j = d + 1 then 0 else if y = 174 ∧ j = d then nI (h d - a) else D.2.1 y j := by
    intro y j
    rw [y2, x2, q_sI_I]
  have gJ : ∀ y j, D2.2.2.1 y j = if y = 172 ∧ (d + 1) * 12 ≤ j ∧ j < (d + 1) * 12 + a then D.2.2.1 173 (d * 8 + (h d - a) + (j - (d + 1) * 12)) else if y = 172 ∧ (d + 1) * 12 ≤ j ∧ j < (d + 1) * 12 + 12 then 1125899906842624 else D.2.2.1 y j := by
    intro y j
    rw [y3', x3, x3]
    by_cases c : y = 172 ∧ (d + 1) * 12 ≤ j ∧ j < (d + 1) * 12 + a
    · rw [if_pos (by omega), if_neg (by omega), if_pos c]; rfl
    · rw [if_neg (by omega), if_neg c]; rfl
  refine ⟨D2, ?_, ⟨I.g.of hq (fun o j a b => ?_), ⟨?_, hd, fun f hf => ?_, fun f s hf hs => ?_, fun f s hf hs => ?_⟩, fun f hf => ?_, ?_, ?_⟩⟩
  · have e64 : ¬ (nI (d + 1) = 64) := by rw [show (64 : Int32) = nI 64 from rfl, z_eqN (by omega) (by decide)]; omega
    have dm := I.dm
    simp only [fX12_callStep_100, I.F.d, if_neg e64, show nI (d + 1) - (1 : Int32) = nI d by rw [← I.F.d]; exact dm, z_inbN (show d < 64 by omega) (show 64 < 2147483648 by decide), if_true, z_cl (show d < 2147483648 by omega), eh, z_subN ha, Option.bind_some, x1, fX12_callStep_141]
    exact y1
  · rw [gI]; simp (disch := omega) only [if_neg]
  · rw [gI, if_pos ⟨rfl, rfl⟩]
  · rw [gI, r_eh]
    by_cases c : f = d + 1
    · rw [c, k_up_eq]; simp (disch := omega) only [if_neg, and_self, if_true]; exact ⟨by omega, rfl⟩
    · rw [k_up_ne c]
      by_cases c2 : f = d
      · rw [c2, k_up_eq]; simp (disch := omega) only [if_neg, and_self, if_true]; exact ⟨by omega, trivial⟩
      · rw [k_up_ne c2]; simp (disch := omega) only [if_neg]; exact I.F.h f (by omega)
  · rw [gJ, r_eV]
    by_cases c : f = d + 1
    · subst c
      rw [k_up_eq]
      by_cases c2 : s < a
      · rw [if_pos c2, if_pos (by omega), show d * 8 + (h d - a) + ((d + 1) * 12 + s - (d + 1) * 12) = d * 8 + (h d - a + s) by omega, I.F.s d (h d - a + s) (Nat.le_refl _) (by omega), Nat.add_assoc]
      · rw [if_neg c2, if_neg (by omega), if_pos (by omega), r_e_u rfl]
    · rw [k_up_ne c, if_neg (by omega), if_neg (by omega)]; exact I.F.l f s (by omega) hs
  · rw [gJ, if_neg (by omega), if_neg (by omega), r_eV]
    rw [r_eh] at hs
    by_cases c : f = d + 1
    · rw [c, k_up_eq] at hs; omega
    · rw [k_up_ne c] at hs ⊢
      refine I.F.s f s (by omega) ?_
      by_cases c2 : f = d
      · rw [c2, k_up_eq] at hs; rw [c2]; omega
      · rw [k_up_ne c2] at hs; exact hs
  · rw [gI]
    by_cases c : f = d + 1
    · rw [c, k_up_eq]; simp (disch := omega) only [if_neg, and_self, if_true]
    · rw [k_up_ne c]; simp (disch := omega) only [if_neg]; exact I.P f (by omega)
  · have g : ∀ y j, ((y = 102 ∧ j ≠ 35) ∨ (176 ≤ y ∧ y ≤ 182)) → D2.2.1 y j = D.2.1 y j := fun y j a => by rw [gI]; simp (disch := omega) only [if_neg]
    exact ⟨(g _ _ (by omega)).trans I.H.n, (g _ _ (by omega)).trans I.H.u, fun o a b => ⟨(g _ _ (by omega)).trans (I.H.o o a b).1, (g _ _ (by omega)).trans (I.H.o o a b).2.1, (g _ _ (by omega)).trans (I.H.o o a b).2.2.1, (g _ _ (by omega)).trans (I.H.o o a b).2.2.2⟩, fun c hc => by rw [gJ, if_neg (by omega), if_neg (by omega)]; exact I.H.c c hc⟩
  · have g : ∀ y j, ((y = 102 ∧ j ≠ 35) ∨ (176 ≤ y ∧ y ≤ 182)) → D2.2.1 y j = D.2.1 y j := fun y j a => by rw [gI]; simp (disch := omega) only [if_neg]
    exact ⟨(g _ _ (by omega)).trans I.X.ni, fun k hk => (g _ _ (by omega)).trans (I.X.inp k hk), (g _ _ (by omega)).trans I.X.nx, (g _ _ (by omega)).trans I.X.w, fun k a b => (g _ _ (by omega)).trans (I.X.out k a b), (g _ _ (by omega)).trans I.X.sp, (g _ _ (by omega)).trans I.X.oc, (g _ _ (by omega)).trans I.X.ts, (g _ _ (by omega)).trans I.X.sy, fun a => (g _ _ (by omega)).trans (I.X.pl a)⟩
end ZRL
