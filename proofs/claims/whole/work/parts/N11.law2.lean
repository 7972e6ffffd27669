/-! ===== the law: frames of a run, run and load as calls ===== -/
def wlR : List (Nat × Nat × Nat) := [(0, 89, 999), (0, 90, 999), (0, 91, 999), (0, 92, 999), (0, 93, 999), (0, 94, 999), (0, 95, 999), (0, 96, 999), (0, 97, 999), (0, 98, 999), (0, 99, 999), (0, 100, 999), (0, 101, 999)]
def w_fr (C C' : QS) : Prop := ∀ o j, (o ≤ 88 ∨ 102 ≤ o) → C'.2.1 o j = C.2.1 o j
theorem w_fr.refl (C : QS) : w_fr C C := fun _ _ _ => rfl
theorem w_fr.trans {C C' C'' : QS} (h : w_fr C C') (h' : w_fr C' C'') : w_fr C C'' := fun o j a => (h' o j a).trans (h o j a)
theorem w_fr.sI {C C' : QS} {o j : Nat} {v : Int32} (h : w_fr C C') (ho : 89 ≤ o ∧ o ≤ 101) : w_fr C (q_sI C' o j v) := fun y k a => by rw [q_sI_I, if_neg (by omega)]; exact h y k a
theorem w_fr.fw {l : List (Nat × Nat × Nat)} {p : Nat} {C C' : QS} (h : q_Fw l p C C') (hl : ∀ o j, (o ≤ 88 ∨ 102 ≤ o) → q_W l p o j = false) : w_fr C C' := fun o j a => (h.1 o j (hl o j a)).1
theorem q_run_inv {X R : Type} {f : X → Option (R ⊕ X)} {I : X → Prop} {Q : R → Prop} (hs : ∀ x z, I x → f x = some z → Sum.elim Q I z) {x : X} {r : R} (hx : I x) (h : q_run f x = some r) : Q r := by
  obtain ⟨c, hc⟩ := q_run_it h
  clear h
  induction c generalizing x with
  | zero => cases hc
  | succ c ih =>
    simp only [q_it] at hc
    cases hz : f x with
    | none => rw [hz] at hc; cases hc
    | some z =>
      rw [hz] at hc
      have := hs x z hx hz
      rcases z with z | y
      · cases hc; exact this
      · exact ih this hc
theorem w_fr141 {p : Nat} {S : QS} {r : Int32 × QS} (h : fX6_outcomeOf_141 S p = some r) : w_fr S r.2 := by
  unfold fX6_outcomeOf_141 at h
  obtain ⟨v8, hv, h⟩ := q_bind h
  have fx9 : w_fr S v8 := by
    replace h := hv
    by_cases c : (S.2.1 89 8) = (-1 : Int32)
    · rw [if_pos c] at h
      obtain ⟨S1, e2, h⟩ := q_bindS h
      have fx3 : w_fr S S1 := e2 ▸ w_fr.sI (w_fr.refl S) (by decide)
      obtain ⟨hg4, h⟩ := q_guard h
      obtain ⟨S5, e6, h⟩ := q_bindS h
      have fx7 : w_fr S S5 := e6 ▸ w_fr.sI fx3 (by decide)
      obtain rfl := Option.some.inj h
      exact fx7
    · rw [if_neg c] at h
      obtain rfl := Option.some.inj h
      exact w_fr.refl _
  obtain ⟨S10, e11, h⟩ := q_bindS h
  have fx12 : w_fr S S10 := e11 ▸ w_fr.sI fx9 (by decide)
  obtain rfl := Option.some.inj h
  exact fx12
theorem w_frStep {p : Nat} {S r : QS} (hp : q_pok p) (h : fX6_step S p = some r) : w_fr S r := w_fr.fw (fwX6_step hp h) (fun o j a => by
  simp [q_W, wlX6_step, q_hit, q_base]
  omega)
theorem w_frPass {p : Nat} {S r : QS} (hp : q_pok p) (h : fX6_passUp S p = some r) : w_fr S r := w_fr.fw (fwX6_passUp hp h) (fun o j a => by
  simp [q_W, wlX6_passUp, q_hit, q_base]
  omega)
theorem w_fr97 {p : Nat} {y2 : Int32} {x : Int32 × QS} {r : Int32 × QS} (hp : q_pok p) (h : q_run (tX6_outcomeOf_97 p y2) x = some r) : w_fr x.2 r.2 := by
  refine q_run_inv (I := fun y => w_fr x.2 y.2) (Q := fun r => w_fr x.2 r.2) (fun y z hy hz => ?_) (w_fr.refl _) h
  unfold tX6_outcomeOf_97 at hz
  by_cases c : y2 ≤ y.1
  · rw [if_pos c] at hz
    obtain ⟨r13, e, hz⟩ := q_bind hz
    obtain rfl := Option.some.inj hz
    exact hy.trans (w_fr141 e)
  · rw [if_neg c] at hz
    by_cases c2 : y.2.2.1 89 8 = (-1 : Int32)
    · rw [if_pos c2] at hz
      obtain ⟨S17, e17, hz⟩ := q_bindS hz
      have f17 : w_fr x.2 S17 := e17 ▸ w_fr.sI hy (by decide)
      obtain ⟨r20, e20, hz⟩ := q_bind hz
      have f20 := f17.trans (w_frStep hp e20)
      by_cases c3 : r20.2.1 89 9 = 0
      · rw [if_pos c3] at hz
        obtain rfl := Option.some.inj hz
        exact f20
      · rw [if_neg c3] at hz
        obtain ⟨r23, e23, hz⟩ := q_bind hz
        obtain rfl := Option.some.inj hz
        exact f20.trans (w_frPass hp e23)
    · rw [if_neg c2] at hz
      obtain ⟨r13, e, hz⟩ := q_bind hz
      obtain rfl := Option.some.inj hz
      exact hy.trans (w_fr141 e)
theorem w_rf.refl (C : QS) : w_rf C C := ⟨rfl, fun _ _ _ => rfl⟩
theorem w_rf.fx {C C' : QS} (h : q_Fx C C') : w_rf C C' := w_rf.rx (z_rx.fx h)
theorem w_rf.sR {C C' : QS} {j r : Nat} (h : w_rf C C') (hj : j = 0 ∨ j = 1) : w_rf C (q_sR C' 89 j r) := by
  refine ⟨h.1, fun o k a => ?_⟩
  have hne : ¬ (o = 89 ∧ k = j) := fun z => by
    rw [z.1, z.2] at a
    rcases hj with z | z <;> subst z <;> exact absurd a (by decide)
  rw [← h.2 o k a]
  by_cases c : o = 89
  · subst c
    have : k ≠ j := fun z => hne ⟨rfl, z⟩
    simp [q_sR, va_up, this]
  · simp [q_sR, c]
theorem w_frOut {p : Nat} {S : QS} {x2 : Int32} {r : Int32 × QS} (hp : q_pok p) (h : fX6_outcomeOf S p x2 = some r) : w_fr S r.2 ∧ w_rf S r.2 := by
  unfold fX6_outcomeOf at h
  obtain ⟨S26, e26, h⟩ := q_bindS h
  have a26 : w_fr S S26 ∧ w_rf S S26 := e26 ▸ ⟨fun _ _ _ => rfl, w_rf.sR (w_rf.refl S) (Or.inl rfl)⟩
  obtain ⟨S30, e30, h⟩ := q_bindS h
  have a30 : w_fr S S30 ∧ w_rf S S30 := e30 ▸ ⟨a26.1, w_rf.sR a26.2 (Or.inr rfl)⟩
  obtain ⟨r34, e34, h⟩ := q_bind h
  have a34 : w_fr S r34 ∧ w_rf S r34 := ⟨a30.1.trans (w_fr.fw (fwX2_begin e34) (fun o j a => by
    simp [q_W, wlX2_begin, q_hit, q_base]
    omega)), a30.2.trans (w_rf.fx (fxX2_begin e34))⟩
  obtain ⟨S37, e37, h⟩ := q_bindS h
  have a37 : w_fr S S37 ∧ w_rf S S37 := e37 ▸ ⟨w_fr.sI a34.1 (by decide), a34.2⟩
  obtain ⟨S40, e40, h⟩ := q_bindS h
  have a40 : w_fr S S40 ∧ w_rf S S40 := e40 ▸ ⟨w_fr.sI a37.1 (by decide), a37.2⟩
  obtain ⟨S43, e43, h⟩ := q_bindS h
  have a43 : w_fr S S43 ∧ w_rf S S43 := e43 ▸ ⟨w_fr.sI a40.1 (by decide), a40.2⟩
  obtain ⟨S46, e46, h⟩ := q_bindS h
  have a46 : w_fr S S46 ∧ w_rf S S46 := e46 ▸ ⟨w_fr.sI a43.1 (by decide), a43.2⟩
  obtain ⟨S49, e49, h⟩ := q_bindS h
  have a49 : w_fr S S49 ∧ w_rf S S49 := e49 ▸ ⟨w_fr.sI a46.1 (by decide), a46.2⟩
  obtain ⟨S52, e52, h⟩ := q_bindS h
  have a52 : w_fr S S52 ∧ w_rf S S52 := e52 ▸ ⟨w_fr.sI a49.1 (by decide), a49.2⟩
  obtain ⟨S55, e55, h⟩ := q_bindS h
  have a55 : w_fr S S55 ∧ w_rf S S55 := e55 ▸ ⟨w_fr.sI a52.1 (by decide), a52.2⟩
  obtain ⟨r58, e58, h⟩ := q_bind h
  have a58 : w_fr S r58 ∧ w_rf S r58 := by
    obtain ⟨S', f1, f2, f3, f4⟩ := z_fillB (a := 97) (n0 := 1280) (lo := 0) (hi := 12) (k0 := 67) (by decide) (by decide) (by decide) (by decide) S55
    have f1' : fJ7_fill_eb02e S55 97 1280 0 12 67 = some S' := f1
    rw [f1'] at e58
    obtain rfl := Option.some.inj e58
    exact ⟨a55.1.trans (fun o j a => by rw [f2, if_neg (by omega)]), a55.2.trans (w_rf.eq f3 f4)⟩
  obtain ⟨-, h⟩ := q_guard h
  obtain ⟨S62, e62, h⟩ := q_bindS h
  have a62 : w_fr S S62 ∧ w_rf S S62 := e62 ▸ ⟨w_fr.sI a58.1 (by decide), a58.2⟩
  obtain ⟨-, h⟩ := q_guard h
  obtain ⟨-, h⟩ := q_guard h
  obtain ⟨S67, e67, h⟩ := q_bindS h
  have a67 : w_fr S S67 ∧ w_rf S S67 := e67 ▸ ⟨w_fr.sI a62.1 (by decide), a62.2⟩
  exact ⟨a67.1.trans (w_fr97 hp h), a67.2.trans (w_rf.fx (fxX6_outcomeOf_97 h))⟩
theorem w_frRun {pp ps : Nat} {S : QS} {x : Int32} {r : Int32 × QS} (hp : q_pok pp) (h : fX10_run S pp ps x = some r) : w_fr S r.2 ∧ w_rf S r.2 := by
  unfold fX10_run at h
  by_cases c : S.2.1 0 11 = 0
  · rw [if_pos c] at h
    obtain rfl := Option.some.inj h
    exact ⟨w_fr.refl _, w_rf.refl _⟩
  · rw [if_neg c] at h
    by_cases c : x < 0
    · rw [if_pos c] at h
      obtain rfl := Option.some.inj h
      exact ⟨w_fr.refl _, w_rf.refl _⟩
    · rw [if_neg c] at h
      by_cases c : x ≤ 20000
      · rw [if_pos c] at h
        obtain ⟨r1, e1, h⟩ := q_bind h
        obtain rfl := Option.some.inj h
        exact w_frOut hp e1
      · rw [if_neg c] at h
        obtain rfl := Option.some.inj h
        exact ⟨w_fr.refl _, w_rf.refl _⟩
theorem w_run (pp ps q : Nat) (hp : z_pp pp) (hq : z_qq q) (x : Int32) : w_op pp q (fun S => fX10_run S pp ps x) (fun S => fX12_run S q x) := by
  intro C D h
  have h0 := h
  obtain ⟨⟨f, t, h1⟩, ⟨nt, B, h2⟩, ⟨ni, h3⟩, h4, h5, h6, h7, h8⟩ := h
  rcases h8 with ⟨a, b⟩ | ⟨a, b, n, g, K, M, P, m, hh, R, T, Cx, Dx, W, gC, gD⟩
  · refine ⟨(-1, C), (-1, D), ?_, ?_, rfl, h0, fun _ _ _ => rfl, fun _ _ _ => rfl, w_rf.refl _, w_rf.refl _⟩
    · show fX10_run C pp ps x = _
      rw [fX10_run, if_pos a]
    · show fX12_run D q x = _
      rw [fX12_run, if_pos b]
  · obtain ⟨r, r', e1, e2, e3, e4, ⟨ni', e5⟩, e6, e7⟩ := z_run (ps := ps) W gC gD h3 h6 a b x
    obtain ⟨fr, rf⟩ := w_frRun (show q_pok pp from hp) e1
    have rf' := w_rf.fx (fxX12_run e2)
    have fw := fwX12_run (show q_qok q from hq) e2
    have fD : ∀ o j, ¬ (o = 102 ∧ 35 ≤ j) → (o ≤ 171 ∨ o = 181) → r'.2.2.1 o j = D.2.1 o j := fun o j a b => (fw.1 o j (by
      simp [q_W, wlX12_run, q_hit, q_base]
      omega)).1
    have eC : ∀ o, o ≤ 88 → r.2.2.1 o = C.2.1 o := fun o ho => funext (fun j => fr o j (Or.inl ho))
    have eD : ∀ o, o ≠ 102 → o ≤ 171 → r'.2.2.1 o = D.2.1 o := fun o ho ho2 => funext (fun j => fD o j (by omega) (Or.inl ho2))
    refine ⟨r, r', e1, e2, e3, ⟨⟨f, t, ?_⟩, ⟨nt, B, ?_⟩, ⟨ni', e5⟩, ?_, ?_, e4, ?_, Or.inr ⟨?_, ?_, n, g, K, M, P, m, hh, R, T, Cx, Dx, W, e6, e7⟩⟩, fun o j ho => fr o j (Or.inr ho), fun o j ho => fD o j (by omega) (by omega), rf, rf'⟩
    · rw [w_F, eC 0 (by decide), eC 1 (by decide), fD 102 4 (by omega) (by omega), fD 102 5 (by omega) (by omega), eD 159 (by decide) (by decide)]; exact h1
    · rw [z_tx, eC 2 (by decide), eC 3 (by decide), fD 102 7 (by omega) (by omega), eD 160 (by decide) (by decide)]; exact h2
    · rw [h_cln, eC 83 (by decide), eC 81 (by decide)]; exact h4
    · rw [ty_cln, ty_by, eC 87 (by decide), eC 84 (by decide), eC 85 (by decide), eC 88 (by decide)]; exact h5
    · rw [eC 0 (by decide), fD 102 12 (by omega) (by omega)]; exact h7
    · rw [eC 0 (by decide)]; exact a
    · rw [fD 102 2 (by omega) (by omega)]; exact b
/-- a load keeps what it must -/
theorem w_loadJ {pp ps q qs n : Nat} {C D : QS} {r r' : Int32 × QS} (hp : z_pp pp) (hps : z_pp ps) (hq : z_qq q) (hqs : z_qq qs) (hne : pp ≠ ps) (hne2 : q ≠ qs) (J : w_J pp q C D) (L : l_R pp ps q qs n C D r r') : (∀ o j, 102 ≤ o → r.2.2.1 o j = C.2.1 o j) ∧ (∀ o j, o ≤ 101 → r'.2.2.1 o j = D.2.1 o j) ∧ (r.1 ≠ 0 → w_J pp q r.2 r'.2) ∧ (r.1 = 0 → w_J ps qs r.2 r'.2) := by
  have c1 : ∀ o j, ¬ (o = 0 ∧ (j = 11 ∨ j = 12)) → o ≠ 2 → ¬ (4 ≤ o ∧ o ≤ 6) → o ≠ 77 → ¬ (78 ≤ o ∧ o ≤ 88) → ¬ (ps ≤ o ∧ o ≤ ps + 34) → r.2.2.1 o j = C.2.1 o j := fun o j a b c d e f => (L.fC o j (by
    simp only [l_C, Bool.or_eq_false_iff, Bool.and_eq_false_iff, beq_eq_false_iff_ne, decide_eq_false_iff_not]
    omega) (by omega)).1
  have c2 : ∀ o j, ¬ (o = 102 ∧ (j = 2 ∨ j = 7 ∨ j = 10 ∨ j = 11 ∨ j = 12 ∨ j = 19 ∨ j = 23)) → ¬ (161 ≤ o ∧ o ≤ 171) → ¬ (qs ≤ o ∧ o ≤ qs + 27) → r'.2.2.1 o j = D.2.1 o j := fun o j a b c => (L.fD o j (by
    simp only [l_D, Bool.or_eq_false_iff, Bool.and_eq_false_iff, beq_eq_false_iff_ne, decide_eq_false_iff_not]
    omega) (by omega)).1
  have p1 : 7 ≤ ps ∧ ps ≤ 42 := by rcases hps with z | z <;> omega
  have q1 : 103 ≤ qs ∧ qs ≤ 131 := by rcases hqs with z | z <;> omega
  have eC : ∀ o, o = 1 ∨ o = 3 ∨ 89 ≤ o → r.2.2.1 o = C.2.1 o := fun o ho => funext (fun j => c1 o j (by omega) (by omega) (by omega) (by omega) (by omega) (by omega))
  have eD : ∀ o, (o = 159 ∨ o = 160 ∨ 172 ≤ o) → r'.2.2.1 o = D.2.1 o := fun o ho => funext (fun j => c2 o j (by omega) (by omega) (by omega))
  have dc : ∀ j, ¬ (j = 2 ∨ j = 7 ∨ j = 10 ∨ j = 11 ∨ j = 12 ∨ j = 19 ∨ j = 23) → r'.2.2.1 102 j = D.2.1 102 j := fun j hj => c2 102 j (by omega) (by omega) (by omega)
  have cc : ∀ j, ¬ (j = 11 ∨ j = 12) → r.2.2.1 0 j = C.2.1 0 j := fun j hj => c1 0 j (by omega) (by decide) (by decide) (by decide) (by decide) (by omega)
  obtain ⟨⟨f, t, h1⟩, ⟨n', B, h2⟩, ⟨ni, h3⟩, h4, h5, h6, h7, h8⟩ := J
  have k1 : w_F r.2 r'.2 f t := by
    rw [w_F, cc 1 (by decide), cc 2 (by decide), eC 1 (by decide), dc 4 (by decide), dc 5 (by decide), eD 159 (by decide)]; exact h1
  have k2 : z_tx r.2 r'.2 0 (fun _ => 0) := ⟨L.uC, L.uD, by decide, fun k hk => absurd hk (Nat.not_lt_zero _), fun k => (show q_byt 0 by constructor <;> decide)⟩
  have k3 : w_I r.2 r'.2 ni := by
    rw [w_I, eC 89 (by decide), eC 100 (by decide), dc 38 (by decide), eD 181 (by decide)]; exact h3
  have k6 : w_R r.2 r'.2 := by
    rw [w_R, eC 89 (by decide), eC 90 (by decide), eC 101 (by decide), eD 182 (by decide), dc 41 (by decide), dc 42 (by decide), dc 43 (by decide), dc 36 (by decide), dc 37 (by decide), dc 40 (by decide), dc 45 (by decide)]; exact h6
  refine ⟨fun o j ho => c1 o j (by omega) (by omega) (by omega) (by omega) (by omega) (by omega), fun o j ho => c2 o j (by omega) (by omega) (by omega), fun hr => ?_, fun hr => ?_⟩
  · refine ⟨⟨f, t, k1⟩, ⟨0, _, k2⟩, ⟨ni, k3⟩, L.hc, L.tc, k6, L.pl, ?_⟩
    rcases L.rs with ⟨-, -, -, x1, x2⟩ | ⟨x, -⟩
    · rw [x1, x2]
      rcases h8 with h8 | ⟨a, b, n, g, K, M, P, m, hh, R, T, Cx, Dx, W, gC, gD⟩
      · exact Or.inl h8
      · refine Or.inr ⟨a, b, n, g, K, M, P, m, hh, R, T, Cx, Dx, W, fun k hk => ?_, fun k hk => ?_⟩
        · rw [← gC k hk]
          funext j
          exact c1 _ j (by rcases hp with z | z <;> omega) (by rcases hp with z | z <;> omega) (by rcases hp with z | z <;> omega) (by rcases hp with z | z <;> omega) (by rcases hp with z | z <;> omega) (by rcases hp with z | z <;> rcases hps with z' | z' <;> omega)
        · rw [← gD k hk]
          funext j
          exact c2 _ j (by rcases hq with z | z <;> omega) (by rcases hq with z | z <;> omega) (by rcases hq with z | z <;> rcases hqs with z' | z' <;> omega)
    · exact absurd x hr
  · refine ⟨⟨f, t, k1⟩, ⟨0, _, k2⟩, ⟨ni, k3⟩, L.hc, L.tc, k6, L.pl, ?_⟩
    rcases L.rs with ⟨x, -⟩ | ⟨-, -, -, -, -, x1, x2, g, K, M, P, m, Cx, Dx, y1, y2, y3, y4, y5, y6, y7⟩
    · exact absurd hr x
    · obtain ⟨hh, R, T, W⟩ := r_W.of hps hqs y1 y2 y4 y5
      refine Or.inr ⟨x1, x2, n, g, K, M, P, m, hh, R, T, Cx, Dx, W, fun k hk => ?_, fun k hk => ?_⟩
      · funext j; exact y6 _ j (by omega) (by omega)
      · funext j; exact y7 _ j (by omega)
theorem q_WL_swp : ∀ x ∈ q_WL, ¬ (x.1 = 0 ∧ (x.2.1 = 9 ∨ x.2.1 = 10)) ∧ ¬ (x.1 = 102 ∧ (x.2.1 = 0 ∨ x.2.1 = 1)) ∧ z_ex x.1 x.2.1 = false := by decide +kernel
theorem w_load {pp ps q qs : Nat} {S : QS} (ok : q_okL S pp ps q qs = true) (hne : pp ≠ ps) (hne2 : q ≠ qs) (J : w_J pp q S S) : ∃ r r' pp' ps' q' qs', fX10_load S pp ps = some r ∧ q_okL r.2 pp' ps' q qs = true ∧ fX12_load r.2 q qs = some r' ∧ q_okL r'.2 pp' ps' q' qs' = true ∧ r.1 = r'.1 ∧ pp' ≠ ps' ∧ q' ≠ qs' ∧ w_J pp' q' r'.2 r'.2 := by
  have ok' := ok
  rw [q_okL_iff] at ok'
  obtain ⟨o1, o2, hp, hps, hq, hqs, ⟨o3, o4⟩, o5, o6⟩ := ok'
  have hp : z_pp pp := hp
  have hps : z_pp ps := hps
  have hq : z_qq q := hq
  have hqs : z_qq qs := hqs
  obtain ⟨-, ⟨n, B, tx⟩, -, hc, tc, -⟩ := id J
  obtain ⟨r, r0, a1, -, L0⟩ := z_load (q := q) hps hqs tx (q_okO_L ok) hc tc
  obtain ⟨f1, -⟩ := w_loadJ hp hps hq hqs hne hne2 J L0
  have J1 : w_J pp q S r.2 := J.cg hp hq (fun _ _ _ => rfl) f1
  have tx1 : z_tx S r.2 n B := by
    obtain ⟨t1, t2, t3, t4, t5⟩ := tx
    exact ⟨t1, by rw [f1 102 7 (by decide)]; exact t2, t3, fun k hk => ⟨(t4 k hk).1, by rw [f1 160 k (by decide)]; exact (t4 k hk).2⟩, t5⟩
  obtain ⟨r2, r', b1, b2, L⟩ := z_load (q := q) hps hqs tx1 (q_okO_L ok) hc tc
  rw [a1] at b1
  cases b1
  obtain ⟨g1, g2, g3, g4⟩ := w_loadJ hp hps hq hqs hne hne2 J1 L
  rcases L.rs with ⟨x1, x2, x3, -⟩ | ⟨x1, ⟨x2, x3⟩, ⟨x4, x5⟩, ⟨x6, x7⟩, ⟨x8, x9⟩, -⟩
  · have ok1 := q_okL_rf (w_rf.rx x2) ok
    exact ⟨r, r', pp, ps, q, qs, a1, ok1, b2, q_okL_rf (w_rf.rx x3) ok1, L.cd, hne, hne2, (g3 x1).cg hp hq g2 (fun _ _ _ => rfl)⟩
  · have ok1 : q_okL r.2 ps pp q qs = true := by
      rw [q_okL_iff]
      exact ⟨x2.trans o1, fun x hx => (x3 _ _ (q_WL_swp x hx).2.2 (q_WL_swp x hx).1).trans (o2 x hx), hps, hp, hq, hqs, ⟨x4, x5⟩, (x3 102 0 (by decide) (by decide)).trans o5, (x3 102 1 (by decide) (by decide)).trans o6⟩
    have ok2 : q_okL r'.2 ps pp qs q = true := by
      have ok1' := ok1
      rw [q_okL_iff] at ok1' ⊢
      obtain ⟨w1, w2, -, -, -, -, ⟨w3, w4⟩, -, -⟩ := ok1'
      exact ⟨x6.trans w1, fun x hx => (x7 _ _ (q_WL_swp x hx).2.2 (q_WL_swp x hx).2.1).trans (w2 x hx), hps, hp, hqs, hq, ⟨(x7 0 9 (by decide) (by decide)).trans w3, (x7 0 10 (by decide) (by decide)).trans w4⟩, x8, x9⟩
    exact ⟨r, r', ps, pp, qs, q, a1, ok1, b2, ok2, L.cd, fun z => hne z.symm, fun z => hne2 z.symm, (g4 x1).cg hps hqs g2 (fun _ _ _ => rfl)⟩
