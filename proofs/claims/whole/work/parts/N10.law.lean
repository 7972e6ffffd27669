/-! ===== the law: what stays between two calls ===== -/
def z_ey (o j : Nat) : Bool := z_ex o j || (o == 89 && (j == 0 || j == 1))
def w_rf (C C' : QS) : Prop := C'.1 = C.1 ∧ ∀ o j, z_ey o j = false → C'.2.2.2 o j = C.2.2.2 o j
theorem w_rf.rx {C C' : QS} (h : z_rx C C') : w_rf C C' := ⟨h.1, fun o j a => h.2 o j (by rw [z_ey, Bool.or_eq_false_iff] at a; exact a.1)⟩
theorem w_rf.eq {C C' : QS} (h1 : C'.1 = C.1) (h2 : C'.2.2 = C.2.2) : w_rf C C' := ⟨h1, fun o j _ => by rw [h2]⟩
theorem w_rf.trans {C C' C'' : QS} (h : w_rf C C') (h' : w_rf C' C'') : w_rf C C'' := ⟨h'.1.trans h.1, fun o j a => (h'.2 o j a).trans (h.2 o j a)⟩
theorem q_WL_ey : ∀ x ∈ q_WL, z_ey x.1 x.2.1 = false := by decide +kernel
theorem q_okL_iff {S : QS} {pp ps q qs : Nat} : q_okL S pp ps q qs = true ↔ (S.1 = q_SH ∧ (∀ x ∈ q_WL, S.2.2.2 x.1 x.2.1 = x.2.2) ∧ (pp = 7 ∨ pp = 42) ∧ (ps = 7 ∨ ps = 42) ∧ (q = 103 ∨ q = 131) ∧ (qs = 103 ∨ qs = 131) ∧ (S.2.2.2 0 9 = pp ∧ S.2.2.2 0 10 = ps) ∧ S.2.2.2 102 0 = q ∧ S.2.2.2 102 1 = qs) := by
  rw [q_okL, decide_eq_true_eq]
theorem q_okL_rf {S S' : QS} {pp ps q qs : Nat} (h : w_rf S S') (ok : q_okL S pp ps q qs = true) : q_okL S' pp ps q qs = true := by
  rw [q_okL_iff] at ok ⊢
  obtain ⟨a, b, c1, c2, c3, c4, d, e, f⟩ := ok
  refine ⟨h.1.trans a, fun x hx => (h.2 _ _ (q_WL_ey x hx)).trans (b x hx), c1, c2, c3, c4, ⟨(h.2 0 9 (by decide)).trans d.1, (h.2 0 10 (by decide)).trans d.2⟩, (h.2 102 0 (by decide)).trans e, (h.2 102 1 (by decide)).trans f⟩
theorem q_okO_L {S : QS} {pp ps q qs : Nat} (ok : q_okL S pp ps q qs = true) : q_okO S pp ps = true := by
  rw [q_okL_iff] at ok
  rw [q_okO, decide_eq_true_eq]
  exact ⟨ok.1, ok.2.1, ok.2.2.2.2.2.2.1⟩
/-- both sides, between two calls -/
def w_J (pp q : Nat) (C D : QS) : Prop := (∃ f t, w_F C D f t) ∧ (∃ n B, z_tx C D n B) ∧ (∃ ni, w_I C D ni) ∧ h_cln C ∧ ty_cln C ∧ w_R C D ∧ C.2.1 0 12 = D.2.1 102 12 ∧ ((C.2.1 0 11 = 0 ∧ D.2.1 102 2 = 0) ∨ (C.2.1 0 11 = 1 ∧ D.2.1 102 2 = 1 ∧ ∃ n g K M P m hh R T Cx Dx, r_W pp q n g K M P m hh R T Cx Dx ∧ r_gC pp Cx C ∧ r_gD q Dx D))
theorem w_J.cg {pp q : Nat} {C D C' D' : QS} (hp : z_pp pp) (hq : z_qq q) (h : w_J pp q C D) (fC : ∀ o j, o ≤ 101 → C'.2.1 o j = C.2.1 o j) (fD : ∀ o j, 102 ≤ o → D'.2.1 o j = D.2.1 o j) : w_J pp q C' D' := by
  have eC : ∀ o, o ≤ 101 → C'.2.1 o = C.2.1 o := fun o ho => funext (fun j => fC o j ho)
  have eD : ∀ o, 102 ≤ o → D'.2.1 o = D.2.1 o := fun o ho => funext (fun j => fD o j ho)
  obtain ⟨⟨f, t, h1⟩, ⟨n, B, h2⟩, ⟨ni, h3⟩, h4, h5, h6, h7, h8⟩ := h
  refine ⟨⟨f, t, ?_⟩, ⟨n, B, ?_⟩, ⟨ni, ?_⟩, ?_, ?_, ?_, ?_, ?_⟩
  · rw [w_F, eC 0 (by decide), eC 1 (by decide), eD 102 (by decide), eD 159 (by decide)]; exact h1
  · rw [z_tx, eC 2 (by decide), eC 3 (by decide), eD 102 (by decide), eD 160 (by decide)]; exact h2
  · rw [w_I, eC 89 (by decide), eC 100 (by decide), eD 102 (by decide), eD 181 (by decide)]; exact h3
  · rw [h_cln, eC 83 (by decide), eC 81 (by decide)]; exact h4
  · rw [ty_cln, ty_by, eC 87 (by decide), eC 84 (by decide), eC 85 (by decide), eC 88 (by decide)]; exact h5
  · rw [w_R, eC 89 (by decide), eC 90 (by decide), eC 101 (by decide), eD 102 (by decide), eD 182 (by decide)]; exact h6
  · rw [eC 0 (by decide), eD 102 (by decide)]; exact h7
  · rw [eC 0 (by decide), eD 102 (by decide)]
    rcases h8 with h8 | ⟨a, b, n, g, K, M, P, m, hh, R, T, Cx, Dx, W, gC, gD⟩
    · exact Or.inl h8
    · exact Or.inr ⟨a, b, n, g, K, M, P, m, hh, R, T, Cx, Dx, W, gC.of hp (fun o j ho => fC o j (by omega)), gD.of hq (fun o j ho _ => fD o j (by omega))⟩
def w_op {α : Type} (pp q : Nat) (f g : QS → Option (α × QS)) : Prop := ∀ C D, w_J pp q C D → ∃ r r', f C = some r ∧ g D = some r' ∧ r.1 = r'.1 ∧ w_J pp q r.2 r'.2 ∧ (∀ o j, 102 ≤ o → r.2.2.1 o j = C.2.1 o j) ∧ (∀ o j, o ≤ 101 → r'.2.2.1 o j = D.2.1 o j) ∧ w_rf C r.2 ∧ w_rf D r'.2
theorem w_two {α : Type} {pp q : Nat} {f g : QS → Option (α × QS)} {S : QS} (hp : z_pp pp) (hq : z_qq q) (h : w_op pp q f g) (J : w_J pp q S S) : ∃ r r', f S = some r ∧ g r.2 = some r' ∧ r.1 = r'.1 ∧ w_J pp q r'.2 r'.2 ∧ w_rf S r.2 ∧ w_rf r.2 r'.2 := by
  obtain ⟨r, -, a1, -, -, -, a5, -, a7, -⟩ := h S S J
  obtain ⟨r2, r', b1, b2, b3, b4, b5, b6, b7, b8⟩ := h S r.2 (J.cg hp hq (fun _ _ _ => rfl) a5)
  rw [a1] at b1
  cases b1
  exact ⟨r, r', a1, b2, b3, b4.cg hp hq b6 (fun _ _ _ => rfl), b7, b8⟩
theorem w_feed (pp q : Nat) (hp : z_pp pp) (hq : z_qq q) (x1 x2 x3 x4 x5 : Int32) : w_op pp q (fun S => fX10_feed S x1 x2 x3 x4 x5) (fun S => fX12_feed S x1 x2 x3 x4 x5) := by
  intro C D h
  obtain ⟨⟨f, t, h1⟩, ⟨n, B, h2⟩, ⟨ni, h3⟩, h4, h5, h6, h7, h8⟩ := h
  obtain ⟨r, r', f', t', a1, a2, a3, a4, a5, a6, a7, a8, a9, a10⟩ := z_feed h1 x1 x2 x3 x4 x5
  have eC : ∀ o, 2 ≤ o → r.2.2.1 o = C.2.1 o := fun o ho => funext (fun j => a5 o j (by omega) (by omega))
  have eD : ∀ o, o ≠ 102 → o ≠ 159 → r'.2.2.1 o = D.2.1 o := fun o ho ho2 => funext (fun j => a8 o j (by omega) ho2)
  refine ⟨r, r', a1, a2, a3, ⟨⟨f', t', a4⟩, ⟨n, B, ?_⟩, ⟨ni, ?_⟩, ?_, ?_, ?_, ?_, ?_⟩, fun o j ho => a5 o j (by omega) (by omega), fun o j ho => a8 o j (by omega) (by omega), w_rf.eq a6 a7, w_rf.eq a9 a10⟩
  · rw [z_tx, eC 2 (by decide), eC 3 (by decide), eD 160 (by decide) (by decide), a8 102 7 (by omega) (by decide)]; exact h2
  · rw [w_I, eC 89 (by decide), eC 100 (by decide), eD 181 (by decide) (by decide), a8 102 38 (by omega) (by decide)]; exact h3
  · rw [h_cln, eC 83 (by decide), eC 81 (by decide)]; exact h4
  · rw [ty_cln, ty_by, eC 87 (by decide), eC 84 (by decide), eC 85 (by decide), eC 88 (by decide)]; exact h5
  · rw [w_R, eC 89 (by decide), eC 90 (by decide), eC 101 (by decide), eD 182 (by decide) (by decide), a8 102 41 (by omega) (by decide), a8 102 42 (by omega) (by decide), a8 102 43 (by omega) (by decide), a8 102 36 (by omega) (by decide), a8 102 37 (by omega) (by decide), a8 102 40 (by omega) (by decide), a8 102 45 (by omega) (by decide)]; exact h6
  · rw [a5 0 12 (by omega) (by decide), a8 102 12 (by omega) (by decide)]; exact h7
  · rw [a5 0 11 (by omega) (by decide), a8 102 2 (by omega) (by decide)]
    rcases h8 with h8 | ⟨a, b, n, g, K, M, P, m, hh, R, T, Cx, Dx, W, gC, gD⟩
    · exact Or.inl h8
    · exact Or.inr ⟨a, b, n, g, K, M, P, m, hh, R, T, Cx, Dx, W, fun k hk => by rw [eC _ (by rcases hp with z | z <;> omega)]; exact gC k hk, fun k hk => by rw [eD _ (by rcases hq with z | z <;> omega) (by rcases hq with z | z <;> omega)]; exact gD k hk⟩
theorem w_input (pp q : Nat) (hp : z_pp pp) (hq : z_qq q) (x1 : Int32) : w_op pp q (fun S => fX10_input S x1) (fun S => fX12_input S x1) := by
  intro C D h
  obtain ⟨⟨f, t, h1⟩, ⟨n, B, h2⟩, ⟨ni, h3⟩, h4, h5, h6, h7, h8⟩ := h
  obtain ⟨r, r', i', a1, a2, a3, a4, a5, a6, a7, a8, a9, a10⟩ := z_input h3 x1
  have eC : ∀ o, o ≠ 89 → o ≠ 100 → r.2.2.1 o = C.2.1 o := fun o ho ho2 => funext (fun j => a5 o j (by omega) ho2)
  have eD : ∀ o, o ≠ 102 → o ≠ 181 → r'.2.2.1 o = D.2.1 o := fun o ho ho2 => funext (fun j => a8 o j (by omega) ho2)
  have d : ∀ j, j ≠ 38 → r'.2.2.1 102 j = D.2.1 102 j := fun j hj => a8 102 j (by omega) (by decide)
  have c : ∀ j, j ≠ 11 → r.2.2.1 89 j = C.2.1 89 j := fun j hj => a5 89 j (by omega) (by decide)
  refine ⟨r, r', a1, a2, a3, ⟨⟨f, t, ?_⟩, ⟨n, B, ?_⟩, ⟨i', a4⟩, ?_, ?_, ?_, ?_, ?_⟩, fun o j ho => a5 o j (by omega) (by omega), fun o j ho => a8 o j (by omega) (by omega), w_rf.eq a6 a7, w_rf.eq a9 a10⟩
  · rw [w_F, eC 0 (by decide) (by decide), eC 1 (by decide) (by decide), d 4 (by decide), d 5 (by decide), eD 159 (by decide) (by decide)]; exact h1
  · rw [z_tx, eC 2 (by decide) (by decide), eC 3 (by decide) (by decide), eD 160 (by decide) (by decide), d 7 (by decide)]; exact h2
  · rw [h_cln, eC 83 (by decide) (by decide), eC 81 (by decide) (by decide)]; exact h4
  · rw [ty_cln, ty_by, eC 87 (by decide) (by decide), eC 84 (by decide) (by decide), eC 85 (by decide) (by decide), eC 88 (by decide) (by decide)]; exact h5
  · rw [w_R, c 15 (by decide), c 16 (by decide), c 17 (by decide), c 14 (by decide), c 18 (by decide), eC 90 (by decide) (by decide), eC 101 (by decide) (by decide), eD 182 (by decide) (by decide), d 41 (by decide), d 42 (by decide), d 43 (by decide), d 36 (by decide), d 37 (by decide), d 40 (by decide), d 45 (by decide)]; exact h6
  · rw [eC 0 (by decide) (by decide), d 12 (by decide)]; exact h7
  · rw [eC 0 (by decide) (by decide), d 2 (by decide)]
    rcases h8 with h8 | ⟨a, b, n, g, K, M, P, m, hh, R, T, Cx, Dx, W, gC, gD⟩
    · exact Or.inl h8
    · exact Or.inr ⟨a, b, n, g, K, M, P, m, hh, R, T, Cx, Dx, W, fun k hk => by rw [eC _ (by rcases hp with z | z <;> omega) (by rcases hp with z | z <;> omega)]; exact gC k hk, fun k hk => by rw [eD _ (by rcases hq with z | z <;> omega) (by rcases hq with z | z <;> omega)]; exact gD k hk⟩
theorem w_end (pp q : Nat) (hp : z_pp pp) (hq : z_qq q) (x1 : Int32) : w_op pp q (fun S => fX10_end S x1) (fun S => fX12_end S x1) := by
  intro C D h
  have h0 := h
  obtain ⟨⟨f, t, h1⟩, ⟨n, B, h2⟩, ⟨ni, h3⟩, h4, h5, h6, h7, h8⟩ := h
  obtain ⟨r, r', a1, a2, a3, a4⟩ := z_end h1 x1
  rcases a4 with ⟨a4, a5⟩ | ⟨k, B', b1, b2, a5, a6, a7, a8, a9, a10⟩
  · refine ⟨r, r', a1, a2, a3, ?_, fun o j _ => by rw [a4], fun o j _ => by rw [a5], by rw [a4]; exact w_rf.eq rfl rfl, by rw [a5]; exact w_rf.eq rfl rfl⟩
    rw [a4, a5]; exact h0
  · have eC : ∀ o, 4 ≤ o → r.2.2.1 o = C.2.1 o := fun o ho => funext (fun j => a5 o j (by omega) (by omega) (by omega))
    have eD : ∀ o, o ≠ 102 → o ≠ 160 → r'.2.2.1 o = D.2.1 o := fun o ho ho2 => funext (fun j => a8 o j (by omega) ho2)
    have d : ∀ j, j ≠ 4 → j ≠ 7 → r'.2.2.1 102 j = D.2.1 102 j := fun j hj hj2 => a8 102 j (by omega) (by decide)
    refine ⟨r, r', a1, a2, a3, ⟨⟨0, t, b2⟩, ⟨k, B', b1⟩, ⟨ni, ?_⟩, ?_, ?_, ?_, ?_, ?_⟩, fun o j ho => a5 o j (by omega) (by omega) (by omega), fun o j ho => a8 o j (by omega) (by omega), w_rf.eq a6 a7, w_rf.eq a9 a10⟩
    · rw [w_I, eC 89 (by decide), eC 100 (by decide), eD 181 (by decide) (by decide), d 38 (by decide) (by decide)]; exact h3
    · rw [h_cln, eC 83 (by decide), eC 81 (by decide)]; exact h4
    · rw [ty_cln, ty_by, eC 87 (by decide), eC 84 (by decide), eC 85 (by decide), eC 88 (by decide)]; exact h5
    · rw [w_R, eC 89 (by decide), eC 90 (by decide), eC 101 (by decide), eD 182 (by decide) (by decide), d 41 (by decide) (by decide), d 42 (by decide) (by decide), d 43 (by decide) (by decide), d 36 (by decide) (by decide), d 37 (by decide) (by decide), d 40 (by decide) (by decide), d 45 (by decide) (by decide)]; exact h6
    · rw [a5 0 12 (by omega) (by omega) (by decide), d 12 (by decide) (by decide)]; exact h7
    · rw [a5 0 11 (by omega) (by omega) (by decide), d 2 (by decide) (by decide)]
      rcases h8 with h8 | ⟨a, b, n, g, K, M, P, m, hh, R, T, Cx, Dx, W, gC, gD⟩
      · exact Or.inl h8
      · exact Or.inr ⟨a, b, n, g, K, M, P, m, hh, R, T, Cx, Dx, W, fun k hk => by rw [eC _ (by rcases hp with z | z <;> omega)]; exact gC k hk, fun k hk => by rw [eD _ (by rcases hq with z | z <;> omega) (by rcases hq with z | z <;> omega)]; exact gD k hk⟩
