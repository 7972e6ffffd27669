/-! ===== types: both sides, one body ===== -/
section ZTY
variable {C D : QS} {n p q m b : Nat} {g : ZT} {K : ZK} {M : ZM} {P : ZP} {hh : Nat → Int32} {R : Nat → Bool} {T : Nat → Nat → Nat}
def rt_g (q F E : Nat) (D D' : QS) : Prop := (∀ y j, ¬ (y = 102 ∧ (j = 12 ∨ j = 23)) → y ≠ 171 → ¬ (y = q + 26 ∧ F * 20 ≤ j ∧ j < E * 20) → ¬ (y = q + 27 ∧ F ≤ j ∧ j < E) → D'.2.1 y j = D.2.1 y j) ∧ D'.1 = D.1 ∧ D'.2.2 = D.2.2
theorem z_tyEnd (hp : z_pp p) (hq : z_qq q) (hG : z_G n g) (hK : k_K g K) (ok : h_ok M P b hh) (hb : b < M.bc) {W : Nat → Bool} {s : Bool} (I : ty_I p q n g K M P m b hh D C R T W s) : ∀ d i D', i + d = P.en b → P.fi b ≤ i → rt_I p q n g K M P m b hh C D' R T → (∀ j, P.fi b ≤ j → j < i → R j = true → k_ft K M P hh j (T j)) → ∃ x x' D'', q_run (tX9_firstFault_119 p (nI (P.en b))) (nI i, C) = some (x, C) ∧ q_run (tX12_types_168 q (nI b)) (nI i, D') = some (x', D'') ∧ rt_g q (P.fi b) (P.en b) D' D'' ∧ ((∃ j, P.fi b ≤ j ∧ j < P.en b ∧ x = nI j ∧ x' = false ∧ D''.2.1 102 12 = nI (P.tk j)) ∨ (x = -1 ∧ x' = true ∧ D''.2.1 102 12 = D'.2.1 102 12 ∧ rt_S q D'' hh (P.fi b) (P.en b) R T ∧ ∀ j, P.fi b ≤ j → j < P.en b → R j = true → k_ft K M P hh j (T j))) := by
  have B := I.N.B b hb
  have hle := B.le
  have bn := I.N.S.bn
  have h48 := I.N.S.mJ.mB.1
  have ib := z_inbN (show b < 48 by omega) (by decide)
  have cb := z_cl (show b < 2147483648 by omega)
  intro d
  induction d with
  | zero =>
    intro i D' hi hF J hall
    have g1 : nI (P.en b) ≤ nI i := by rw [z_leN (by omega) (by omega)]; omega
    have B' := J.N.B b hb
    refine ⟨-1, true, D', q_run_ret ?_, q_run_ret ?_, ⟨fun _ _ _ _ _ _ => rfl, rfl, rfl⟩, Or.inr ⟨rfl, rfl, rfl, J.S, fun j a c => hall j a (by omega)⟩⟩
    · simp only [tX9_firstFault_119, if_pos g1]
    · simp only [tX12_types_168, ib, if_true, cb, B'.D2, if_pos g1]
  | succ d ih =>
    intro i D' hi hF J hall
    have g1 : ¬ nI (P.en b) ≤ nI i := by rw [z_leN (by omega) (by omega)]; omega
    have B' := J.N.B b hb
    have hiE : i < P.en b := by omega
    have hin : i < P.n := by omega
    have i1 := z_inbN (show i < 1024 by omega) (by decide)
    have c1 := z_cl (show i < 2147483648 by omega)
    obtain ⟨u1, u2, u3⟩ := I.S.1 i hF hiE
    have w1 := (J.S i hF hiE).1
    cases hR : R i with
    | false =>
      have z0 : q_b false = 0 := rfl
      have st : tX9_firstFault_119 p (nI (P.en b)) (nI i, C) = some (.inr (nI (i + 1), C)) := by
        simp only [tX9_firstFault_119, if_neg g1, i1, if_true, c1, u1, hR, z0, nI_1]
      have st' : tX12_types_168 q (nI b) (nI i, D') = some (.inr (nI (i + 1), D')) := by
        simp only [tX12_types_168, ib, if_true, cb, B'.D2, if_neg g1, i1, c1, w1, hR, z0, nI_1]
      rw [q_run_go st, q_run_go st']
      refine ih (i + 1) D' (by omega) (by omega) J (fun j a c h => ?_)
      by_cases e : j = i
      · subst e; rw [hR] at h; cases h
      · exact hall j a (by omega) h
    | true =>
      obtain ⟨hH, hv⟩ := I.v i hF hiE hR
      have n1 : ¬ q_b true = 0 := by decide
      obtain ⟨x, r1, r2⟩ := z_isRight hG hK I.N hin ((I.hc i hF hiE).trans hH.2.1) hH (u3 hR) hv
      obtain ⟨D1, J1, f1, x', s1, s2⟩ := z_fits12 hp hq hK ok hb J hF hiE hR
      have hx : x' = x := by
        cases hx : x with
        | true => exact s2.mpr (r2.mp hx)
        | false =>
          cases hx' : x' with
          | false => rfl
          | true => rw [r2.mpr (s2.mp hx')] at hx; cases hx
      subst hx
      cases hxx : x' with
      | true =>
        rw [hxx] at r1 s1
        have st : tX9_firstFault_119 p (nI (P.en b)) (nI i, C) = some (.inr (nI (i + 1), C)) := by
          simp only [tX9_firstFault_119, if_neg g1, i1, if_true, c1, u1, hR, if_neg n1, r1, Option.bind_some, nI_1]
        have st' : tX12_types_168 q (nI b) (nI i, D') = some (.inr (nI (i + 1), D1)) := by
          simp only [tX12_types_168, ib, if_true, cb, B'.D2, if_neg g1, i1, c1, w1, hR, if_neg n1, s1, Option.bind_some, nI_1]
        rw [q_run_go st, q_run_go st']
        obtain ⟨y, y', D2, z1, z2, z3, z4⟩ := ih (i + 1) D1 (by omega) (by omega) J1 (fun j a c h => by
          by_cases e : j = i
          · subst e; exact r2.mp hxx
          · exact hall j a (by omega) h)
        refine ⟨y, y', D2, z1, z2, ⟨fun y j a c d e => (z3.1 y j a c d e).trans (f1.1 y j (by omega) c d e), z3.2.1.trans f1.2.1, z3.2.2.trans f1.2.2⟩, ?_⟩
        rcases z4 with h | ⟨a1, a2, a3, a5, a4⟩
        · exact Or.inl h
        · exact Or.inr ⟨a1, a2, a3.trans (f1.1 _ _ (by omega) (by omega) (by rcases hq with rfl | rfl <;> omega) (by rcases hq with rfl | rfl <;> omega)), a5, a4⟩
      | false =>
        rw [hxx] at r1 s1
        refine ⟨nI i, false, q_sI D1 102 12 (nI (P.tk i)), q_run_ret ?_, q_run_ret ?_, ⟨fun y j a c d e => ?_, f1.2.1, f1.2.2⟩, Or.inl ⟨i, hF, hiE, rfl, rfl, ?_⟩⟩
        · simp only [tX9_firstFault_119, if_neg g1, i1, if_true, c1, u1, hR, if_neg n1, r1, Option.bind_some, Bool.false_eq_true, if_false]
        · simp only [tX12_types_168, ib, if_true, cb, B'.D2, if_neg g1, i1, c1, w1, hR, if_neg n1, s1, Option.bind_some, Bool.false_eq_true, if_false, fX12_wrong, (J1.N.S.iD i hin).2.2.2.1]
        · rw [q_sI_I, if_neg (by omega)]; exact f1.1 y j (by omega) c d e
        · rw [q_sI_I, if_pos ⟨rfl, rfl⟩]
/-- the types of a body -/
theorem z_types (hp : z_pp p) (hq : z_qq q) (hG : z_G n g) (hK : k_K g K) (ok : h_ok M P b hh) (N : s_N p q n g K M P m C D) (hb : b < M.bc) (hc : ∀ i, P.fi b ≤ i → i < P.en b → C.2.1 (p + 17) i = hh i) (hd : ∀ i, P.fi b ≤ i → i < P.en b → D.2.1 (q + 19) i = hh i) (cl : ty_cln C) : ∃ r r', fX9_firstFault C p (nI b) = some r ∧ fX12_types D q (nI b) = some r' ∧ ty_cln r.2 ∧ ty_f (P.fi b) (P.en b) C r.2 ∧ rt_g q (P.fi b) (P.en b) D r'.2 ∧ ((∃ j, P.fi b ≤ j ∧ j < P.en b ∧ r.1 = nI j ∧ r'.1 = false ∧ r'.2.2.1 102 12 = nI (P.tk j)) ∨ (r.1 = -1 ∧ r'.1 = true ∧ r'.2.2.1 102 12 = D.2.1 102 12 ∧ ∃ R T, ty_cld K M P hh b R T ∧ rt_S q r'.2 hh (P.fi b) (P.en b) R T ∧ ∀ j, P.fi b ≤ j → j < P.en b → R j = true → k_ft K M P hh j (T j))) := by
  have B := N.B b hb
  have hle := B.le
  have hlt := B.lt
  have bn := N.S.bn
  obtain ⟨C1, R, T, a1, a2, a3, a4⟩ := z_tyCls hp hq hG hK ok N hb hc cl
  have N1 := N.tf hp hq a4
  obtain ⟨D1, R', T', b1, b2, b3, b4⟩ := z_rtRef hp hq hK ok N1 hb hd
  have uq := fun i h1 h2 => ty_uniq a3 a2.sd b3 b2.sd (i := i) h1 h2
  have J : rt_I p q n g K M P m b hh C1 D1 R T := by
    refine ⟨b2.N, b2.hc, fun i h1 h2 => ?_, a2.sd, a2.v⟩
    obtain ⟨x1, x2⟩ := b2.S i h1 h2
    obtain ⟨u1, u2⟩ := uq i h1 h2
    rw [u1] at x1 x2
    exact ⟨x1, fun h s hs => by rw [x2 h s hs, u2 h s hs]⟩
  obtain ⟨x, x', D2, z1, z2, z3, z4⟩ := z_tyEnd hp hq hG hK ok hb a2 (P.en b - P.fi b) (P.fi b) D1 (by omega) (Nat.le_refl _) J (fun j a c => by omega)
  refine ⟨(x, C1), (x', D2), a1.trans z1, b1.trans z2, ⟨fun i hi => ?_, a2.S.2.1, a2.S.2.2⟩, a4, ⟨fun y j a c d e => (z3.1 y j a c d e).trans (b4.1 y j (by omega) c d e), z3.2.1.trans b4.2.1, z3.2.2.trans b4.2.2⟩, ?_⟩
  · by_cases c : P.fi b ≤ i ∧ i < P.en b
    · exact (a2.S.1 i c.1 c.2).2.1
    · exact (a4.1 _ _ (by decide) (by decide) (by decide) (by omega) (by omega)).trans (cl.1 i hi)
  · rcases z4 with h | ⟨h1, h2, h3, h5, h4⟩
    · exact Or.inl h
    · exact Or.inr ⟨h1, h2, h3.trans (b4.1 _ _ (by decide) (by decide) (by rcases hq with rfl | rfl <;> omega) (by rcases hq with rfl | rfl <;> omega)), R, T, a3, h5, h4⟩
end ZTY
