/-! ===== bodies that replace one another ===== -/
section ZROOT
variable {C D : QS} {n p q : Nat} {g : ZT} {K : ZK} {M : ZM} {P : ZP}
theorem e_tt_word {t t' : Nat} {w : List Int32} (hG : z_G n g) (ht : t < g.1) (ht' : t' < g.1) (h : e_tt g t t' = true) : e_word g t w = e_word g t' w := by
  have g1 := hG.2.2.2 t ht
  have g2 := hG.2.2.2 t' ht'
  rw [e_word, e_word, k_word, k_word, decide_eq_true ht, decide_eq_true ht', k_same_txt h (by omega) (by omega)]
/-- a body and one that it replaces have the same head -/
theorem m_same {b r : Nat} (hG : z_G n g) (J : m_J p q n g K M C D) (hb : b < M.bc) (hr : r < M.bc) (hrb : r < b) (m1 : M.bm b = true) (m2 : M.bm r = true) (hk : k_hd g (M.bw b) (M.bw r) (M.rt b - 1) (M.bw b + 1) (M.rt b - 1 - M.bw b) = true) : M.ba r = M.ba b ∧ M.br r = M.br b ∧ ∀ k, 1 ≤ k → k < M.ba b → M.bp r k = M.bp b k := by
  obtain ⟨e, H⟩ := J.hd b hb
  obtain ⟨e', H'⟩ := J.hd r hr
  have hw := J.mP.2.1 r b hrb hb
  have p1 := H.pos
  have p2 := H'.pos
  have ert : M.rt b - 1 = e := by rw [H.rt]; omega
  rw [ert] at hk
  obtain ⟨d1, d2, d3, d4, d5, d6, d7, d8, d9, d10, d11, d12, d13, d14⟩ := H.hd
  obtain ⟨f1, f2, f3, f4, f5, f6, f7, f8, f9, f10, f11, f12, f13, f14⟩ := H'.hd
  obtain ⟨k1, k2⟩ := (k_hd_iff _ _).mp hk
  have tt : ∀ y, M.bw b < y → y ≤ e + 1 → e_tt g y (M.bw r + (y - M.bw b)) = true := by
    intro y y1 y2
    by_cases c : y = e + 1
    · rw [c]; exact k2
    · exact k1 y (by omega) (by omega)
  have mk : ∀ y, M.bw b < y → y ≤ e → e_mark g y 41 = e_mark g (M.bw r + (y - M.bw b)) 41 := by
    intro y y1 y2
    cases hm : e_mark g y 41 with
    | true =>
      have := e_tt_mark hG (m := 41) (by decide) (show y < g.1 by omega) (show M.bw r + (y - M.bw b) < g.1 by omega) hm
      rw [tt y y1 (by omega)] at this
      exact this
    | false =>
      cases hm2 : e_mark g (M.bw r + (y - M.bw b)) 41 with
      | false => rfl
      | true =>
        have := e_tt_mark hG (m := 41) (by decide) (show M.bw r + (y - M.bw b) < g.1 by omega) (show y < g.1 by omega) hm2
        rw [e_tt_symm, tt y y1 (by omega), hm] at this
        cases this
  have hee : e' = M.bw r + (e - M.bw b) := by
    have l1 : ¬ e' < M.bw r + (e - M.bw b) := by
      intro c
      have := mk (M.bw b + (e' - M.bw r)) (by omega) (by omega)
      rw [show M.bw r + (M.bw b + (e' - M.bw r) - M.bw b) = e' by omega, f6] at this
      by_cases c2 : M.bw b + (e' - M.bw r) = M.bw b - 1 + 2
      · omega
      · have := (d5 (M.bw b + (e' - M.bw r)) (by omega) (by omega)).2
        simp_all
    have l2 : ¬ M.bw r + (e - M.bw b) < e' := by
      intro c
      have := mk e (by omega) (by omega)
      rw [d6] at this
      have h2 := (f5 (M.bw r + (e - M.bw b)) (by omega) c).2
      rw [h2] at this
      cases this
    omega
  have n0b : m_n0 M b = 1 := by rw [m_n0, if_pos m1]
  have n0r : m_n0 M r = 1 := by rw [m_n0, if_pos m2]
  have hba : M.ba r = M.ba b := by rw [H.ba, H'.ba, n0b, n0r]; omega
  refine ⟨hba, ?_, fun k h1 h2 => ?_⟩
  · have x1 := H.br
    have x2 := H'.br
    have t1 := tt (e + 1) (by omega) (Nat.le_refl _)
    rw [show M.bw r + (e + 1 - M.bw b) = e' + 1 by omega] at t1
    have hw := e_tt_word (w := w_none) hG (show e + 1 < g.1 by omega) (show e' + 1 < g.1 by omega) t1
    have hy := k_ty_same (K := K) hG (show e + 1 < g.1 by omega) (show e' + 1 < g.1 by omega) t1
    rw [k_rs, hw, hy] at x1
    rw [k_rs] at x2
    have := x2.symm.trans x1
    exact Option.some.inj this
  · have hba2 := H.ba
    rw [n0b] at hba2
    rw [H.bp k h2, H'.bp k (by omega), k_pi, k_pi, n0b, n0r, if_neg (by omega), if_neg (by omega)]
    have t1 := tt (M.bw b + 2 + (k - 1)) (by omega) (by omega)
    rw [show M.bw r + (M.bw b + 2 + (k - 1) - M.bw b) = M.bw r + 2 + (k - 1) by omega] at t1
    rw [k_ty_same (K := K) hG (by omega) (by omega) t1]
/-- the root of a body -/
theorem m_root (hG : z_G n g) (J : m_J p q n g K M C D) : ∀ b, b < M.bc → M.bt b ≤ b ∧ M.ba (M.bt b) = M.ba b ∧ M.br (M.bt b) = M.br b ∧ (∀ k, 1 ≤ k → k < M.ba b → M.bp (M.bt b) k = M.bp b k) ∧ M.bm (M.bt b) = M.bm b ∧ (M.bm b = false → M.bt b = b) ∧ M.bt (M.bt b) = M.bt b ∧ e_at g (g.2.2.1 (M.bw b)) (g.2.2.2 (M.bw b)) (M.bw (M.bt b)) = true := by
  intro b
  induction b using Nat.strongRecOn with
  | _ b ih =>
    intro hb
    rcases J.ov b hb with ⟨h1, h2⟩ | ⟨r, h1, h2, h3, h4, h5, h6⟩
    · rw [h2]
      exact ⟨Nat.le_refl _, rfl, rfl, fun _ _ _ => rfl, rfl, fun _ => rfl, h2, k_same_refl⟩
    · obtain ⟨y1, y2, y3⟩ := k_lst_some _ h1
      obtain ⟨i1, i2, i3, i4, i5, i6, i7, i8⟩ := ih r y1 (by omega)
      obtain ⟨s1, s2, s3⟩ := m_same hG J hb (by omega) y1 h3 h4 h6
      rw [h2]
      refine ⟨by omega, i2.trans s1, i3.trans s2, fun k k1 k2 => (i4 k k1 (by omega)).trans (s3 k k1 k2), by rw [i5, h4, h3], (fun x => by rw [h3] at x; cases x), i7, ?_⟩
      rw [k_bP, Bool.and_eq_true] at y2
      rw [e_at] at i8 ⊢
      rw [k_same_trans (u' := g.2.2.1 (M.bw r)) (v' := g.2.2.2 (M.bw r)) y2.2]
      exact i8
end ZROOT
