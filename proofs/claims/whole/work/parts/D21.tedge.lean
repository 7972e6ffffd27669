/-! ===== types: along the edges ===== -/
section ZTE
variable {C D : QS} {n p q m b : Nat} {g : ZT} {K : ZK} {M : ZM} {P : ZP} {hh : Nat → Int32} {R : Nat → Bool} {T : Nat → Nat → Nat}
theorem k_hN_of {i h : Nat} (e : hh i = nI h) (hh8 : h ≤ 8) : k_hN hh i = h := by rw [k_hN, e, z_cl (by omega)]
theorem h_ok.h8 {i : Nat} (ok : h_ok M P b hh) (h1 : P.fi b ≤ i) (h2 : i < P.en b) : k_hN hh i ≤ 8 := by
  rcases ok.2 i h1 h2 with e | ⟨h, h8, e, -⟩
  · rw [k_hN, e]; decide
  · rw [k_hN_of e h8]; exact h8
theorem h_ok.hi {i x : Nat} (ok : h_ok M P b hh) (h1 : P.fi b ≤ i) (h2 : i < P.en b) (e : hh i = nI x) (hx : x ≤ 8) : k_hi M P hh i := by
  rcases ok.2 i h1 h2 with e' | ⟨h, h8, e', a, c, -⟩
  · rw [e] at e'
    rw [z_m1N (by omega)] at e'
    exact e'.elim
  · have := k_hN_of e' h8
    exact ⟨by omega, by rw [e', this], by omega, by omega⟩
theorem h_ok.at {i : Nat} (ok : h_ok M P b hh) (h1 : P.fi b ≤ i) (h2 : i < P.en b) (hH : k_hi M P hh i) : (k_nx (P.op i) = true → hh (i + 1) = nI (k_hN hh i - k_tk M P i + k_lv M P i)) ∧ (k_lb (P.op i) = true → hh (k_tg P i) = nI (k_hN hh i - k_tk M P i + k_lv M P i)) ∧ ∀ k, k < P.nc → k_cov P k i = true → hh (P.ca k) = nI 1 := by
  obtain ⟨a1, a2, -⟩ := hH
  rcases ok.2 i h1 h2 with e' | ⟨h, h8, e', a, c, d⟩
  · rw [e'] at a2
    have := z_m1N (show k_hN hh i < 2147483648 by omega)
    rw [← a2] at this
    exact (this ▸ rfl : False).elim
  · rw [k_hN_of e' h8]
    exact d
/-- edges to where the row behind an instruction goes -/
theorem ty_e_to {i j : Nat} {r : Nat → Nat} (hK : k_K g K) (N : s_N p q n g K M P m C D) (ok : h_ok M P b hh) (hb : b < M.bc) (h1 : P.fi b ≤ i) (h2 : i < P.en b) (hs : ty_snd K M P hh b R T) (hv : ty_v K M P hh b R T) (hR : R i = true) (ht : k_tr M P hh i (T i) = some r) (hj : (k_nx (P.op i) = true ∧ j = i + 1) ∨ (k_lb (P.op i) = true ∧ j = k_tg P i)) : P.fi b ≤ j ∧ j < P.en b ∧ k_hi M P hh j ∧ k_wd hh j = k_w' M P hh i ∧ k_rvt K (k_wd hh j) r ∧ ∀ R' T', ty_cld K M P hh b R' T' → R' j = true ∧ k_rle K (k_wd hh j) r (T' j) := by
  have B := N.B b hb
  have hle := B.le
  obtain ⟨hH, hvi⟩ := hv i h1 h2 hR
  obtain ⟨e1, e2, -⟩ := ok.at h1 h2 hH
  obtain ⟨a1, a2, a3, a4⟩ := hH
  have hw : k_wd hh i = 12 + k_hN hh i := rfl
  have hw' : k_w' M P hh i = k_wd hh i - k_tk M P i + k_lv M P i := rfl
  obtain ⟨j1, j2, ej⟩ : P.fi b ≤ j ∧ j < P.en b ∧ hh j = nI (k_hN hh i - k_tk M P i + k_lv M P i) := by
    rcases hj with ⟨c, rfl⟩ | ⟨c, rfl⟩
    · exact ⟨by omega, k_nx_in B h2 c, e1 c⟩
    · obtain ⟨t1, t2, -⟩ := k_lb_in N hb h1 h2 c
      exact ⟨t1, t2, e2 c⟩
  have hj8 := k_hN_of ej (by omega)
  have hwj : k_wd hh j = k_w' M P hh i := by rw [k_wd, hj8]; omega
  refine ⟨j1, j2, ok.hi j1 j2 ej (by omega), hwj, by rw [hwj]; exact k_tr_vt hK N (by omega) ⟨a1, a2, a3, a4⟩ hvi ht, fun R' T' hc => ?_⟩
  obtain ⟨x1, x2⟩ := hs R' T' hc i h1 h2 hR
  obtain ⟨-, x3⟩ := hc.2.1 i h1 h2 x1
  obtain ⟨q2, x4, x5⟩ := k_tr_mono hK N (show i < P.n by omega) ⟨a1, a2, a3, a4⟩ x3 x2 ht
  have x6 := (hc.2.2 i h1 h2 x1).1 q2 x4
  rcases hj with ⟨c, rfl⟩ | ⟨c, rfl⟩
  · obtain ⟨y1, y2⟩ := x6.1 c
    exact ⟨y1, k_rle.trans hK (by rw [hwj]; exact x5) y2⟩
  · obtain ⟨y1, y2⟩ := x6.2 c
    exact ⟨y1, k_rle.trans hK (by rw [hwj]; exact x5) y2⟩
theorem k_up_le {w x : Nat} {r r' : Nat → Nat} (h : k_rle K w r r') (hw : 12 ≤ w) : k_rle K 13 (k_up r 12 x) (k_up r' 12 x) := by
  intro s hs
  by_cases e : s = 12
  · subst e; rw [k_up_eq, k_up_eq]; exact k_blw_refl _
  · rw [k_up_ne e, k_up_ne e]; exact h s (by omega)
theorem ty_e_ca {i k : Nat} (hK : k_K g K) (N : s_N p q n g K M P m C D) (ok : h_ok M P b hh) (hb : b < M.bc) (h1 : P.fi b ≤ i) (h2 : i < P.en b) (hs : ty_snd K M P hh b R T) (hv : ty_v K M P hh b R T) (hR : R i = true) (hk : k < P.nc) (hc : k_cov P k i = true) : P.fi b ≤ P.ca k ∧ P.ca k < P.en b ∧ k_hi M P hh (P.ca k) ∧ k_wd hh (P.ca k) = 13 ∧ k_rvt K (k_wd hh (P.ca k)) (k_up (T i) 12 (P.cl k)) ∧ ∀ R' T', ty_cld K M P hh b R' T' → R' (P.ca k) = true ∧ k_rle K (k_wd hh (P.ca k)) (k_up (T i) 12 (P.cl k)) (T' (P.ca k)) := by
  have hw : k_wd hh i = 12 + k_hN hh i := rfl
  obtain ⟨hH, hvi⟩ := hv i h1 h2 hR
  obtain ⟨-, -, e3⟩ := ok.at h1 h2 hH
  obtain ⟨j1, j2, -⟩ := k_cov_in N hb h1 h2 hk hc
  have ej := e3 k hk hc
  have hj8 := k_hN_of ej (by omega)
  have hwj : k_wd hh (P.ca k) = 13 := by rw [k_wd, hj8]
  refine ⟨j1, j2, ok.hi j1 j2 ej (by omega), hwj, ?_, fun R' T' hc' => ?_⟩
  · rw [hwj]
    intro s hs'
    by_cases e : s = 12
    · subst e; rw [k_up_eq]; exact Or.inl (Or.inl (N.S.wK k hk).cl)
    · rw [k_up_ne e]; exact hvi s (by omega)
  · obtain ⟨x1, x2⟩ := hs R' T' hc' i h1 h2 hR
    obtain ⟨y1, y2⟩ := (hc'.2.2 i h1 h2 x1).2 k hk hc
    refine ⟨y1, k_rle.trans hK ?_ y2⟩
    rw [hwj]
    exact k_up_le x2 (by omega)
theorem ty_cl.grow {i : Nat} {R' : Nat → Bool} {T' : Nat → Nat → Nat} (hK : k_K g K) (N : s_N p q n g K M P m C D) (ok : h_ok M P b hh) (hb : b < M.bc) (h1 : P.fi b ≤ i) (h2 : i < P.en b) (hv : ty_v K M P hh b R T) (h : ty_cl K M P hh R T i) (e1 : R' i = R i) (e2 : ∀ s, s < k_wd hh i → T' i s = T i s) (hg : ∀ j, R j = true → R' j = true ∧ k_rle K (k_wd hh j) (T j) (T' j)) : ty_cl K M P hh R' T' i := by
  intro hR
  rw [e1] at hR
  have hle := (N.B b hb).le
  obtain ⟨hH, hvi⟩ := hv i h1 h2 hR
  have hw : k_wd hh i = 12 + k_hN hh i := rfl
  obtain ⟨o1, o2, o3⟩ := ok.at h1 h2 hH
  obtain ⟨a1, a2, a3, a4⟩ := hH
  have hw' : k_w' M P hh i = k_wd hh i - k_tk M P i + k_lv M P i := rfl
  have he : k_rle K (k_wd hh i) (T' i) (T i) := fun s hs => by rw [e2 s hs]; exact k_blw_refl _
  obtain ⟨c1, c2⟩ := h hR
  refine ⟨fun r hr => ?_, fun k hk hc => ?_⟩
  · obtain ⟨q2, x1, x2⟩ := k_tr_mono hK N (show i < P.n by omega) ⟨a1, a2, a3, a4⟩ hvi he hr
    obtain ⟨y1, y2⟩ := c1 q2 x1
    have hwd : ∀ j, hh j = nI (k_hN hh i - k_tk M P i + k_lv M P i) → k_wd hh j = k_w' M P hh i := fun j ej => by
      rw [k_wd, k_hN_of ej (by omega)]; omega
    refine ⟨fun c => ?_, fun c => ?_⟩
    · obtain ⟨z1, z2⟩ := y1 c
      obtain ⟨g1, g2⟩ := hg _ z1
      exact ⟨g1, (k_rle.trans hK (by rw [hwd _ (o1 c)]; exact x2) z2).trans hK g2⟩
    · obtain ⟨z1, z2⟩ := y2 c
      obtain ⟨g1, g2⟩ := hg _ z1
      exact ⟨g1, (k_rle.trans hK (by rw [hwd _ (o2 c)]; exact x2) z2).trans hK g2⟩
  · obtain ⟨z1, z2⟩ := c2 k hk hc
    obtain ⟨g1, g2⟩ := hg _ z1
    have hwj : k_wd hh (P.ca k) = 13 := by rw [k_wd, k_hN_of (o3 k hk hc) (by omega)]
    refine ⟨g1, (k_rle.trans hK ?_ z2).trans hK g2⟩
    rw [hwj]
    exact k_up_le he (by omega)
/-- two least solutions are one -/
theorem ty_uniq {R' : Nat → Bool} {T' : Nat → Nat → Nat} (c1 : ty_cld K M P hh b R T) (s1 : ty_snd K M P hh b R T) (c2 : ty_cld K M P hh b R' T') (s2 : ty_snd K M P hh b R' T') {i : Nat} (h1 : P.fi b ≤ i) (h2 : i < P.en b) : R' i = R i ∧ (R i = true → ∀ s, s < k_wd hh i → T' i s = T i s) := by
  cases hR : R i with
  | false =>
    refine ⟨?_, (fun h => by cases h)⟩
    cases hR' : R' i with
    | false => rfl
    | true => rw [(s2 R T c1 i h1 h2 hR').1] at hR; cases hR
  | true =>
    obtain ⟨a1, a2⟩ := s1 R' T' c2 i h1 h2 hR
    obtain ⟨b1, b2⟩ := s2 R T c1 i h1 h2 a1
    exact ⟨a1, fun _ s hs => (k_rle.anti b2 a2) s hs⟩
theorem ty_mu_le (F E : Nat) (R : Nat → Bool) (T : Nat → Nat → Nat) (h : E ≤ 1024) (h8 : ∀ i, F ≤ i → i < E → k_hN hh i ≤ 8) : ty_mu hh F E R T ≤ 697344 := by
  have gen : ∀ d, d ≤ E - F → k_sum (ty_m hh R T) F d ≤ 681 * d := by
    intro d
    induction d with
    | zero => intro _; exact Nat.zero_le _
    | succ d ih =>
      intro hd
      have h0 := ih (by omega)
      rw [k_sum]
      have : ty_m hh R T (F + d) ≤ 681 := by
        rw [ty_m]
        split
        · have hs := k_sum_le (f := fun s => k_rk (T (F + d) s)) (lo := 0) (c := 34) (k_wd hh (F + d)) (fun s => k_rk_le _)
          have hw : k_wd hh (F + d) = 12 + k_hN hh (F + d) := rfl
          have := h8 (F + d) (by omega) (by omega)
          omega
        · omega
      omega
  have := gen (E - F) (Nat.le_refl _)
  rw [ty_mu]
  omega
end ZTE
