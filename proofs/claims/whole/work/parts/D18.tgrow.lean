/-! ===== types: rows that grow ===== -/
def k_ent (M : ZM) (b : Nat) : Nat → Nat := fun k => if k < M.ba b then M.bp b k else 67
def ty_cl (K : ZK) (M : ZM) (P : ZP) (hh : Nat → Int32) (R : Nat → Bool) (T : Nat → Nat → Nat) (i : Nat) : Prop := R i = true → (∀ r, k_tr M P hh i (T i) = some r → (k_nx (P.op i) = true → R (i + 1) = true ∧ k_rle K (k_wd hh (i + 1)) r (T (i + 1))) ∧ (k_lb (P.op i) = true → R (k_tg P i) = true ∧ k_rle K (k_wd hh (k_tg P i)) r (T (k_tg P i)))) ∧ ∀ k, k < P.nc → k_cov P k i = true → R (P.ca k) = true ∧ k_rle K (k_wd hh (P.ca k)) (k_up (T i) 12 (P.cl k)) (T (P.ca k))
/-- what is reached has a height, and types -/
def ty_v (K : ZK) (M : ZM) (P : ZP) (hh : Nat → Int32) (b : Nat) (R : Nat → Bool) (T : Nat → Nat → Nat) : Prop := ∀ i, P.fi b ≤ i → i < P.en b → R i = true → k_hi M P hh i ∧ k_rvt K (k_wd hh i) (T i)
def ty_cld (K : ZK) (M : ZM) (P : ZP) (hh : Nat → Int32) (b : Nat) (R : Nat → Bool) (T : Nat → Nat → Nat) : Prop := (R (P.fi b) = true ∧ k_rle K 12 (k_ent M b) (T (P.fi b))) ∧ ty_v K M P hh b R T ∧ ∀ i, P.fi b ≤ i → i < P.en b → ty_cl K M P hh R T i
def ty_snd (K : ZK) (M : ZM) (P : ZP) (hh : Nat → Int32) (b : Nat) (R : Nat → Bool) (T : Nat → Nat → Nat) : Prop := ∀ R' T', ty_cld K M P hh b R' T' → ∀ i, P.fi b ≤ i → i < P.en b → R i = true → R' i = true ∧ k_rle K (k_wd hh i) (T i) (T' i)
def ty_m (hh : Nat → Int32) (R : Nat → Bool) (T : Nat → Nat → Nat) (i : Nat) : Nat := if R i = true then 1 + k_sum (fun s => k_rk (T i s)) 0 (k_wd hh i) else 0
def ty_mu (hh : Nat → Int32) (F E : Nat) (R : Nat → Bool) (T : Nat → Nat → Nat) : Nat := k_sum (ty_m hh R T) F (E - F)
/-- a row comes to an instruction -/
def ty_aR (R : Nat → Bool) (j : Nat) : Nat → Bool := k_up R j true
def ty_aT (K : ZK) (hh : Nat → Int32) (R : Nat → Bool) (T : Nat → Nat → Nat) (j : Nat) (r : Nat → Nat) : Nat → Nat → Nat := k_up T j (fun s => if s < k_wd hh j then (if R j = true then k_jn K (T j s) (r s) else r s) else T j s)
def ty_ch (K : ZK) (hh : Nat → Int32) (R : Nat → Bool) (T : Nat → Nat → Nat) (j : Nat) (r : Nat → Nat) : Bool := !R j || !(List.range (k_wd hh j)).all (fun s => decide (k_jn K (T j s) (r s) = T j s))
/-- the rows have grown -/
def ty_G (K : ZK) (hh : Nat → Int32) (F : Nat) (E : Nat) (R : Nat → Bool) (T : Nat → Nat → Nat) (W : Nat → Bool) (s : Bool) (R' : Nat → Bool) (T' : Nat → Nat → Nat) (W' : Nat → Bool) (s' : Bool) : Prop := (∀ i, R i = true → R' i = true ∧ k_rle K (k_wd hh i) (T i) (T' i)) ∧ (∀ i, W' i = false → (R' i = R i ∧ ∀ s, s < k_wd hh i → T' i s = T i s) ∧ W i = false) ∧ (s = true → s' = true) ∧ (∀ i, W' i = true → W i = true ∨ s' = true) ∧ (ty_mu hh F E R T ≤ ty_mu hh F E R' T') ∧ (s = false → s' = true → ty_mu hh F E R T < ty_mu hh F E R' T')
theorem ty_G.g1 {K : ZK} {hh : Nat → Int32} {F : Nat} {E : Nat} {R : Nat → Bool} {T : Nat → Nat → Nat} {W : Nat → Bool} {s : Bool} {R' : Nat → Bool} {T' : Nat → Nat → Nat} {W' : Nat → Bool} {s' : Bool} (I : ty_G K hh F E R T W s R' T' W' s') : ∀ i, R i = true → R' i = true ∧ k_rle K (k_wd hh i) (T i) (T' i) := I.1
theorem ty_G.g2 {K : ZK} {hh : Nat → Int32} {F : Nat} {E : Nat} {R : Nat → Bool} {T : Nat → Nat → Nat} {W : Nat → Bool} {s : Bool} {R' : Nat → Bool} {T' : Nat → Nat → Nat} {W' : Nat → Bool} {s' : Bool} (I : ty_G K hh F E R T W s R' T' W' s') : ∀ i, W' i = false → (R' i = R i ∧ ∀ s, s < k_wd hh i → T' i s = T i s) ∧ W i = false := I.2.1
theorem ty_G.g3 {K : ZK} {hh : Nat → Int32} {F : Nat} {E : Nat} {R : Nat → Bool} {T : Nat → Nat → Nat} {W : Nat → Bool} {s : Bool} {R' : Nat → Bool} {T' : Nat → Nat → Nat} {W' : Nat → Bool} {s' : Bool} (I : ty_G K hh F E R T W s R' T' W' s') : s = true → s' = true := I.2.2.1
theorem ty_G.g4 {K : ZK} {hh : Nat → Int32} {F : Nat} {E : Nat} {R : Nat → Bool} {T : Nat → Nat → Nat} {W : Nat → Bool} {s : Bool} {R' : Nat → Bool} {T' : Nat → Nat → Nat} {W' : Nat → Bool} {s' : Bool} (I : ty_G K hh F E R T W s R' T' W' s') : ∀ i, W' i = true → W i = true ∨ s' = true := I.2.2.2.1
theorem ty_G.g5 {K : ZK} {hh : Nat → Int32} {F : Nat} {E : Nat} {R : Nat → Bool} {T : Nat → Nat → Nat} {W : Nat → Bool} {s : Bool} {R' : Nat → Bool} {T' : Nat → Nat → Nat} {W' : Nat → Bool} {s' : Bool} (I : ty_G K hh F E R T W s R' T' W' s') : ty_mu hh F E R T ≤ ty_mu hh F E R' T' := I.2.2.2.2.1
theorem ty_G.g6 {K : ZK} {hh : Nat → Int32} {F : Nat} {E : Nat} {R : Nat → Bool} {T : Nat → Nat → Nat} {W : Nat → Bool} {s : Bool} {R' : Nat → Bool} {T' : Nat → Nat → Nat} {W' : Nat → Bool} {s' : Bool} (I : ty_G K hh F E R T W s R' T' W' s') : s = false → s' = true → ty_mu hh F E R T < ty_mu hh F E R' T' := I.2.2.2.2.2
theorem ty_G.refl (K : ZK) (hh : Nat → Int32) (F E : Nat) (R : Nat → Bool) (T : Nat → Nat → Nat) (W : Nat → Bool) (s : Bool) : ty_G K hh F E R T W s R T W s := ⟨fun _ h => ⟨h, k_rle.refl _⟩, fun _ h => ⟨⟨rfl, fun _ _ => rfl⟩, h⟩, id, fun _ h => Or.inl h, Nat.le_refl _, (fun h h' => by rw [h] at h'; cases h')⟩
theorem ty_G.trans {g : ZT} {K : ZK} {hh : Nat → Int32} {F E : Nat} {R R' R'' : Nat → Bool} {T T' T'' : Nat → Nat → Nat} {W W' W'' : Nat → Bool} {s s' s'' : Bool} (hK : k_K g K) (h : ty_G K hh F E R T W s R' T' W' s') (h' : ty_G K hh F E R' T' W' s' R'' T'' W'' s'') : ty_G K hh F E R T W s R'' T'' W'' s'' := by
  refine ⟨fun i hi => ?_, fun i hi => ?_, fun x => h'.g3 (h.g3 x), fun i hi => ?_, Nat.le_trans h.g5 h'.g5, fun x y => ?_⟩
  · obtain ⟨a, b⟩ := h.g1 i hi
    obtain ⟨c, d⟩ := h'.g1 i a
    exact ⟨c, b.trans hK d⟩
  · obtain ⟨⟨a, b⟩, c⟩ := h'.g2 i hi
    obtain ⟨⟨d, e⟩, f⟩ := h.g2 i c
    exact ⟨⟨a.trans d, fun s hs => (b s hs).trans (e s hs)⟩, f⟩
  · rcases h'.g4 i hi with x | x
    · rcases h.g4 i x with y | y
      · exact Or.inl y
      · exact Or.inr (h'.g3 y)
    · exact Or.inr x
  · cases hs : s' with
    | true => exact Nat.lt_of_lt_of_le (h.g6 x hs) h'.g5
    | false => exact Nat.lt_of_le_of_lt h.g5 (h'.g6 hs y)
section ZTG
variable {g : ZT} {K : ZK} {M : ZM} {P : ZP} {hh : Nat → Int32} {b F E j : Nat} {R : Nat → Bool} {T : Nat → Nat → Nat} {W : Nat → Bool} {s : Bool} {r : Nat → Nat}
theorem ty_ch_f (h : ty_ch K hh R T j r = false) : R j = true ∧ ∀ s, s < k_wd hh j → k_jn K (T j s) (r s) = T j s := by
  rw [ty_ch, Bool.or_eq_false_iff, Bool.not_eq_false', Bool.not_eq_false', List.all_eq_true] at h
  exact ⟨h.1, fun s hs => of_decide_eq_true (h.2 s (List.mem_range.mpr hs))⟩
theorem ty_ch_t (h : ty_ch K hh R T j r = true) : R j = false ∨ ∃ s, s < k_wd hh j ∧ k_jn K (T j s) (r s) ≠ T j s := by
  cases hR : R j with
  | false => exact Or.inl rfl
  | true =>
    right
    rw [ty_ch, hR, Bool.not_true, Bool.false_or, Bool.not_eq_true'] at h
    apply Classical.byContradiction
    intro hn
    have : (List.range (k_wd hh j)).all (fun s => decide (k_jn K (T j s) (r s) = T j s)) = true := List.all_eq_true.mpr (fun s hs => decide_eq_true (Classical.byContradiction (fun hne => hn ⟨s, List.mem_range.mp hs, hne⟩)))
    rw [this] at h
    cases h
theorem ty_aT_o {i s : Nat} (h : i ≠ j) : ty_aT K hh R T j r i s = T i s := by rw [ty_aT, k_up_ne h]
theorem ty_aT_j {s : Nat} (hs : s < k_wd hh j) : ty_aT K hh R T j r j s = if R j = true then k_jn K (T j s) (r s) else r s := by rw [ty_aT, k_up_eq, if_pos hs]
/-- the row that came is below what stands there now -/
theorem ty_a_up (hK : k_K g K) (hv : R j = true → k_rvt K (k_wd hh j) (T j)) (hr : k_rvt K (k_wd hh j) r) : k_rle K (k_wd hh j) r (ty_aT K hh R T j r j) := by
  intro s hs
  rw [ty_aT_j hs]
  by_cases c : R j = true
  · rw [if_pos c]; exact (k_jn_ub hK (hv c s hs) (hr s hs)).2
  · rw [if_neg c]; exact k_blw_refl _
theorem ty_a_vt (hK : k_K g K) (hv : R j = true → k_rvt K (k_wd hh j) (T j)) (hr : k_rvt K (k_wd hh j) r) : k_rvt K (k_wd hh j) (ty_aT K hh R T j r j) := by
  intro s hs
  rw [ty_aT_j hs]
  by_cases c : R j = true
  · rw [if_pos c]; exact k_jn_vt hK (hv c s hs) (hr s hs)
  · rw [if_neg c]; exact hr s hs
theorem ty_G.add (hK : k_K g K) (h1 : F ≤ j) (h2 : j < E) (hv : R j = true → k_rvt K (k_wd hh j) (T j)) (hr : k_rvt K (k_wd hh j) r) : ty_G K hh F E R T W s (ty_aR R j) (ty_aT K hh R T j r) (if ty_ch K hh R T j r = true then k_up W j true else W) (if ty_ch K hh R T j r = true then true else s) := by
  have up : ∀ i, R i = true → ty_aR R j i = true ∧ k_rle K (k_wd hh i) (T i) (ty_aT K hh R T j r i) := by
    intro i hi
    by_cases e : i = j
    · subst e
      refine ⟨by rw [ty_aR, k_up_eq], fun s hs => ?_⟩
      rw [ty_aT_j hs, if_pos hi]
      exact (k_jn_ub hK (hv hi s hs) (hr s hs)).1
    · refine ⟨by rw [ty_aR, k_up_ne e]; exact hi, fun s hs => ?_⟩
      rw [ty_aT_o e]; exact k_blw_refl _
  have mono : ∀ i, ty_m hh R T i ≤ ty_m hh (ty_aR R j) (ty_aT K hh R T j r) i := by
    intro i
    rw [ty_m, ty_m]
    by_cases c : R i = true
    · rw [if_pos c, if_pos (up i c).1]
      have : k_sum (fun s => k_rk (T i s)) 0 (k_wd hh i) ≤ k_sum (fun s => k_rk (ty_aT K hh R T j r i s)) 0 (k_wd hh i) := by
        have gen : ∀ m, m ≤ k_wd hh i → k_sum (fun s => k_rk (T i s)) 0 m ≤ k_sum (fun s => k_rk (ty_aT K hh R T j r i s)) 0 m := by
          intro m
          induction m with
          | zero => intro _; exact Nat.le_refl _
          | succ m ih =>
            intro hm
            have h0 := ih (by omega)
            rw [k_sum, k_sum]
            have hb := (up i c).2 (0 + m) (by omega)
            by_cases e : T i (0 + m) = ty_aT K hh R T j r i (0 + m)
            · rw [e]; omega
            · have := k_rk_lt hK hb e
              omega
        exact gen _ (Nat.le_refl _)
      omega
    · rw [if_neg c]; exact Nat.zero_le _
  have hmu : ty_mu hh F E R T ≤ ty_mu hh F E (ty_aR R j) (ty_aT K hh R T j r) := k_sum_mono _ mono
  cases hc : ty_ch K hh R T j r with
  | false =>
    obtain ⟨c1, c2⟩ := ty_ch_f hc
    simp only [Bool.false_eq_true, if_false]
    refine ⟨up, fun i hi => ⟨⟨?_, fun s hs => ?_⟩, hi⟩, id, fun _ h => Or.inl h, hmu, (fun x y => by rw [x] at y; cases y)⟩
    · by_cases e : i = j
      · subst e; rw [ty_aR, k_up_eq, c1]
      · rw [ty_aR, k_up_ne e]
    · by_cases e : i = j
      · subst e; rw [ty_aT_j hs, if_pos c1]; exact c2 s hs
      · rw [ty_aT_o e]
  | true =>
    simp only [if_true]
    have hlt : ty_mu hh F E R T < ty_mu hh F E (ty_aR R j) (ty_aT K hh R T j r) := by
      refine k_sum_lt (j := j) _ mono h1 (by omega) ?_
      rw [ty_m, ty_m, ty_aR, k_up_eq, if_pos rfl]
      rcases ty_ch_t hc with c | ⟨s0, s1, s2⟩
      · rw [c, if_neg (by decide)]; omega
      · cases hR : R j with
        | false => rw [if_neg (by decide)]; omega
        | true =>
          rw [if_pos rfl]
          have gen : ∀ m, m ≤ k_wd hh j → k_sum (fun s => k_rk (T j s)) 0 m ≤ k_sum (fun s => k_rk (ty_aT K hh R T j r j s)) 0 m ∧ (s0 < m → k_sum (fun s => k_rk (T j s)) 0 m < k_sum (fun s => k_rk (ty_aT K hh R T j r j s)) 0 m) := by
            intro m
            induction m with
            | zero => intro _; exact ⟨Nat.le_refl _, fun h => by omega⟩
            | succ m ih =>
              intro hm
              obtain ⟨i1, i2⟩ := ih (by omega)
              rw [k_sum, k_sum]
              have hb := (up j hR).2 (0 + m) (by omega)
              have hle : k_rk (T j (0 + m)) ≤ k_rk (ty_aT K hh R T j r j (0 + m)) := by
                by_cases e : T j (0 + m) = ty_aT K hh R T j r j (0 + m)
                · rw [e]; exact Nat.le_refl _
                · exact Nat.le_of_lt (k_rk_lt hK hb e)
              refine ⟨by omega, fun h => ?_⟩
              by_cases e : s0 = m
              · have hb2 := hb
                have ne : T j (0 + m) ≠ ty_aT K hh R T j r j (0 + m) := by
                  rw [ty_aT_j (by omega), if_pos hR, Nat.zero_add, ← e]
                  exact fun h => s2 h.symm
                have := k_rk_lt hK hb2 ne
                omega
              · have := i2 (by omega)
                omega
          have := (gen _ (Nat.le_refl _)).2 s1
          omega
    refine ⟨up, fun i hi => ?_, fun _ => rfl, fun _ _ => Or.inr rfl, hmu, fun _ _ => hlt⟩
    by_cases e : i = j
    · subst e; rw [k_up_eq] at hi; cases hi
    · rw [k_up_ne e] at hi
      exact ⟨⟨by rw [ty_aR, k_up_ne e], fun s _ => ty_aT_o e⟩, hi⟩
theorem ty_v.add (hK : k_K g K) (h : ty_v K M P hh b R T) (hj : k_hi M P hh j) (hv : R j = true → k_rvt K (k_wd hh j) (T j)) (hr : k_rvt K (k_wd hh j) r) : ty_v K M P hh b (ty_aR R j) (ty_aT K hh R T j r) := by
  intro i i1 i2 hi
  by_cases e : i = j
  · subst e; exact ⟨hj, ty_a_vt hK hv hr⟩
  · rw [ty_aR, k_up_ne e] at hi
    obtain ⟨a, b⟩ := h i i1 i2 hi
    exact ⟨a, fun s hs => by rw [ty_aT_o e]; exact b s hs⟩
theorem ty_snd.add (hK : k_K g K) (h : ty_snd K M P hh b R T) (h1 : P.fi b ≤ j) (h2 : j < P.en b) (hv : R j = true → k_rvt K (k_wd hh j) (T j)) (hr : k_rvt K (k_wd hh j) r) (hs : ∀ R' T', ty_cld K M P hh b R' T' → R' j = true ∧ k_rle K (k_wd hh j) r (T' j)) : ty_snd K M P hh b (ty_aR R j) (ty_aT K hh R T j r) := by
  intro R' T' hc i i1 i2 hi
  by_cases e : i = j
  · subst e
    obtain ⟨a1, a2⟩ := hs R' T' hc
    refine ⟨a1, fun s hs' => ?_⟩
    rw [ty_aT_j hs']
    by_cases c : R i = true
    · rw [if_pos c]
      exact k_jn_lub hK (hv c s hs') (hr s hs') ((h R' T' hc i i1 i2 c).2 s hs') (a2 s hs')
    · rw [if_neg c]; exact a2 s hs'
  · rw [ty_aR, k_up_ne e] at hi
    obtain ⟨a, b⟩ := h R' T' hc i i1 i2 hi
    exact ⟨a, fun s hs' => by rw [ty_aT_o e]; exact b s hs'⟩
end ZTG
