/-! ===== heights: the system, and the class's way ===== -/
def h_v (M : ZM) (P : ZP) (X : Nat → Int32) (i : Nat) : Int32 := h_mv (X i) (k_tk M P i) (k_lv M P i)
def k_tg (P : ZP) (i : Nat) : Nat := (P.xa i).toNatClampNeg
def h_cl (M : ZM) (P : ZP) (X : Nat → Int32) (i : Nat) : Prop := (k_nx (P.op i) = true → h_sub (h_v M P X i) (X (i + 1))) ∧ (k_lb (P.op i) = true → h_sub (h_v M P X i) (X (k_tg P i))) ∧ (h_v M P X i ≠ 0 → ∀ k, k < P.nc → k_cov P k i = true → h_sub 2 (X (P.ca k)))
def h_cld (M : ZM) (P : ZP) (b : Nat) (X : Nat → Int32) : Prop := h_sub 1 (X (P.fi b)) ∧ ∀ i, P.fi b ≤ i → i < P.en b → h_cl M P X i
def h_snd (M : ZM) (P : ZP) (b : Nat) (X : Nat → Int32) : Prop := ∀ Y, h_cld M P b Y → ∀ i, P.fi b ≤ i → i < P.en b → h_sub (X i) (Y i)
def h_mu (F E : Nat) (X : Nat → Int32) : Nat := k_sum (fun i => h_pc (X i)) F (E - F)
def h_add (X : Nat → Int32) (j : Nat) (m : Int32) : Nat → Int32 := k_up X j (X j ||| m)
theorem h_add_sub {X : Nat → Int32} {j : Nat} {m : Int32} (i : Nat) : h_sub (X i) (h_add X j m i) := by
  rw [h_add]
  by_cases e : i = j
  · subst e; rw [k_up_eq]; exact h_sub_l _ _
  · rw [k_up_ne e]; exact h_sub.refl _
theorem h_cl.grow {M : ZM} {P : ZP} {X X' : Nat → Int32} {i : Nat} (h : h_cl M P X i) (hi : X' i = X i) (hg : ∀ j, h_sub (X j) (X' j)) : h_cl M P X' i := by
  have e : h_v M P X' i = h_v M P X i := by rw [h_v, h_v, hi]
  rw [h_cl, e]
  exact ⟨fun x => (h.1 x).trans (hg _), fun x => (h.2.1 x).trans (hg _), fun x k hk hc => (h.2.2 x k hk hc).trans (hg _)⟩
/-- the masks have grown -/
def h_G (F : Nat) (E : Nat) (X : Nat → Int32) (W : Nat → Bool) (s : Bool) (X' : Nat → Int32) (W' : Nat → Bool) (s' : Bool) : Prop := (∀ i, h_sub (X i) (X' i)) ∧ (∀ i, W' i = false → X' i = X i ∧ W i = false) ∧ (s = true → s' = true) ∧ (∀ i, W' i = true → W i = true ∨ s' = true) ∧ (h_mu F E X ≤ h_mu F E X') ∧ (s = false → s' = true → h_mu F E X < h_mu F E X') ∧ ((∀ i, F ≤ i → i < E → h_9 (X i)) → ∀ i, F ≤ i → i < E → h_9 (X' i)) ∧ (s' = s ∨ s' = true)
theorem h_G.g1 {F : Nat} {E : Nat} {X : Nat → Int32} {W : Nat → Bool} {s : Bool} {X' : Nat → Int32} {W' : Nat → Bool} {s' : Bool} (I : h_G F E X W s X' W' s') : ∀ i, h_sub (X i) (X' i) := I.1
theorem h_G.g2 {F : Nat} {E : Nat} {X : Nat → Int32} {W : Nat → Bool} {s : Bool} {X' : Nat → Int32} {W' : Nat → Bool} {s' : Bool} (I : h_G F E X W s X' W' s') : ∀ i, W' i = false → X' i = X i ∧ W i = false := I.2.1
theorem h_G.g3 {F : Nat} {E : Nat} {X : Nat → Int32} {W : Nat → Bool} {s : Bool} {X' : Nat → Int32} {W' : Nat → Bool} {s' : Bool} (I : h_G F E X W s X' W' s') : s = true → s' = true := I.2.2.1
theorem h_G.g4 {F : Nat} {E : Nat} {X : Nat → Int32} {W : Nat → Bool} {s : Bool} {X' : Nat → Int32} {W' : Nat → Bool} {s' : Bool} (I : h_G F E X W s X' W' s') : ∀ i, W' i = true → W i = true ∨ s' = true := I.2.2.2.1
theorem h_G.g5 {F : Nat} {E : Nat} {X : Nat → Int32} {W : Nat → Bool} {s : Bool} {X' : Nat → Int32} {W' : Nat → Bool} {s' : Bool} (I : h_G F E X W s X' W' s') : h_mu F E X ≤ h_mu F E X' := I.2.2.2.2.1
theorem h_G.g6 {F : Nat} {E : Nat} {X : Nat → Int32} {W : Nat → Bool} {s : Bool} {X' : Nat → Int32} {W' : Nat → Bool} {s' : Bool} (I : h_G F E X W s X' W' s') : s = false → s' = true → h_mu F E X < h_mu F E X' := I.2.2.2.2.2.1
theorem h_G.g7 {F : Nat} {E : Nat} {X : Nat → Int32} {W : Nat → Bool} {s : Bool} {X' : Nat → Int32} {W' : Nat → Bool} {s' : Bool} (I : h_G F E X W s X' W' s') : (∀ i, F ≤ i → i < E → h_9 (X i)) → ∀ i, F ≤ i → i < E → h_9 (X' i) := I.2.2.2.2.2.2.1
theorem h_G.g8 {F : Nat} {E : Nat} {X : Nat → Int32} {W : Nat → Bool} {s : Bool} {X' : Nat → Int32} {W' : Nat → Bool} {s' : Bool} (I : h_G F E X W s X' W' s') : s' = s ∨ s' = true := I.2.2.2.2.2.2.2
theorem h_G.refl (F E : Nat) (X : Nat → Int32) (W : Nat → Bool) (s : Bool) : h_G F E X W s X W s := ⟨fun _ => h_sub.refl _, fun _ h => ⟨rfl, h⟩, id, fun _ h => Or.inl h, Nat.le_refl _, (fun h h' => by rw [h] at h'; cases h'), id, Or.inl rfl⟩
theorem h_G.trans {F E : Nat} {X X' X'' : Nat → Int32} {W W' W'' : Nat → Bool} {s s' s'' : Bool} (h : h_G F E X W s X' W' s') (h' : h_G F E X' W' s' X'' W'' s'') : h_G F E X W s X'' W'' s'' := by
  refine ⟨fun i => (h.g1 i).trans (h'.g1 i), fun i hi => ?_, fun x => h'.g3 (h.g3 x), fun i hi => ?_, Nat.le_trans h.g5 h'.g5, fun x y => ?_, fun x => h'.g7 (h.g7 x), ?_⟩
  · obtain ⟨a, b⟩ := h'.g2 i hi
    obtain ⟨c, d⟩ := h.g2 i b
    exact ⟨a.trans c, d⟩
  · rcases h'.g4 i hi with x | x
    · rcases h.g4 i x with y | y
      · exact Or.inl y
      · exact Or.inr (h'.g3 y)
    · exact Or.inr x
  · cases hs : s' with
    | true => exact Nat.lt_of_lt_of_le (h.g6 x hs) h'.g5
    | false => exact Nat.lt_of_le_of_lt h.g5 (h'.g6 hs y)
  · rcases h'.g8 with x | x
    · rcases h.g8 with y | y
      · exact Or.inl (x.trans y)
      · exact Or.inr (x.trans y)
    · exact Or.inr x
/-- one mask has grown, or not -/
theorem h_G.add {F E j : Nat} {X : Nat → Int32} {W : Nat → Bool} {s : Bool} {m : Int32} (h1 : F ≤ j) (h2 : j < E) (h9 : h_9 m) : h_G F E X W s (h_add X j m) (if X j ||| m = X j then W else k_up W j true) (if X j ||| m = X j then s else true) := by
  by_cases c : X j ||| m = X j
  · have e : h_add X j m = X := by
      funext i
      rw [h_add]
      by_cases e : i = j
      · subst e; rw [k_up_eq]; exact c
      · rw [k_up_ne e]
    rw [if_pos c, if_pos c, e]
    exact h_G.refl F E X W s
  · rw [if_neg c, if_neg c]
    have hmu : h_mu F E X < h_mu F E (h_add X j m) := by
      refine k_sum_lt (j := j) _ (fun i => ?_) h1 (by omega) ?_
      · rw [h_add]
        by_cases e : i = j
        · subst e; rw [k_up_eq]; exact Nat.le_of_lt (h_pc_lt h9 c)
        · rw [k_up_ne e]; exact Nat.le_refl _
      · rw [h_add, k_up_eq]; exact h_pc_lt h9 c
    refine ⟨h_add_sub, fun i hi => ?_, fun _ => rfl, fun _ _ => Or.inr rfl, Nat.le_of_lt hmu, fun _ _ => hmu, fun h i i1 i2 => ?_, Or.inr rfl⟩
    · by_cases e : i = j
      · subst e; rw [k_up_eq] at hi; cases hi
      · rw [k_up_ne e] at hi
        rw [h_add, k_up_ne e]
        exact ⟨rfl, hi⟩
    · rw [h_add]
      by_cases e : i = j
      · subst e; rw [k_up_eq]; exact h_9_or (h i i1 i2) h9
      · rw [k_up_ne e]; exact h i i1 i2
theorem h_snd.add {M : ZM} {P : ZP} {b j : Nat} {X : Nat → Int32} {m : Int32} (h : h_snd M P b X) (hm : ∀ Y, h_cld M P b Y → h_sub m (Y j)) (hj1 : P.fi b ≤ j) (hj2 : j < P.en b) : h_snd M P b (h_add X j m) := by
  intro Y hY i i1 i2
  rw [h_add]
  by_cases e : i = j
  · subst e; rw [k_up_eq]; exact h_sub_or (h Y hY i i1 i2) (hm Y hY)
  · rw [k_up_ne e]; exact h Y hY i i1 i2
/-- the class's memory of heights -/
def h_S (C : QS) (F E : Nat) (X : Nat → Int32) (W : Nat → Bool) (s : Bool) : Prop := (∀ i, F ≤ i → i < E → C.2.1 82 i = X i ∧ C.2.1 83 i = q_b (W i)) ∧ C.2.1 81 4 = q_b s
def h_f (F E : Nat) (C C' : QS) : Prop := (∀ y j, ¬ ((y = 82 ∨ y = 83) ∧ F ≤ j ∧ j < E) → ¬ (y = 81 ∧ j = 4) → C'.2.1 y j = C.2.1 y j) ∧ C'.1 = C.1 ∧ C'.2.2 = C.2.2
theorem h_f.refl (F E : Nat) (C : QS) : h_f F E C C := ⟨fun _ _ _ _ => rfl, rfl, rfl⟩
theorem h_f.trans {F E : Nat} {C C' C'' : QS} (h : h_f F E C C') (h' : h_f F E C' C'') : h_f F E C C'' := ⟨fun y j a b => (h'.1 y j a b).trans (h.1 y j a b), h'.2.1.trans h.2.1, h'.2.2.trans h.2.2⟩
section ZHC
variable {C D : QS} {n p q m b : Nat} {g : ZT} {K : ZK} {M : ZM} {P : ZP}
theorem s_N.hf {C' : QS} (N : s_N p q n g K M P m C D) (hp : z_pp p) (hq : z_qq q) {F E : Nat} (h : h_f F E C C') : s_N p q n g K M P m C' D := by
  have gC : ∀ y j, y < 81 → C'.2.1 y j = C.2.1 y j := fun y j hy => h.1 y j (by omega) (by omega)
  refine ⟨N.S.re hp hq (fun y j h => gC y j ?_) (fun _ _ _ => rfl) rfl rfl rfl rfl rfl rfl rfl rfl rfl rfl rfl rfl rfl rfl rfl rfl (fun _ _ => ⟨rfl, rfl⟩) (fun _ _ => ⟨rfl, rfl⟩), fun c hc => (N.B c hc).fr rfl rfl rfl rfl (Nat.le_refl _) (Nat.le_refl _) (fun _ _ => ⟨rfl, rfl⟩) (fun _ _ => rfl) (fun k k1 k2 => by omega) (fun y y1 y2 => gC y _ (by rcases hp with rfl | rfl <;> omega)) (fun _ _ _ => rfl), N.mb, N.mm, N.ma, N.mr, (gC _ _ (by rcases hp with rfl | rfl <;> omega)).trans N.mC, N.mD, N.sI⟩
  rw [z_rC] at h; rcases hp with rfl | rfl <;> omega
theorem z_arrive {j F E : Nat} {X : Nat → Int32} {W : Nat → Bool} {s : Bool} {v : Int32} (N : s_N p q n g K M P m C D) (hE : E ≤ P.n) (h1 : F ≤ j) (h2 : j < E) (h : h_S C F E X W s) : ∃ C', fX3_arrive C p (nI j) v = some C' ∧ h_S C' F E (h_add X j v) (if X j ||| v = X j then W else k_up W j true) (if X j ||| v = X j then s else true) ∧ h_f F E C C' := by
  have bn := N.S.bn
  have i1 := z_inbN (show j < 1024 by omega) (by decide)
  have c1 := z_cl (show j < 2147483648 by omega)
  have g1 : ¬ nI P.n ≤ nI j := by rw [z_leN (by omega) (by omega)]; omega
  have x := (h.1 j h1 h2).1
  by_cases c : X j ||| v = X j
  · refine ⟨C, ?_, ?_, h_f.refl F E C⟩
    · simp only [fX3_arrive, z_negN (show j < 2147483648 by omega), if_false, N.S.nC, if_neg g1, i1, if_true, c1, x, if_pos c]
    · have e : h_add X j v = X := by
        funext i
        rw [h_add]
        by_cases e : i = j
        · subst e; rw [k_up_eq]; exact c
        · rw [k_up_ne e]
      rw [if_pos c, if_pos c, e]
      exact h
  · let C1 : QS := q_sI (q_sI (q_sI C 82 j (X j ||| v)) 83 j 1) 81 4 1
    have gC : ∀ y i, C1.2.1 y i = if y = 81 ∧ i = 4 then 1 else if y = 83 ∧ i = j then 1 else if y = 82 ∧ i = j then X j ||| v else C.2.1 y i := by
      intro y i; simp only [C1, q_sI_I]
    refine ⟨C1, ?_, ⟨fun i a b => ?_, ?_⟩, fun y i a b => ?_, rfl, rfl⟩
    · simp only [fX3_arrive, z_negN (show j < 2147483648 by omega), if_false, N.S.nC, if_neg g1, i1, if_true, c1, x, if_neg c, Option.bind_some]
      rfl
    · rw [if_neg c, gC, gC, h_add]
      obtain ⟨y1, y2⟩ := h.1 i a b
      by_cases e : i = j
      · subst e
        rw [k_up_eq, k_up_eq]
        simp (disch := omega) only [if_neg, and_self, if_true]
        exact ⟨trivial, rfl⟩
      · rw [k_up_ne e, k_up_ne e]
        simp (disch := omega) only [if_neg]
        exact ⟨y1, y2⟩
    · rw [if_neg c, gC, if_pos ⟨rfl, rfl⟩]; rfl
    · rw [gC]; simp (disch := omega) only [if_neg]
theorem z_goodOf {i : Nat} (hG : z_G n g) (hK : k_K g K) (N : s_N p q n g K M P m C D) (hi : i < P.n) : fX3_goodOf C p (nI i) = some (h_gd (C.2.1 82 i) (k_tk M P i) (k_lv M P i)) := by
  have bn := N.S.bn
  obtain ⟨ha, hl⟩ := k_tk_le N.S hi
  generalize ha' : k_tk M P i = a at ha
  generalize hl' : k_lv M P i = l at hl
  have i1 := z_inbN (show i < 1024 by omega) (by decide)
  have c1 := z_cl (show i < 2147483648 by omega)
  have t5 := z_takes5 hG N.S hi
  have l5 := z_leaves5 hG hK N.S hi
  rw [ha'] at t5
  rw [hl'] at l5
  have ey : ((8 : Int32) - nI l) + nI a = nI (8 - l + a) := by rw [show (8 : Int32) = nI 8 from rfl, z_subN (by omega), nI_add]
  simp only [fX3_goodOf, t5, l5, Option.bind_some, ey, fX3_goodOf_29]
  have loop : ∀ d h acc, h + d = 9 → (∀ e, b_t acc e = (decide (e < h) && (decide (e < 9) && (b_t (C.2.1 82 i) e && (decide (a ≤ e) && decide (e + l ≤ 8 + a)))))) → a ≤ h → q_run (tX3_goodOf_29 C p (nI i) (nI (8 - l + a))) (acc, nI h) = some (h_gd (C.2.1 82 i) a l) := by
    intro d
    induction d with
    | zero =>
      intro h acc hh hacc hah
      refine q_run_ret ?_
      have : acc = h_gd (C.2.1 82 i) a l := by
        apply b_ext
        intro e he
        rw [hacc, h_gd_b]
        by_cases c : e < 9
        · rw [decide_eq_true (show e < h by omega), Bool.true_and]
        · rw [decide_eq_false c, Bool.false_and, Bool.and_false]
      simp only [tX3_goodOf_29]
      by_cases c : 8 - l + a < h
      · rw [if_pos (by rw [z_ltN (by omega) (by omega)]; exact c), this]
      · rw [if_neg (by rw [z_ltN (by omega) (by omega)]; exact c), if_pos (by rw [show (8 : Int32) = nI 8 from rfl, z_ltN (by omega) (by omega)]; omega), this]
    | succ d ih =>
      intro h acc hh hacc hah
      by_cases c : 8 - l + a < h
      · refine q_run_ret ?_
        have : acc = h_gd (C.2.1 82 i) a l := by
          apply b_ext
          intro e he
          rw [hacc, h_gd_b]
          by_cases c2 : e < h
          · rw [decide_eq_true c2, Bool.true_and]
          · rw [decide_eq_false c2, Bool.false_and, decide_eq_false (show ¬ e + l ≤ 8 + a by omega), Bool.and_false, Bool.and_false, Bool.and_false]
        simp only [tX3_goodOf_29]
        rw [if_pos (by rw [z_ltN (by omega) (by omega)]; exact c), this]
      · have st : tX3_goodOf_29 C p (nI i) (nI (8 - l + a)) (acc, nI h) = some (.inr (acc ||| (C.2.1 82 i &&& ((1 : Int32) <<< (nI h &&& 31))), nI (h + 1))) := by
          simp only [tX3_goodOf_29]
          rw [if_neg (by rw [z_ltN (by omega) (by omega)]; exact c), if_neg (by rw [show (8 : Int32) = nI 8 from rfl, z_ltN (by omega) (by omega)]; omega), if_pos i1, c1, nI_1]
        rw [q_run_go st]
        refine ih (h + 1) _ (by omega) (fun e => ?_) (by omega)
        rw [b_or, hacc, b_and, b_sh (by omega)]
        by_cases c2 : e < h
        · simp [c2, show e < h + 1 by omega, show ¬ e = h by omega]
        · by_cases c3 : e = h
          · subst c3
            simp [show e < 9 by omega, hah, show e + l ≤ 8 + a by omega]
          · simp [c2, c3, show ¬ e < h + 1 by omega]
  by_cases c9 : a ≤ 9
  · exact loop (9 - a) a 0 (by omega) (fun e => by
      rw [b_0]
      by_cases c : e < a
      · rw [decide_eq_true c, decide_eq_false (show ¬ a ≤ e by omega)]; simp
      · rw [decide_eq_false c, Bool.false_and]) (Nat.le_refl _)
  · refine q_run_ret ?_
    have : (0 : Int32) = h_gd (C.2.1 82 i) a l := by
      apply b_ext
      intro e he
      rw [b_0, h_gd_b]
      by_cases c : e < 9
      · rw [decide_eq_false (show ¬ a ≤ e by omega)]; simp
      · rw [decide_eq_false c, Bool.false_and]
    simp only [tX3_goodOf_29]
    by_cases c : 8 - l + a < a
    · rw [if_pos (by rw [z_ltN (by omega) (by omega)]; exact c), ← this]
    · rw [if_neg (by rw [z_ltN (by omega) (by omega)]; exact c), if_pos (by rw [show (8 : Int32) = nI 8 from rfl, z_ltN (by omega) (by omega)]; omega), ← this]
end ZHC
