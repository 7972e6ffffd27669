/-! ===== what instructions take and leave, and where they go ===== -/
def t_hm (k : Int32) (z : Option Int32) : Option Int32 :=
  if k = (3 : Int32) ∨ k = (5 : Int32) ∨ k = (6 : Int32) ∨ k = (18 : Int32) ∨ k = (26 : Int32) ∨ k = (27 : Int32) ∨ k = (31 : Int32) ∨ k = (32 : Int32) ∨ k = (35 : Int32) ∨ k = (37 : Int32) ∨ k = (38 : Int32) ∨ k = (41 : Int32) ∨ k = (42 : Int32) ∨ k = (45 : Int32) then
      some ((1 : Int32))
  else if k = (7 : Int32) ∨ k = (28 : Int32) ∨ k = (29 : Int32) ∨ k = (33 : Int32) ∨ k = (36 : Int32) then
      some ((2 : Int32))
  else if k = (34 : Int32) then
      some ((3 : Int32))
  else if k = (39 : Int32) ∨ k = (40 : Int32) then
      z
  else if k < (8 : Int32) then
      if k < (20 : Int32) then
        some ((0 : Int32))
      else
        if (25 : Int32) < k then
          some ((0 : Int32))
        else
          some ((2 : Int32))
    else
      if k ≤ (17 : Int32) then
        some ((2 : Int32))
      else
        if k < (20 : Int32) then
          some ((0 : Int32))
        else
          if (25 : Int32) < k then
            some ((0 : Int32))
          else
            some ((2 : Int32))
def t_lv (k : Int32) (z : Option Int32) : Option Int32 :=
  if k = (0 : Int32) ∨ k = (1 : Int32) ∨ k = (2 : Int32) ∨ k = (18 : Int32) ∨ k = (30 : Int32) ∨ k = (31 : Int32) ∨ k = (32 : Int32) ∨ k = (33 : Int32) ∨ k = (35 : Int32) ∨ k = (37 : Int32) ∨ k = (38 : Int32) ∨ k = (44 : Int32) then
      some ((1 : Int32))
  else if k = (5 : Int32) ∨ k = (7 : Int32) then
      some ((2 : Int32))
  else if k = (39 : Int32) ∨ k = (40 : Int32) then
      z
  else if k < (8 : Int32) then
      some ((0 : Int32))
    else
      if (17 : Int32) < k then
        some ((0 : Int32))
      else
        some ((1 : Int32))
theorem t_hm_eq (S : QS) (q : Nat) (x1 : Int32) : fX12_howMany S q x1 = if q_inb x1 1024 = true then t_hm (S.2.1 (q + 15) x1.toNatClampNeg) (if q_inb x1 1024 = true then if q_inb (S.2.1 (q + 16) x1.toNatClampNeg) 48 = true then some ((S.2.1 (q + 8) (S.2.1 (q + 16) x1.toNatClampNeg).toNatClampNeg)) else none else none) else none := rfl
theorem t_lv_eq (S : QS) (q : Nat) (x1 : Int32) : fX12_leaves S q x1 = if q_inb x1 1024 = true then t_lv (S.2.1 (q + 15) x1.toNatClampNeg) (if q_inb x1 1024 = true then if q_inb (S.2.1 (q + 16) x1.toNatClampNeg) 48 = true then if (S.2.1 (q + 10) (S.2.1 (q + 16) x1.toNatClampNeg).toNatClampNeg) = (-1 : Int32) then
        some ((0 : Int32))
      else
        some ((1 : Int32)) else none else none) else none := rfl
def tb_T : List Nat := [0, 0, 0, 1, 0, 1, 1, 2, 2, 2, 2, 2, 2, 2, 2, 2, 2, 2, 1, 0, 2, 2, 2, 2, 2, 2, 1, 1, 2, 2, 0, 1, 1, 2, 3, 1, 2, 1, 1, 0, 0, 1, 1, 0, 0, 1]
def tb_L : List Nat := [1, 1, 1, 0, 0, 2, 0, 2, 1, 1, 1, 1, 1, 1, 1, 1, 1, 1, 1, 0, 0, 0, 0, 0, 0, 0, 0, 0, 0, 0, 1, 1, 1, 1, 0, 1, 0, 1, 1, 0, 0, 0, 0, 0, 1, 0]
theorem t_hm_at : ∀ k : Fin 46, k.1 = 39 ∨ k.1 = 40 ∨ t_hm (nI k) none = some (nI (tb_T.getD k 0)) := by decide +kernel
theorem t_lv_at : ∀ k : Fin 46, k.1 = 39 ∨ k.1 = 40 ∨ t_lv (nI k) none = some (nI (tb_L.getD k 0)) := by decide +kernel
theorem t_hm_39 (z : Option Int32) : t_hm 39 z = z ∧ t_hm 40 z = z := ⟨rfl, rfl⟩
theorem t_lv_39 (z : Option Int32) : t_lv 39 z = z ∧ t_lv 40 z = z := ⟨rfl, rfl⟩
theorem t_hm_z {k : Int32} {z : Option Int32} (h1 : ¬ k = 39) (h2 : ¬ k = 40) : t_hm k z = t_hm k none := by
  simp only [t_hm, if_neg (show ¬ (k = 39 ∨ k = 40) from not_or.mpr ⟨h1, h2⟩)]
theorem t_lv_z {k : Int32} {z : Option Int32} (h1 : ¬ k = 39) (h2 : ¬ k = 40) : t_lv k z = t_lv k none := by
  simp only [t_lv, if_neg (show ¬ (k = 39 ∨ k = 40) from not_or.mpr ⟨h1, h2⟩)]
theorem tb_T_at : ∀ k : Fin 46, (q_tab 0).getD k 0 = nI (tb_T.getD k 0) ∧ tb_T.getD k 0 ≤ 3 := by decide +kernel
theorem tb_L_at : ∀ k : Fin 46, (q_tab 1).getD k 0 = nI (tb_L.getD k 0) ∧ tb_L.getD k 0 ≤ 2 := by decide +kernel
/-- the body that an instruction calls -/
def k_fb (P : ZP) (i : Nat) : Nat := (P.ya i).toNatClampNeg
def k_tk (M : ZM) (P : ZP) (i : Nat) : Nat := if P.op i = 39 ∨ P.op i = 40 then M.ba (k_fb P i) else tb_T.getD (P.op i) 0
def k_lv (M : ZM) (P : ZP) (i : Nat) : Nat := if P.op i = 39 ∨ P.op i = 40 then (if M.br (k_fb P i) = 68 then 0 else 1) else tb_L.getD (P.op i) 0
def k_nx (k : Nat) : Bool := !decide (k = 19 ∨ k = 41 ∨ k = 42 ∨ k = 43)
def k_lb (k : Nat) : Bool := decide (19 ≤ k ∧ k ≤ 29)
def k_cov (P : ZP) (k i : Nat) : Bool := decide (P.cb k = P.bd i) && (decide (P.cf k ≤ i) && decide (i < P.ct k))
section ZTAKE
variable {C D : QS} {n p q : Nat} {g : ZT} {K : ZK} {M : ZM} {P : ZP}
theorem k_fb_of {i f : Nat} (hf : f < 2147483648) (h : P.ya i = nI f) : k_fb P i = f := by rw [k_fb, h, z_cl hf]
theorem k_tk_le {i : Nat} (S : c_S p q n g K M P C D) (hi : i < P.n) : k_tk M P i ≤ 12 ∧ k_lv M P i ≤ 2 := by
  have w := S.wI i hi
  have h48 := S.mJ.mB.1
  rw [k_tk, k_lv]
  by_cases c : P.op i = 39 ∨ P.op i = 40
  · rw [if_pos c, if_pos c]
    obtain ⟨f, cc, x1, x2, x3, x4, -⟩ := w.oB c
    rw [k_fb_of (by omega) x1]
    obtain ⟨e, H⟩ := S.mJ.hd f x4
    refine ⟨Nat.le_trans H.bl H.b12, ?_⟩
    split <;> omega
  · rw [if_neg c, if_neg c]
    have a := (tb_T_at ⟨P.op i, w.op⟩).2
    have b := (tb_L_at ⟨P.op i, w.op⟩).2
    exact ⟨Nat.le_trans a (by omega), b⟩
theorem z_nk46 {k m : Nat} (hk : k < 46) (hm : m < 100) : (nI k = nI m) = (k = m) := z_eqN (by omega) (by omega)
theorem z_takes5 {i : Nat} (hG : z_G n g) (S : c_S p q n g K M P C D) (hi : i < P.n) : fX5_takes C p (nI i) = some (nI (k_tk M P i)) := by
  have w := S.wI i hi
  have h48 := S.mJ.mB.1
  have bn := S.bn
  obtain ⟨y1, y2, -⟩ := S.iC i hi
  have hop := w.op
  have q39 : (nI (P.op i) = 39) = (P.op i = 39) := z_nk46 hop (m := 39) (by omega)
  have q40 : (nI (P.op i) = 40) = (P.op i = 40) := z_nk46 hop (m := 40) (by omega)
  simp only [fX5_takes, z_inbN (show i < 1024 by omega) (by decide), if_true, z_cl (show i < 2147483648 by omega), y1, y2, q39, q40, z_inbN hop (by decide), z_cl (show P.op i < 2147483648 by omega), (tb_T_at ⟨P.op i, hop⟩).1, k_tk]
  by_cases c : P.op i = 39 ∨ P.op i = 40
  · obtain ⟨f, cc, x1, x2, x3, x4, -⟩ := w.oB c
    obtain ⟨r1, r2, -⟩ := m_root hG S.mJ f x4
    rw [x2, if_pos c, k_fb_of (by omega) x1, ← r2]
    have hb := (S.mJ.cB.2 (M.bt f) (by omega)).2.2.2.1
    have ib := z_inbN (show M.bt f < 48 by omega) (by decide)
    have cb := z_cl (show M.bt f < 2147483648 by omega)
    by_cases c39 : P.op i = 39
    · rw [if_pos c39, if_pos ib, cb, hb]
    · rw [if_neg c39, if_pos (c.resolve_left c39), if_pos ib, cb, hb]
  · rw [if_neg c, if_neg (fun x => c (Or.inl x)), if_neg (fun x => c (Or.inr x))]
theorem z_leaves5 {i : Nat} (hG : z_G n g) (hK : k_K g K) (S : c_S p q n g K M P C D) (hi : i < P.n) : fX5_leaves C p (nI i) = some (nI (k_lv M P i)) := by
  have w := S.wI i hi
  have h48 := S.mJ.mB.1
  have bn := S.bn
  obtain ⟨y1, y2, -⟩ := S.iC i hi
  have hop := w.op
  have q39 : (nI (P.op i) = 39) = (P.op i = 39) := z_nk46 hop (m := 39) (by omega)
  have q40 : (nI (P.op i) = 40) = (P.op i = 40) := z_nk46 hop (m := 40) (by omega)
  simp only [fX5_leaves, fX5_leaves_22, z_inbN (show i < 1024 by omega) (by decide), if_true, z_cl (show i < 2147483648 by omega), y1, y2, q39, q40, z_inbN hop (by decide), z_cl (show P.op i < 2147483648 by omega), (tb_L_at ⟨P.op i, hop⟩).1, k_lv]
  by_cases c : P.op i = 39 ∨ P.op i = 40
  · obtain ⟨f, cc, x1, x2, x3, x4, -⟩ := w.oB c
    obtain ⟨r1, r2, r3, -⟩ := m_root hG S.mJ f x4
    have hr : M.br f < 69 := by
      rcases k_br_rng hK S.mJ x4 with h | h
      · omega
      · have := k_tok_lt hK h; omega
    rw [x2, if_pos c, k_fb_of (by omega) x1]
    have hb := (S.mJ.cB.2 (M.bt f) (by omega)).2.2.2.2.1
    rw [r3] at hb
    have ib := z_inbN (show M.bt f < 48 by omega) (by decide)
    have cb := z_cl (show M.bt f < 2147483648 by omega)
    have q68 : (nI (M.br f) = 68) = (M.br f = 68) := by rw [show (68 : Int32) = nI 68 from rfl, z_eqN (by omega) (by decide)]
    rw [ib, cb, hb]
    simp only [if_true, q68]
    by_cases c39 : P.op i = 39
    · rw [if_pos c39]
      by_cases x : M.br f = 68
      · rw [if_pos x, if_pos x]; rfl
      · rw [if_neg x, if_neg x]; rfl
    · rw [if_neg c39, if_pos (c.resolve_left c39)]
      by_cases x : M.br f = 68
      · rw [if_pos x, if_pos x]; rfl
      · rw [if_neg x, if_neg x]; rfl
  · rw [if_neg c, if_neg (fun x => c (Or.inl x)), if_neg (fun x => c (Or.inr x))]
theorem z_howMany {i : Nat} (S : c_S p q n g K M P C D) (hi : i < P.n) : fX12_howMany D q (nI i) = some (nI (k_tk M P i)) := by
  have w := S.wI i hi
  have h48 := S.mJ.mB.1
  have bn := S.bn
  obtain ⟨y1, y2, -⟩ := S.iD i hi
  have hop := w.op
  have i1 := z_inbN (show i < 1024 by omega) (by decide)
  rw [t_hm_eq, if_pos i1, if_pos i1, z_cl (by omega), y1, y2, k_tk]
  by_cases c : P.op i = 39 ∨ P.op i = 40
  · obtain ⟨f, cc, x1, x2, x3, x4, -⟩ := w.oB c
    have hb := (S.mJ.dB.2 f x4).2.2.2.1
    have ib := z_inbN (show f < 48 by omega) (by decide)
    rw [if_pos c, k_fb_of (by omega) x1, x1, if_pos ib, z_cl (by omega), hb]
    rcases c with c | c
    · rw [c]; exact (t_hm_39 _).1
    · rw [c]; exact (t_hm_39 _).2
  · have n39 : ¬ nI (P.op i) = 39 := fun h => c (Or.inl ((z_nk46 hop (m := 39) (by omega)).mp h))
    have n40 : ¬ nI (P.op i) = 40 := fun h => c (Or.inr ((z_nk46 hop (m := 40) (by omega)).mp h))
    rw [if_neg c, t_hm_z n39 n40]
    rcases t_hm_at ⟨P.op i, hop⟩ with h | h | h
    · exact absurd (Or.inl h) c
    · exact absurd (Or.inr h) c
    · exact h
theorem z_leaves12 {i : Nat} (hK : k_K g K) (S : c_S p q n g K M P C D) (hi : i < P.n) : fX12_leaves D q (nI i) = some (nI (k_lv M P i)) := by
  have w := S.wI i hi
  have h48 := S.mJ.mB.1
  have bn := S.bn
  obtain ⟨y1, y2, -⟩ := S.iD i hi
  have hop := w.op
  have i1 := z_inbN (show i < 1024 by omega) (by decide)
  rw [t_lv_eq, if_pos i1, if_pos i1, z_cl (by omega), y1, y2, k_lv]
  by_cases c : P.op i = 39 ∨ P.op i = 40
  · obtain ⟨f, cc, x1, x2, x3, x4, -⟩ := w.oB c
    have hb := (S.mJ.dB.2 f x4).2.2.2.2.1
    have ib := z_inbN (show f < 48 by omega) (by decide)
    have hr : M.br f < 69 := by
      rcases k_br_rng hK S.mJ x4 with h | h
      · omega
      · have := k_tok_lt hK h; omega
    rw [if_pos c, k_fb_of (by omega) x1, x1, if_pos ib, z_cl (by omega), hb]
    have hz : ((if k_y (M.br f) = -1 then some 0 else some 1) : Option Int32) = some (nI (if M.br f = 68 then 0 else 1)) := by
      by_cases x : M.br f = 68
      · rw [if_pos (by rw [k_y_m1 hr]; exact x), if_pos x]; rfl
      · rw [if_neg (by rw [k_y_m1 hr]; exact x), if_neg x]; rfl
    rw [hz]
    rcases c with c | c
    · rw [c]; exact (t_lv_39 _).1
    · rw [c]; exact (t_lv_39 _).2
  · have n39 : ¬ nI (P.op i) = 39 := fun h => c (Or.inl ((z_nk46 hop (m := 39) (by omega)).mp h))
    have n40 : ¬ nI (P.op i) = 40 := fun h => c (Or.inr ((z_nk46 hop (m := 40) (by omega)).mp h))
    rw [if_neg c, t_lv_z n39 n40]
    rcases t_lv_at ⟨P.op i, hop⟩ with h | h | h
    · exact absurd (Or.inl h) c
    · exact absurd (Or.inr h) c
    · exact h
theorem z_goesOn {k : Nat} (hk : k < 46) (S : QS) : fX1_goesOn S (nI k) = some (k_nx k) ∧ fX12_hasNext S (nI k) = some (k_nx k) := by
  have h : fX1_goesOn S (nI k) = some (k_nx k) := by
    simp only [fX1_goesOn, k_nx, show (nI k = (19 : Int32)) = (k = 19) from z_nk46 hk (m := 19) (by omega), show (nI k = (41 : Int32)) = (k = 41) from z_nk46 hk (m := 41) (by omega), show (nI k = (42 : Int32)) = (k = 42) from z_nk46 hk (m := 42) (by omega), show (nI k = (43 : Int32)) = (k = 43) from z_nk46 hk (m := 43) (by omega)]
    by_cases c1 : k = 19
    · simp [c1]
    · by_cases c2 : k = 41
      · simp [c2]
      · by_cases c3 : k = 42
        · simp [c3]
        · by_cases c4 : k = 43
          · simp [c4]
          · simp [c1, c2, c3, c4]
  exact ⟨h, h⟩
theorem z_hasLabel {k : Nat} (hk : k < 46) (S : QS) : fX1_goesToLabel S (nI k) = some (k_lb k) ∧ fX12_hasLabel S (nI k) = some (k_lb k) := ⟨z_goesToLabel hk S, z_goesToLabel hk S⟩
theorem s_N.ct {i k m : Nat} (N : s_N p q n g K M P m C D) (hk : k < P.nc) : P.ct k ≤ 1024 ∧ P.cf k ≤ 1024 ∧ P.ca k < P.n := by
  have w := N.S.wK k hk
  have B := N.B (P.cb k) w.cb
  have b1 := B.le
  have b2 := N.S.bn
  have w1 := w.hi
  have w2 := w.ft
  have w3 := w.ah
  omega
theorem z_isCaught {i k m : Nat} (N : s_N p q n g K M P m C D) (hi : i < P.n) (hk : k < P.nc) : fX1_isCaught C p (nI i) (nI k) = some (decide (P.cf k ≤ i) && decide (i < P.ct k)) := by
  have S := N.S
  have bn := S.bn
  have bk := S.bk
  obtain ⟨y1, y2, -⟩ := S.aC k hk
  have big := N.ct (i := i) hk
  simp only [fX1_isCaught, z_inbN (show k < 64 by omega) (by decide), if_true, z_cl (show k < 2147483648 by omega), y1, y2, z_ltN (show i < 2147483648 by omega) (show P.cf k < 2147483648 by omega), z_leN (show P.ct k < 2147483648 by omega) (show i < 2147483648 by omega)]
  by_cases c1 : i < P.cf k
  · rw [if_pos c1, decide_eq_false (by omega), Bool.false_and]
  · rw [if_neg c1, decide_eq_true (by omega), Bool.true_and]
    by_cases c2 : P.ct k ≤ i
    · rw [if_pos c2, decide_eq_false (by omega)]
    · rw [if_neg c2, decide_eq_true (by omega)]
theorem z_covers {i k m : Nat} (N : s_N p q n g K M P m C D) (hi : i < P.n) (hk : k < P.nc) : fX12_covers D q (nI k) (nI i) = some (k_cov P k i) := by
  have S := N.S
  have bn := S.bn
  have bk := S.bk
  have h48 := S.mJ.mB.1
  have wb := (S.wI i hi).bd
  have wc := (S.wK k hk).cb
  obtain ⟨y1, y2, y3, -⟩ := S.aD k hk
  have y5 := (S.iD i hi).2.2.2.2
  have big := N.ct (i := i) hk
  simp only [fX12_covers, z_inbN (show k < 64 by omega) (by decide), z_inbN (show i < 1024 by omega) (by decide), if_true, z_cl (show k < 2147483648 by omega), z_cl (show i < 2147483648 by omega), y1, y2, y3, y5, z_eqN (show P.cb k < 2147483648 by omega) (show P.bd i < 2147483648 by omega), z_ltN (show i < 2147483648 by omega) (show P.cf k < 2147483648 by omega), z_leN (show P.ct k < 2147483648 by omega) (show i < 2147483648 by omega), k_cov]
  by_cases c0 : P.cb k = P.bd i
  · rw [if_pos c0, decide_eq_true c0, Bool.true_and]
    by_cases c1 : i < P.cf k
    · rw [if_pos c1, decide_eq_false (by omega), Bool.false_and]
    · rw [if_neg c1, decide_eq_true (by omega), Bool.true_and]
      by_cases c2 : P.ct k ≤ i
      · rw [if_pos c2, decide_eq_false (by omega)]
      · rw [if_neg c2, decide_eq_true (by omega)]
  · rw [if_neg c0, decide_eq_false c0, Bool.false_and]
end ZTAKE
