/-! ===== the constructors ===== -/
section QINI
variable {g : QG} {M : QM} {d K N : Nat} {Q : Option Value → QS → Prop} {k n pc : Nat} {lv : List (Nat × Value)} {st : List Value} {S : QS}
theorem q_new2 {ci idx id : Nat} (hid : S.1.length = id) (hc : ci < 13) (hcl : Cond.classLink M.1.cls idx (q_c0 ci).1 ∈ q_T) (hinst : Cond.instantiable (q_c0 ci).1 (q_nf ci) ∈ q_T) (hini : Cond.initialized (q_c0 ci).1 ∈ q_T) (hk : k + 1 ≤ K) (hn : n + q_nf ci ≤ N) (hlen : S.1.length < 1000000) (hd : decode M.2.1 pc = .ok (.new idx, 3)) (h : q_L g M d K N Q (k + 1) (n + q_nf ci) (pc + 3) lv (.ref id :: st) (q_nw S (.inl ci))) : q_L g M d K N Q k n pc lv st S := by
  subst hid; exact q_new hc hcl hinst hini hk hn hlen hd h
theorem q_newa2 {t len id : Nat} {at_ : ArrayType} {i : Int32} (hid : S.1.length = id) (ht : t < 4) (hty : newarray.typeOf at_ = q_et t) (hw : Cond.arrayClass (q_et t) ∈ q_T) (hi : ¬ i < 0) (hlen1 : i.toNatClampNeg = len) (hbig : len ≤ 1000000) (hk : k + 1 ≤ K) (hn : n + len ≤ N) (hlen : S.1.length < 1000000) (hd : decode M.2.1 pc = .ok (.newarray at_, 2)) (h : q_L g M d K N Q (k + 1) (n + len) (pc + 2) lv (.ref id :: st) (q_nw S (.inr (t, len)))) : q_L g M d K N Q k n pc lv (.int i :: st) S := by
  subst hid; exact q_newa (idx := 0) ht hty hw hi hlen1 hbig hk hn hlen hd h
theorem q_kV2 {kc nc : Nat} {S0 : QS} (h : q_L g M d K N Q (k + kc) (n + nc) pc lv st S0) : ∀ (r : Option Value) (S' : QS), (r = none ∧ S' = S0) → q_L g M d K N Q (k + kc) (n + nc) pc lv (r.toList ++ st) S' := by rintro _ _ ⟨rfl, rfl⟩; exact h
theorem q_scrI2 {L : Nat} {xs : Nat → Int32} {i : Int32} (hL : g.2.2.2.2.2.1 = L) (hx : g.2.2.2.2.2.2 = xs) (hin : vp_in i L) (hd : decode M.2.1 pc = .ok (.iaload, 1)) (h : q_L g M d K N Q k n (pc + 1) lv (.int (xs i.toNatClampNeg) :: st) S) : q_L g M d K N Q k n pc lv (.int i :: .ref 1000300 :: st) S := by
  subst hL; subst hx; exact q_scrI hin hd h
theorem q_scrL2 {L : Nat} (hL : g.2.2.2.2.2.1 = L) (hd : decode M.2.1 pc = .ok (.arraylength, 1)) (h : q_L g M d K N Q k n (pc + 1) lv (.int (nI L) :: st) S) : q_L g M d K N Q k n pc lv (.ref 1000300 :: st) S := by
  subst hL; exact q_scrL hd h
end QINI
theorem q_shsR {S : QS} {o j r x : Nat} {sp : QSp} (h : S.1[x]? = some sp) : (q_sR S o j r).1[x]? = some sp := h
theorem q_shsI {S : QS} {o j x : Nat} {v : Int32} {sp : QSp} (h : S.1[x]? = some sp) : (q_sI S o j v).1[x]? = some sp := h
theorem q_len_nw (S : QS) (sp : QSp) : (q_nw S sp).1.length = S.1.length + 1 := by simp [q_nw]
theorem q_sh_nw {S : QS} {sp sp' : QSp} {o : Nat} (h : S.1[o]? = some sp) : (q_nw S sp').1[o]? = some sp := by
  show (S.1 ++ [sp'])[o]? = some sp
  rw [List.getElem?_append_left (List.getElem?_eq_some_iff.mp h).1]; exact h
theorem q_sh_new {S : QS} {sp : QSp} {i : Nat} (h : S.1.length = i) : (q_nw S sp).1[i]? = some sp := by
  subst h
  show (S.1 ++ [sp])[S.1.length]? = some sp
  simp
def fX0_init (S : QS) (o : Nat) : QS := q_sR (q_nw (q_sR (q_nw (q_sR (q_nw (q_sR (q_nw (q_sR (q_nw (q_sR (q_nw (q_sR (q_nw (q_sR (q_nw S (.inr (0, 32))) o 1 S.1.length) (.inr (0, 32))) o 2 (S.1.length + 1)) (.inr (0, 32))) o 3 (S.1.length + 2)) (.inr (0, 32))) o 4 (S.1.length + 3)) (.inr (0, 48))) o 6 (S.1.length + 4)) (.inr (0, 48))) o 7 (S.1.length + 5)) (.inr (0, 48))) o 8 (S.1.length + 6)) (.inr (0, 48))) o 9 (S.1.length + 7)
theorem lenX0_init (S : QS) (o : Nat) : (fX0_init S o).1.length = S.1.length + 8 := by
  simp only [fX0_init, q_len_nw, q_sR, q_sI]
  try omega
theorem shX0_init {S : QS} {o : Nat} {x : Nat} {sp : QSp} (h : S.1[x]? = some sp) : (fX0_init S o).1[x]? = some sp := by
  unfold fX0_init
  repeat (first | exact h | apply q_sh_nw | apply q_shsR | apply q_shsI)
set_option maxRecDepth 20000 in
theorem kX0_init {g : QG} {Q : Option Value → QS → Prop} {S : QS} {o : Nat} (hs : S.1[o]? = some (.inl 0)) (hl : S.1.length + 8 ≤ 1000000) (hQ : Q none (fX0_init S o)) : q_M g mX0_init 1 8 320 [.ref o] S Q := by
  show q_L g mX0_init 1 8 320 Q 0 0 0 [(0, .ref o)] [] S
  refine q_aload_n 0 rfl rfl dX0_init_0 ?_
  refine q_objI (List.getElem?_eq_some_iff.mp hs).1 lmX0_3 q_oii q_oic (Nat.le_of_ble_eq_true rfl) dX0_init_1 ?_
  refine q_aload_n 0 rfl rfl dX0_init_4 ?_
  refine q_bipush (v := (32 : Int32)) (by decide) dX0_init_5 ?_
  refine q_newa2 (i := (32 : Int32)) (t := 0) (len := 32) rfl (by decide) rfl q_ac0 (by decide) (by decide) (by decide) (by decide) (by decide) (by omega) dX0_init_7 ?_
  obtain ⟨S1, e1⟩ : ∃ y, y = q_nw S (.inr (0, 32)) := ⟨_, rfl⟩
  rw [← e1]
  have l1 : S1.1.length = S.1.length + 1 := by rw [e1]; rw [q_len_nw]
  have hs : S1.1[o]? = some (.inl 0) := by rw [e1]; exact q_sh_nw hs
  refine q_putFR hs (by decide) (by decide) rfl rfl rfl rfl lfX0_9 dX0_init_9 ?_
  obtain ⟨S2, e2⟩ : ∃ y, y = q_sR S1 o 1 S.1.length := ⟨_, rfl⟩
  rw [← e2]
  have l2 : S2.1.length = S.1.length + 1 := by rw [e2]; exact l1
  have hs : S2.1[o]? = some (.inl 0) := by rw [e2]; exact hs
  refine q_aload_n 0 rfl rfl dX0_init_12 ?_
  refine q_bipush (v := (32 : Int32)) (by decide) dX0_init_13 ?_
  refine q_newa2 (i := (32 : Int32)) (t := 0) (len := 32) l2 (by decide) rfl q_ac0 (by decide) (by decide) (by decide) (by decide) (by decide) (by omega) dX0_init_15 ?_
  obtain ⟨S3, e3⟩ : ∃ y, y = q_nw S2 (.inr (0, 32)) := ⟨_, rfl⟩
  rw [← e3]
  have l3 : S3.1.length = S.1.length + 2 := by rw [e3]; rw [q_len_nw]; omega
  have hs : S3.1[o]? = some (.inl 0) := by rw [e3]; exact q_sh_nw hs
  refine q_putFR hs (by decide) (by decide) rfl rfl rfl rfl lfX0_15 dX0_init_17 ?_
  obtain ⟨S4, e4⟩ : ∃ y, y = q_sR S3 o 2 (S.1.length + 1) := ⟨_, rfl⟩
  rw [← e4]
  have l4 : S4.1.length = S.1.length + 2 := by rw [e4]; exact l3
  have hs : S4.1[o]? = some (.inl 0) := by rw [e4]; exact hs
  refine q_aload_n 0 rfl rfl dX0_init_20 ?_
  refine q_bipush (v := (32 : Int32)) (by decide) dX0_init_21 ?_
  refine q_newa2 (i := (32 : Int32)) (t := 0) (len := 32) l4 (by decide) rfl q_ac0 (by decide) (by decide) (by decide) (by decide) (by decide) (by omega) dX0_init_23 ?_
  obtain ⟨S5, e5⟩ : ∃ y, y = q_nw S4 (.inr (0, 32)) := ⟨_, rfl⟩
  rw [← e5]
  have l5 : S5.1.length = S.1.length + 3 := by rw [e5]; rw [q_len_nw]; omega
  have hs : S5.1[o]? = some (.inl 0) := by rw [e5]; exact q_sh_nw hs
  refine q_putFR hs (by decide) (by decide) rfl rfl rfl rfl lfX0_18 dX0_init_25 ?_
  obtain ⟨S6, e6⟩ : ∃ y, y = q_sR S5 o 3 (S.1.length + 2) := ⟨_, rfl⟩
  rw [← e6]
  have l6 : S6.1.length = S.1.length + 3 := by rw [e6]; exact l5
  have hs : S6.1[o]? = some (.inl 0) := by rw [e6]; exact hs
  refine q_aload_n 0 rfl rfl dX0_init_28 ?_
  refine q_bipush (v := (32 : Int32)) (by decide) dX0_init_29 ?_
  refine q_newa2 (i := (32 : Int32)) (t := 0) (len := 32) l6 (by decide) rfl q_ac0 (by decide) (by decide) (by decide) (by decide) (by decide) (by omega) dX0_init_31 ?_
  obtain ⟨S7, e7⟩ : ∃ y, y = q_nw S6 (.inr (0, 32)) := ⟨_, rfl⟩
  rw [← e7]
  have l7 : S7.1.length = S.1.length + 4 := by rw [e7]; rw [q_len_nw]; omega
  have hs : S7.1[o]? = some (.inl 0) := by rw [e7]; exact q_sh_nw hs
  refine q_putFR hs (by decide) (by decide) rfl rfl rfl rfl lfX0_21 dX0_init_33 ?_
  obtain ⟨S8, e8⟩ : ∃ y, y = q_sR S7 o 4 (S.1.length + 3) := ⟨_, rfl⟩
  rw [← e8]
  have l8 : S8.1.length = S.1.length + 4 := by rw [e8]; exact l7
  have hs : S8.1[o]? = some (.inl 0) := by rw [e8]; exact hs
  refine q_aload_n 0 rfl rfl dX0_init_36 ?_
  refine q_bipush (v := (48 : Int32)) (by decide) dX0_init_37 ?_
  refine q_newa2 (i := (48 : Int32)) (t := 0) (len := 48) l8 (by decide) rfl q_ac0 (by decide) (by decide) (by decide) (by decide) (by decide) (by omega) dX0_init_39 ?_
  obtain ⟨S9, e9⟩ : ∃ y, y = q_nw S8 (.inr (0, 48)) := ⟨_, rfl⟩
  rw [← e9]
  have l9 : S9.1.length = S.1.length + 5 := by rw [e9]; rw [q_len_nw]; omega
  have hs : S9.1[o]? = some (.inl 0) := by rw [e9]; exact q_sh_nw hs
  refine q_putFR hs (by decide) (by decide) rfl rfl rfl rfl lfX0_24 dX0_init_41 ?_
  obtain ⟨S10, e10⟩ : ∃ y, y = q_sR S9 o 6 (S.1.length + 4) := ⟨_, rfl⟩
  rw [← e10]
  have l10 : S10.1.length = S.1.length + 5 := by rw [e10]; exact l9
  have hs : S10.1[o]? = some (.inl 0) := by rw [e10]; exact hs
  refine q_aload_n 0 rfl rfl dX0_init_44 ?_
  refine q_bipush (v := (48 : Int32)) (by decide) dX0_init_45 ?_
  refine q_newa2 (i := (48 : Int32)) (t := 0) (len := 48) l10 (by decide) rfl q_ac0 (by decide) (by decide) (by decide) (by decide) (by decide) (by omega) dX0_init_47 ?_
  obtain ⟨S11, e11⟩ : ∃ y, y = q_nw S10 (.inr (0, 48)) := ⟨_, rfl⟩
  rw [← e11]
  have l11 : S11.1.length = S.1.length + 6 := by rw [e11]; rw [q_len_nw]; omega
  have hs : S11.1[o]? = some (.inl 0) := by rw [e11]; exact q_sh_nw hs
  refine q_putFR hs (by decide) (by decide) rfl rfl rfl rfl lfX0_27 dX0_init_49 ?_
  obtain ⟨S12, e12⟩ : ∃ y, y = q_sR S11 o 7 (S.1.length + 5) := ⟨_, rfl⟩
  rw [← e12]
  have l12 : S12.1.length = S.1.length + 6 := by rw [e12]; exact l11
  have hs : S12.1[o]? = some (.inl 0) := by rw [e12]; exact hs
  refine q_aload_n 0 rfl rfl dX0_init_52 ?_
  refine q_bipush (v := (48 : Int32)) (by decide) dX0_init_53 ?_
  refine q_newa2 (i := (48 : Int32)) (t := 0) (len := 48) l12 (by decide) rfl q_ac0 (by decide) (by decide) (by decide) (by decide) (by decide) (by omega) dX0_init_55 ?_
  obtain ⟨S13, e13⟩ : ∃ y, y = q_nw S12 (.inr (0, 48)) := ⟨_, rfl⟩
  rw [← e13]
  have l13 : S13.1.length = S.1.length + 7 := by rw [e13]; rw [q_len_nw]; omega
  have hs : S13.1[o]? = some (.inl 0) := by rw [e13]; exact q_sh_nw hs
  refine q_putFR hs (by decide) (by decide) rfl rfl rfl rfl lfX0_30 dX0_init_57 ?_
  obtain ⟨S14, e14⟩ : ∃ y, y = q_sR S13 o 8 (S.1.length + 6) := ⟨_, rfl⟩
  rw [← e14]
  have l14 : S14.1.length = S.1.length + 7 := by rw [e14]; exact l13
  have hs : S14.1[o]? = some (.inl 0) := by rw [e14]; exact hs
  refine q_aload_n 0 rfl rfl dX0_init_60 ?_
  refine q_bipush (v := (48 : Int32)) (by decide) dX0_init_61 ?_
  refine q_newa2 (i := (48 : Int32)) (t := 0) (len := 48) l14 (by decide) rfl q_ac0 (by decide) (by decide) (by decide) (by decide) (by decide) (by omega) dX0_init_63 ?_
  obtain ⟨S15, e15⟩ : ∃ y, y = q_nw S14 (.inr (0, 48)) := ⟨_, rfl⟩
  rw [← e15]
  have l15 : S15.1.length = S.1.length + 8 := by rw [e15]; rw [q_len_nw]; omega
  have hs : S15.1[o]? = some (.inl 0) := by rw [e15]; exact q_sh_nw hs
  refine q_putFR hs (by decide) (by decide) rfl rfl rfl rfl lfX0_33 dX0_init_65 ?_
  obtain ⟨S16, e16⟩ : ∃ y, y = q_sR S15 o 9 (S.1.length + 7) := ⟨_, rfl⟩
  rw [← e16]
  have l16 : S16.1.length = S.1.length + 8 := by rw [e16]; exact l15
  have hs : S16.1[o]? = some (.inl 0) := by rw [e16]; exact hs
  refine q_vret rfl dX0_init_68 ?_
  try subst e16
  try subst e15
  try subst e14
  try subst e13
  try subst e12
  try subst e11
  try subst e10
  try subst e9
  try subst e8
  try subst e7
  try subst e6
  try subst e5
  try subst e4
  try subst e3
  try subst e2
  try subst e1
  try subst_vars
  exact hQ
def fX1_init (S : QS) (o : Nat) : QS := q_sR (q_nw (q_sR (q_nw (q_sR (q_nw (q_sR (q_nw (q_sR (q_nw (q_sR (q_nw (q_sR (q_nw (q_sR (q_nw (q_sR (q_nw (q_sR (q_nw (q_sR (q_nw S (.inr (0, 1024))) o 1 S.1.length) (.inr (0, 1024))) o 2 (S.1.length + 1)) (.inr (0, 1024))) o 3 (S.1.length + 2)) (.inr (0, 1024))) o 4 (S.1.length + 3)) (.inr (0, 1024))) o 5 (S.1.length + 4)) (.inr (0, 1024))) o 6 (S.1.length + 5)) (.inr (0, 1024))) o 7 (S.1.length + 6)) (.inr (0, 64))) o 10 (S.1.length + 7)) (.inr (0, 64))) o 11 (S.1.length + 8)) (.inr (0, 64))) o 12 (S.1.length + 9)) (.inr (0, 64))) o 13 (S.1.length + 10)
theorem lenX1_init (S : QS) (o : Nat) : (fX1_init S o).1.length = S.1.length + 11 := by
  simp only [fX1_init, q_len_nw, q_sR, q_sI, lenX0_init]
  try omega
theorem shX1_init {S : QS} {o : Nat} {x : Nat} {sp : QSp} (h : S.1[x]? = some sp) : (fX1_init S o).1[x]? = some sp := by
  unfold fX1_init
  repeat (first | exact h | apply q_sh_nw | apply q_shsR | apply q_shsI | apply shX0_init)
set_option maxRecDepth 20000 in
theorem kX1_init {g : QG} {Q : Option Value → QS → Prop} {S : QS} {o : Nat} (hs : S.1[o]? = some (.inl 1)) (hl : S.1.length + 11 ≤ 1000000) (hQ : Q none (fX1_init S o)) : q_M g mX1_init 1 11 7424 [.ref o] S Q := by
  show q_L g mX1_init 1 11 7424 Q 0 0 0 [(0, .ref o)] [] S
  refine q_aload_n 0 rfl rfl dX1_init_0 ?_
  refine q_objI (List.getElem?_eq_some_iff.mp hs).1 lmX1_3 q_oii q_oic (Nat.le_of_ble_eq_true rfl) dX1_init_1 ?_
  refine q_aload_n 0 rfl rfl dX1_init_4 ?_
  refine q_sipush (v := (1024 : Int32)) (by decide) dX1_init_5 ?_
  refine q_newa2 (i := (1024 : Int32)) (t := 0) (len := 1024) rfl (by decide) rfl q_ac0 (by decide) (by decide) (by decide) (by decide) (by decide) (by omega) dX1_init_8 ?_
  obtain ⟨S1, e1⟩ : ∃ y, y = q_nw S (.inr (0, 1024)) := ⟨_, rfl⟩
  rw [← e1]
  have l1 : S1.1.length = S.1.length + 1 := by rw [e1]; rw [q_len_nw]
  have hs : S1.1[o]? = some (.inl 1) := by rw [e1]; exact q_sh_nw hs
  refine q_putFR hs (by decide) (by decide) rfl rfl rfl rfl lfX1_9 dX1_init_10 ?_
  obtain ⟨S2, e2⟩ : ∃ y, y = q_sR S1 o 1 S.1.length := ⟨_, rfl⟩
  rw [← e2]
  have l2 : S2.1.length = S.1.length + 1 := by rw [e2]; exact l1
  have hs : S2.1[o]? = some (.inl 1) := by rw [e2]; exact hs
  refine q_aload_n 0 rfl rfl dX1_init_13 ?_
  refine q_sipush (v := (1024 : Int32)) (by decide) dX1_init_14 ?_
  refine q_newa2 (i := (1024 : Int32)) (t := 0) (len := 1024) l2 (by decide) rfl q_ac0 (by decide) (by decide) (by decide) (by decide) (by decide) (by omega) dX1_init_17 ?_
  obtain ⟨S3, e3⟩ : ∃ y, y = q_nw S2 (.inr (0, 1024)) := ⟨_, rfl⟩
  rw [← e3]
  have l3 : S3.1.length = S.1.length + 2 := by rw [e3]; rw [q_len_nw]; omega
  have hs : S3.1[o]? = some (.inl 1) := by rw [e3]; exact q_sh_nw hs
  refine q_putFR hs (by decide) (by decide) rfl rfl rfl rfl lfX1_15 dX1_init_19 ?_
  obtain ⟨S4, e4⟩ : ∃ y, y = q_sR S3 o 2 (S.1.length + 1) := ⟨_, rfl⟩
  rw [← e4]
  have l4 : S4.1.length = S.1.length + 2 := by rw [e4]; exact l3
  have hs : S4.1[o]? = some (.inl 1) := by rw [e4]; exact hs
  refine q_aload_n 0 rfl rfl dX1_init_22 ?_
  refine q_sipush (v := (1024 : Int32)) (by decide) dX1_init_23 ?_
  refine q_newa2 (i := (1024 : Int32)) (t := 0) (len := 1024) l4 (by decide) rfl q_ac0 (by decide) (by decide) (by decide) (by decide) (by decide) (by omega) dX1_init_26 ?_
  obtain ⟨S5, e5⟩ : ∃ y, y = q_nw S4 (.inr (0, 1024)) := ⟨_, rfl⟩
  rw [← e5]
  have l5 : S5.1.length = S.1.length + 3 := by rw [e5]; rw [q_len_nw]; omega
  have hs : S5.1[o]? = some (.inl 1) := by rw [e5]; exact q_sh_nw hs
  refine q_putFR hs (by decide) (by decide) rfl rfl rfl rfl lfX1_18 dX1_init_28 ?_
  obtain ⟨S6, e6⟩ : ∃ y, y = q_sR S5 o 3 (S.1.length + 2) := ⟨_, rfl⟩
  rw [← e6]
  have l6 : S6.1.length = S.1.length + 3 := by rw [e6]; exact l5
  have hs : S6.1[o]? = some (.inl 1) := by rw [e6]; exact hs
  refine q_aload_n 0 rfl rfl dX1_init_31 ?_
  refine q_sipush (v := (1024 : Int32)) (by decide) dX1_init_32 ?_
  refine q_newa2 (i := (1024 : Int32)) (t := 0) (len := 1024) l6 (by decide) rfl q_ac0 (by decide) (by decide) (by decide) (by decide) (by decide) (by omega) dX1_init_35 ?_
  obtain ⟨S7, e7⟩ : ∃ y, y = q_nw S6 (.inr (0, 1024)) := ⟨_, rfl⟩
  rw [← e7]
  have l7 : S7.1.length = S.1.length + 4 := by rw [e7]; rw [q_len_nw]; omega
  have hs : S7.1[o]? = some (.inl 1) := by rw [e7]; exact q_sh_nw hs
  refine q_putFR hs (by decide) (by decide) rfl rfl rfl rfl lfX1_21 dX1_init_37 ?_
  obtain ⟨S8, e8⟩ : ∃ y, y = q_sR S7 o 4 (S.1.length + 3) := ⟨_, rfl⟩
  rw [← e8]
  have l8 : S8.1.length = S.1.length + 4 := by rw [e8]; exact l7
  have hs : S8.1[o]? = some (.inl 1) := by rw [e8]; exact hs
  refine q_aload_n 0 rfl rfl dX1_init_40 ?_
  refine q_sipush (v := (1024 : Int32)) (by decide) dX1_init_41 ?_
  refine q_newa2 (i := (1024 : Int32)) (t := 0) (len := 1024) l8 (by decide) rfl q_ac0 (by decide) (by decide) (by decide) (by decide) (by decide) (by omega) dX1_init_44 ?_
  obtain ⟨S9, e9⟩ : ∃ y, y = q_nw S8 (.inr (0, 1024)) := ⟨_, rfl⟩
  rw [← e9]
  have l9 : S9.1.length = S.1.length + 5 := by rw [e9]; rw [q_len_nw]; omega
  have hs : S9.1[o]? = some (.inl 1) := by rw [e9]; exact q_sh_nw hs
  refine q_putFR hs (by decide) (by decide) rfl rfl rfl rfl lfX1_24 dX1_init_46 ?_
  obtain ⟨S10, e10⟩ : ∃ y, y = q_sR S9 o 5 (S.1.length + 4) := ⟨_, rfl⟩
  rw [← e10]
  have l10 : S10.1.length = S.1.length + 5 := by rw [e10]; exact l9
  have hs : S10.1[o]? = some (.inl 1) := by rw [e10]; exact hs
  refine q_aload_n 0 rfl rfl dX1_init_49 ?_
  refine q_sipush (v := (1024 : Int32)) (by decide) dX1_init_50 ?_
  refine q_newa2 (i := (1024 : Int32)) (t := 0) (len := 1024) l10 (by decide) rfl q_ac0 (by decide) (by decide) (by decide) (by decide) (by decide) (by omega) dX1_init_53 ?_
  obtain ⟨S11, e11⟩ : ∃ y, y = q_nw S10 (.inr (0, 1024)) := ⟨_, rfl⟩
  rw [← e11]
  have l11 : S11.1.length = S.1.length + 6 := by rw [e11]; rw [q_len_nw]; omega
  have hs : S11.1[o]? = some (.inl 1) := by rw [e11]; exact q_sh_nw hs
  refine q_putFR hs (by decide) (by decide) rfl rfl rfl rfl lfX1_27 dX1_init_55 ?_
  obtain ⟨S12, e12⟩ : ∃ y, y = q_sR S11 o 6 (S.1.length + 5) := ⟨_, rfl⟩
  rw [← e12]
  have l12 : S12.1.length = S.1.length + 6 := by rw [e12]; exact l11
  have hs : S12.1[o]? = some (.inl 1) := by rw [e12]; exact hs
  refine q_aload_n 0 rfl rfl dX1_init_58 ?_
  refine q_sipush (v := (1024 : Int32)) (by decide) dX1_init_59 ?_
  refine q_newa2 (i := (1024 : Int32)) (t := 0) (len := 1024) l12 (by decide) rfl q_ac0 (by decide) (by decide) (by decide) (by decide) (by decide) (by omega) dX1_init_62 ?_
  obtain ⟨S13, e13⟩ : ∃ y, y = q_nw S12 (.inr (0, 1024)) := ⟨_, rfl⟩
  rw [← e13]
  have l13 : S13.1.length = S.1.length + 7 := by rw [e13]; rw [q_len_nw]; omega
  have hs : S13.1[o]? = some (.inl 1) := by rw [e13]; exact q_sh_nw hs
  refine q_putFR hs (by decide) (by decide) rfl rfl rfl rfl lfX1_30 dX1_init_64 ?_
  obtain ⟨S14, e14⟩ : ∃ y, y = q_sR S13 o 7 (S.1.length + 6) := ⟨_, rfl⟩
  rw [← e14]
  have l14 : S14.1.length = S.1.length + 7 := by rw [e14]; exact l13
  have hs : S14.1[o]? = some (.inl 1) := by rw [e14]; exact hs
  refine q_aload_n 0 rfl rfl dX1_init_67 ?_
  refine q_bipush (v := (64 : Int32)) (by decide) dX1_init_68 ?_
  refine q_newa2 (i := (64 : Int32)) (t := 0) (len := 64) l14 (by decide) rfl q_ac0 (by decide) (by decide) (by decide) (by decide) (by decide) (by omega) dX1_init_70 ?_
  obtain ⟨S15, e15⟩ : ∃ y, y = q_nw S14 (.inr (0, 64)) := ⟨_, rfl⟩
  rw [← e15]
  have l15 : S15.1.length = S.1.length + 8 := by rw [e15]; rw [q_len_nw]; omega
  have hs : S15.1[o]? = some (.inl 1) := by rw [e15]; exact q_sh_nw hs
  refine q_putFR hs (by decide) (by decide) rfl rfl rfl rfl lfX1_33 dX1_init_72 ?_
  obtain ⟨S16, e16⟩ : ∃ y, y = q_sR S15 o 10 (S.1.length + 7) := ⟨_, rfl⟩
  rw [← e16]
  have l16 : S16.1.length = S.1.length + 8 := by rw [e16]; exact l15
  have hs : S16.1[o]? = some (.inl 1) := by rw [e16]; exact hs
  refine q_aload_n 0 rfl rfl dX1_init_75 ?_
  refine q_bipush (v := (64 : Int32)) (by decide) dX1_init_76 ?_
  refine q_newa2 (i := (64 : Int32)) (t := 0) (len := 64) l16 (by decide) rfl q_ac0 (by decide) (by decide) (by decide) (by decide) (by decide) (by omega) dX1_init_78 ?_
  obtain ⟨S17, e17⟩ : ∃ y, y = q_nw S16 (.inr (0, 64)) := ⟨_, rfl⟩
  rw [← e17]
  have l17 : S17.1.length = S.1.length + 9 := by rw [e17]; rw [q_len_nw]; omega
  have hs : S17.1[o]? = some (.inl 1) := by rw [e17]; exact q_sh_nw hs
  refine q_putFR hs (by decide) (by decide) rfl rfl rfl rfl lfX1_36 dX1_init_80 ?_
  obtain ⟨S18, e18⟩ : ∃ y, y = q_sR S17 o 11 (S.1.length + 8) := ⟨_, rfl⟩
  rw [← e18]
  have l18 : S18.1.length = S.1.length + 9 := by rw [e18]; exact l17
  have hs : S18.1[o]? = some (.inl 1) := by rw [e18]; exact hs
  refine q_aload_n 0 rfl rfl dX1_init_83 ?_
  refine q_bipush (v := (64 : Int32)) (by decide) dX1_init_84 ?_
  refine q_newa2 (i := (64 : Int32)) (t := 0) (len := 64) l18 (by decide) rfl q_ac0 (by decide) (by decide) (by decide) (by decide) (by decide) (by omega) dX1_init_86 ?_
  obtain ⟨S19, e19⟩ : ∃ y, y = q_nw S18 (.inr (0, 64)) := ⟨_, rfl⟩
  rw [← e19]
  have l19 : S19.1.length = S.1.length + 10 := by rw [e19]; rw [q_len_nw]; omega
  have hs : S19.1[o]? = some (.inl 1) := by rw [e19]; exact q_sh_nw hs
  refine q_putFR hs (by decide) (by decide) rfl rfl rfl rfl lfX1_39 dX1_init_88 ?_
  obtain ⟨S20, e20⟩ : ∃ y, y = q_sR S19 o 12 (S.1.length + 9) := ⟨_, rfl⟩
  rw [← e20]
  have l20 : S20.1.length = S.1.length + 10 := by rw [e20]; exact l19
  have hs : S20.1[o]? = some (.inl 1) := by rw [e20]; exact hs
  refine q_aload_n 0 rfl rfl dX1_init_91 ?_
  refine q_bipush (v := (64 : Int32)) (by decide) dX1_init_92 ?_
  refine q_newa2 (i := (64 : Int32)) (t := 0) (len := 64) l20 (by decide) rfl q_ac0 (by decide) (by decide) (by decide) (by decide) (by decide) (by omega) dX1_init_94 ?_
  obtain ⟨S21, e21⟩ : ∃ y, y = q_nw S20 (.inr (0, 64)) := ⟨_, rfl⟩
  rw [← e21]
  have l21 : S21.1.length = S.1.length + 11 := by rw [e21]; rw [q_len_nw]; omega
  have hs : S21.1[o]? = some (.inl 1) := by rw [e21]; exact q_sh_nw hs
  refine q_putFR hs (by decide) (by decide) rfl rfl rfl rfl lfX1_42 dX1_init_96 ?_
  obtain ⟨S22, e22⟩ : ∃ y, y = q_sR S21 o 13 (S.1.length + 10) := ⟨_, rfl⟩
  rw [← e22]
  have l22 : S22.1.length = S.1.length + 11 := by rw [e22]; exact l21
  have hs : S22.1[o]? = some (.inl 1) := by rw [e22]; exact hs
  refine q_vret rfl dX1_init_99 ?_
  try subst e22
  try subst e21
  try subst e20
  try subst e19
  try subst e18
  try subst e17
  try subst e16
  try subst e15
  try subst e14
  try subst e13
  try subst e12
  try subst e11
  try subst e10
  try subst e9
  try subst e8
  try subst e7
  try subst e6
  try subst e5
  try subst e4
  try subst e3
  try subst e2
  try subst e1
  try subst_vars
  exact hQ
def fX5_init (S : QS) (o : Nat) : QS := q_sR (q_nw (q_sR (q_nw (q_sR (q_nw (q_sR (q_nw (q_sR (q_nw (q_sR (q_nw (q_sR (q_nw (q_sR (q_nw (q_sR (q_nw (q_sR (q_nw (q_sR (q_nw (q_sR (q_nw (q_sR (q_nw (q_sR (fX1_init (q_nw (q_sR (fX0_init (q_nw S (.inl 0)) S.1.length) o 0 S.1.length) (.inl 1)) (S.1.length + 9)) o 1 (S.1.length + 9)) (.inr (0, 48))) o 3 (S.1.length + 21)) (.inr (0, 48))) o 4 (S.1.length + 22)) (.inr (3, 48))) o 5 (S.1.length + 23)) (.inr (0, 48))) o 6 (S.1.length + 24)) (.inr (0, 576))) o 7 (S.1.length + 25)) (.inr (0, 48))) o 8 (S.1.length + 26)) (.inr (0, 48))) o 9 (S.1.length + 27)) (.inr (0, 48))) o 10 (S.1.length + 28)) (.inr (0, 48))) o 11 (S.1.length + 29)) (.inr (0, 48))) o 12 (S.1.length + 30)) (.inr (0, 48))) o 13 (S.1.length + 31)) (.inr (0, 48))) o 14 (S.1.length + 32)) (.inr (0, 1536))) o 15 (S.1.length + 33)
theorem lenX5_init (S : QS) (o : Nat) : (fX5_init S o).1.length = S.1.length + 34 := by
  simp only [fX5_init, q_len_nw, q_sR, q_sI, lenX0_init, lenX1_init]
  try omega
theorem shX5_init {S : QS} {o : Nat} {x : Nat} {sp : QSp} (h : S.1[x]? = some sp) : (fX5_init S o).1[x]? = some sp := by
  unfold fX5_init
  repeat (first | exact h | apply q_sh_nw | apply q_shsR | apply q_shsI | apply shX0_init | apply shX1_init)
set_option maxRecDepth 20000 in
theorem kX5_init {g : QG} {Q : Option Value → QS → Prop} {S : QS} {o : Nat} (hs : S.1[o]? = some (.inl 5)) (hl : S.1.length + 34 ≤ 1000000) (hQ : Q none (fX5_init S o)) : q_M g mX5_init 2 34 10408 [.ref o] S Q := by
  show q_L g mX5_init 2 34 10408 Q 0 0 0 [(0, .ref o)] [] S
  refine q_aload_n 0 rfl rfl dX5_init_0 ?_
  refine q_objI (List.getElem?_eq_some_iff.mp hs).1 lmX5_3 q_oii q_oic (Nat.le_of_ble_eq_true rfl) dX5_init_1 ?_
  refine q_aload_n 0 rfl rfl dX5_init_4 ?_
  refine q_new2 (id := S.1.length) (ci := 0) rfl (by decide) lcX5_9 q_is0 q_in0 (by decide) (by decide) (by omega) dX5_init_5 ?_
  obtain ⟨S1, e1⟩ : ∃ y, y = q_nw S (.inl 0) := ⟨_, rfl⟩
  rw [← e1]
  have l1 : S1.1.length = S.1.length + 1 := by rw [e1]; rw [q_len_nw]
  have hs : S1.1[o]? = some (.inl 5) := by rw [e1]; exact q_sh_nw hs
  have hn1 : S1.1[S.1.length]? = some (.inl 0) := by rw [e1]; exact q_sh_new rfl
  refine q_dup rfl dX5_init_8 ?_
  refine q_callIN (d := 1) (Mc := mX0_init) (kc := 8) (nc := 320) [] okX0_init rfl (List.getElem?_eq_some_iff.mp hn1).1 rfl lmX5_11 inX0_init rfl (Nat.le_of_ble_eq_true rfl) (Nat.le_of_ble_eq_true rfl) (by decide) (by decide) dX5_init_9 (q_L.deep (by decide) (kX0_init (Q := fun r S' => r = none ∧ S' = fX0_init S1 S.1.length) hn1 (by omega) ⟨rfl, rfl⟩)) (q_kV2 ?_)
  obtain ⟨S2, e2⟩ : ∃ y, y = fX0_init S1 S.1.length := ⟨_, rfl⟩
  rw [← e2]
  have l2 : S2.1.length = S.1.length + 9 := by rw [e2]; rw [lenX0_init]; omega
  have hs : S2.1[o]? = some (.inl 5) := by rw [e2]; exact shX0_init hs
  have hn1 : S2.1[S.1.length]? = some (.inl 0) := by rw [e2]; exact shX0_init hn1
  refine q_putFR hs (by decide) (by decide) rfl rfl rfl rfl lfX5_12 dX5_init_12 ?_
  obtain ⟨S3, e3⟩ : ∃ y, y = q_sR S2 o 0 S.1.length := ⟨_, rfl⟩
  rw [← e3]
  have l3 : S3.1.length = S.1.length + 9 := by rw [e3]; exact l2
  have hs : S3.1[o]? = some (.inl 5) := by rw [e3]; exact hs
  have hn1 : S3.1[S.1.length]? = some (.inl 0) := by rw [e3]; exact hn1
  refine q_aload_n 0 rfl rfl dX5_init_15 ?_
  refine q_new2 (id := (S.1.length + 9)) (ci := 1) l3 (by decide) lcX5_18 q_is1 q_in1 (by decide) (by decide) (by omega) dX5_init_16 ?_
  obtain ⟨S4, e4⟩ : ∃ y, y = q_nw S3 (.inl 1) := ⟨_, rfl⟩
  rw [← e4]
  have l4 : S4.1.length = S.1.length + 10 := by rw [e4]; rw [q_len_nw]; omega
  have hs : S4.1[o]? = some (.inl 5) := by rw [e4]; exact q_sh_nw hs
  have hn1 : S4.1[S.1.length]? = some (.inl 0) := by rw [e4]; exact q_sh_nw hn1
  have hn4 : S4.1[(S.1.length + 9)]? = some (.inl 1) := by rw [e4]; exact q_sh_new l3
  refine q_dup rfl dX5_init_19 ?_
  refine q_callIN (d := 1) (Mc := mX1_init) (kc := 11) (nc := 7424) [] okX1_init rfl (List.getElem?_eq_some_iff.mp hn4).1 rfl lmX5_20 inX1_init rfl (Nat.le_of_ble_eq_true rfl) (Nat.le_of_ble_eq_true rfl) (by decide) (by decide) dX5_init_20 (q_L.deep (by decide) (kX1_init (Q := fun r S' => r = none ∧ S' = fX1_init S4 (S.1.length + 9)) hn4 (by omega) ⟨rfl, rfl⟩)) (q_kV2 ?_)
  obtain ⟨S5, e5⟩ : ∃ y, y = fX1_init S4 (S.1.length + 9) := ⟨_, rfl⟩
  rw [← e5]
  have l5 : S5.1.length = S.1.length + 21 := by rw [e5]; rw [lenX1_init]; omega
  have hs : S5.1[o]? = some (.inl 5) := by rw [e5]; exact shX1_init hs
  have hn1 : S5.1[S.1.length]? = some (.inl 0) := by rw [e5]; exact shX1_init hn1
  have hn4 : S5.1[(S.1.length + 9)]? = some (.inl 1) := by rw [e5]; exact shX1_init hn4
  refine q_putFR hs (by decide) (by decide) rfl rfl rfl rfl lfX5_21 dX5_init_23 ?_
  obtain ⟨S6, e6⟩ : ∃ y, y = q_sR S5 o 1 (S.1.length + 9) := ⟨_, rfl⟩
  rw [← e6]
  have l6 : S6.1.length = S.1.length + 21 := by rw [e6]; exact l5
  have hs : S6.1[o]? = some (.inl 5) := by rw [e6]; exact hs
  have hn1 : S6.1[S.1.length]? = some (.inl 0) := by rw [e6]; exact hn1
  have hn4 : S6.1[(S.1.length + 9)]? = some (.inl 1) := by rw [e6]; exact hn4
  refine q_aload_n 0 rfl rfl dX5_init_26 ?_
  refine q_bipush (v := (48 : Int32)) (by decide) dX5_init_27 ?_
  refine q_newa2 (i := (48 : Int32)) (t := 0) (len := 48) l6 (by decide) rfl q_ac0 (by decide) (by decide) (by decide) (by decide) (by decide) (by omega) dX5_init_29 ?_
  obtain ⟨S7, e7⟩ : ∃ y, y = q_nw S6 (.inr (0, 48)) := ⟨_, rfl⟩
  rw [← e7]
  have l7 : S7.1.length = S.1.length + 22 := by rw [e7]; rw [q_len_nw]; omega
  have hs : S7.1[o]? = some (.inl 5) := by rw [e7]; exact q_sh_nw hs
  have hn1 : S7.1[S.1.length]? = some (.inl 0) := by rw [e7]; exact q_sh_nw hn1
  have hn4 : S7.1[(S.1.length + 9)]? = some (.inl 1) := by rw [e7]; exact q_sh_nw hn4
  refine q_putFR hs (by decide) (by decide) rfl rfl rfl rfl lfX5_25 dX5_init_31 ?_
  obtain ⟨S8, e8⟩ : ∃ y, y = q_sR S7 o 3 (S.1.length + 21) := ⟨_, rfl⟩
  rw [← e8]
  have l8 : S8.1.length = S.1.length + 22 := by rw [e8]; exact l7
  have hs : S8.1[o]? = some (.inl 5) := by rw [e8]; exact hs
  have hn1 : S8.1[S.1.length]? = some (.inl 0) := by rw [e8]; exact hn1
  have hn4 : S8.1[(S.1.length + 9)]? = some (.inl 1) := by rw [e8]; exact hn4
  refine q_aload_n 0 rfl rfl dX5_init_34 ?_
  refine q_bipush (v := (48 : Int32)) (by decide) dX5_init_35 ?_
  refine q_newa2 (i := (48 : Int32)) (t := 0) (len := 48) l8 (by decide) rfl q_ac0 (by decide) (by decide) (by decide) (by decide) (by decide) (by omega) dX5_init_37 ?_
  obtain ⟨S9, e9⟩ : ∃ y, y = q_nw S8 (.inr (0, 48)) := ⟨_, rfl⟩
  rw [← e9]
  have l9 : S9.1.length = S.1.length + 23 := by rw [e9]; rw [q_len_nw]; omega
  have hs : S9.1[o]? = some (.inl 5) := by rw [e9]; exact q_sh_nw hs
  have hn1 : S9.1[S.1.length]? = some (.inl 0) := by rw [e9]; exact q_sh_nw hn1
  have hn4 : S9.1[(S.1.length + 9)]? = some (.inl 1) := by rw [e9]; exact q_sh_nw hn4
  refine q_putFR hs (by decide) (by decide) rfl rfl rfl rfl lfX5_29 dX5_init_39 ?_
  obtain ⟨S10, e10⟩ : ∃ y, y = q_sR S9 o 4 (S.1.length + 22) := ⟨_, rfl⟩
  rw [← e10]
  have l10 : S10.1.length = S.1.length + 23 := by rw [e10]; exact l9
  have hs : S10.1[o]? = some (.inl 5) := by rw [e10]; exact hs
  have hn1 : S10.1[S.1.length]? = some (.inl 0) := by rw [e10]; exact hn1
  have hn4 : S10.1[(S.1.length + 9)]? = some (.inl 1) := by rw [e10]; exact hn4
  refine q_aload_n 0 rfl rfl dX5_init_42 ?_
  refine q_bipush (v := (48 : Int32)) (by decide) dX5_init_43 ?_
  refine q_newa2 (i := (48 : Int32)) (t := 3) (len := 48) l10 (by decide) rfl q_ac3 (by decide) (by decide) (by decide) (by decide) (by decide) (by omega) dX5_init_45 ?_
  obtain ⟨S11, e11⟩ : ∃ y, y = q_nw S10 (.inr (3, 48)) := ⟨_, rfl⟩
  rw [← e11]
  have l11 : S11.1.length = S.1.length + 24 := by rw [e11]; rw [q_len_nw]; omega
  have hs : S11.1[o]? = some (.inl 5) := by rw [e11]; exact q_sh_nw hs
  have hn1 : S11.1[S.1.length]? = some (.inl 0) := by rw [e11]; exact q_sh_nw hn1
  have hn4 : S11.1[(S.1.length + 9)]? = some (.inl 1) := by rw [e11]; exact q_sh_nw hn4
  refine q_putFR hs (by decide) (by decide) rfl rfl rfl rfl lfX5_32 dX5_init_47 ?_
  obtain ⟨S12, e12⟩ : ∃ y, y = q_sR S11 o 5 (S.1.length + 23) := ⟨_, rfl⟩
  rw [← e12]
  have l12 : S12.1.length = S.1.length + 24 := by rw [e12]; exact l11
  have hs : S12.1[o]? = some (.inl 5) := by rw [e12]; exact hs
  have hn1 : S12.1[S.1.length]? = some (.inl 0) := by rw [e12]; exact hn1
  have hn4 : S12.1[(S.1.length + 9)]? = some (.inl 1) := by rw [e12]; exact hn4
  refine q_aload_n 0 rfl rfl dX5_init_50 ?_
  refine q_bipush (v := (48 : Int32)) (by decide) dX5_init_51 ?_
  refine q_newa2 (i := (48 : Int32)) (t := 0) (len := 48) l12 (by decide) rfl q_ac0 (by decide) (by decide) (by decide) (by decide) (by decide) (by omega) dX5_init_53 ?_
  obtain ⟨S13, e13⟩ : ∃ y, y = q_nw S12 (.inr (0, 48)) := ⟨_, rfl⟩
  rw [← e13]
  have l13 : S13.1.length = S.1.length + 25 := by rw [e13]; rw [q_len_nw]; omega
  have hs : S13.1[o]? = some (.inl 5) := by rw [e13]; exact q_sh_nw hs
  have hn1 : S13.1[S.1.length]? = some (.inl 0) := by rw [e13]; exact q_sh_nw hn1
  have hn4 : S13.1[(S.1.length + 9)]? = some (.inl 1) := by rw [e13]; exact q_sh_nw hn4
  refine q_putFR hs (by decide) (by decide) rfl rfl rfl rfl lfX5_36 dX5_init_55 ?_
  obtain ⟨S14, e14⟩ : ∃ y, y = q_sR S13 o 6 (S.1.length + 24) := ⟨_, rfl⟩
  rw [← e14]
  have l14 : S14.1.length = S.1.length + 25 := by rw [e14]; exact l13
  have hs : S14.1[o]? = some (.inl 5) := by rw [e14]; exact hs
  have hn1 : S14.1[S.1.length]? = some (.inl 0) := by rw [e14]; exact hn1
  have hn4 : S14.1[(S.1.length + 9)]? = some (.inl 1) := by rw [e14]; exact hn4
  refine q_aload_n 0 rfl rfl dX5_init_58 ?_
  refine q_sipush (v := (576 : Int32)) (by decide) dX5_init_59 ?_
  refine q_newa2 (i := (576 : Int32)) (t := 0) (len := 576) l14 (by decide) rfl q_ac0 (by decide) (by decide) (by decide) (by decide) (by decide) (by omega) dX5_init_62 ?_
  obtain ⟨S15, e15⟩ : ∃ y, y = q_nw S14 (.inr (0, 576)) := ⟨_, rfl⟩
  rw [← e15]
  have l15 : S15.1.length = S.1.length + 26 := by rw [e15]; rw [q_len_nw]; omega
  have hs : S15.1[o]? = some (.inl 5) := by rw [e15]; exact q_sh_nw hs
  have hn1 : S15.1[S.1.length]? = some (.inl 0) := by rw [e15]; exact q_sh_nw hn1
  have hn4 : S15.1[(S.1.length + 9)]? = some (.inl 1) := by rw [e15]; exact q_sh_nw hn4
  refine q_putFR hs (by decide) (by decide) rfl rfl rfl rfl lfX5_39 dX5_init_64 ?_
  obtain ⟨S16, e16⟩ : ∃ y, y = q_sR S15 o 7 (S.1.length + 25) := ⟨_, rfl⟩
  rw [← e16]
  have l16 : S16.1.length = S.1.length + 26 := by rw [e16]; exact l15
  have hs : S16.1[o]? = some (.inl 5) := by rw [e16]; exact hs
  have hn1 : S16.1[S.1.length]? = some (.inl 0) := by rw [e16]; exact hn1
  have hn4 : S16.1[(S.1.length + 9)]? = some (.inl 1) := by rw [e16]; exact hn4
  refine q_aload_n 0 rfl rfl dX5_init_67 ?_
  refine q_bipush (v := (48 : Int32)) (by decide) dX5_init_68 ?_
  refine q_newa2 (i := (48 : Int32)) (t := 0) (len := 48) l16 (by decide) rfl q_ac0 (by decide) (by decide) (by decide) (by decide) (by decide) (by omega) dX5_init_70 ?_
  obtain ⟨S17, e17⟩ : ∃ y, y = q_nw S16 (.inr (0, 48)) := ⟨_, rfl⟩
  rw [← e17]
  have l17 : S17.1.length = S.1.length + 27 := by rw [e17]; rw [q_len_nw]; omega
  have hs : S17.1[o]? = some (.inl 5) := by rw [e17]; exact q_sh_nw hs
  have hn1 : S17.1[S.1.length]? = some (.inl 0) := by rw [e17]; exact q_sh_nw hn1
  have hn4 : S17.1[(S.1.length + 9)]? = some (.inl 1) := by rw [e17]; exact q_sh_nw hn4
  refine q_putFR hs (by decide) (by decide) rfl rfl rfl rfl lfX5_42 dX5_init_72 ?_
  obtain ⟨S18, e18⟩ : ∃ y, y = q_sR S17 o 8 (S.1.length + 26) := ⟨_, rfl⟩
  rw [← e18]
  have l18 : S18.1.length = S.1.length + 27 := by rw [e18]; exact l17
  have hs : S18.1[o]? = some (.inl 5) := by rw [e18]; exact hs
  have hn1 : S18.1[S.1.length]? = some (.inl 0) := by rw [e18]; exact hn1
  have hn4 : S18.1[(S.1.length + 9)]? = some (.inl 1) := by rw [e18]; exact hn4
  refine q_aload_n 0 rfl rfl dX5_init_75 ?_
  refine q_bipush (v := (48 : Int32)) (by decide) dX5_init_76 ?_
  refine q_newa2 (i := (48 : Int32)) (t := 0) (len := 48) l18 (by decide) rfl q_ac0 (by decide) (by decide) (by decide) (by decide) (by decide) (by omega) dX5_init_78 ?_
  obtain ⟨S19, e19⟩ : ∃ y, y = q_nw S18 (.inr (0, 48)) := ⟨_, rfl⟩
  rw [← e19]
  have l19 : S19.1.length = S.1.length + 28 := by rw [e19]; rw [q_len_nw]; omega
  have hs : S19.1[o]? = some (.inl 5) := by rw [e19]; exact q_sh_nw hs
  have hn1 : S19.1[S.1.length]? = some (.inl 0) := by rw [e19]; exact q_sh_nw hn1
  have hn4 : S19.1[(S.1.length + 9)]? = some (.inl 1) := by rw [e19]; exact q_sh_nw hn4
  refine q_putFR hs (by decide) (by decide) rfl rfl rfl rfl lfX5_45 dX5_init_80 ?_
  obtain ⟨S20, e20⟩ : ∃ y, y = q_sR S19 o 9 (S.1.length + 27) := ⟨_, rfl⟩
  rw [← e20]
  have l20 : S20.1.length = S.1.length + 28 := by rw [e20]; exact l19
  have hs : S20.1[o]? = some (.inl 5) := by rw [e20]; exact hs
  have hn1 : S20.1[S.1.length]? = some (.inl 0) := by rw [e20]; exact hn1
  have hn4 : S20.1[(S.1.length + 9)]? = some (.inl 1) := by rw [e20]; exact hn4
  refine q_aload_n 0 rfl rfl dX5_init_83 ?_
  refine q_bipush (v := (48 : Int32)) (by decide) dX5_init_84 ?_
  refine q_newa2 (i := (48 : Int32)) (t := 0) (len := 48) l20 (by decide) rfl q_ac0 (by decide) (by decide) (by decide) (by decide) (by decide) (by omega) dX5_init_86 ?_
  obtain ⟨S21, e21⟩ : ∃ y, y = q_nw S20 (.inr (0, 48)) := ⟨_, rfl⟩
  rw [← e21]
  have l21 : S21.1.length = S.1.length + 29 := by rw [e21]; rw [q_len_nw]; omega
  have hs : S21.1[o]? = some (.inl 5) := by rw [e21]; exact q_sh_nw hs
  have hn1 : S21.1[S.1.length]? = some (.inl 0) := by rw [e21]; exact q_sh_nw hn1
  have hn4 : S21.1[(S.1.length + 9)]? = some (.inl 1) := by rw [e21]; exact q_sh_nw hn4
  refine q_putFR hs (by decide) (by decide) rfl rfl rfl rfl lfX5_48 dX5_init_88 ?_
  obtain ⟨S22, e22⟩ : ∃ y, y = q_sR S21 o 10 (S.1.length + 28) := ⟨_, rfl⟩
  rw [← e22]
  have l22 : S22.1.length = S.1.length + 29 := by rw [e22]; exact l21
  have hs : S22.1[o]? = some (.inl 5) := by rw [e22]; exact hs
  have hn1 : S22.1[S.1.length]? = some (.inl 0) := by rw [e22]; exact hn1
  have hn4 : S22.1[(S.1.length + 9)]? = some (.inl 1) := by rw [e22]; exact hn4
  refine q_aload_n 0 rfl rfl dX5_init_91 ?_
  refine q_bipush (v := (48 : Int32)) (by decide) dX5_init_92 ?_
  refine q_newa2 (i := (48 : Int32)) (t := 0) (len := 48) l22 (by decide) rfl q_ac0 (by decide) (by decide) (by decide) (by decide) (by decide) (by omega) dX5_init_94 ?_
  obtain ⟨S23, e23⟩ : ∃ y, y = q_nw S22 (.inr (0, 48)) := ⟨_, rfl⟩
  rw [← e23]
  have l23 : S23.1.length = S.1.length + 30 := by rw [e23]; rw [q_len_nw]; omega
  have hs : S23.1[o]? = some (.inl 5) := by rw [e23]; exact q_sh_nw hs
  have hn1 : S23.1[S.1.length]? = some (.inl 0) := by rw [e23]; exact q_sh_nw hn1
  have hn4 : S23.1[(S.1.length + 9)]? = some (.inl 1) := by rw [e23]; exact q_sh_nw hn4
  refine q_putFR hs (by decide) (by decide) rfl rfl rfl rfl lfX5_51 dX5_init_96 ?_
  obtain ⟨S24, e24⟩ : ∃ y, y = q_sR S23 o 11 (S.1.length + 29) := ⟨_, rfl⟩
  rw [← e24]
  have l24 : S24.1.length = S.1.length + 30 := by rw [e24]; exact l23
  have hs : S24.1[o]? = some (.inl 5) := by rw [e24]; exact hs
  have hn1 : S24.1[S.1.length]? = some (.inl 0) := by rw [e24]; exact hn1
  have hn4 : S24.1[(S.1.length + 9)]? = some (.inl 1) := by rw [e24]; exact hn4
  refine q_aload_n 0 rfl rfl dX5_init_99 ?_
  refine q_bipush (v := (48 : Int32)) (by decide) dX5_init_100 ?_
  refine q_newa2 (i := (48 : Int32)) (t := 0) (len := 48) l24 (by decide) rfl q_ac0 (by decide) (by decide) (by decide) (by decide) (by decide) (by omega) dX5_init_102 ?_
  obtain ⟨S25, e25⟩ : ∃ y, y = q_nw S24 (.inr (0, 48)) := ⟨_, rfl⟩
  rw [← e25]
  have l25 : S25.1.length = S.1.length + 31 := by rw [e25]; rw [q_len_nw]; omega
  have hs : S25.1[o]? = some (.inl 5) := by rw [e25]; exact q_sh_nw hs
  have hn1 : S25.1[S.1.length]? = some (.inl 0) := by rw [e25]; exact q_sh_nw hn1
  have hn4 : S25.1[(S.1.length + 9)]? = some (.inl 1) := by rw [e25]; exact q_sh_nw hn4
  refine q_putFR hs (by decide) (by decide) rfl rfl rfl rfl lfX5_54 dX5_init_104 ?_
  obtain ⟨S26, e26⟩ : ∃ y, y = q_sR S25 o 12 (S.1.length + 30) := ⟨_, rfl⟩
  rw [← e26]
  have l26 : S26.1.length = S.1.length + 31 := by rw [e26]; exact l25
  have hs : S26.1[o]? = some (.inl 5) := by rw [e26]; exact hs
  have hn1 : S26.1[S.1.length]? = some (.inl 0) := by rw [e26]; exact hn1
  have hn4 : S26.1[(S.1.length + 9)]? = some (.inl 1) := by rw [e26]; exact hn4
  refine q_aload_n 0 rfl rfl dX5_init_107 ?_
  refine q_bipush (v := (48 : Int32)) (by decide) dX5_init_108 ?_
  refine q_newa2 (i := (48 : Int32)) (t := 0) (len := 48) l26 (by decide) rfl q_ac0 (by decide) (by decide) (by decide) (by decide) (by decide) (by omega) dX5_init_110 ?_
  obtain ⟨S27, e27⟩ : ∃ y, y = q_nw S26 (.inr (0, 48)) := ⟨_, rfl⟩
  rw [← e27]
  have l27 : S27.1.length = S.1.length + 32 := by rw [e27]; rw [q_len_nw]; omega
  have hs : S27.1[o]? = some (.inl 5) := by rw [e27]; exact q_sh_nw hs
  have hn1 : S27.1[S.1.length]? = some (.inl 0) := by rw [e27]; exact q_sh_nw hn1
  have hn4 : S27.1[(S.1.length + 9)]? = some (.inl 1) := by rw [e27]; exact q_sh_nw hn4
  refine q_putFR hs (by decide) (by decide) rfl rfl rfl rfl lfX5_57 dX5_init_112 ?_
  obtain ⟨S28, e28⟩ : ∃ y, y = q_sR S27 o 13 (S.1.length + 31) := ⟨_, rfl⟩
  rw [← e28]
  have l28 : S28.1.length = S.1.length + 32 := by rw [e28]; exact l27
  have hs : S28.1[o]? = some (.inl 5) := by rw [e28]; exact hs
  have hn1 : S28.1[S.1.length]? = some (.inl 0) := by rw [e28]; exact hn1
  have hn4 : S28.1[(S.1.length + 9)]? = some (.inl 1) := by rw [e28]; exact hn4
  refine q_aload_n 0 rfl rfl dX5_init_115 ?_
  refine q_bipush (v := (48 : Int32)) (by decide) dX5_init_116 ?_
  refine q_newa2 (i := (48 : Int32)) (t := 0) (len := 48) l28 (by decide) rfl q_ac0 (by decide) (by decide) (by decide) (by decide) (by decide) (by omega) dX5_init_118 ?_
  obtain ⟨S29, e29⟩ : ∃ y, y = q_nw S28 (.inr (0, 48)) := ⟨_, rfl⟩
  rw [← e29]
  have l29 : S29.1.length = S.1.length + 33 := by rw [e29]; rw [q_len_nw]; omega
  have hs : S29.1[o]? = some (.inl 5) := by rw [e29]; exact q_sh_nw hs
  have hn1 : S29.1[S.1.length]? = some (.inl 0) := by rw [e29]; exact q_sh_nw hn1
  have hn4 : S29.1[(S.1.length + 9)]? = some (.inl 1) := by rw [e29]; exact q_sh_nw hn4
  refine q_putFR hs (by decide) (by decide) rfl rfl rfl rfl lfX5_60 dX5_init_120 ?_
  obtain ⟨S30, e30⟩ : ∃ y, y = q_sR S29 o 14 (S.1.length + 32) := ⟨_, rfl⟩
  rw [← e30]
  have l30 : S30.1.length = S.1.length + 33 := by rw [e30]; exact l29
  have hs : S30.1[o]? = some (.inl 5) := by rw [e30]; exact hs
  have hn1 : S30.1[S.1.length]? = some (.inl 0) := by rw [e30]; exact hn1
  have hn4 : S30.1[(S.1.length + 9)]? = some (.inl 1) := by rw [e30]; exact hn4
  refine q_aload_n 0 rfl rfl dX5_init_123 ?_
  refine q_sipush (v := (1536 : Int32)) (by decide) dX5_init_124 ?_
  refine q_newa2 (i := (1536 : Int32)) (t := 0) (len := 1536) l30 (by decide) rfl q_ac0 (by decide) (by decide) (by decide) (by decide) (by decide) (by omega) dX5_init_127 ?_
  obtain ⟨S31, e31⟩ : ∃ y, y = q_nw S30 (.inr (0, 1536)) := ⟨_, rfl⟩
  rw [← e31]
  have l31 : S31.1.length = S.1.length + 34 := by rw [e31]; rw [q_len_nw]; omega
  have hs : S31.1[o]? = some (.inl 5) := by rw [e31]; exact q_sh_nw hs
  have hn1 : S31.1[S.1.length]? = some (.inl 0) := by rw [e31]; exact q_sh_nw hn1
  have hn4 : S31.1[(S.1.length + 9)]? = some (.inl 1) := by rw [e31]; exact q_sh_nw hn4
  refine q_putFR hs (by decide) (by decide) rfl rfl rfl rfl lfX5_63 dX5_init_129 ?_
  obtain ⟨S32, e32⟩ : ∃ y, y = q_sR S31 o 15 (S.1.length + 33) := ⟨_, rfl⟩
  rw [← e32]
  have l32 : S32.1.length = S.1.length + 34 := by rw [e32]; exact l31
  have hs : S32.1[o]? = some (.inl 5) := by rw [e32]; exact hs
  have hn1 : S32.1[S.1.length]? = some (.inl 0) := by rw [e32]; exact hn1
  have hn4 : S32.1[(S.1.length + 9)]? = some (.inl 1) := by rw [e32]; exact hn4
  refine q_vret rfl dX5_init_132 ?_
  try subst e32
  try subst e31
  try subst e30
  try subst e29
  try subst e28
  try subst e27
  try subst e26
  try subst e25
  try subst e24
  try subst e23
  try subst e22
  try subst e21
  try subst e20
  try subst e19
  try subst e18
  try subst e17
  try subst e16
  try subst e15
  try subst e14
  try subst e13
  try subst e12
  try subst e11
  try subst e10
  try subst e9
  try subst e8
  try subst e7
  try subst e6
  try subst e5
  try subst e4
  try subst e3
  try subst e2
  try subst e1
  try subst_vars
  exact hQ
def fX8_init (S : QS) (o : Nat) : QS := q_sR (q_nw (q_sR (q_nw (q_sR (q_nw (q_sR (q_nw S (.inr (1, 16000))) o 0 S.1.length) (.inr (0, 16000))) o 2 (S.1.length + 1)) (.inr (0, 16000))) o 3 (S.1.length + 2)) (.inr (1, 16000))) o 4 (S.1.length + 3)
theorem lenX8_init (S : QS) (o : Nat) : (fX8_init S o).1.length = S.1.length + 4 := by
  simp only [fX8_init, q_len_nw, q_sR, q_sI, lenX0_init, lenX1_init, lenX5_init]
  try omega
theorem shX8_init {S : QS} {o : Nat} {x : Nat} {sp : QSp} (h : S.1[x]? = some sp) : (fX8_init S o).1[x]? = some sp := by
  unfold fX8_init
  repeat (first | exact h | apply q_sh_nw | apply q_shsR | apply q_shsI | apply shX0_init | apply shX1_init | apply shX5_init)
set_option maxRecDepth 20000 in
theorem kX8_init {g : QG} {Q : Option Value → QS → Prop} {S : QS} {o : Nat} (hs : S.1[o]? = some (.inl 8)) (hl : S.1.length + 4 ≤ 1000000) (hQ : Q none (fX8_init S o)) : q_M g mX8_init 1 4 64000 [.ref o] S Q := by
  show q_L g mX8_init 1 4 64000 Q 0 0 0 [(0, .ref o)] [] S
  refine q_aload_n 0 rfl rfl dX8_init_0 ?_
  refine q_objI (List.getElem?_eq_some_iff.mp hs).1 lmX8_3 q_oii q_oic (Nat.le_of_ble_eq_true rfl) dX8_init_1 ?_
  refine q_aload_n 0 rfl rfl dX8_init_4 ?_
  refine q_sipush (v := (16000 : Int32)) (by decide) dX8_init_5 ?_
  refine q_newa2 (i := (16000 : Int32)) (t := 1) (len := 16000) rfl (by decide) rfl q_ac1 (by decide) (by decide) (by decide) (by decide) (by decide) (by omega) dX8_init_8 ?_
  obtain ⟨S1, e1⟩ : ∃ y, y = q_nw S (.inr (1, 16000)) := ⟨_, rfl⟩
  rw [← e1]
  have l1 : S1.1.length = S.1.length + 1 := by rw [e1]; rw [q_len_nw]
  have hs : S1.1[o]? = some (.inl 8) := by rw [e1]; exact q_sh_nw hs
  refine q_putFR hs (by decide) (by decide) rfl rfl rfl rfl lfX8_9 dX8_init_10 ?_
  obtain ⟨S2, e2⟩ : ∃ y, y = q_sR S1 o 0 S.1.length := ⟨_, rfl⟩
  rw [← e2]
  have l2 : S2.1.length = S.1.length + 1 := by rw [e2]; exact l1
  have hs : S2.1[o]? = some (.inl 8) := by rw [e2]; exact hs
  refine q_aload_n 0 rfl rfl dX8_init_13 ?_
  refine q_sipush (v := (16000 : Int32)) (by decide) dX8_init_14 ?_
  refine q_newa2 (i := (16000 : Int32)) (t := 0) (len := 16000) l2 (by decide) rfl q_ac0 (by decide) (by decide) (by decide) (by decide) (by decide) (by omega) dX8_init_17 ?_
  obtain ⟨S3, e3⟩ : ∃ y, y = q_nw S2 (.inr (0, 16000)) := ⟨_, rfl⟩
  rw [← e3]
  have l3 : S3.1.length = S.1.length + 2 := by rw [e3]; rw [q_len_nw]; omega
  have hs : S3.1[o]? = some (.inl 8) := by rw [e3]; exact q_sh_nw hs
  refine q_putFR hs (by decide) (by decide) rfl rfl rfl rfl lfX8_15 dX8_init_19 ?_
  obtain ⟨S4, e4⟩ : ∃ y, y = q_sR S3 o 2 (S.1.length + 1) := ⟨_, rfl⟩
  rw [← e4]
  have l4 : S4.1.length = S.1.length + 2 := by rw [e4]; exact l3
  have hs : S4.1[o]? = some (.inl 8) := by rw [e4]; exact hs
  refine q_aload_n 0 rfl rfl dX8_init_22 ?_
  refine q_sipush (v := (16000 : Int32)) (by decide) dX8_init_23 ?_
  refine q_newa2 (i := (16000 : Int32)) (t := 0) (len := 16000) l4 (by decide) rfl q_ac0 (by decide) (by decide) (by decide) (by decide) (by decide) (by omega) dX8_init_26 ?_
  obtain ⟨S5, e5⟩ : ∃ y, y = q_nw S4 (.inr (0, 16000)) := ⟨_, rfl⟩
  rw [← e5]
  have l5 : S5.1.length = S.1.length + 3 := by rw [e5]; rw [q_len_nw]; omega
  have hs : S5.1[o]? = some (.inl 8) := by rw [e5]; exact q_sh_nw hs
  refine q_putFR hs (by decide) (by decide) rfl rfl rfl rfl lfX8_19 dX8_init_28 ?_
  obtain ⟨S6, e6⟩ : ∃ y, y = q_sR S5 o 3 (S.1.length + 2) := ⟨_, rfl⟩
  rw [← e6]
  have l6 : S6.1.length = S.1.length + 3 := by rw [e6]; exact l5
  have hs : S6.1[o]? = some (.inl 8) := by rw [e6]; exact hs
  refine q_aload_n 0 rfl rfl dX8_init_31 ?_
  refine q_sipush (v := (16000 : Int32)) (by decide) dX8_init_32 ?_
  refine q_newa2 (i := (16000 : Int32)) (t := 1) (len := 16000) l6 (by decide) rfl q_ac1 (by decide) (by decide) (by decide) (by decide) (by decide) (by omega) dX8_init_35 ?_
  obtain ⟨S7, e7⟩ : ∃ y, y = q_nw S6 (.inr (1, 16000)) := ⟨_, rfl⟩
  rw [← e7]
  have l7 : S7.1.length = S.1.length + 4 := by rw [e7]; rw [q_len_nw]; omega
  have hs : S7.1[o]? = some (.inl 8) := by rw [e7]; exact q_sh_nw hs
  refine q_putFR hs (by decide) (by decide) rfl rfl rfl rfl lfX8_22 dX8_init_37 ?_
  obtain ⟨S8, e8⟩ : ∃ y, y = q_sR S7 o 4 (S.1.length + 3) := ⟨_, rfl⟩
  rw [← e8]
  have l8 : S8.1.length = S.1.length + 4 := by rw [e8]; exact l7
  have hs : S8.1[o]? = some (.inl 8) := by rw [e8]; exact hs
  refine q_vret rfl dX8_init_40 ?_
  try subst e8
  try subst e7
  try subst e6
  try subst e5
  try subst e4
  try subst e3
  try subst e2
  try subst e1
  try subst_vars
  exact hQ
def fX7_init (S : QS) (o : Nat) (a1 : Nat) : QS := q_sR (q_sR S o 1 1000000) o 0 a1
theorem lenX7_init (S : QS) (o : Nat) (a1 : Nat) : (fX7_init S o a1).1.length = S.1.length + 0 := by
  simp only [fX7_init, q_len_nw, q_sR, q_sI, lenX0_init, lenX1_init, lenX5_init, lenX8_init]
  try omega
theorem shX7_init {S : QS} {o : Nat} {a1 : Nat} {x : Nat} {sp : QSp} (h : S.1[x]? = some sp) : (fX7_init S o a1).1[x]? = some sp := by
  unfold fX7_init
  repeat (first | exact h | apply q_sh_nw | apply q_shsR | apply q_shsI | apply shX0_init | apply shX1_init | apply shX5_init | apply shX8_init)
set_option maxRecDepth 20000 in
theorem kX7_init {g : QG} {Q : Option Value → QS → Prop} {S : QS} {o : Nat} {a1 : Nat} (hs : S.1[o]? = some (.inl 7)) (hl : S.1.length + 0 ≤ 1000000) (hQ : Q none (fX7_init S o a1)) : q_M g mX7_init 1 0 0 [.ref o, .ref a1] S Q := by
  show q_L g mX7_init 1 0 0 Q 0 0 0 [(0, .ref o), (1, .ref a1)] [] S
  refine q_aload_n 0 rfl rfl dX7_init_0 ?_
  refine q_objI (List.getElem?_eq_some_iff.mp hs).1 lmX7_3 q_oii q_oic (Nat.le_of_ble_eq_true rfl) dX7_init_1 ?_
  refine q_aload_n 0 rfl rfl dX7_init_4 ?_
  refine q_ldcS (j := 0) (r := 1000000) rfl rfl dX7_init_5 ?_
  refine q_putR hs (by decide) (by decide) rfl rfl lfX7_11 dX7_init_7 ?_
  obtain ⟨S1, e1⟩ : ∃ y, y = q_sR S o 1 1000000 := ⟨_, rfl⟩
  rw [← e1]
  have l1 : S1.1.length = S.1.length + 0 := by rw [e1]; rfl
  have hs : S1.1[o]? = some (.inl 7) := by rw [e1]; exact hs
  refine q_aload_n 0 rfl rfl dX7_init_10 ?_
  refine q_aload_n 1 rfl rfl dX7_init_11 ?_
  refine q_putFR hs (by decide) (by decide) rfl rfl rfl rfl lfX7_17 dX7_init_12 ?_
  obtain ⟨S2, e2⟩ : ∃ y, y = q_sR S1 o 0 a1 := ⟨_, rfl⟩
  rw [← e2]
  have l2 : S2.1.length = S.1.length + 0 := by rw [e2]; exact l1
  have hs : S2.1[o]? = some (.inl 7) := by rw [e2]; exact hs
  refine q_vret rfl dX7_init_15 ?_
  try subst e2
  try subst e1
  try subst_vars
  exact hQ
def fX4_init (S : QS) (o : Nat) (a1 : Nat) (a2 : Nat) : QS := q_sR (q_sR (q_sR (q_sR (q_sR (q_nw (q_sR (q_nw S (.inr (0, 8000))) o 4 S.1.length) (.inr (0, 8000))) o 5 (S.1.length + 1)) o 0 a1) o 1 a2) o 2 ((q_sR (q_sR (q_sR (q_nw (q_sR (q_nw S (.inr (0, 8000))) o 4 S.1.length) (.inr (0, 8000))) o 5 (S.1.length + 1)) o 0 a1) o 1 a2).2.2.2 a2 0)) o 3 ((q_sR (q_sR (q_sR (q_sR (q_nw (q_sR (q_nw S (.inr (0, 8000))) o 4 S.1.length) (.inr (0, 8000))) o 5 (S.1.length + 1)) o 0 a1) o 1 a2) o 2 ((q_sR (q_sR (q_sR (q_nw (q_sR (q_nw S (.inr (0, 8000))) o 4 S.1.length) (.inr (0, 8000))) o 5 (S.1.length + 1)) o 0 a1) o 1 a2).2.2.2 a2 0)).2.2.2 a2 1)
theorem lenX4_init (S : QS) (o : Nat) (a1 : Nat) (a2 : Nat) : (fX4_init S o a1 a2).1.length = S.1.length + 2 := by
  simp only [fX4_init, q_len_nw, q_sR, q_sI, lenX0_init, lenX1_init, lenX5_init, lenX8_init, lenX7_init]
  try omega
theorem shX4_init {S : QS} {o : Nat} {a1 : Nat} {a2 : Nat} {x : Nat} {sp : QSp} (h : S.1[x]? = some sp) : (fX4_init S o a1 a2).1[x]? = some sp := by
  unfold fX4_init
  repeat (first | exact h | apply q_sh_nw | apply q_shsR | apply q_shsI | apply shX0_init | apply shX1_init | apply shX5_init | apply shX8_init | apply shX7_init)
set_option maxRecDepth 20000 in
theorem kX4_init {g : QG} {Q : Option Value → QS → Prop} {S : QS} {o : Nat} {a1 : Nat} {a2 : Nat} (hs : S.1[o]? = some (.inl 4)) (ha2 : S.1[a2]? = some (.inl 5)) (hl : S.1.length + 2 ≤ 1000000) (hQ : Q none (fX4_init S o a1 a2)) : q_M g mX4_init 1 2 16000 [.ref o, .ref a1, .ref a2] S Q := by
  show q_L g mX4_init 1 2 16000 Q 0 0 0 [(0, .ref o), (1, .ref a1), (2, .ref a2)] [] S
  refine q_aload_n 0 rfl rfl dX4_init_0 ?_
  refine q_objI (List.getElem?_eq_some_iff.mp hs).1 lmX4_3 q_oii q_oic (Nat.le_of_ble_eq_true rfl) dX4_init_1 ?_
  refine q_aload_n 0 rfl rfl dX4_init_4 ?_
  refine q_sipush (v := (8000 : Int32)) (by decide) dX4_init_5 ?_
  refine q_newa2 (i := (8000 : Int32)) (t := 0) (len := 8000) rfl (by decide) rfl q_ac0 (by decide) (by decide) (by decide) (by decide) (by decide) (by omega) dX4_init_8 ?_
  obtain ⟨S1, e1⟩ : ∃ y, y = q_nw S (.inr (0, 8000)) := ⟨_, rfl⟩
  rw [← e1]
  have l1 : S1.1.length = S.1.length + 1 := by rw [e1]; rw [q_len_nw]
  have hs : S1.1[o]? = some (.inl 4) := by rw [e1]; exact q_sh_nw hs
  have ha2 : S1.1[a2]? = some (.inl 5) := by rw [e1]; exact q_sh_nw ha2
  refine q_putFR hs (by decide) (by decide) rfl rfl rfl rfl lfX4_9 dX4_init_10 ?_
  obtain ⟨S2, e2⟩ : ∃ y, y = q_sR S1 o 4 S.1.length := ⟨_, rfl⟩
  rw [← e2]
  have l2 : S2.1.length = S.1.length + 1 := by rw [e2]; exact l1
  have hs : S2.1[o]? = some (.inl 4) := by rw [e2]; exact hs
  have ha2 : S2.1[a2]? = some (.inl 5) := by rw [e2]; exact ha2
  refine q_aload_n 0 rfl rfl dX4_init_13 ?_
  refine q_sipush (v := (8000 : Int32)) (by decide) dX4_init_14 ?_
  refine q_newa2 (i := (8000 : Int32)) (t := 0) (len := 8000) l2 (by decide) rfl q_ac0 (by decide) (by decide) (by decide) (by decide) (by decide) (by omega) dX4_init_17 ?_
  obtain ⟨S3, e3⟩ : ∃ y, y = q_nw S2 (.inr (0, 8000)) := ⟨_, rfl⟩
  rw [← e3]
  have l3 : S3.1.length = S.1.length + 2 := by rw [e3]; rw [q_len_nw]; omega
  have hs : S3.1[o]? = some (.inl 4) := by rw [e3]; exact q_sh_nw hs
  have ha2 : S3.1[a2]? = some (.inl 5) := by rw [e3]; exact q_sh_nw ha2
  refine q_putFR hs (by decide) (by decide) rfl rfl rfl rfl lfX4_15 dX4_init_19 ?_
  obtain ⟨S4, e4⟩ : ∃ y, y = q_sR S3 o 5 (S.1.length + 1) := ⟨_, rfl⟩
  rw [← e4]
  have l4 : S4.1.length = S.1.length + 2 := by rw [e4]; exact l3
  have hs : S4.1[o]? = some (.inl 4) := by rw [e4]; exact hs
  have ha2 : S4.1[a2]? = some (.inl 5) := by rw [e4]; exact ha2
  refine q_aload_n 0 rfl rfl dX4_init_22 ?_
  refine q_aload_n 1 rfl rfl dX4_init_23 ?_
  refine q_putFR hs (by decide) (by decide) rfl rfl rfl rfl lfX4_18 dX4_init_24 ?_
  obtain ⟨S5, e5⟩ : ∃ y, y = q_sR S4 o 0 a1 := ⟨_, rfl⟩
  rw [← e5]
  have l5 : S5.1.length = S.1.length + 2 := by rw [e5]; exact l4
  have hs : S5.1[o]? = some (.inl 4) := by rw [e5]; exact hs
  have ha2 : S5.1[a2]? = some (.inl 5) := by rw [e5]; exact ha2
  refine q_aload_n 0 rfl rfl dX4_init_27 ?_
  refine q_aload_n 2 rfl rfl dX4_init_28 ?_
  refine q_putR hs (by decide) (by decide) rfl rfl lfX4_22 dX4_init_29 ?_
  obtain ⟨S6, e6⟩ : ∃ y, y = q_sR S5 o 1 a2 := ⟨_, rfl⟩
  rw [← e6]
  have l6 : S6.1.length = S.1.length + 2 := by rw [e6]; exact l5
  have hs : S6.1[o]? = some (.inl 4) := by rw [e6]; exact hs
  have ha2 : S6.1[a2]? = some (.inl 5) := by rw [e6]; exact ha2
  refine q_aload_n 0 rfl rfl dX4_init_32 ?_
  refine q_aload_n 2 rfl rfl dX4_init_33 ?_
  obtain ⟨r7, hr7⟩ : ∃ y, y = S6.2.2.2 a2 0 := ⟨_, rfl⟩
  refine q_getRN ha2 (by decide) (by decide) rfl lfX4_26 dX4_init_34 (r := r7) hr7.symm ?_
  obtain ⟨S7, e7⟩ : ∃ y, y = S6 := ⟨_, rfl⟩
  rw [← e7]
  have l7 : S7.1.length = S.1.length + 2 := by rw [e7]; exact l6
  have hs : S7.1[o]? = some (.inl 4) := by rw [e7]; exact hs
  have ha2 : S7.1[a2]? = some (.inl 5) := by rw [e7]; exact ha2
  refine q_putR hs (by decide) (by decide) rfl rfl lfX4_32 dX4_init_37 ?_
  obtain ⟨S8, e8⟩ : ∃ y, y = q_sR S7 o 2 r7 := ⟨_, rfl⟩
  rw [← e8]
  have l8 : S8.1.length = S.1.length + 2 := by rw [e8]; exact l7
  have hs : S8.1[o]? = some (.inl 4) := by rw [e8]; exact hs
  have ha2 : S8.1[a2]? = some (.inl 5) := by rw [e8]; exact ha2
  refine q_aload_n 0 rfl rfl dX4_init_40 ?_
  refine q_aload_n 2 rfl rfl dX4_init_41 ?_
  obtain ⟨r9, hr9⟩ : ∃ y, y = S8.2.2.2 a2 1 := ⟨_, rfl⟩
  refine q_getRN ha2 (by decide) (by decide) rfl lfX4_33 dX4_init_42 (r := r9) hr9.symm ?_
  obtain ⟨S9, e9⟩ : ∃ y, y = S8 := ⟨_, rfl⟩
  rw [← e9]
  have l9 : S9.1.length = S.1.length + 2 := by rw [e9]; exact l8
  have hs : S9.1[o]? = some (.inl 4) := by rw [e9]; exact hs
  have ha2 : S9.1[a2]? = some (.inl 5) := by rw [e9]; exact ha2
  refine q_putR hs (by decide) (by decide) rfl rfl lfX4_37 dX4_init_45 ?_
  obtain ⟨S10, e10⟩ : ∃ y, y = q_sR S9 o 3 r9 := ⟨_, rfl⟩
  rw [← e10]
  have l10 : S10.1.length = S.1.length + 2 := by rw [e10]; exact l9
  have hs : S10.1[o]? = some (.inl 4) := by rw [e10]; exact hs
  have ha2 : S10.1[a2]? = some (.inl 5) := by rw [e10]; exact ha2
  refine q_vret rfl dX4_init_48 ?_
  try subst e10
  try subst e9
  try subst e8
  try subst e7
  try subst e6
  try subst e5
  try subst e4
  try subst e3
  try subst e2
  try subst e1
  try subst_vars
  exact hQ
def fX3_init (S : QS) (o : Nat) (a1 : Nat) : QS := q_sR (q_sR (q_sR (q_nw (q_sR (q_nw S (.inr (0, 1024))) o 2 S.1.length) (.inr (3, 1024))) o 3 (S.1.length + 1)) o 0 a1) o 1 ((q_sR (q_sR (q_nw (q_sR (q_nw S (.inr (0, 1024))) o 2 S.1.length) (.inr (3, 1024))) o 3 (S.1.length + 1)) o 0 a1).2.2.2 a1 1)
theorem lenX3_init (S : QS) (o : Nat) (a1 : Nat) : (fX3_init S o a1).1.length = S.1.length + 2 := by
  simp only [fX3_init, q_len_nw, q_sR, q_sI, lenX0_init, lenX1_init, lenX5_init, lenX8_init, lenX7_init, lenX4_init]
  try omega
theorem shX3_init {S : QS} {o : Nat} {a1 : Nat} {x : Nat} {sp : QSp} (h : S.1[x]? = some sp) : (fX3_init S o a1).1[x]? = some sp := by
  unfold fX3_init
  repeat (first | exact h | apply q_sh_nw | apply q_shsR | apply q_shsI | apply shX0_init | apply shX1_init | apply shX5_init | apply shX8_init | apply shX7_init | apply shX4_init)
set_option maxRecDepth 20000 in
theorem kX3_init {g : QG} {Q : Option Value → QS → Prop} {S : QS} {o : Nat} {a1 : Nat} (hs : S.1[o]? = some (.inl 3)) (ha1 : S.1[a1]? = some (.inl 5)) (hl : S.1.length + 2 ≤ 1000000) (hQ : Q none (fX3_init S o a1)) : q_M g mX3_init 1 2 2048 [.ref o, .ref a1] S Q := by
  show q_L g mX3_init 1 2 2048 Q 0 0 0 [(0, .ref o), (1, .ref a1)] [] S
  refine q_aload_n 0 rfl rfl dX3_init_0 ?_
  refine q_objI (List.getElem?_eq_some_iff.mp hs).1 lmX3_3 q_oii q_oic (Nat.le_of_ble_eq_true rfl) dX3_init_1 ?_
  refine q_aload_n 0 rfl rfl dX3_init_4 ?_
  refine q_sipush (v := (1024 : Int32)) (by decide) dX3_init_5 ?_
  refine q_newa2 (i := (1024 : Int32)) (t := 0) (len := 1024) rfl (by decide) rfl q_ac0 (by decide) (by decide) (by decide) (by decide) (by decide) (by omega) dX3_init_8 ?_
  obtain ⟨S1, e1⟩ : ∃ y, y = q_nw S (.inr (0, 1024)) := ⟨_, rfl⟩
  rw [← e1]
  have l1 : S1.1.length = S.1.length + 1 := by rw [e1]; rw [q_len_nw]
  have hs : S1.1[o]? = some (.inl 3) := by rw [e1]; exact q_sh_nw hs
  have ha1 : S1.1[a1]? = some (.inl 5) := by rw [e1]; exact q_sh_nw ha1
  refine q_putFR hs (by decide) (by decide) rfl rfl rfl rfl lfX3_9 dX3_init_10 ?_
  obtain ⟨S2, e2⟩ : ∃ y, y = q_sR S1 o 2 S.1.length := ⟨_, rfl⟩
  rw [← e2]
  have l2 : S2.1.length = S.1.length + 1 := by rw [e2]; exact l1
  have hs : S2.1[o]? = some (.inl 3) := by rw [e2]; exact hs
  have ha1 : S2.1[a1]? = some (.inl 5) := by rw [e2]; exact ha1
  refine q_aload_n 0 rfl rfl dX3_init_13 ?_
  refine q_sipush (v := (1024 : Int32)) (by decide) dX3_init_14 ?_
  refine q_newa2 (i := (1024 : Int32)) (t := 3) (len := 1024) l2 (by decide) rfl q_ac3 (by decide) (by decide) (by decide) (by decide) (by decide) (by omega) dX3_init_17 ?_
  obtain ⟨S3, e3⟩ : ∃ y, y = q_nw S2 (.inr (3, 1024)) := ⟨_, rfl⟩
  rw [← e3]
  have l3 : S3.1.length = S.1.length + 2 := by rw [e3]; rw [q_len_nw]; omega
  have hs : S3.1[o]? = some (.inl 3) := by rw [e3]; exact q_sh_nw hs
  have ha1 : S3.1[a1]? = some (.inl 5) := by rw [e3]; exact q_sh_nw ha1
  refine q_putFR hs (by decide) (by decide) rfl rfl rfl rfl lfX3_15 dX3_init_19 ?_
  obtain ⟨S4, e4⟩ : ∃ y, y = q_sR S3 o 3 (S.1.length + 1) := ⟨_, rfl⟩
  rw [← e4]
  have l4 : S4.1.length = S.1.length + 2 := by rw [e4]; exact l3
  have hs : S4.1[o]? = some (.inl 3) := by rw [e4]; exact hs
  have ha1 : S4.1[a1]? = some (.inl 5) := by rw [e4]; exact ha1
  refine q_aload_n 0 rfl rfl dX3_init_22 ?_
  refine q_aload_n 1 rfl rfl dX3_init_23 ?_
  refine q_putR hs (by decide) (by decide) rfl rfl lfX3_19 dX3_init_24 ?_
  obtain ⟨S5, e5⟩ : ∃ y, y = q_sR S4 o 0 a1 := ⟨_, rfl⟩
  rw [← e5]
  have l5 : S5.1.length = S.1.length + 2 := by rw [e5]; exact l4
  have hs : S5.1[o]? = some (.inl 3) := by rw [e5]; exact hs
  have ha1 : S5.1[a1]? = some (.inl 5) := by rw [e5]; exact ha1
  refine q_aload_n 0 rfl rfl dX3_init_27 ?_
  refine q_aload_n 1 rfl rfl dX3_init_28 ?_
  obtain ⟨r6, hr6⟩ : ∃ y, y = S5.2.2.2 a1 1 := ⟨_, rfl⟩
  refine q_getRN ha1 (by decide) (by decide) rfl lfX3_23 dX3_init_29 (r := r6) hr6.symm ?_
  obtain ⟨S6, e6⟩ : ∃ y, y = S5 := ⟨_, rfl⟩
  rw [← e6]
  have l6 : S6.1.length = S.1.length + 2 := by rw [e6]; exact l5
  have hs : S6.1[o]? = some (.inl 3) := by rw [e6]; exact hs
  have ha1 : S6.1[a1]? = some (.inl 5) := by rw [e6]; exact ha1
  refine q_putR hs (by decide) (by decide) rfl rfl lfX3_29 dX3_init_32 ?_
  obtain ⟨S7, e7⟩ : ∃ y, y = q_sR S6 o 1 r6 := ⟨_, rfl⟩
  rw [← e7]
  have l7 : S7.1.length = S.1.length + 2 := by rw [e7]; exact l6
  have hs : S7.1[o]? = some (.inl 3) := by rw [e7]; exact hs
  have ha1 : S7.1[a1]? = some (.inl 5) := by rw [e7]; exact ha1
  refine q_vret rfl dX3_init_35 ?_
  try subst e7
  try subst e6
  try subst e5
  try subst e4
  try subst e3
  try subst e2
  try subst e1
  try subst_vars
  exact hQ
def fX9_init (S : QS) (o : Nat) (a1 : Nat) : QS := q_sR (q_sR (q_sR (q_sR (q_nw (q_sR (q_nw (q_sR (q_nw (q_sR (q_nw S (.inr (1, 20480))) o 3 S.1.length) (.inr (3, 1024))) o 4 (S.1.length + 1)) (.inr (3, 1024))) o 5 (S.1.length + 2)) (.inr (1, 20))) o 7 (S.1.length + 3)) o 0 a1) o 1 ((q_sR (q_sR (q_nw (q_sR (q_nw (q_sR (q_nw (q_sR (q_nw S (.inr (1, 20480))) o 3 S.1.length) (.inr (3, 1024))) o 4 (S.1.length + 1)) (.inr (3, 1024))) o 5 (S.1.length + 2)) (.inr (1, 20))) o 7 (S.1.length + 3)) o 0 a1).2.2.2 a1 0)) o 2 ((q_sR (q_sR (q_sR (q_nw (q_sR (q_nw (q_sR (q_nw (q_sR (q_nw S (.inr (1, 20480))) o 3 S.1.length) (.inr (3, 1024))) o 4 (S.1.length + 1)) (.inr (3, 1024))) o 5 (S.1.length + 2)) (.inr (1, 20))) o 7 (S.1.length + 3)) o 0 a1) o 1 ((q_sR (q_sR (q_nw (q_sR (q_nw (q_sR (q_nw (q_sR (q_nw S (.inr (1, 20480))) o 3 S.1.length) (.inr (3, 1024))) o 4 (S.1.length + 1)) (.inr (3, 1024))) o 5 (S.1.length + 2)) (.inr (1, 20))) o 7 (S.1.length + 3)) o 0 a1).2.2.2 a1 0)).2.2.2 a1 1)
theorem lenX9_init (S : QS) (o : Nat) (a1 : Nat) : (fX9_init S o a1).1.length = S.1.length + 4 := by
  simp only [fX9_init, q_len_nw, q_sR, q_sI, lenX0_init, lenX1_init, lenX5_init, lenX8_init, lenX7_init, lenX4_init, lenX3_init]
  try omega
theorem shX9_init {S : QS} {o : Nat} {a1 : Nat} {x : Nat} {sp : QSp} (h : S.1[x]? = some sp) : (fX9_init S o a1).1[x]? = some sp := by
  unfold fX9_init
  repeat (first | exact h | apply q_sh_nw | apply q_shsR | apply q_shsI | apply shX0_init | apply shX1_init | apply shX5_init | apply shX8_init | apply shX7_init | apply shX4_init | apply shX3_init)
set_option maxRecDepth 20000 in
theorem kX9_init {g : QG} {Q : Option Value → QS → Prop} {S : QS} {o : Nat} {a1 : Nat} (hs : S.1[o]? = some (.inl 9)) (ha1 : S.1[a1]? = some (.inl 5)) (hl : S.1.length + 4 ≤ 1000000) (hQ : Q none (fX9_init S o a1)) : q_M g mX9_init 1 4 22548 [.ref o, .ref a1] S Q := by
  show q_L g mX9_init 1 4 22548 Q 0 0 0 [(0, .ref o), (1, .ref a1)] [] S
  refine q_aload_n 0 rfl rfl dX9_init_0 ?_
  refine q_objI (List.getElem?_eq_some_iff.mp hs).1 lmX9_3 q_oii q_oic (Nat.le_of_ble_eq_true rfl) dX9_init_1 ?_
  refine q_aload_n 0 rfl rfl dX9_init_4 ?_
  refine q_sipush (v := (20480 : Int32)) (by decide) dX9_init_5 ?_
  refine q_newa2 (i := (20480 : Int32)) (t := 1) (len := 20480) rfl (by decide) rfl q_ac1 (by decide) (by decide) (by decide) (by decide) (by decide) (by omega) dX9_init_8 ?_
  obtain ⟨S1, e1⟩ : ∃ y, y = q_nw S (.inr (1, 20480)) := ⟨_, rfl⟩
  rw [← e1]
  have l1 : S1.1.length = S.1.length + 1 := by rw [e1]; rw [q_len_nw]
  have hs : S1.1[o]? = some (.inl 9) := by rw [e1]; exact q_sh_nw hs
  have ha1 : S1.1[a1]? = some (.inl 5) := by rw [e1]; exact q_sh_nw ha1
  refine q_putFR hs (by decide) (by decide) rfl rfl rfl rfl lfX9_9 dX9_init_10 ?_
  obtain ⟨S2, e2⟩ : ∃ y, y = q_sR S1 o 3 S.1.length := ⟨_, rfl⟩
  rw [← e2]
  have l2 : S2.1.length = S.1.length + 1 := by rw [e2]; exact l1
  have hs : S2.1[o]? = some (.inl 9) := by rw [e2]; exact hs
  have ha1 : S2.1[a1]? = some (.inl 5) := by rw [e2]; exact ha1
  refine q_aload_n 0 rfl rfl dX9_init_13 ?_
  refine q_sipush (v := (1024 : Int32)) (by decide) dX9_init_14 ?_
  refine q_newa2 (i := (1024 : Int32)) (t := 3) (len := 1024) l2 (by decide) rfl q_ac3 (by decide) (by decide) (by decide) (by decide) (by decide) (by omega) dX9_init_17 ?_
  obtain ⟨S3, e3⟩ : ∃ y, y = q_nw S2 (.inr (3, 1024)) := ⟨_, rfl⟩
  rw [← e3]
  have l3 : S3.1.length = S.1.length + 2 := by rw [e3]; rw [q_len_nw]; omega
  have hs : S3.1[o]? = some (.inl 9) := by rw [e3]; exact q_sh_nw hs
  have ha1 : S3.1[a1]? = some (.inl 5) := by rw [e3]; exact q_sh_nw ha1
  refine q_putFR hs (by decide) (by decide) rfl rfl rfl rfl lfX9_15 dX9_init_19 ?_
  obtain ⟨S4, e4⟩ : ∃ y, y = q_sR S3 o 4 (S.1.length + 1) := ⟨_, rfl⟩
  rw [← e4]
  have l4 : S4.1.length = S.1.length + 2 := by rw [e4]; exact l3
  have hs : S4.1[o]? = some (.inl 9) := by rw [e4]; exact hs
  have ha1 : S4.1[a1]? = some (.inl 5) := by rw [e4]; exact ha1
  refine q_aload_n 0 rfl rfl dX9_init_22 ?_
  refine q_sipush (v := (1024 : Int32)) (by decide) dX9_init_23 ?_
  refine q_newa2 (i := (1024 : Int32)) (t := 3) (len := 1024) l4 (by decide) rfl q_ac3 (by decide) (by decide) (by decide) (by decide) (by decide) (by omega) dX9_init_26 ?_
  obtain ⟨S5, e5⟩ : ∃ y, y = q_nw S4 (.inr (3, 1024)) := ⟨_, rfl⟩
  rw [← e5]
  have l5 : S5.1.length = S.1.length + 3 := by rw [e5]; rw [q_len_nw]; omega
  have hs : S5.1[o]? = some (.inl 9) := by rw [e5]; exact q_sh_nw hs
  have ha1 : S5.1[a1]? = some (.inl 5) := by rw [e5]; exact q_sh_nw ha1
  refine q_putFR hs (by decide) (by decide) rfl rfl rfl rfl lfX9_19 dX9_init_28 ?_
  obtain ⟨S6, e6⟩ : ∃ y, y = q_sR S5 o 5 (S.1.length + 2) := ⟨_, rfl⟩
  rw [← e6]
  have l6 : S6.1.length = S.1.length + 3 := by rw [e6]; exact l5
  have hs : S6.1[o]? = some (.inl 9) := by rw [e6]; exact hs
  have ha1 : S6.1[a1]? = some (.inl 5) := by rw [e6]; exact ha1
  refine q_aload_n 0 rfl rfl dX9_init_31 ?_
  refine q_bipush (v := (20 : Int32)) (by decide) dX9_init_32 ?_
  refine q_newa2 (i := (20 : Int32)) (t := 1) (len := 20) l6 (by decide) rfl q_ac1 (by decide) (by decide) (by decide) (by decide) (by decide) (by omega) dX9_init_34 ?_
  obtain ⟨S7, e7⟩ : ∃ y, y = q_nw S6 (.inr (1, 20)) := ⟨_, rfl⟩
  rw [← e7]
  have l7 : S7.1.length = S.1.length + 4 := by rw [e7]; rw [q_len_nw]; omega
  have hs : S7.1[o]? = some (.inl 9) := by rw [e7]; exact q_sh_nw hs
  have ha1 : S7.1[a1]? = some (.inl 5) := by rw [e7]; exact q_sh_nw ha1
  refine q_putFR hs (by decide) (by decide) rfl rfl rfl rfl lfX9_22 dX9_init_36 ?_
  obtain ⟨S8, e8⟩ : ∃ y, y = q_sR S7 o 7 (S.1.length + 3) := ⟨_, rfl⟩
  rw [← e8]
  have l8 : S8.1.length = S.1.length + 4 := by rw [e8]; exact l7
  have hs : S8.1[o]? = some (.inl 9) := by rw [e8]; exact hs
  have ha1 : S8.1[a1]? = some (.inl 5) := by rw [e8]; exact ha1
  refine q_aload_n 0 rfl rfl dX9_init_39 ?_
  refine q_aload_n 1 rfl rfl dX9_init_40 ?_
  refine q_putR hs (by decide) (by decide) rfl rfl lfX9_25 dX9_init_41 ?_
  obtain ⟨S9, e9⟩ : ∃ y, y = q_sR S8 o 0 a1 := ⟨_, rfl⟩
  rw [← e9]
  have l9 : S9.1.length = S.1.length + 4 := by rw [e9]; exact l8
  have hs : S9.1[o]? = some (.inl 9) := by rw [e9]; exact hs
  have ha1 : S9.1[a1]? = some (.inl 5) := by rw [e9]; exact ha1
  refine q_aload_n 0 rfl rfl dX9_init_44 ?_
  refine q_aload_n 1 rfl rfl dX9_init_45 ?_
  obtain ⟨r10, hr10⟩ : ∃ y, y = S9.2.2.2 a1 0 := ⟨_, rfl⟩
  refine q_getRN ha1 (by decide) (by decide) rfl lfX9_29 dX9_init_46 (r := r10) hr10.symm ?_
  obtain ⟨S10, e10⟩ : ∃ y, y = S9 := ⟨_, rfl⟩
  rw [← e10]
  have l10 : S10.1.length = S.1.length + 4 := by rw [e10]; exact l9
  have hs : S10.1[o]? = some (.inl 9) := by rw [e10]; exact hs
  have ha1 : S10.1[a1]? = some (.inl 5) := by rw [e10]; exact ha1
  refine q_putR hs (by decide) (by decide) rfl rfl lfX9_35 dX9_init_49 ?_
  obtain ⟨S11, e11⟩ : ∃ y, y = q_sR S10 o 1 r10 := ⟨_, rfl⟩
  rw [← e11]
  have l11 : S11.1.length = S.1.length + 4 := by rw [e11]; exact l10
  have hs : S11.1[o]? = some (.inl 9) := by rw [e11]; exact hs
  have ha1 : S11.1[a1]? = some (.inl 5) := by rw [e11]; exact ha1
  refine q_aload_n 0 rfl rfl dX9_init_52 ?_
  refine q_aload_n 1 rfl rfl dX9_init_53 ?_
  obtain ⟨r12, hr12⟩ : ∃ y, y = S11.2.2.2 a1 1 := ⟨_, rfl⟩
  refine q_getRN ha1 (by decide) (by decide) rfl lfX9_36 dX9_init_54 (r := r12) hr12.symm ?_
  obtain ⟨S12, e12⟩ : ∃ y, y = S11 := ⟨_, rfl⟩
  rw [← e12]
  have l12 : S12.1.length = S.1.length + 4 := by rw [e12]; exact l11
  have hs : S12.1[o]? = some (.inl 9) := by rw [e12]; exact hs
  have ha1 : S12.1[a1]? = some (.inl 5) := by rw [e12]; exact ha1
  refine q_putR hs (by decide) (by decide) rfl rfl lfX9_40 dX9_init_57 ?_
  obtain ⟨S13, e13⟩ : ∃ y, y = q_sR S12 o 2 r12 := ⟨_, rfl⟩
  rw [← e13]
  have l13 : S13.1.length = S.1.length + 4 := by rw [e13]; exact l12
  have hs : S13.1[o]? = some (.inl 9) := by rw [e13]; exact hs
  have ha1 : S13.1[a1]? = some (.inl 5) := by rw [e13]; exact ha1
  refine q_vret rfl dX9_init_60 ?_
  try subst e13
  try subst e12
  try subst e11
  try subst e10
  try subst e9
  try subst e8
  try subst e7
  try subst e6
  try subst e5
  try subst e4
  try subst e3
  try subst e2
  try subst e1
  try subst_vars
  exact hQ
def fX2_init (S : QS) (o : Nat) : QS := q_sR (q_nw (q_sR (q_nw (q_sR (q_nw (q_sR (q_nw (q_sR (q_nw S (.inr (0, 2001))) o 0 S.1.length) (.inr (0, 2001))) o 1 (S.1.length + 1)) (.inr (0, 2001))) o 2 (S.1.length + 2)) (.inr (0, 2001))) o 3 (S.1.length + 3)) (.inr (0, 12000))) o 4 (S.1.length + 4)
theorem lenX2_init (S : QS) (o : Nat) : (fX2_init S o).1.length = S.1.length + 5 := by
  simp only [fX2_init, q_len_nw, q_sR, q_sI, lenX0_init, lenX1_init, lenX5_init, lenX8_init, lenX7_init, lenX4_init, lenX3_init, lenX9_init]
  try omega
theorem shX2_init {S : QS} {o : Nat} {x : Nat} {sp : QSp} (h : S.1[x]? = some sp) : (fX2_init S o).1[x]? = some sp := by
  unfold fX2_init
  repeat (first | exact h | apply q_sh_nw | apply q_shsR | apply q_shsI | apply shX0_init | apply shX1_init | apply shX5_init | apply shX8_init | apply shX7_init | apply shX4_init | apply shX3_init | apply shX9_init)
set_option maxRecDepth 20000 in
theorem kX2_init {g : QG} {Q : Option Value → QS → Prop} {S : QS} {o : Nat} (hs : S.1[o]? = some (.inl 2)) (hl : S.1.length + 5 ≤ 1000000) (hQ : Q none (fX2_init S o)) : q_M g mX2_init 1 5 20004 [.ref o] S Q := by
  show q_L g mX2_init 1 5 20004 Q 0 0 0 [(0, .ref o)] [] S
  refine q_aload_n 0 rfl rfl dX2_init_0 ?_
  refine q_objI (List.getElem?_eq_some_iff.mp hs).1 lmX2_3 q_oii q_oic (Nat.le_of_ble_eq_true rfl) dX2_init_1 ?_
  refine q_aload_n 0 rfl rfl dX2_init_4 ?_
  refine q_sipush (v := (2001 : Int32)) (by decide) dX2_init_5 ?_
  refine q_newa2 (i := (2001 : Int32)) (t := 0) (len := 2001) rfl (by decide) rfl q_ac0 (by decide) (by decide) (by decide) (by decide) (by decide) (by omega) dX2_init_8 ?_
  obtain ⟨S1, e1⟩ : ∃ y, y = q_nw S (.inr (0, 2001)) := ⟨_, rfl⟩
  rw [← e1]
  have l1 : S1.1.length = S.1.length + 1 := by rw [e1]; rw [q_len_nw]
  have hs : S1.1[o]? = some (.inl 2) := by rw [e1]; exact q_sh_nw hs
  refine q_putFR hs (by decide) (by decide) rfl rfl rfl rfl lfX2_9 dX2_init_10 ?_
  obtain ⟨S2, e2⟩ : ∃ y, y = q_sR S1 o 0 S.1.length := ⟨_, rfl⟩
  rw [← e2]
  have l2 : S2.1.length = S.1.length + 1 := by rw [e2]; exact l1
  have hs : S2.1[o]? = some (.inl 2) := by rw [e2]; exact hs
  refine q_aload_n 0 rfl rfl dX2_init_13 ?_
  refine q_sipush (v := (2001 : Int32)) (by decide) dX2_init_14 ?_
  refine q_newa2 (i := (2001 : Int32)) (t := 0) (len := 2001) l2 (by decide) rfl q_ac0 (by decide) (by decide) (by decide) (by decide) (by decide) (by omega) dX2_init_17 ?_
  obtain ⟨S3, e3⟩ : ∃ y, y = q_nw S2 (.inr (0, 2001)) := ⟨_, rfl⟩
  rw [← e3]
  have l3 : S3.1.length = S.1.length + 2 := by rw [e3]; rw [q_len_nw]; omega
  have hs : S3.1[o]? = some (.inl 2) := by rw [e3]; exact q_sh_nw hs
  refine q_putFR hs (by decide) (by decide) rfl rfl rfl rfl lfX2_15 dX2_init_19 ?_
  obtain ⟨S4, e4⟩ : ∃ y, y = q_sR S3 o 1 (S.1.length + 1) := ⟨_, rfl⟩
  rw [← e4]
  have l4 : S4.1.length = S.1.length + 2 := by rw [e4]; exact l3
  have hs : S4.1[o]? = some (.inl 2) := by rw [e4]; exact hs
  refine q_aload_n 0 rfl rfl dX2_init_22 ?_
  refine q_sipush (v := (2001 : Int32)) (by decide) dX2_init_23 ?_
  refine q_newa2 (i := (2001 : Int32)) (t := 0) (len := 2001) l4 (by decide) rfl q_ac0 (by decide) (by decide) (by decide) (by decide) (by decide) (by omega) dX2_init_26 ?_
  obtain ⟨S5, e5⟩ : ∃ y, y = q_nw S4 (.inr (0, 2001)) := ⟨_, rfl⟩
  rw [← e5]
  have l5 : S5.1.length = S.1.length + 3 := by rw [e5]; rw [q_len_nw]; omega
  have hs : S5.1[o]? = some (.inl 2) := by rw [e5]; exact q_sh_nw hs
  refine q_putFR hs (by decide) (by decide) rfl rfl rfl rfl lfX2_18 dX2_init_28 ?_
  obtain ⟨S6, e6⟩ : ∃ y, y = q_sR S5 o 2 (S.1.length + 2) := ⟨_, rfl⟩
  rw [← e6]
  have l6 : S6.1.length = S.1.length + 3 := by rw [e6]; exact l5
  have hs : S6.1[o]? = some (.inl 2) := by rw [e6]; exact hs
  refine q_aload_n 0 rfl rfl dX2_init_31 ?_
  refine q_sipush (v := (2001 : Int32)) (by decide) dX2_init_32 ?_
  refine q_newa2 (i := (2001 : Int32)) (t := 0) (len := 2001) l6 (by decide) rfl q_ac0 (by decide) (by decide) (by decide) (by decide) (by decide) (by omega) dX2_init_35 ?_
  obtain ⟨S7, e7⟩ : ∃ y, y = q_nw S6 (.inr (0, 2001)) := ⟨_, rfl⟩
  rw [← e7]
  have l7 : S7.1.length = S.1.length + 4 := by rw [e7]; rw [q_len_nw]; omega
  have hs : S7.1[o]? = some (.inl 2) := by rw [e7]; exact q_sh_nw hs
  refine q_putFR hs (by decide) (by decide) rfl rfl rfl rfl lfX2_21 dX2_init_37 ?_
  obtain ⟨S8, e8⟩ : ∃ y, y = q_sR S7 o 3 (S.1.length + 3) := ⟨_, rfl⟩
  rw [← e8]
  have l8 : S8.1.length = S.1.length + 4 := by rw [e8]; exact l7
  have hs : S8.1[o]? = some (.inl 2) := by rw [e8]; exact hs
  refine q_aload_n 0 rfl rfl dX2_init_40 ?_
  refine q_sipush (v := (12000 : Int32)) (by decide) dX2_init_41 ?_
  refine q_newa2 (i := (12000 : Int32)) (t := 0) (len := 12000) l8 (by decide) rfl q_ac0 (by decide) (by decide) (by decide) (by decide) (by decide) (by omega) dX2_init_44 ?_
  obtain ⟨S9, e9⟩ : ∃ y, y = q_nw S8 (.inr (0, 12000)) := ⟨_, rfl⟩
  rw [← e9]
  have l9 : S9.1.length = S.1.length + 5 := by rw [e9]; rw [q_len_nw]; omega
  have hs : S9.1[o]? = some (.inl 2) := by rw [e9]; exact q_sh_nw hs
  refine q_putFR hs (by decide) (by decide) rfl rfl rfl rfl lfX2_24 dX2_init_46 ?_
  obtain ⟨S10, e10⟩ : ∃ y, y = q_sR S9 o 4 (S.1.length + 4) := ⟨_, rfl⟩
  rw [← e10]
  have l10 : S10.1.length = S.1.length + 5 := by rw [e10]; exact l9
  have hs : S10.1[o]? = some (.inl 2) := by rw [e10]; exact hs
  refine q_vret rfl dX2_init_49 ?_
  try subst e10
  try subst e9
  try subst e8
  try subst e7
  try subst e6
  try subst e5
  try subst e4
  try subst e3
  try subst e2
  try subst e1
  try subst_vars
  exact hQ
def fX6_init (S : QS) (o : Nat) (a1 : Nat) : QS := q_sR (q_sR (q_sI (q_sI (q_sR (q_nw (q_sR (q_nw (q_sR (q_nw (q_sR (q_nw (q_sR (q_nw (q_sR (q_nw (q_sR (fX2_init (q_nw S (.inl 2)) S.1.length) o 2 S.1.length) (.inr (0, 1280))) o 3 (S.1.length + 6)) (.inr (1, 1280))) o 4 (S.1.length + 7)) (.inr (0, 64))) o 5 (S.1.length + 8)) (.inr (0, 64))) o 6 (S.1.length + 9)) (.inr (0, 256))) o 10 (S.1.length + 10)) (.inr (0, 256))) o 13 (S.1.length + 11)) o 16 (-1 : Int32)) o 17 (-1 : Int32)) o 0 a1) o 1 ((q_sR (q_sI (q_sI (q_sR (q_nw (q_sR (q_nw (q_sR (q_nw (q_sR (q_nw (q_sR (q_nw (q_sR (q_nw (q_sR (fX2_init (q_nw S (.inl 2)) S.1.length) o 2 S.1.length) (.inr (0, 1280))) o 3 (S.1.length + 6)) (.inr (1, 1280))) o 4 (S.1.length + 7)) (.inr (0, 64))) o 5 (S.1.length + 8)) (.inr (0, 64))) o 6 (S.1.length + 9)) (.inr (0, 256))) o 10 (S.1.length + 10)) (.inr (0, 256))) o 13 (S.1.length + 11)) o 16 (-1 : Int32)) o 17 (-1 : Int32)) o 0 a1).2.2.2 a1 1)
theorem lenX6_init (S : QS) (o : Nat) (a1 : Nat) : (fX6_init S o a1).1.length = S.1.length + 12 := by
  simp only [fX6_init, q_len_nw, q_sR, q_sI, lenX0_init, lenX1_init, lenX5_init, lenX8_init, lenX7_init, lenX4_init, lenX3_init, lenX9_init, lenX2_init]
  try omega
theorem shX6_init {S : QS} {o : Nat} {a1 : Nat} {x : Nat} {sp : QSp} (h : S.1[x]? = some sp) : (fX6_init S o a1).1[x]? = some sp := by
  unfold fX6_init
  repeat (first | exact h | apply q_sh_nw | apply q_shsR | apply q_shsI | apply shX0_init | apply shX1_init | apply shX5_init | apply shX8_init | apply shX7_init | apply shX4_init | apply shX3_init | apply shX9_init | apply shX2_init)
set_option maxRecDepth 20000 in
theorem kX6_init {g : QG} {Q : Option Value → QS → Prop} {S : QS} {o : Nat} {a1 : Nat} (hs : S.1[o]? = some (.inl 6)) (ha1 : S.1[a1]? = some (.inl 5)) (hl : S.1.length + 12 ≤ 1000000) (hQ : Q none (fX6_init S o a1)) : q_M g mX6_init 2 12 23211 [.ref o, .ref a1] S Q := by
  show q_L g mX6_init 2 12 23211 Q 0 0 0 [(0, .ref o), (1, .ref a1)] [] S
  refine q_aload_n 0 rfl rfl dX6_init_0 ?_
  refine q_objI (List.getElem?_eq_some_iff.mp hs).1 lmX6_3 q_oii q_oic (Nat.le_of_ble_eq_true rfl) dX6_init_1 ?_
  refine q_aload_n 0 rfl rfl dX6_init_4 ?_
  refine q_new2 (id := S.1.length) (ci := 2) rfl (by decide) lcX6_9 q_is2 q_in2 (by decide) (by decide) (by omega) dX6_init_5 ?_
  obtain ⟨S1, e1⟩ : ∃ y, y = q_nw S (.inl 2) := ⟨_, rfl⟩
  rw [← e1]
  have l1 : S1.1.length = S.1.length + 1 := by rw [e1]; rw [q_len_nw]
  have hs : S1.1[o]? = some (.inl 6) := by rw [e1]; exact q_sh_nw hs
  have ha1 : S1.1[a1]? = some (.inl 5) := by rw [e1]; exact q_sh_nw ha1
  have hn1 : S1.1[S.1.length]? = some (.inl 2) := by rw [e1]; exact q_sh_new rfl
  refine q_dup rfl dX6_init_8 ?_
  refine q_callIN (d := 1) (Mc := mX2_init) (kc := 5) (nc := 20004) [] okX2_init rfl (List.getElem?_eq_some_iff.mp hn1).1 rfl lmX6_11 inX2_init rfl (Nat.le_of_ble_eq_true rfl) (Nat.le_of_ble_eq_true rfl) (by decide) (by decide) dX6_init_9 (q_L.deep (by decide) (kX2_init (Q := fun r S' => r = none ∧ S' = fX2_init S1 S.1.length) hn1 (by omega) ⟨rfl, rfl⟩)) (q_kV2 ?_)
  obtain ⟨S2, e2⟩ : ∃ y, y = fX2_init S1 S.1.length := ⟨_, rfl⟩
  rw [← e2]
  have l2 : S2.1.length = S.1.length + 6 := by rw [e2]; rw [lenX2_init]; omega
  have hs : S2.1[o]? = some (.inl 6) := by rw [e2]; exact shX2_init hs
  have ha1 : S2.1[a1]? = some (.inl 5) := by rw [e2]; exact shX2_init ha1
  have hn1 : S2.1[S.1.length]? = some (.inl 2) := by rw [e2]; exact shX2_init hn1
  refine q_putFR hs (by decide) (by decide) rfl rfl rfl rfl lfX6_12 dX6_init_12 ?_
  obtain ⟨S3, e3⟩ : ∃ y, y = q_sR S2 o 2 S.1.length := ⟨_, rfl⟩
  rw [← e3]
  have l3 : S3.1.length = S.1.length + 6 := by rw [e3]; exact l2
  have hs : S3.1[o]? = some (.inl 6) := by rw [e3]; exact hs
  have ha1 : S3.1[a1]? = some (.inl 5) := by rw [e3]; exact ha1
  have hn1 : S3.1[S.1.length]? = some (.inl 2) := by rw [e3]; exact hn1
  refine q_aload_n 0 rfl rfl dX6_init_15 ?_
  refine q_sipush (v := (1280 : Int32)) (by decide) dX6_init_16 ?_
  refine q_newa2 (i := (1280 : Int32)) (t := 0) (len := 1280) l3 (by decide) rfl q_ac0 (by decide) (by decide) (by decide) (by decide) (by decide) (by omega) dX6_init_19 ?_
  obtain ⟨S4, e4⟩ : ∃ y, y = q_nw S3 (.inr (0, 1280)) := ⟨_, rfl⟩
  rw [← e4]
  have l4 : S4.1.length = S.1.length + 7 := by rw [e4]; rw [q_len_nw]; omega
  have hs : S4.1[o]? = some (.inl 6) := by rw [e4]; exact q_sh_nw hs
  have ha1 : S4.1[a1]? = some (.inl 5) := by rw [e4]; exact q_sh_nw ha1
  have hn1 : S4.1[S.1.length]? = some (.inl 2) := by rw [e4]; exact q_sh_nw hn1
  refine q_putFR hs (by decide) (by decide) rfl rfl rfl rfl lfX6_18 dX6_init_21 ?_
  obtain ⟨S5, e5⟩ : ∃ y, y = q_sR S4 o 3 (S.1.length + 6) := ⟨_, rfl⟩
  rw [← e5]
  have l5 : S5.1.length = S.1.length + 7 := by rw [e5]; exact l4
  have hs : S5.1[o]? = some (.inl 6) := by rw [e5]; exact hs
  have ha1 : S5.1[a1]? = some (.inl 5) := by rw [e5]; exact ha1
  have hn1 : S5.1[S.1.length]? = some (.inl 2) := by rw [e5]; exact hn1
  refine q_aload_n 0 rfl rfl dX6_init_24 ?_
  refine q_sipush (v := (1280 : Int32)) (by decide) dX6_init_25 ?_
  refine q_newa2 (i := (1280 : Int32)) (t := 1) (len := 1280) l5 (by decide) rfl q_ac1 (by decide) (by decide) (by decide) (by decide) (by decide) (by omega) dX6_init_28 ?_
  obtain ⟨S6, e6⟩ : ∃ y, y = q_nw S5 (.inr (1, 1280)) := ⟨_, rfl⟩
  rw [← e6]
  have l6 : S6.1.length = S.1.length + 8 := by rw [e6]; rw [q_len_nw]; omega
  have hs : S6.1[o]? = some (.inl 6) := by rw [e6]; exact q_sh_nw hs
  have ha1 : S6.1[a1]? = some (.inl 5) := by rw [e6]; exact q_sh_nw ha1
  have hn1 : S6.1[S.1.length]? = some (.inl 2) := by rw [e6]; exact q_sh_nw hn1
  refine q_putFR hs (by decide) (by decide) rfl rfl rfl rfl lfX6_22 dX6_init_30 ?_
  obtain ⟨S7, e7⟩ : ∃ y, y = q_sR S6 o 4 (S.1.length + 7) := ⟨_, rfl⟩
  rw [← e7]
  have l7 : S7.1.length = S.1.length + 8 := by rw [e7]; exact l6
  have hs : S7.1[o]? = some (.inl 6) := by rw [e7]; exact hs
  have ha1 : S7.1[a1]? = some (.inl 5) := by rw [e7]; exact ha1
  have hn1 : S7.1[S.1.length]? = some (.inl 2) := by rw [e7]; exact hn1
  refine q_aload_n 0 rfl rfl dX6_init_33 ?_
  refine q_bipush (v := (64 : Int32)) (by decide) dX6_init_34 ?_
  refine q_newa2 (i := (64 : Int32)) (t := 0) (len := 64) l7 (by decide) rfl q_ac0 (by decide) (by decide) (by decide) (by decide) (by decide) (by omega) dX6_init_36 ?_
  obtain ⟨S8, e8⟩ : ∃ y, y = q_nw S7 (.inr (0, 64)) := ⟨_, rfl⟩
  rw [← e8]
  have l8 : S8.1.length = S.1.length + 9 := by rw [e8]; rw [q_len_nw]; omega
  have hs : S8.1[o]? = some (.inl 6) := by rw [e8]; exact q_sh_nw hs
  have ha1 : S8.1[a1]? = some (.inl 5) := by rw [e8]; exact q_sh_nw ha1
  have hn1 : S8.1[S.1.length]? = some (.inl 2) := by rw [e8]; exact q_sh_nw hn1
  refine q_putFR hs (by decide) (by decide) rfl rfl rfl rfl lfX6_26 dX6_init_38 ?_
  obtain ⟨S9, e9⟩ : ∃ y, y = q_sR S8 o 5 (S.1.length + 8) := ⟨_, rfl⟩
  rw [← e9]
  have l9 : S9.1.length = S.1.length + 9 := by rw [e9]; exact l8
  have hs : S9.1[o]? = some (.inl 6) := by rw [e9]; exact hs
  have ha1 : S9.1[a1]? = some (.inl 5) := by rw [e9]; exact ha1
  have hn1 : S9.1[S.1.length]? = some (.inl 2) := by rw [e9]; exact hn1
  refine q_aload_n 0 rfl rfl dX6_init_41 ?_
  refine q_bipush (v := (64 : Int32)) (by decide) dX6_init_42 ?_
  refine q_newa2 (i := (64 : Int32)) (t := 0) (len := 64) l9 (by decide) rfl q_ac0 (by decide) (by decide) (by decide) (by decide) (by decide) (by omega) dX6_init_44 ?_
  obtain ⟨S10, e10⟩ : ∃ y, y = q_nw S9 (.inr (0, 64)) := ⟨_, rfl⟩
  rw [← e10]
  have l10 : S10.1.length = S.1.length + 10 := by rw [e10]; rw [q_len_nw]; omega
  have hs : S10.1[o]? = some (.inl 6) := by rw [e10]; exact q_sh_nw hs
  have ha1 : S10.1[a1]? = some (.inl 5) := by rw [e10]; exact q_sh_nw ha1
  have hn1 : S10.1[S.1.length]? = some (.inl 2) := by rw [e10]; exact q_sh_nw hn1
  refine q_putFR hs (by decide) (by decide) rfl rfl rfl rfl lfX6_29 dX6_init_46 ?_
  obtain ⟨S11, e11⟩ : ∃ y, y = q_sR S10 o 6 (S.1.length + 9) := ⟨_, rfl⟩
  rw [← e11]
  have l11 : S11.1.length = S.1.length + 10 := by rw [e11]; exact l10
  have hs : S11.1[o]? = some (.inl 6) := by rw [e11]; exact hs
  have ha1 : S11.1[a1]? = some (.inl 5) := by rw [e11]; exact ha1
  have hn1 : S11.1[S.1.length]? = some (.inl 2) := by rw [e11]; exact hn1
  refine q_aload_n 0 rfl rfl dX6_init_49 ?_
  refine q_sipush (v := (256 : Int32)) (by decide) dX6_init_50 ?_
  refine q_newa2 (i := (256 : Int32)) (t := 0) (len := 256) l11 (by decide) rfl q_ac0 (by decide) (by decide) (by decide) (by decide) (by decide) (by omega) dX6_init_53 ?_
  obtain ⟨S12, e12⟩ : ∃ y, y = q_nw S11 (.inr (0, 256)) := ⟨_, rfl⟩
  rw [← e12]
  have l12 : S12.1.length = S.1.length + 11 := by rw [e12]; rw [q_len_nw]; omega
  have hs : S12.1[o]? = some (.inl 6) := by rw [e12]; exact q_sh_nw hs
  have ha1 : S12.1[a1]? = some (.inl 5) := by rw [e12]; exact q_sh_nw ha1
  have hn1 : S12.1[S.1.length]? = some (.inl 2) := by rw [e12]; exact q_sh_nw hn1
  refine q_putFR hs (by decide) (by decide) rfl rfl rfl rfl lfX6_32 dX6_init_55 ?_
  obtain ⟨S13, e13⟩ : ∃ y, y = q_sR S12 o 10 (S.1.length + 10) := ⟨_, rfl⟩
  rw [← e13]
  have l13 : S13.1.length = S.1.length + 11 := by rw [e13]; exact l12
  have hs : S13.1[o]? = some (.inl 6) := by rw [e13]; exact hs
  have ha1 : S13.1[a1]? = some (.inl 5) := by rw [e13]; exact ha1
  have hn1 : S13.1[S.1.length]? = some (.inl 2) := by rw [e13]; exact hn1
  refine q_aload_n 0 rfl rfl dX6_init_58 ?_
  refine q_sipush (v := (256 : Int32)) (by decide) dX6_init_59 ?_
  refine q_newa2 (i := (256 : Int32)) (t := 0) (len := 256) l13 (by decide) rfl q_ac0 (by decide) (by decide) (by decide) (by decide) (by decide) (by omega) dX6_init_62 ?_
  obtain ⟨S14, e14⟩ : ∃ y, y = q_nw S13 (.inr (0, 256)) := ⟨_, rfl⟩
  rw [← e14]
  have l14 : S14.1.length = S.1.length + 12 := by rw [e14]; rw [q_len_nw]; omega
  have hs : S14.1[o]? = some (.inl 6) := by rw [e14]; exact q_sh_nw hs
  have ha1 : S14.1[a1]? = some (.inl 5) := by rw [e14]; exact q_sh_nw ha1
  have hn1 : S14.1[S.1.length]? = some (.inl 2) := by rw [e14]; exact q_sh_nw hn1
  refine q_putFR hs (by decide) (by decide) rfl rfl rfl rfl lfX6_35 dX6_init_64 ?_
  obtain ⟨S15, e15⟩ : ∃ y, y = q_sR S14 o 13 (S.1.length + 11) := ⟨_, rfl⟩
  rw [← e15]
  have l15 : S15.1.length = S.1.length + 12 := by rw [e15]; exact l14
  have hs : S15.1[o]? = some (.inl 6) := by rw [e15]; exact hs
  have ha1 : S15.1[a1]? = some (.inl 5) := by rw [e15]; exact ha1
  have hn1 : S15.1[S.1.length]? = some (.inl 2) := by rw [e15]; exact hn1
  refine q_aload_n 0 rfl rfl dX6_init_67 ?_
  refine q_iconst (v := (-1 : Int32)) (by decide) dX6_init_68 ?_
  refine q_putI hs (by decide) (by decide) rfl rfl ⟨rfl, rfl⟩ lfX6_38 dX6_init_69 ?_
  obtain ⟨S16, e16⟩ : ∃ y, y = q_sI S15 o 16 (-1 : Int32) := ⟨_, rfl⟩
  rw [← e16]
  have l16 : S16.1.length = S.1.length + 12 := by rw [e16]; exact l15
  have hs : S16.1[o]? = some (.inl 6) := by rw [e16]; exact hs
  have ha1 : S16.1[a1]? = some (.inl 5) := by rw [e16]; exact ha1
  have hn1 : S16.1[S.1.length]? = some (.inl 2) := by rw [e16]; exact hn1
  refine q_aload_n 0 rfl rfl dX6_init_72 ?_
  refine q_iconst (v := (-1 : Int32)) (by decide) dX6_init_73 ?_
  refine q_putI hs (by decide) (by decide) rfl rfl ⟨rfl, rfl⟩ lfX6_42 dX6_init_74 ?_
  obtain ⟨S17, e17⟩ : ∃ y, y = q_sI S16 o 17 (-1 : Int32) := ⟨_, rfl⟩
  rw [← e17]
  have l17 : S17.1.length = S.1.length + 12 := by rw [e17]; exact l16
  have hs : S17.1[o]? = some (.inl 6) := by rw [e17]; exact hs
  have ha1 : S17.1[a1]? = some (.inl 5) := by rw [e17]; exact ha1
  have hn1 : S17.1[S.1.length]? = some (.inl 2) := by rw [e17]; exact hn1
  refine q_aload_n 0 rfl rfl dX6_init_77 ?_
  refine q_aload_n 1 rfl rfl dX6_init_78 ?_
  refine q_putR hs (by decide) (by decide) rfl rfl lfX6_45 dX6_init_79 ?_
  obtain ⟨S18, e18⟩ : ∃ y, y = q_sR S17 o 0 a1 := ⟨_, rfl⟩
  rw [← e18]
  have l18 : S18.1.length = S.1.length + 12 := by rw [e18]; exact l17
  have hs : S18.1[o]? = some (.inl 6) := by rw [e18]; exact hs
  have ha1 : S18.1[a1]? = some (.inl 5) := by rw [e18]; exact ha1
  have hn1 : S18.1[S.1.length]? = some (.inl 2) := by rw [e18]; exact hn1
  refine q_aload_n 0 rfl rfl dX6_init_82 ?_
  refine q_aload_n 1 rfl rfl dX6_init_83 ?_
  obtain ⟨r19, hr19⟩ : ∃ y, y = S18.2.2.2 a1 1 := ⟨_, rfl⟩
  refine q_getRN ha1 (by decide) (by decide) rfl lfX6_49 dX6_init_84 (r := r19) hr19.symm ?_
  obtain ⟨S19, e19⟩ : ∃ y, y = S18 := ⟨_, rfl⟩
  rw [← e19]
  have l19 : S19.1.length = S.1.length + 12 := by rw [e19]; exact l18
  have hs : S19.1[o]? = some (.inl 6) := by rw [e19]; exact hs
  have ha1 : S19.1[a1]? = some (.inl 5) := by rw [e19]; exact ha1
  have hn1 : S19.1[S.1.length]? = some (.inl 2) := by rw [e19]; exact hn1
  refine q_putR hs (by decide) (by decide) rfl rfl lfX6_55 dX6_init_87 ?_
  obtain ⟨S20, e20⟩ : ∃ y, y = q_sR S19 o 1 r19 := ⟨_, rfl⟩
  rw [← e20]
  have l20 : S20.1.length = S.1.length + 12 := by rw [e20]; exact l19
  have hs : S20.1[o]? = some (.inl 6) := by rw [e20]; exact hs
  have ha1 : S20.1[a1]? = some (.inl 5) := by rw [e20]; exact ha1
  have hn1 : S20.1[S.1.length]? = some (.inl 2) := by rw [e20]; exact hn1
  refine q_vret rfl dX6_init_90 ?_
  try subst e20
  try subst e19
  try subst e18
  try subst e17
  try subst e16
  try subst e15
  try subst e14
  try subst e13
  try subst e12
  try subst e11
  try subst e10
  try subst e9
  try subst e8
  try subst e7
  try subst e6
  try subst e5
  try subst e4
  try subst e3
  try subst e2
  try subst e1
  try subst_vars
  exact hQ
def fX10_init (S : QS) (o : Nat) : QS := q_sR (q_sR (q_sR (fX6_init (q_nw (q_sR (fX9_init (q_nw (q_sR (fX3_init (q_nw (q_sR (fX4_init (q_nw (q_sR (fX7_init (q_nw (q_sR (fX5_init (q_nw (fX5_init (q_nw (fX8_init (q_nw (q_sI (q_sR (q_nw S (.inr (0, 4000))) o 0 S.1.length) o 12 (-1 : Int32)) (.inl 8)) (S.1.length + 1)) (.inl 5)) (S.1.length + 6)) (.inl 5)) (S.1.length + 41)) o 3 (S.1.length + 1)) (.inl 7)) (S.1.length + 76) (S.1.length + 1)) o 4 (S.1.length + 76)) (.inl 4)) (S.1.length + 77) (S.1.length + 1) (S.1.length + 41)) o 5 (S.1.length + 77)) (.inl 3)) (S.1.length + 80) (S.1.length + 41)) o 6 (S.1.length + 80)) (.inl 9)) (S.1.length + 83) (S.1.length + 41)) o 7 (S.1.length + 83)) (.inl 6)) (S.1.length + 88) (S.1.length + 6)) o 8 (S.1.length + 88)) o 9 (S.1.length + 6)) o 10 (S.1.length + 41)
theorem lenX10_init (S : QS) (o : Nat) : (fX10_init S o).1.length = S.1.length + 101 := by
  simp only [fX10_init, q_len_nw, q_sR, q_sI, lenX0_init, lenX1_init, lenX5_init, lenX8_init, lenX7_init, lenX4_init, lenX3_init, lenX9_init, lenX2_init, lenX6_init]
  try omega
theorem shX10_init {S : QS} {o : Nat} {x : Nat} {sp : QSp} (h : S.1[x]? = some sp) : (fX10_init S o).1[x]? = some sp := by
  unfold fX10_init
  repeat (first | exact h | apply q_sh_nw | apply q_shsR | apply q_shsI | apply shX0_init | apply shX1_init | apply shX5_init | apply shX8_init | apply shX7_init | apply shX4_init | apply shX3_init | apply shX9_init | apply shX2_init | apply shX6_init)
set_option maxRecDepth 20000 in
theorem kX10_init {g : QG} {Q : Option Value → QS → Prop} {S : QS} {o : Nat} (hs : S.1[o]? = some (.inl 10)) (hl : S.1.length + 101 ≤ 1000000) (hQ : Q none (fX10_init S o)) : q_M g mX10_init 3 101 152708 [.ref o] S Q := by
  show q_L g mX10_init 3 101 152708 Q 0 0 0 [(0, .ref o)] [] S
  refine q_aload_n 0 rfl rfl dX10_init_0 ?_
  refine q_objI (List.getElem?_eq_some_iff.mp hs).1 lmX10_1 q_oii q_oic (Nat.le_of_ble_eq_true rfl) dX10_init_1 ?_
  refine q_aload_n 0 rfl rfl dX10_init_4 ?_
  refine q_sipush (v := (4000 : Int32)) (by decide) dX10_init_5 ?_
  refine q_newa2 (i := (4000 : Int32)) (t := 0) (len := 4000) rfl (by decide) rfl q_ac0 (by decide) (by decide) (by decide) (by decide) (by decide) (by omega) dX10_init_8 ?_
  obtain ⟨S1, e1⟩ : ∃ y, y = q_nw S (.inr (0, 4000)) := ⟨_, rfl⟩
  rw [← e1]
  have l1 : S1.1.length = S.1.length + 1 := by rw [e1]; rw [q_len_nw]
  have hs : S1.1[o]? = some (.inl 10) := by rw [e1]; exact q_sh_nw hs
  refine q_putFR hs (by decide) (by decide) rfl rfl rfl rfl lfX10_9 dX10_init_10 ?_
  obtain ⟨S2, e2⟩ : ∃ y, y = q_sR S1 o 0 S.1.length := ⟨_, rfl⟩
  rw [← e2]
  have l2 : S2.1.length = S.1.length + 1 := by rw [e2]; exact l1
  have hs : S2.1[o]? = some (.inl 10) := by rw [e2]; exact hs
  refine q_aload_n 0 rfl rfl dX10_init_13 ?_
  refine q_iconst (v := (-1 : Int32)) (by decide) dX10_init_14 ?_
  refine q_putI hs (by decide) (by decide) rfl rfl ⟨rfl, rfl⟩ lfX10_13 dX10_init_15 ?_
  obtain ⟨S3, e3⟩ : ∃ y, y = q_sI S2 o 12 (-1 : Int32) := ⟨_, rfl⟩
  rw [← e3]
  have l3 : S3.1.length = S.1.length + 1 := by rw [e3]; exact l2
  have hs : S3.1[o]? = some (.inl 10) := by rw [e3]; exact hs
  refine q_new2 (id := (S.1.length + 1)) (ci := 8) l3 (by decide) lcX10_17 q_is8 q_in8 (by decide) (by decide) (by omega) dX10_init_18 ?_
  obtain ⟨S4, e4⟩ : ∃ y, y = q_nw S3 (.inl 8) := ⟨_, rfl⟩
  rw [← e4]
  have l4 : S4.1.length = S.1.length + 2 := by rw [e4]; rw [q_len_nw]; omega
  have hs : S4.1[o]? = some (.inl 10) := by rw [e4]; exact q_sh_nw hs
  have hn4 : S4.1[(S.1.length + 1)]? = some (.inl 8) := by rw [e4]; exact q_sh_new l3
  refine q_dup rfl dX10_init_21 ?_
  refine q_callIN (d := 2) (Mc := mX8_init) (kc := 4) (nc := 64000) [] okX8_init rfl (List.getElem?_eq_some_iff.mp hn4).1 rfl lmX10_19 inX8_init rfl (Nat.le_of_ble_eq_true rfl) (Nat.le_of_ble_eq_true rfl) (by decide) (by decide) dX10_init_22 (q_L.deep (by decide) (kX8_init (Q := fun r S' => r = none ∧ S' = fX8_init S4 (S.1.length + 1)) hn4 (by omega) ⟨rfl, rfl⟩)) (q_kV2 ?_)
  obtain ⟨S5, e5⟩ : ∃ y, y = fX8_init S4 (S.1.length + 1) := ⟨_, rfl⟩
  rw [← e5]
  have l5 : S5.1.length = S.1.length + 6 := by rw [e5]; rw [lenX8_init]; omega
  have hs : S5.1[o]? = some (.inl 10) := by rw [e5]; exact shX8_init hs
  have hn4 : S5.1[(S.1.length + 1)]? = some (.inl 8) := by rw [e5]; exact shX8_init hn4
  refine q_astore_n [(1, .ref (S.1.length + 1)), (0, .ref o)] rfl (by decide) rfl dX10_init_25 ?_
  refine q_new2 (id := (S.1.length + 6)) (ci := 5) l5 (by decide) lcX10_20 q_is5 q_in5 (by decide) (by decide) (by omega) dX10_init_26 ?_
  obtain ⟨S6, e6⟩ : ∃ y, y = q_nw S5 (.inl 5) := ⟨_, rfl⟩
  rw [← e6]
  have l6 : S6.1.length = S.1.length + 7 := by rw [e6]; rw [q_len_nw]; omega
  have hs : S6.1[o]? = some (.inl 10) := by rw [e6]; exact q_sh_nw hs
  have hn4 : S6.1[(S.1.length + 1)]? = some (.inl 8) := by rw [e6]; exact q_sh_nw hn4
  have hn6 : S6.1[(S.1.length + 6)]? = some (.inl 5) := by rw [e6]; exact q_sh_new l5
  refine q_dup rfl dX10_init_29 ?_
  refine q_callIN (d := 2) (Mc := mX5_init) (kc := 34) (nc := 10408) [] okX5_init rfl (List.getElem?_eq_some_iff.mp hn6).1 rfl lmX10_22 inX5_init rfl (Nat.le_of_ble_eq_true rfl) (Nat.le_of_ble_eq_true rfl) (by decide) (by decide) dX10_init_30 (q_L.deep (by decide) (kX5_init (Q := fun r S' => r = none ∧ S' = fX5_init S6 (S.1.length + 6)) hn6 (by omega) ⟨rfl, rfl⟩)) (q_kV2 ?_)
  obtain ⟨S7, e7⟩ : ∃ y, y = fX5_init S6 (S.1.length + 6) := ⟨_, rfl⟩
  rw [← e7]
  have l7 : S7.1.length = S.1.length + 41 := by rw [e7]; rw [lenX5_init]; omega
  have hs : S7.1[o]? = some (.inl 10) := by rw [e7]; exact shX5_init hs
  have hn4 : S7.1[(S.1.length + 1)]? = some (.inl 8) := by rw [e7]; exact shX5_init hn4
  have hn6 : S7.1[(S.1.length + 6)]? = some (.inl 5) := by rw [e7]; exact shX5_init hn6
  refine q_astore_n [(2, .ref (S.1.length + 6)), (1, .ref (S.1.length + 1)), (0, .ref o)] rfl (by decide) rfl dX10_init_33 ?_
  refine q_new2 (id := (S.1.length + 41)) (ci := 5) l7 (by decide) lcX10_20 q_is5 q_in5 (by decide) (by decide) (by omega) dX10_init_34 ?_
  obtain ⟨S8, e8⟩ : ∃ y, y = q_nw S7 (.inl 5) := ⟨_, rfl⟩
  rw [← e8]
  have l8 : S8.1.length = S.1.length + 42 := by rw [e8]; rw [q_len_nw]; omega
  have hs : S8.1[o]? = some (.inl 10) := by rw [e8]; exact q_sh_nw hs
  have hn4 : S8.1[(S.1.length + 1)]? = some (.inl 8) := by rw [e8]; exact q_sh_nw hn4
  have hn6 : S8.1[(S.1.length + 6)]? = some (.inl 5) := by rw [e8]; exact q_sh_nw hn6
  have hn8 : S8.1[(S.1.length + 41)]? = some (.inl 5) := by rw [e8]; exact q_sh_new l7
  refine q_dup rfl dX10_init_37 ?_
  refine q_callIN (d := 2) (Mc := mX5_init) (kc := 34) (nc := 10408) [] okX5_init rfl (List.getElem?_eq_some_iff.mp hn8).1 rfl lmX10_22 inX5_init rfl (Nat.le_of_ble_eq_true rfl) (Nat.le_of_ble_eq_true rfl) (by decide) (by decide) dX10_init_38 (q_L.deep (by decide) (kX5_init (Q := fun r S' => r = none ∧ S' = fX5_init S8 (S.1.length + 41)) hn8 (by omega) ⟨rfl, rfl⟩)) (q_kV2 ?_)
  obtain ⟨S9, e9⟩ : ∃ y, y = fX5_init S8 (S.1.length + 41) := ⟨_, rfl⟩
  rw [← e9]
  have l9 : S9.1.length = S.1.length + 76 := by rw [e9]; rw [lenX5_init]; omega
  have hs : S9.1[o]? = some (.inl 10) := by rw [e9]; exact shX5_init hs
  have hn4 : S9.1[(S.1.length + 1)]? = some (.inl 8) := by rw [e9]; exact shX5_init hn4
  have hn6 : S9.1[(S.1.length + 6)]? = some (.inl 5) := by rw [e9]; exact shX5_init hn6
  have hn8 : S9.1[(S.1.length + 41)]? = some (.inl 5) := by rw [e9]; exact shX5_init hn8
  refine q_astore_n [(3, .ref (S.1.length + 41)), (2, .ref (S.1.length + 6)), (1, .ref (S.1.length + 1)), (0, .ref o)] rfl (by decide) rfl dX10_init_41 ?_
  refine q_aload_n 3 rfl rfl dX10_init_42 ?_
  refine q_aload_n 2 rfl rfl dX10_init_43 ?_
  refine q_putFR hs (by decide) (by decide) rfl rfl rfl rfl lfX10_23 dX10_init_44 ?_
  obtain ⟨S10, e10⟩ : ∃ y, y = q_sR S9 o 3 (S.1.length + 1) := ⟨_, rfl⟩
  rw [← e10]
  have l10 : S10.1.length = S.1.length + 76 := by rw [e10]; exact l9
  have hs : S10.1[o]? = some (.inl 10) := by rw [e10]; exact hs
  have hn4 : S10.1[(S.1.length + 1)]? = some (.inl 8) := by rw [e10]; exact hn4
  have hn6 : S10.1[(S.1.length + 6)]? = some (.inl 5) := by rw [e10]; exact hn6
  have hn8 : S10.1[(S.1.length + 41)]? = some (.inl 5) := by rw [e10]; exact hn8
  refine q_aload_n 3 rfl rfl dX10_init_47 ?_
  refine q_new2 (id := (S.1.length + 76)) (ci := 7) l10 (by decide) lcX10_27 q_is7 q_in7 (by decide) (by decide) (by omega) dX10_init_48 ?_
  obtain ⟨S11, e11⟩ : ∃ y, y = q_nw S10 (.inl 7) := ⟨_, rfl⟩
  rw [← e11]
  have l11 : S11.1.length = S.1.length + 77 := by rw [e11]; rw [q_len_nw]; omega
  have hs : S11.1[o]? = some (.inl 10) := by rw [e11]; exact q_sh_nw hs
  have hn4 : S11.1[(S.1.length + 1)]? = some (.inl 8) := by rw [e11]; exact q_sh_nw hn4
  have hn6 : S11.1[(S.1.length + 6)]? = some (.inl 5) := by rw [e11]; exact q_sh_nw hn6
  have hn8 : S11.1[(S.1.length + 41)]? = some (.inl 5) := by rw [e11]; exact q_sh_nw hn8
  have hn11 : S11.1[(S.1.length + 76)]? = some (.inl 7) := by rw [e11]; exact q_sh_new l10
  refine q_dup rfl dX10_init_51 ?_
  refine q_aload_n 2 rfl rfl dX10_init_52 ?_
  refine q_callI (d := 2) (Mc := mX7_init) (kc := 0) (nc := 0) [.ref (S.1.length + 1)] okX7_init rfl (List.getElem?_eq_some_iff.mp hn11).1 rfl lmX10_29 inX7_init rfl (Nat.le_of_ble_eq_true rfl) (Nat.le_of_ble_eq_true rfl) (by decide) (by decide) dX10_init_53 (q_L.deep (by decide) (kX7_init (Q := fun r S' => r = none ∧ S' = fX7_init S11 (S.1.length + 76) (S.1.length + 1)) hn11 (by omega) ⟨rfl, rfl⟩)) (q_kV2 ?_)
  obtain ⟨S12, e12⟩ : ∃ y, y = fX7_init S11 (S.1.length + 76) (S.1.length + 1) := ⟨_, rfl⟩
  rw [← e12]
  have l12 : S12.1.length = S.1.length + 77 := by rw [e12]; rw [lenX7_init]; omega
  have hs : S12.1[o]? = some (.inl 10) := by rw [e12]; exact shX7_init hs
  have hn4 : S12.1[(S.1.length + 1)]? = some (.inl 8) := by rw [e12]; exact shX7_init hn4
  have hn6 : S12.1[(S.1.length + 6)]? = some (.inl 5) := by rw [e12]; exact shX7_init hn6
  have hn8 : S12.1[(S.1.length + 41)]? = some (.inl 5) := by rw [e12]; exact shX7_init hn8
  have hn11 : S12.1[(S.1.length + 76)]? = some (.inl 7) := by rw [e12]; exact shX7_init hn11
  refine q_putFR hs (by decide) (by decide) rfl rfl rfl rfl lfX10_32 dX10_init_56 ?_
  obtain ⟨S13, e13⟩ : ∃ y, y = q_sR S12 o 4 (S.1.length + 76) := ⟨_, rfl⟩
  rw [← e13]
  have l13 : S13.1.length = S.1.length + 77 := by rw [e13]; exact l12
  have hs : S13.1[o]? = some (.inl 10) := by rw [e13]; exact hs
  have hn4 : S13.1[(S.1.length + 1)]? = some (.inl 8) := by rw [e13]; exact hn4
  have hn6 : S13.1[(S.1.length + 6)]? = some (.inl 5) := by rw [e13]; exact hn6
  have hn8 : S13.1[(S.1.length + 41)]? = some (.inl 5) := by rw [e13]; exact hn8
  have hn11 : S13.1[(S.1.length + 76)]? = some (.inl 7) := by rw [e13]; exact hn11
  refine q_aload_n 3 rfl rfl dX10_init_59 ?_
  refine q_new2 (id := (S.1.length + 77)) (ci := 4) l13 (by decide) lcX10_36 q_is4 q_in4 (by decide) (by decide) (by omega) dX10_init_60 ?_
  obtain ⟨S14, e14⟩ : ∃ y, y = q_nw S13 (.inl 4) := ⟨_, rfl⟩
  rw [← e14]
  have l14 : S14.1.length = S.1.length + 78 := by rw [e14]; rw [q_len_nw]; omega
  have hs : S14.1[o]? = some (.inl 10) := by rw [e14]; exact q_sh_nw hs
  have hn4 : S14.1[(S.1.length + 1)]? = some (.inl 8) := by rw [e14]; exact q_sh_nw hn4
  have hn6 : S14.1[(S.1.length + 6)]? = some (.inl 5) := by rw [e14]; exact q_sh_nw hn6
  have hn8 : S14.1[(S.1.length + 41)]? = some (.inl 5) := by rw [e14]; exact q_sh_nw hn8
  have hn11 : S14.1[(S.1.length + 76)]? = some (.inl 7) := by rw [e14]; exact q_sh_nw hn11
  have hn14 : S14.1[(S.1.length + 77)]? = some (.inl 4) := by rw [e14]; exact q_sh_new l13
  refine q_dup rfl dX10_init_63 ?_
  refine q_aload_n 2 rfl rfl dX10_init_64 ?_
  refine q_aload_n 0 rfl rfl dX10_init_65 ?_
  refine q_callI (d := 2) (Mc := mX4_init) (kc := 2) (nc := 16000) [.ref (S.1.length + 1), .ref (S.1.length + 41)] okX4_init rfl (List.getElem?_eq_some_iff.mp hn14).1 rfl lmX10_38 inX4_init rfl (Nat.le_of_ble_eq_true rfl) (Nat.le_of_ble_eq_true rfl) (by decide) (by decide) dX10_init_66 (q_L.deep (by decide) (kX4_init (Q := fun r S' => r = none ∧ S' = fX4_init S14 (S.1.length + 77) (S.1.length + 1) (S.1.length + 41)) hn14 hn8 (by omega) ⟨rfl, rfl⟩)) (q_kV2 ?_)
  obtain ⟨S15, e15⟩ : ∃ y, y = fX4_init S14 (S.1.length + 77) (S.1.length + 1) (S.1.length + 41) := ⟨_, rfl⟩
  rw [← e15]
  have l15 : S15.1.length = S.1.length + 80 := by rw [e15]; rw [lenX4_init]; omega
  have hs : S15.1[o]? = some (.inl 10) := by rw [e15]; exact shX4_init hs
  have hn4 : S15.1[(S.1.length + 1)]? = some (.inl 8) := by rw [e15]; exact shX4_init hn4
  have hn6 : S15.1[(S.1.length + 6)]? = some (.inl 5) := by rw [e15]; exact shX4_init hn6
  have hn8 : S15.1[(S.1.length + 41)]? = some (.inl 5) := by rw [e15]; exact shX4_init hn8
  have hn11 : S15.1[(S.1.length + 76)]? = some (.inl 7) := by rw [e15]; exact shX4_init hn11
  have hn14 : S15.1[(S.1.length + 77)]? = some (.inl 4) := by rw [e15]; exact shX4_init hn14
  refine q_putFR hs (by decide) (by decide) rfl rfl rfl rfl lfX10_41 dX10_init_69 ?_
  obtain ⟨S16, e16⟩ : ∃ y, y = q_sR S15 o 5 (S.1.length + 77) := ⟨_, rfl⟩
  rw [← e16]
  have l16 : S16.1.length = S.1.length + 80 := by rw [e16]; exact l15
  have hs : S16.1[o]? = some (.inl 10) := by rw [e16]; exact hs
  have hn4 : S16.1[(S.1.length + 1)]? = some (.inl 8) := by rw [e16]; exact hn4
  have hn6 : S16.1[(S.1.length + 6)]? = some (.inl 5) := by rw [e16]; exact hn6
  have hn8 : S16.1[(S.1.length + 41)]? = some (.inl 5) := by rw [e16]; exact hn8
  have hn11 : S16.1[(S.1.length + 76)]? = some (.inl 7) := by rw [e16]; exact hn11
  have hn14 : S16.1[(S.1.length + 77)]? = some (.inl 4) := by rw [e16]; exact hn14
  refine q_aload_n 3 rfl rfl dX10_init_72 ?_
  refine q_new2 (id := (S.1.length + 80)) (ci := 3) l16 (by decide) lcX10_45 q_is3 q_in3 (by decide) (by decide) (by omega) dX10_init_73 ?_
  obtain ⟨S17, e17⟩ : ∃ y, y = q_nw S16 (.inl 3) := ⟨_, rfl⟩
  rw [← e17]
  have l17 : S17.1.length = S.1.length + 81 := by rw [e17]; rw [q_len_nw]; omega
  have hs : S17.1[o]? = some (.inl 10) := by rw [e17]; exact q_sh_nw hs
  have hn4 : S17.1[(S.1.length + 1)]? = some (.inl 8) := by rw [e17]; exact q_sh_nw hn4
  have hn6 : S17.1[(S.1.length + 6)]? = some (.inl 5) := by rw [e17]; exact q_sh_nw hn6
  have hn8 : S17.1[(S.1.length + 41)]? = some (.inl 5) := by rw [e17]; exact q_sh_nw hn8
  have hn11 : S17.1[(S.1.length + 76)]? = some (.inl 7) := by rw [e17]; exact q_sh_nw hn11
  have hn14 : S17.1[(S.1.length + 77)]? = some (.inl 4) := by rw [e17]; exact q_sh_nw hn14
  have hn17 : S17.1[(S.1.length + 80)]? = some (.inl 3) := by rw [e17]; exact q_sh_new l16
  refine q_dup rfl dX10_init_76 ?_
  refine q_aload_n 0 rfl rfl dX10_init_77 ?_
  refine q_callI (d := 2) (Mc := mX3_init) (kc := 2) (nc := 2048) [.ref (S.1.length + 41)] okX3_init rfl (List.getElem?_eq_some_iff.mp hn17).1 rfl lmX10_47 inX3_init rfl (Nat.le_of_ble_eq_true rfl) (Nat.le_of_ble_eq_true rfl) (by decide) (by decide) dX10_init_78 (q_L.deep (by decide) (kX3_init (Q := fun r S' => r = none ∧ S' = fX3_init S17 (S.1.length + 80) (S.1.length + 41)) hn17 hn8 (by omega) ⟨rfl, rfl⟩)) (q_kV2 ?_)
  obtain ⟨S18, e18⟩ : ∃ y, y = fX3_init S17 (S.1.length + 80) (S.1.length + 41) := ⟨_, rfl⟩
  rw [← e18]
  have l18 : S18.1.length = S.1.length + 83 := by rw [e18]; rw [lenX3_init]; omega
  have hs : S18.1[o]? = some (.inl 10) := by rw [e18]; exact shX3_init hs
  have hn4 : S18.1[(S.1.length + 1)]? = some (.inl 8) := by rw [e18]; exact shX3_init hn4
  have hn6 : S18.1[(S.1.length + 6)]? = some (.inl 5) := by rw [e18]; exact shX3_init hn6
  have hn8 : S18.1[(S.1.length + 41)]? = some (.inl 5) := by rw [e18]; exact shX3_init hn8
  have hn11 : S18.1[(S.1.length + 76)]? = some (.inl 7) := by rw [e18]; exact shX3_init hn11
  have hn14 : S18.1[(S.1.length + 77)]? = some (.inl 4) := by rw [e18]; exact shX3_init hn14
  have hn17 : S18.1[(S.1.length + 80)]? = some (.inl 3) := by rw [e18]; exact shX3_init hn17
  refine q_putFR hs (by decide) (by decide) rfl rfl rfl rfl lfX10_50 dX10_init_81 ?_
  obtain ⟨S19, e19⟩ : ∃ y, y = q_sR S18 o 6 (S.1.length + 80) := ⟨_, rfl⟩
  rw [← e19]
  have l19 : S19.1.length = S.1.length + 83 := by rw [e19]; exact l18
  have hs : S19.1[o]? = some (.inl 10) := by rw [e19]; exact hs
  have hn4 : S19.1[(S.1.length + 1)]? = some (.inl 8) := by rw [e19]; exact hn4
  have hn6 : S19.1[(S.1.length + 6)]? = some (.inl 5) := by rw [e19]; exact hn6
  have hn8 : S19.1[(S.1.length + 41)]? = some (.inl 5) := by rw [e19]; exact hn8
  have hn11 : S19.1[(S.1.length + 76)]? = some (.inl 7) := by rw [e19]; exact hn11
  have hn14 : S19.1[(S.1.length + 77)]? = some (.inl 4) := by rw [e19]; exact hn14
  have hn17 : S19.1[(S.1.length + 80)]? = some (.inl 3) := by rw [e19]; exact hn17
  refine q_aload_n 3 rfl rfl dX10_init_84 ?_
  refine q_new2 (id := (S.1.length + 83)) (ci := 9) l19 (by decide) lcX10_54 q_is9 q_in9 (by decide) (by decide) (by omega) dX10_init_85 ?_
  obtain ⟨S20, e20⟩ : ∃ y, y = q_nw S19 (.inl 9) := ⟨_, rfl⟩
  rw [← e20]
  have l20 : S20.1.length = S.1.length + 84 := by rw [e20]; rw [q_len_nw]; omega
  have hs : S20.1[o]? = some (.inl 10) := by rw [e20]; exact q_sh_nw hs
  have hn4 : S20.1[(S.1.length + 1)]? = some (.inl 8) := by rw [e20]; exact q_sh_nw hn4
  have hn6 : S20.1[(S.1.length + 6)]? = some (.inl 5) := by rw [e20]; exact q_sh_nw hn6
  have hn8 : S20.1[(S.1.length + 41)]? = some (.inl 5) := by rw [e20]; exact q_sh_nw hn8
  have hn11 : S20.1[(S.1.length + 76)]? = some (.inl 7) := by rw [e20]; exact q_sh_nw hn11
  have hn14 : S20.1[(S.1.length + 77)]? = some (.inl 4) := by rw [e20]; exact q_sh_nw hn14
  have hn17 : S20.1[(S.1.length + 80)]? = some (.inl 3) := by rw [e20]; exact q_sh_nw hn17
  have hn20 : S20.1[(S.1.length + 83)]? = some (.inl 9) := by rw [e20]; exact q_sh_new l19
  refine q_dup rfl dX10_init_88 ?_
  refine q_aload_n 0 rfl rfl dX10_init_89 ?_
  refine q_callI (d := 2) (Mc := mX9_init) (kc := 4) (nc := 22548) [.ref (S.1.length + 41)] okX9_init rfl (List.getElem?_eq_some_iff.mp hn20).1 rfl lmX10_56 inX9_init rfl (Nat.le_of_ble_eq_true rfl) (Nat.le_of_ble_eq_true rfl) (by decide) (by decide) dX10_init_90 (q_L.deep (by decide) (kX9_init (Q := fun r S' => r = none ∧ S' = fX9_init S20 (S.1.length + 83) (S.1.length + 41)) hn20 hn8 (by omega) ⟨rfl, rfl⟩)) (q_kV2 ?_)
  obtain ⟨S21, e21⟩ : ∃ y, y = fX9_init S20 (S.1.length + 83) (S.1.length + 41) := ⟨_, rfl⟩
  rw [← e21]
  have l21 : S21.1.length = S.1.length + 88 := by rw [e21]; rw [lenX9_init]; omega
  have hs : S21.1[o]? = some (.inl 10) := by rw [e21]; exact shX9_init hs
  have hn4 : S21.1[(S.1.length + 1)]? = some (.inl 8) := by rw [e21]; exact shX9_init hn4
  have hn6 : S21.1[(S.1.length + 6)]? = some (.inl 5) := by rw [e21]; exact shX9_init hn6
  have hn8 : S21.1[(S.1.length + 41)]? = some (.inl 5) := by rw [e21]; exact shX9_init hn8
  have hn11 : S21.1[(S.1.length + 76)]? = some (.inl 7) := by rw [e21]; exact shX9_init hn11
  have hn14 : S21.1[(S.1.length + 77)]? = some (.inl 4) := by rw [e21]; exact shX9_init hn14
  have hn17 : S21.1[(S.1.length + 80)]? = some (.inl 3) := by rw [e21]; exact shX9_init hn17
  have hn20 : S21.1[(S.1.length + 83)]? = some (.inl 9) := by rw [e21]; exact shX9_init hn20
  refine q_putFR hs (by decide) (by decide) rfl rfl rfl rfl lfX10_57 dX10_init_93 ?_
  obtain ⟨S22, e22⟩ : ∃ y, y = q_sR S21 o 7 (S.1.length + 83) := ⟨_, rfl⟩
  rw [← e22]
  have l22 : S22.1.length = S.1.length + 88 := by rw [e22]; exact l21
  have hs : S22.1[o]? = some (.inl 10) := by rw [e22]; exact hs
  have hn4 : S22.1[(S.1.length + 1)]? = some (.inl 8) := by rw [e22]; exact hn4
  have hn6 : S22.1[(S.1.length + 6)]? = some (.inl 5) := by rw [e22]; exact hn6
  have hn8 : S22.1[(S.1.length + 41)]? = some (.inl 5) := by rw [e22]; exact hn8
  have hn11 : S22.1[(S.1.length + 76)]? = some (.inl 7) := by rw [e22]; exact hn11
  have hn14 : S22.1[(S.1.length + 77)]? = some (.inl 4) := by rw [e22]; exact hn14
  have hn17 : S22.1[(S.1.length + 80)]? = some (.inl 3) := by rw [e22]; exact hn17
  have hn20 : S22.1[(S.1.length + 83)]? = some (.inl 9) := by rw [e22]; exact hn20
  refine q_aload_n 3 rfl rfl dX10_init_96 ?_
  refine q_new2 (id := (S.1.length + 88)) (ci := 6) l22 (by decide) lcX10_61 q_is6 q_in6 (by decide) (by decide) (by omega) dX10_init_97 ?_
  obtain ⟨S23, e23⟩ : ∃ y, y = q_nw S22 (.inl 6) := ⟨_, rfl⟩
  rw [← e23]
  have l23 : S23.1.length = S.1.length + 89 := by rw [e23]; rw [q_len_nw]; omega
  have hs : S23.1[o]? = some (.inl 10) := by rw [e23]; exact q_sh_nw hs
  have hn4 : S23.1[(S.1.length + 1)]? = some (.inl 8) := by rw [e23]; exact q_sh_nw hn4
  have hn6 : S23.1[(S.1.length + 6)]? = some (.inl 5) := by rw [e23]; exact q_sh_nw hn6
  have hn8 : S23.1[(S.1.length + 41)]? = some (.inl 5) := by rw [e23]; exact q_sh_nw hn8
  have hn11 : S23.1[(S.1.length + 76)]? = some (.inl 7) := by rw [e23]; exact q_sh_nw hn11
  have hn14 : S23.1[(S.1.length + 77)]? = some (.inl 4) := by rw [e23]; exact q_sh_nw hn14
  have hn17 : S23.1[(S.1.length + 80)]? = some (.inl 3) := by rw [e23]; exact q_sh_nw hn17
  have hn20 : S23.1[(S.1.length + 83)]? = some (.inl 9) := by rw [e23]; exact q_sh_nw hn20
  have hn23 : S23.1[(S.1.length + 88)]? = some (.inl 6) := by rw [e23]; exact q_sh_new l22
  refine q_dup rfl dX10_init_100 ?_
  refine q_aload_n 1 rfl rfl dX10_init_101 ?_
  refine q_callI (d := 2) (Mc := mX6_init) (kc := 12) (nc := 23211) [.ref (S.1.length + 6)] okX6_init rfl (List.getElem?_eq_some_iff.mp hn23).1 rfl lmX10_63 inX6_init rfl (Nat.le_of_ble_eq_true rfl) (Nat.le_of_ble_eq_true rfl) (by decide) (by decide) dX10_init_102 (q_L.deep (by decide) (kX6_init (Q := fun r S' => r = none ∧ S' = fX6_init S23 (S.1.length + 88) (S.1.length + 6)) hn23 hn6 (by omega) ⟨rfl, rfl⟩)) (q_kV2 ?_)
  obtain ⟨S24, e24⟩ : ∃ y, y = fX6_init S23 (S.1.length + 88) (S.1.length + 6) := ⟨_, rfl⟩
  rw [← e24]
  have l24 : S24.1.length = S.1.length + 101 := by rw [e24]; rw [lenX6_init]; omega
  have hs : S24.1[o]? = some (.inl 10) := by rw [e24]; exact shX6_init hs
  have hn4 : S24.1[(S.1.length + 1)]? = some (.inl 8) := by rw [e24]; exact shX6_init hn4
  have hn6 : S24.1[(S.1.length + 6)]? = some (.inl 5) := by rw [e24]; exact shX6_init hn6
  have hn8 : S24.1[(S.1.length + 41)]? = some (.inl 5) := by rw [e24]; exact shX6_init hn8
  have hn11 : S24.1[(S.1.length + 76)]? = some (.inl 7) := by rw [e24]; exact shX6_init hn11
  have hn14 : S24.1[(S.1.length + 77)]? = some (.inl 4) := by rw [e24]; exact shX6_init hn14
  have hn17 : S24.1[(S.1.length + 80)]? = some (.inl 3) := by rw [e24]; exact shX6_init hn17
  have hn20 : S24.1[(S.1.length + 83)]? = some (.inl 9) := by rw [e24]; exact shX6_init hn20
  have hn23 : S24.1[(S.1.length + 88)]? = some (.inl 6) := by rw [e24]; exact shX6_init hn23
  refine q_putFR hs (by decide) (by decide) rfl rfl rfl rfl lfX10_64 dX10_init_105 ?_
  obtain ⟨S25, e25⟩ : ∃ y, y = q_sR S24 o 8 (S.1.length + 88) := ⟨_, rfl⟩
  rw [← e25]
  have l25 : S25.1.length = S.1.length + 101 := by rw [e25]; exact l24
  have hs : S25.1[o]? = some (.inl 10) := by rw [e25]; exact hs
  have hn4 : S25.1[(S.1.length + 1)]? = some (.inl 8) := by rw [e25]; exact hn4
  have hn6 : S25.1[(S.1.length + 6)]? = some (.inl 5) := by rw [e25]; exact hn6
  have hn8 : S25.1[(S.1.length + 41)]? = some (.inl 5) := by rw [e25]; exact hn8
  have hn11 : S25.1[(S.1.length + 76)]? = some (.inl 7) := by rw [e25]; exact hn11
  have hn14 : S25.1[(S.1.length + 77)]? = some (.inl 4) := by rw [e25]; exact hn14
  have hn17 : S25.1[(S.1.length + 80)]? = some (.inl 3) := by rw [e25]; exact hn17
  have hn20 : S25.1[(S.1.length + 83)]? = some (.inl 9) := by rw [e25]; exact hn20
  have hn23 : S25.1[(S.1.length + 88)]? = some (.inl 6) := by rw [e25]; exact hn23
  refine q_aload_n 3 rfl rfl dX10_init_108 ?_
  refine q_aload_n 1 rfl rfl dX10_init_109 ?_
  refine q_putR hs (by decide) (by decide) rfl rfl lfX10_68 dX10_init_110 ?_
  obtain ⟨S26, e26⟩ : ∃ y, y = q_sR S25 o 9 (S.1.length + 6) := ⟨_, rfl⟩
  rw [← e26]
  have l26 : S26.1.length = S.1.length + 101 := by rw [e26]; exact l25
  have hs : S26.1[o]? = some (.inl 10) := by rw [e26]; exact hs
  have hn4 : S26.1[(S.1.length + 1)]? = some (.inl 8) := by rw [e26]; exact hn4
  have hn6 : S26.1[(S.1.length + 6)]? = some (.inl 5) := by rw [e26]; exact hn6
  have hn8 : S26.1[(S.1.length + 41)]? = some (.inl 5) := by rw [e26]; exact hn8
  have hn11 : S26.1[(S.1.length + 76)]? = some (.inl 7) := by rw [e26]; exact hn11
  have hn14 : S26.1[(S.1.length + 77)]? = some (.inl 4) := by rw [e26]; exact hn14
  have hn17 : S26.1[(S.1.length + 80)]? = some (.inl 3) := by rw [e26]; exact hn17
  have hn20 : S26.1[(S.1.length + 83)]? = some (.inl 9) := by rw [e26]; exact hn20
  have hn23 : S26.1[(S.1.length + 88)]? = some (.inl 6) := by rw [e26]; exact hn23
  refine q_aload_n 3 rfl rfl dX10_init_113 ?_
  refine q_aload_n 0 rfl rfl dX10_init_114 ?_
  refine q_putR hs (by decide) (by decide) rfl rfl lfX10_72 dX10_init_115 ?_
  obtain ⟨S27, e27⟩ : ∃ y, y = q_sR S26 o 10 (S.1.length + 41) := ⟨_, rfl⟩
  rw [← e27]
  have l27 : S27.1.length = S.1.length + 101 := by rw [e27]; exact l26
  have hs : S27.1[o]? = some (.inl 10) := by rw [e27]; exact hs
  have hn4 : S27.1[(S.1.length + 1)]? = some (.inl 8) := by rw [e27]; exact hn4
  have hn6 : S27.1[(S.1.length + 6)]? = some (.inl 5) := by rw [e27]; exact hn6
  have hn8 : S27.1[(S.1.length + 41)]? = some (.inl 5) := by rw [e27]; exact hn8
  have hn11 : S27.1[(S.1.length + 76)]? = some (.inl 7) := by rw [e27]; exact hn11
  have hn14 : S27.1[(S.1.length + 77)]? = some (.inl 4) := by rw [e27]; exact hn14
  have hn17 : S27.1[(S.1.length + 80)]? = some (.inl 3) := by rw [e27]; exact hn17
  have hn20 : S27.1[(S.1.length + 83)]? = some (.inl 9) := by rw [e27]; exact hn20
  have hn23 : S27.1[(S.1.length + 88)]? = some (.inl 6) := by rw [e27]; exact hn23
  refine q_vret rfl dX10_init_118 ?_
  try subst e27
  try subst e26
  try subst e25
  try subst e24
  try subst e23
  try subst e22
  try subst e21
  try subst e20
  try subst e19
  try subst e18
  try subst e17
  try subst e16
  try subst e15
  try subst e14
  try subst e13
  try subst e12
  try subst e11
  try subst e10
  try subst e9
  try subst e8
  try subst e7
  try subst e6
  try subst e5
  try subst e4
  try subst e3
  try subst e2
  try subst e1
  try subst_vars
  exact hQ
def fX11_init (S : QS) (o : Nat) : QS := q_sR (q_nw (q_sR (q_nw (q_sR (q_nw (q_sR (q_nw (q_sR (q_nw (q_sR (q_nw (q_sR (q_nw (q_sR (q_nw (q_sR (q_nw (q_sR (q_nw (q_sR (q_nw (q_sR (q_nw (q_sR (q_nw (q_sR (q_nw (q_sR (q_nw (q_sR (q_nw (q_sR (q_nw (q_sR (q_nw (q_sR (q_nw (q_sR (q_nw (q_sR (q_nw (q_sR (q_nw (q_sR (q_nw (q_sR (q_nw (q_sR (q_nw (q_sR (q_nw (q_sR (q_nw S (.inr (0, 32))) o 7 S.1.length) (.inr (0, 32))) o 8 (S.1.length + 1)) (.inr (0, 48))) o 9 (S.1.length + 2)) (.inr (0, 48))) o 10 (S.1.length + 3)) (.inr (0, 48))) o 11 (S.1.length + 4)) (.inr (0, 48))) o 12 (S.1.length + 5)) (.inr (3, 48))) o 13 (S.1.length + 6)) (.inr (0, 48))) o 14 (S.1.length + 7)) (.inr (0, 576))) o 15 (S.1.length + 8)) (.inr (0, 48))) o 16 (S.1.length + 9)) (.inr (0, 48))) o 17 (S.1.length + 10)) (.inr (0, 48))) o 18 (S.1.length + 11)) (.inr (0, 48))) o 19 (S.1.length + 12)) (.inr (0, 1536))) o 20 (S.1.length + 13)) (.inr (0, 1024))) o 21 (S.1.length + 14)) (.inr (0, 1024))) o 22 (S.1.length + 15)) (.inr (0, 1024))) o 23 (S.1.length + 16)) (.inr (0, 1024))) o 24 (S.1.length + 17)) (.inr (0, 1024))) o 25 (S.1.length + 18)) (.inr (0, 54))) o 26 (S.1.length + 19)) (.inr (0, 64))) o 27 (S.1.length + 20)) (.inr (0, 64))) o 28 (S.1.length + 21)) (.inr (0, 64))) o 29 (S.1.length + 22)) (.inr (0, 64))) o 30 (S.1.length + 23)) (.inr (0, 64))) o 31 (S.1.length + 24)) (.inr (0, 20480))) o 32 (S.1.length + 25)) (.inr (3, 1024))) o 33 (S.1.length + 26)
theorem lenX11_init (S : QS) (o : Nat) : (fX11_init S o).1.length = S.1.length + 27 := by
  simp only [fX11_init, q_len_nw, q_sR, q_sI, lenX0_init, lenX1_init, lenX5_init, lenX8_init, lenX7_init, lenX4_init, lenX3_init, lenX9_init, lenX2_init, lenX6_init, lenX10_init]
  try omega
theorem shX11_init {S : QS} {o : Nat} {x : Nat} {sp : QSp} (h : S.1[x]? = some sp) : (fX11_init S o).1[x]? = some sp := by
  unfold fX11_init
  repeat (first | exact h | apply q_sh_nw | apply q_shsR | apply q_shsI | apply shX0_init | apply shX1_init | apply shX5_init | apply shX8_init | apply shX7_init | apply shX4_init | apply shX3_init | apply shX9_init | apply shX2_init | apply shX6_init | apply shX10_init)
set_option maxRecDepth 20000 in
theorem kX11_init {g : QG} {Q : Option Value → QS → Prop} {S : QS} {o : Nat} (hs : S.1[o]? = some (.inl 11)) (hl : S.1.length + 27 ≤ 1000000) (hQ : Q none (fX11_init S o)) : q_M g mX11_init 1 27 29654 [.ref o] S Q := by
  show q_L g mX11_init 1 27 29654 Q 0 0 0 [(0, .ref o)] [] S
  refine q_aload_n 0 rfl rfl dX11_init_0 ?_
  refine q_objI (List.getElem?_eq_some_iff.mp hs).1 lmX11_3 q_oii q_oic (Nat.le_of_ble_eq_true rfl) dX11_init_1 ?_
  refine q_aload_n 0 rfl rfl dX11_init_4 ?_
  refine q_bipush (v := (32 : Int32)) (by decide) dX11_init_5 ?_
  refine q_newa2 (i := (32 : Int32)) (t := 0) (len := 32) rfl (by decide) rfl q_ac0 (by decide) (by decide) (by decide) (by decide) (by decide) (by omega) dX11_init_7 ?_
  obtain ⟨S1, e1⟩ : ∃ y, y = q_nw S (.inr (0, 32)) := ⟨_, rfl⟩
  rw [← e1]
  have l1 : S1.1.length = S.1.length + 1 := by rw [e1]; rw [q_len_nw]
  have hs : S1.1[o]? = some (.inl 11) := by rw [e1]; exact q_sh_nw hs
  refine q_putFR hs (by decide) (by decide) rfl rfl rfl rfl lfX11_9 dX11_init_9 ?_
  obtain ⟨S2, e2⟩ : ∃ y, y = q_sR S1 o 7 S.1.length := ⟨_, rfl⟩
  rw [← e2]
  have l2 : S2.1.length = S.1.length + 1 := by rw [e2]; exact l1
  have hs : S2.1[o]? = some (.inl 11) := by rw [e2]; exact hs
  refine q_aload_n 0 rfl rfl dX11_init_12 ?_
  refine q_bipush (v := (32 : Int32)) (by decide) dX11_init_13 ?_
  refine q_newa2 (i := (32 : Int32)) (t := 0) (len := 32) l2 (by decide) rfl q_ac0 (by decide) (by decide) (by decide) (by decide) (by decide) (by omega) dX11_init_15 ?_
  obtain ⟨S3, e3⟩ : ∃ y, y = q_nw S2 (.inr (0, 32)) := ⟨_, rfl⟩
  rw [← e3]
  have l3 : S3.1.length = S.1.length + 2 := by rw [e3]; rw [q_len_nw]; omega
  have hs : S3.1[o]? = some (.inl 11) := by rw [e3]; exact q_sh_nw hs
  refine q_putFR hs (by decide) (by decide) rfl rfl rfl rfl lfX11_15 dX11_init_17 ?_
  obtain ⟨S4, e4⟩ : ∃ y, y = q_sR S3 o 8 (S.1.length + 1) := ⟨_, rfl⟩
  rw [← e4]
  have l4 : S4.1.length = S.1.length + 2 := by rw [e4]; exact l3
  have hs : S4.1[o]? = some (.inl 11) := by rw [e4]; exact hs
  refine q_aload_n 0 rfl rfl dX11_init_20 ?_
  refine q_bipush (v := (48 : Int32)) (by decide) dX11_init_21 ?_
  refine q_newa2 (i := (48 : Int32)) (t := 0) (len := 48) l4 (by decide) rfl q_ac0 (by decide) (by decide) (by decide) (by decide) (by decide) (by omega) dX11_init_23 ?_
  obtain ⟨S5, e5⟩ : ∃ y, y = q_nw S4 (.inr (0, 48)) := ⟨_, rfl⟩
  rw [← e5]
  have l5 : S5.1.length = S.1.length + 3 := by rw [e5]; rw [q_len_nw]; omega
  have hs : S5.1[o]? = some (.inl 11) := by rw [e5]; exact q_sh_nw hs
  refine q_putFR hs (by decide) (by decide) rfl rfl rfl rfl lfX11_18 dX11_init_25 ?_
  obtain ⟨S6, e6⟩ : ∃ y, y = q_sR S5 o 9 (S.1.length + 2) := ⟨_, rfl⟩
  rw [← e6]
  have l6 : S6.1.length = S.1.length + 3 := by rw [e6]; exact l5
  have hs : S6.1[o]? = some (.inl 11) := by rw [e6]; exact hs
  refine q_aload_n 0 rfl rfl dX11_init_28 ?_
  refine q_bipush (v := (48 : Int32)) (by decide) dX11_init_29 ?_
  refine q_newa2 (i := (48 : Int32)) (t := 0) (len := 48) l6 (by decide) rfl q_ac0 (by decide) (by decide) (by decide) (by decide) (by decide) (by omega) dX11_init_31 ?_
  obtain ⟨S7, e7⟩ : ∃ y, y = q_nw S6 (.inr (0, 48)) := ⟨_, rfl⟩
  rw [← e7]
  have l7 : S7.1.length = S.1.length + 4 := by rw [e7]; rw [q_len_nw]; omega
  have hs : S7.1[o]? = some (.inl 11) := by rw [e7]; exact q_sh_nw hs
  refine q_putFR hs (by decide) (by decide) rfl rfl rfl rfl lfX11_21 dX11_init_33 ?_
  obtain ⟨S8, e8⟩ : ∃ y, y = q_sR S7 o 10 (S.1.length + 3) := ⟨_, rfl⟩
  rw [← e8]
  have l8 : S8.1.length = S.1.length + 4 := by rw [e8]; exact l7
  have hs : S8.1[o]? = some (.inl 11) := by rw [e8]; exact hs
  refine q_aload_n 0 rfl rfl dX11_init_36 ?_
  refine q_bipush (v := (48 : Int32)) (by decide) dX11_init_37 ?_
  refine q_newa2 (i := (48 : Int32)) (t := 0) (len := 48) l8 (by decide) rfl q_ac0 (by decide) (by decide) (by decide) (by decide) (by decide) (by omega) dX11_init_39 ?_
  obtain ⟨S9, e9⟩ : ∃ y, y = q_nw S8 (.inr (0, 48)) := ⟨_, rfl⟩
  rw [← e9]
  have l9 : S9.1.length = S.1.length + 5 := by rw [e9]; rw [q_len_nw]; omega
  have hs : S9.1[o]? = some (.inl 11) := by rw [e9]; exact q_sh_nw hs
  refine q_putFR hs (by decide) (by decide) rfl rfl rfl rfl lfX11_24 dX11_init_41 ?_
  obtain ⟨S10, e10⟩ : ∃ y, y = q_sR S9 o 11 (S.1.length + 4) := ⟨_, rfl⟩
  rw [← e10]
  have l10 : S10.1.length = S.1.length + 5 := by rw [e10]; exact l9
  have hs : S10.1[o]? = some (.inl 11) := by rw [e10]; exact hs
  refine q_aload_n 0 rfl rfl dX11_init_44 ?_
  refine q_bipush (v := (48 : Int32)) (by decide) dX11_init_45 ?_
  refine q_newa2 (i := (48 : Int32)) (t := 0) (len := 48) l10 (by decide) rfl q_ac0 (by decide) (by decide) (by decide) (by decide) (by decide) (by omega) dX11_init_47 ?_
  obtain ⟨S11, e11⟩ : ∃ y, y = q_nw S10 (.inr (0, 48)) := ⟨_, rfl⟩
  rw [← e11]
  have l11 : S11.1.length = S.1.length + 6 := by rw [e11]; rw [q_len_nw]; omega
  have hs : S11.1[o]? = some (.inl 11) := by rw [e11]; exact q_sh_nw hs
  refine q_putFR hs (by decide) (by decide) rfl rfl rfl rfl lfX11_27 dX11_init_49 ?_
  obtain ⟨S12, e12⟩ : ∃ y, y = q_sR S11 o 12 (S.1.length + 5) := ⟨_, rfl⟩
  rw [← e12]
  have l12 : S12.1.length = S.1.length + 6 := by rw [e12]; exact l11
  have hs : S12.1[o]? = some (.inl 11) := by rw [e12]; exact hs
  refine q_aload_n 0 rfl rfl dX11_init_52 ?_
  refine q_bipush (v := (48 : Int32)) (by decide) dX11_init_53 ?_
  refine q_newa2 (i := (48 : Int32)) (t := 3) (len := 48) l12 (by decide) rfl q_ac3 (by decide) (by decide) (by decide) (by decide) (by decide) (by omega) dX11_init_55 ?_
  obtain ⟨S13, e13⟩ : ∃ y, y = q_nw S12 (.inr (3, 48)) := ⟨_, rfl⟩
  rw [← e13]
  have l13 : S13.1.length = S.1.length + 7 := by rw [e13]; rw [q_len_nw]; omega
  have hs : S13.1[o]? = some (.inl 11) := by rw [e13]; exact q_sh_nw hs
  refine q_putFR hs (by decide) (by decide) rfl rfl rfl rfl lfX11_30 dX11_init_57 ?_
  obtain ⟨S14, e14⟩ : ∃ y, y = q_sR S13 o 13 (S.1.length + 6) := ⟨_, rfl⟩
  rw [← e14]
  have l14 : S14.1.length = S.1.length + 7 := by rw [e14]; exact l13
  have hs : S14.1[o]? = some (.inl 11) := by rw [e14]; exact hs
  refine q_aload_n 0 rfl rfl dX11_init_60 ?_
  refine q_bipush (v := (48 : Int32)) (by decide) dX11_init_61 ?_
  refine q_newa2 (i := (48 : Int32)) (t := 0) (len := 48) l14 (by decide) rfl q_ac0 (by decide) (by decide) (by decide) (by decide) (by decide) (by omega) dX11_init_63 ?_
  obtain ⟨S15, e15⟩ : ∃ y, y = q_nw S14 (.inr (0, 48)) := ⟨_, rfl⟩
  rw [← e15]
  have l15 : S15.1.length = S.1.length + 8 := by rw [e15]; rw [q_len_nw]; omega
  have hs : S15.1[o]? = some (.inl 11) := by rw [e15]; exact q_sh_nw hs
  refine q_putFR hs (by decide) (by decide) rfl rfl rfl rfl lfX11_34 dX11_init_65 ?_
  obtain ⟨S16, e16⟩ : ∃ y, y = q_sR S15 o 14 (S.1.length + 7) := ⟨_, rfl⟩
  rw [← e16]
  have l16 : S16.1.length = S.1.length + 8 := by rw [e16]; exact l15
  have hs : S16.1[o]? = some (.inl 11) := by rw [e16]; exact hs
  refine q_aload_n 0 rfl rfl dX11_init_68 ?_
  refine q_sipush (v := (576 : Int32)) (by decide) dX11_init_69 ?_
  refine q_newa2 (i := (576 : Int32)) (t := 0) (len := 576) l16 (by decide) rfl q_ac0 (by decide) (by decide) (by decide) (by decide) (by decide) (by omega) dX11_init_72 ?_
  obtain ⟨S17, e17⟩ : ∃ y, y = q_nw S16 (.inr (0, 576)) := ⟨_, rfl⟩
  rw [← e17]
  have l17 : S17.1.length = S.1.length + 9 := by rw [e17]; rw [q_len_nw]; omega
  have hs : S17.1[o]? = some (.inl 11) := by rw [e17]; exact q_sh_nw hs
  refine q_putFR hs (by decide) (by decide) rfl rfl rfl rfl lfX11_37 dX11_init_74 ?_
  obtain ⟨S18, e18⟩ : ∃ y, y = q_sR S17 o 15 (S.1.length + 8) := ⟨_, rfl⟩
  rw [← e18]
  have l18 : S18.1.length = S.1.length + 9 := by rw [e18]; exact l17
  have hs : S18.1[o]? = some (.inl 11) := by rw [e18]; exact hs
  refine q_aload_n 0 rfl rfl dX11_init_77 ?_
  refine q_bipush (v := (48 : Int32)) (by decide) dX11_init_78 ?_
  refine q_newa2 (i := (48 : Int32)) (t := 0) (len := 48) l18 (by decide) rfl q_ac0 (by decide) (by decide) (by decide) (by decide) (by decide) (by omega) dX11_init_80 ?_
  obtain ⟨S19, e19⟩ : ∃ y, y = q_nw S18 (.inr (0, 48)) := ⟨_, rfl⟩
  rw [← e19]
  have l19 : S19.1.length = S.1.length + 10 := by rw [e19]; rw [q_len_nw]; omega
  have hs : S19.1[o]? = some (.inl 11) := by rw [e19]; exact q_sh_nw hs
  refine q_putFR hs (by decide) (by decide) rfl rfl rfl rfl lfX11_40 dX11_init_82 ?_
  obtain ⟨S20, e20⟩ : ∃ y, y = q_sR S19 o 16 (S.1.length + 9) := ⟨_, rfl⟩
  rw [← e20]
  have l20 : S20.1.length = S.1.length + 10 := by rw [e20]; exact l19
  have hs : S20.1[o]? = some (.inl 11) := by rw [e20]; exact hs
  refine q_aload_n 0 rfl rfl dX11_init_85 ?_
  refine q_bipush (v := (48 : Int32)) (by decide) dX11_init_86 ?_
  refine q_newa2 (i := (48 : Int32)) (t := 0) (len := 48) l20 (by decide) rfl q_ac0 (by decide) (by decide) (by decide) (by decide) (by decide) (by omega) dX11_init_88 ?_
  obtain ⟨S21, e21⟩ : ∃ y, y = q_nw S20 (.inr (0, 48)) := ⟨_, rfl⟩
  rw [← e21]
  have l21 : S21.1.length = S.1.length + 11 := by rw [e21]; rw [q_len_nw]; omega
  have hs : S21.1[o]? = some (.inl 11) := by rw [e21]; exact q_sh_nw hs
  refine q_putFR hs (by decide) (by decide) rfl rfl rfl rfl lfX11_43 dX11_init_90 ?_
  obtain ⟨S22, e22⟩ : ∃ y, y = q_sR S21 o 17 (S.1.length + 10) := ⟨_, rfl⟩
  rw [← e22]
  have l22 : S22.1.length = S.1.length + 11 := by rw [e22]; exact l21
  have hs : S22.1[o]? = some (.inl 11) := by rw [e22]; exact hs
  refine q_aload_n 0 rfl rfl dX11_init_93 ?_
  refine q_bipush (v := (48 : Int32)) (by decide) dX11_init_94 ?_
  refine q_newa2 (i := (48 : Int32)) (t := 0) (len := 48) l22 (by decide) rfl q_ac0 (by decide) (by decide) (by decide) (by decide) (by decide) (by omega) dX11_init_96 ?_
  obtain ⟨S23, e23⟩ : ∃ y, y = q_nw S22 (.inr (0, 48)) := ⟨_, rfl⟩
  rw [← e23]
  have l23 : S23.1.length = S.1.length + 12 := by rw [e23]; rw [q_len_nw]; omega
  have hs : S23.1[o]? = some (.inl 11) := by rw [e23]; exact q_sh_nw hs
  refine q_putFR hs (by decide) (by decide) rfl rfl rfl rfl lfX11_46 dX11_init_98 ?_
  obtain ⟨S24, e24⟩ : ∃ y, y = q_sR S23 o 18 (S.1.length + 11) := ⟨_, rfl⟩
  rw [← e24]
  have l24 : S24.1.length = S.1.length + 12 := by rw [e24]; exact l23
  have hs : S24.1[o]? = some (.inl 11) := by rw [e24]; exact hs
  refine q_aload_n 0 rfl rfl dX11_init_101 ?_
  refine q_bipush (v := (48 : Int32)) (by decide) dX11_init_102 ?_
  refine q_newa2 (i := (48 : Int32)) (t := 0) (len := 48) l24 (by decide) rfl q_ac0 (by decide) (by decide) (by decide) (by decide) (by decide) (by omega) dX11_init_104 ?_
  obtain ⟨S25, e25⟩ : ∃ y, y = q_nw S24 (.inr (0, 48)) := ⟨_, rfl⟩
  rw [← e25]
  have l25 : S25.1.length = S.1.length + 13 := by rw [e25]; rw [q_len_nw]; omega
  have hs : S25.1[o]? = some (.inl 11) := by rw [e25]; exact q_sh_nw hs
  refine q_putFR hs (by decide) (by decide) rfl rfl rfl rfl lfX11_49 dX11_init_106 ?_
  obtain ⟨S26, e26⟩ : ∃ y, y = q_sR S25 o 19 (S.1.length + 12) := ⟨_, rfl⟩
  rw [← e26]
  have l26 : S26.1.length = S.1.length + 13 := by rw [e26]; exact l25
  have hs : S26.1[o]? = some (.inl 11) := by rw [e26]; exact hs
  refine q_aload_n 0 rfl rfl dX11_init_109 ?_
  refine q_sipush (v := (1536 : Int32)) (by decide) dX11_init_110 ?_
  refine q_newa2 (i := (1536 : Int32)) (t := 0) (len := 1536) l26 (by decide) rfl q_ac0 (by decide) (by decide) (by decide) (by decide) (by decide) (by omega) dX11_init_113 ?_
  obtain ⟨S27, e27⟩ : ∃ y, y = q_nw S26 (.inr (0, 1536)) := ⟨_, rfl⟩
  rw [← e27]
  have l27 : S27.1.length = S.1.length + 14 := by rw [e27]; rw [q_len_nw]; omega
  have hs : S27.1[o]? = some (.inl 11) := by rw [e27]; exact q_sh_nw hs
  refine q_putFR hs (by decide) (by decide) rfl rfl rfl rfl lfX11_52 dX11_init_115 ?_
  obtain ⟨S28, e28⟩ : ∃ y, y = q_sR S27 o 20 (S.1.length + 13) := ⟨_, rfl⟩
  rw [← e28]
  have l28 : S28.1.length = S.1.length + 14 := by rw [e28]; exact l27
  have hs : S28.1[o]? = some (.inl 11) := by rw [e28]; exact hs
  refine q_aload_n 0 rfl rfl dX11_init_118 ?_
  refine q_sipush (v := (1024 : Int32)) (by decide) dX11_init_119 ?_
  refine q_newa2 (i := (1024 : Int32)) (t := 0) (len := 1024) l28 (by decide) rfl q_ac0 (by decide) (by decide) (by decide) (by decide) (by decide) (by omega) dX11_init_122 ?_
  obtain ⟨S29, e29⟩ : ∃ y, y = q_nw S28 (.inr (0, 1024)) := ⟨_, rfl⟩
  rw [← e29]
  have l29 : S29.1.length = S.1.length + 15 := by rw [e29]; rw [q_len_nw]; omega
  have hs : S29.1[o]? = some (.inl 11) := by rw [e29]; exact q_sh_nw hs
  refine q_putFR hs (by decide) (by decide) rfl rfl rfl rfl lfX11_55 dX11_init_124 ?_
  obtain ⟨S30, e30⟩ : ∃ y, y = q_sR S29 o 21 (S.1.length + 14) := ⟨_, rfl⟩
  rw [← e30]
  have l30 : S30.1.length = S.1.length + 15 := by rw [e30]; exact l29
  have hs : S30.1[o]? = some (.inl 11) := by rw [e30]; exact hs
  refine q_aload_n 0 rfl rfl dX11_init_127 ?_
  refine q_sipush (v := (1024 : Int32)) (by decide) dX11_init_128 ?_
  refine q_newa2 (i := (1024 : Int32)) (t := 0) (len := 1024) l30 (by decide) rfl q_ac0 (by decide) (by decide) (by decide) (by decide) (by decide) (by omega) dX11_init_131 ?_
  obtain ⟨S31, e31⟩ : ∃ y, y = q_nw S30 (.inr (0, 1024)) := ⟨_, rfl⟩
  rw [← e31]
  have l31 : S31.1.length = S.1.length + 16 := by rw [e31]; rw [q_len_nw]; omega
  have hs : S31.1[o]? = some (.inl 11) := by rw [e31]; exact q_sh_nw hs
  refine q_putFR hs (by decide) (by decide) rfl rfl rfl rfl lfX11_58 dX11_init_133 ?_
  obtain ⟨S32, e32⟩ : ∃ y, y = q_sR S31 o 22 (S.1.length + 15) := ⟨_, rfl⟩
  rw [← e32]
  have l32 : S32.1.length = S.1.length + 16 := by rw [e32]; exact l31
  have hs : S32.1[o]? = some (.inl 11) := by rw [e32]; exact hs
  refine q_aload_n 0 rfl rfl dX11_init_136 ?_
  refine q_sipush (v := (1024 : Int32)) (by decide) dX11_init_137 ?_
  refine q_newa2 (i := (1024 : Int32)) (t := 0) (len := 1024) l32 (by decide) rfl q_ac0 (by decide) (by decide) (by decide) (by decide) (by decide) (by omega) dX11_init_140 ?_
  obtain ⟨S33, e33⟩ : ∃ y, y = q_nw S32 (.inr (0, 1024)) := ⟨_, rfl⟩
  rw [← e33]
  have l33 : S33.1.length = S.1.length + 17 := by rw [e33]; rw [q_len_nw]; omega
  have hs : S33.1[o]? = some (.inl 11) := by rw [e33]; exact q_sh_nw hs
  refine q_putFR hs (by decide) (by decide) rfl rfl rfl rfl lfX11_61 dX11_init_142 ?_
  obtain ⟨S34, e34⟩ : ∃ y, y = q_sR S33 o 23 (S.1.length + 16) := ⟨_, rfl⟩
  rw [← e34]
  have l34 : S34.1.length = S.1.length + 17 := by rw [e34]; exact l33
  have hs : S34.1[o]? = some (.inl 11) := by rw [e34]; exact hs
  refine q_aload_n 0 rfl rfl dX11_init_145 ?_
  refine q_sipush (v := (1024 : Int32)) (by decide) dX11_init_146 ?_
  refine q_newa2 (i := (1024 : Int32)) (t := 0) (len := 1024) l34 (by decide) rfl q_ac0 (by decide) (by decide) (by decide) (by decide) (by decide) (by omega) dX11_init_149 ?_
  obtain ⟨S35, e35⟩ : ∃ y, y = q_nw S34 (.inr (0, 1024)) := ⟨_, rfl⟩
  rw [← e35]
  have l35 : S35.1.length = S.1.length + 18 := by rw [e35]; rw [q_len_nw]; omega
  have hs : S35.1[o]? = some (.inl 11) := by rw [e35]; exact q_sh_nw hs
  refine q_putFR hs (by decide) (by decide) rfl rfl rfl rfl lfX11_64 dX11_init_151 ?_
  obtain ⟨S36, e36⟩ : ∃ y, y = q_sR S35 o 24 (S.1.length + 17) := ⟨_, rfl⟩
  rw [← e36]
  have l36 : S36.1.length = S.1.length + 18 := by rw [e36]; exact l35
  have hs : S36.1[o]? = some (.inl 11) := by rw [e36]; exact hs
  refine q_aload_n 0 rfl rfl dX11_init_154 ?_
  refine q_sipush (v := (1024 : Int32)) (by decide) dX11_init_155 ?_
  refine q_newa2 (i := (1024 : Int32)) (t := 0) (len := 1024) l36 (by decide) rfl q_ac0 (by decide) (by decide) (by decide) (by decide) (by decide) (by omega) dX11_init_158 ?_
  obtain ⟨S37, e37⟩ : ∃ y, y = q_nw S36 (.inr (0, 1024)) := ⟨_, rfl⟩
  rw [← e37]
  have l37 : S37.1.length = S.1.length + 19 := by rw [e37]; rw [q_len_nw]; omega
  have hs : S37.1[o]? = some (.inl 11) := by rw [e37]; exact q_sh_nw hs
  refine q_putFR hs (by decide) (by decide) rfl rfl rfl rfl lfX11_67 dX11_init_160 ?_
  obtain ⟨S38, e38⟩ : ∃ y, y = q_sR S37 o 25 (S.1.length + 18) := ⟨_, rfl⟩
  rw [← e38]
  have l38 : S38.1.length = S.1.length + 19 := by rw [e38]; exact l37
  have hs : S38.1[o]? = some (.inl 11) := by rw [e38]; exact hs
  refine q_aload_n 0 rfl rfl dX11_init_163 ?_
  refine q_bipush (v := (54 : Int32)) (by decide) dX11_init_164 ?_
  refine q_newa2 (i := (54 : Int32)) (t := 0) (len := 54) l38 (by decide) rfl q_ac0 (by decide) (by decide) (by decide) (by decide) (by decide) (by omega) dX11_init_166 ?_
  obtain ⟨S39, e39⟩ : ∃ y, y = q_nw S38 (.inr (0, 54)) := ⟨_, rfl⟩
  rw [← e39]
  have l39 : S39.1.length = S.1.length + 20 := by rw [e39]; rw [q_len_nw]; omega
  have hs : S39.1[o]? = some (.inl 11) := by rw [e39]; exact q_sh_nw hs
  refine q_putFR hs (by decide) (by decide) rfl rfl rfl rfl lfX11_70 dX11_init_168 ?_
  obtain ⟨S40, e40⟩ : ∃ y, y = q_sR S39 o 26 (S.1.length + 19) := ⟨_, rfl⟩
  rw [← e40]
  have l40 : S40.1.length = S.1.length + 20 := by rw [e40]; exact l39
  have hs : S40.1[o]? = some (.inl 11) := by rw [e40]; exact hs
  refine q_aload_n 0 rfl rfl dX11_init_171 ?_
  refine q_bipush (v := (64 : Int32)) (by decide) dX11_init_172 ?_
  refine q_newa2 (i := (64 : Int32)) (t := 0) (len := 64) l40 (by decide) rfl q_ac0 (by decide) (by decide) (by decide) (by decide) (by decide) (by omega) dX11_init_174 ?_
  obtain ⟨S41, e41⟩ : ∃ y, y = q_nw S40 (.inr (0, 64)) := ⟨_, rfl⟩
  rw [← e41]
  have l41 : S41.1.length = S.1.length + 21 := by rw [e41]; rw [q_len_nw]; omega
  have hs : S41.1[o]? = some (.inl 11) := by rw [e41]; exact q_sh_nw hs
  refine q_putFR hs (by decide) (by decide) rfl rfl rfl rfl lfX11_73 dX11_init_176 ?_
  obtain ⟨S42, e42⟩ : ∃ y, y = q_sR S41 o 27 (S.1.length + 20) := ⟨_, rfl⟩
  rw [← e42]
  have l42 : S42.1.length = S.1.length + 21 := by rw [e42]; exact l41
  have hs : S42.1[o]? = some (.inl 11) := by rw [e42]; exact hs
  refine q_aload_n 0 rfl rfl dX11_init_179 ?_
  refine q_bipush (v := (64 : Int32)) (by decide) dX11_init_180 ?_
  refine q_newa2 (i := (64 : Int32)) (t := 0) (len := 64) l42 (by decide) rfl q_ac0 (by decide) (by decide) (by decide) (by decide) (by decide) (by omega) dX11_init_182 ?_
  obtain ⟨S43, e43⟩ : ∃ y, y = q_nw S42 (.inr (0, 64)) := ⟨_, rfl⟩
  rw [← e43]
  have l43 : S43.1.length = S.1.length + 22 := by rw [e43]; rw [q_len_nw]; omega
  have hs : S43.1[o]? = some (.inl 11) := by rw [e43]; exact q_sh_nw hs
  refine q_putFR hs (by decide) (by decide) rfl rfl rfl rfl lfX11_76 dX11_init_184 ?_
  obtain ⟨S44, e44⟩ : ∃ y, y = q_sR S43 o 28 (S.1.length + 21) := ⟨_, rfl⟩
  rw [← e44]
  have l44 : S44.1.length = S.1.length + 22 := by rw [e44]; exact l43
  have hs : S44.1[o]? = some (.inl 11) := by rw [e44]; exact hs
  refine q_aload_n 0 rfl rfl dX11_init_187 ?_
  refine q_bipush (v := (64 : Int32)) (by decide) dX11_init_188 ?_
  refine q_newa2 (i := (64 : Int32)) (t := 0) (len := 64) l44 (by decide) rfl q_ac0 (by decide) (by decide) (by decide) (by decide) (by decide) (by omega) dX11_init_190 ?_
  obtain ⟨S45, e45⟩ : ∃ y, y = q_nw S44 (.inr (0, 64)) := ⟨_, rfl⟩
  rw [← e45]
  have l45 : S45.1.length = S.1.length + 23 := by rw [e45]; rw [q_len_nw]; omega
  have hs : S45.1[o]? = some (.inl 11) := by rw [e45]; exact q_sh_nw hs
  refine q_putFR hs (by decide) (by decide) rfl rfl rfl rfl lfX11_79 dX11_init_192 ?_
  obtain ⟨S46, e46⟩ : ∃ y, y = q_sR S45 o 29 (S.1.length + 22) := ⟨_, rfl⟩
  rw [← e46]
  have l46 : S46.1.length = S.1.length + 23 := by rw [e46]; exact l45
  have hs : S46.1[o]? = some (.inl 11) := by rw [e46]; exact hs
  refine q_aload_n 0 rfl rfl dX11_init_195 ?_
  refine q_bipush (v := (64 : Int32)) (by decide) dX11_init_196 ?_
  refine q_newa2 (i := (64 : Int32)) (t := 0) (len := 64) l46 (by decide) rfl q_ac0 (by decide) (by decide) (by decide) (by decide) (by decide) (by omega) dX11_init_198 ?_
  obtain ⟨S47, e47⟩ : ∃ y, y = q_nw S46 (.inr (0, 64)) := ⟨_, rfl⟩
  rw [← e47]
  have l47 : S47.1.length = S.1.length + 24 := by rw [e47]; rw [q_len_nw]; omega
  have hs : S47.1[o]? = some (.inl 11) := by rw [e47]; exact q_sh_nw hs
  refine q_putFR hs (by decide) (by decide) rfl rfl rfl rfl lfX11_82 dX11_init_200 ?_
  obtain ⟨S48, e48⟩ : ∃ y, y = q_sR S47 o 30 (S.1.length + 23) := ⟨_, rfl⟩
  rw [← e48]
  have l48 : S48.1.length = S.1.length + 24 := by rw [e48]; exact l47
  have hs : S48.1[o]? = some (.inl 11) := by rw [e48]; exact hs
  refine q_aload_n 0 rfl rfl dX11_init_203 ?_
  refine q_bipush (v := (64 : Int32)) (by decide) dX11_init_204 ?_
  refine q_newa2 (i := (64 : Int32)) (t := 0) (len := 64) l48 (by decide) rfl q_ac0 (by decide) (by decide) (by decide) (by decide) (by decide) (by omega) dX11_init_206 ?_
  obtain ⟨S49, e49⟩ : ∃ y, y = q_nw S48 (.inr (0, 64)) := ⟨_, rfl⟩
  rw [← e49]
  have l49 : S49.1.length = S.1.length + 25 := by rw [e49]; rw [q_len_nw]; omega
  have hs : S49.1[o]? = some (.inl 11) := by rw [e49]; exact q_sh_nw hs
  refine q_putFR hs (by decide) (by decide) rfl rfl rfl rfl lfX11_85 dX11_init_208 ?_
  obtain ⟨S50, e50⟩ : ∃ y, y = q_sR S49 o 31 (S.1.length + 24) := ⟨_, rfl⟩
  rw [← e50]
  have l50 : S50.1.length = S.1.length + 25 := by rw [e50]; exact l49
  have hs : S50.1[o]? = some (.inl 11) := by rw [e50]; exact hs
  refine q_aload_n 0 rfl rfl dX11_init_211 ?_
  refine q_sipush (v := (20480 : Int32)) (by decide) dX11_init_212 ?_
  refine q_newa2 (i := (20480 : Int32)) (t := 0) (len := 20480) l50 (by decide) rfl q_ac0 (by decide) (by decide) (by decide) (by decide) (by decide) (by omega) dX11_init_215 ?_
  obtain ⟨S51, e51⟩ : ∃ y, y = q_nw S50 (.inr (0, 20480)) := ⟨_, rfl⟩
  rw [← e51]
  have l51 : S51.1.length = S.1.length + 26 := by rw [e51]; rw [q_len_nw]; omega
  have hs : S51.1[o]? = some (.inl 11) := by rw [e51]; exact q_sh_nw hs
  refine q_putFR hs (by decide) (by decide) rfl rfl rfl rfl lfX11_88 dX11_init_217 ?_
  obtain ⟨S52, e52⟩ : ∃ y, y = q_sR S51 o 32 (S.1.length + 25) := ⟨_, rfl⟩
  rw [← e52]
  have l52 : S52.1.length = S.1.length + 26 := by rw [e52]; exact l51
  have hs : S52.1[o]? = some (.inl 11) := by rw [e52]; exact hs
  refine q_aload_n 0 rfl rfl dX11_init_220 ?_
  refine q_sipush (v := (1024 : Int32)) (by decide) dX11_init_221 ?_
  refine q_newa2 (i := (1024 : Int32)) (t := 3) (len := 1024) l52 (by decide) rfl q_ac3 (by decide) (by decide) (by decide) (by decide) (by decide) (by omega) dX11_init_224 ?_
  obtain ⟨S53, e53⟩ : ∃ y, y = q_nw S52 (.inr (3, 1024)) := ⟨_, rfl⟩
  rw [← e53]
  have l53 : S53.1.length = S.1.length + 27 := by rw [e53]; rw [q_len_nw]; omega
  have hs : S53.1[o]? = some (.inl 11) := by rw [e53]; exact q_sh_nw hs
  refine q_putFR hs (by decide) (by decide) rfl rfl rfl rfl lfX11_91 dX11_init_226 ?_
  obtain ⟨S54, e54⟩ : ∃ y, y = q_sR S53 o 33 (S.1.length + 26) := ⟨_, rfl⟩
  rw [← e54]
  have l54 : S54.1.length = S.1.length + 27 := by rw [e54]; exact l53
  have hs : S54.1[o]? = some (.inl 11) := by rw [e54]; exact hs
  refine q_vret rfl dX11_init_229 ?_
  try subst e54
  try subst e53
  try subst e52
  try subst e51
  try subst e50
  try subst e49
  try subst e48
  try subst e47
  try subst e46
  try subst e45
  try subst e44
  try subst e43
  try subst e42
  try subst e41
  try subst e40
  try subst e39
  try subst e38
  try subst e37
  try subst e36
  try subst e35
  try subst e34
  try subst e33
  try subst e32
  try subst e31
  try subst e30
  try subst e29
  try subst e28
  try subst e27
  try subst e26
  try subst e25
  try subst e24
  try subst e23
  try subst e22
  try subst e21
  try subst e20
  try subst e19
  try subst e18
  try subst e17
  try subst e16
  try subst e15
  try subst e14
  try subst e13
  try subst e12
  try subst e11
  try subst e10
  try subst e9
  try subst e8
  try subst e7
  try subst e6
  try subst e5
  try subst e4
  try subst e3
  try subst e2
  try subst e1
  try subst_vars
  exact hQ
def fX12_init (S : QS) (o : Nat) : QS := q_sI (q_sI (q_sR (q_nw (q_sR (q_nw (q_sR (q_nw (q_sR (q_nw (q_sR (q_nw (q_sR (q_nw (q_sR (q_nw (q_sR (q_nw (q_sR (q_nw (q_sR (q_nw (q_sR (q_nw (q_sR (q_nw (q_sR (q_nw (q_sR (q_nw (q_sR (q_nw (q_sR (q_nw (q_sR (q_nw (q_sR (q_nw (q_sR (q_nw (q_sR (q_nw (q_sI (q_sR (q_nw (q_sR (q_nw (q_sR (q_nw (q_sR (q_nw (q_sR (fX11_init (q_nw (q_sR (fX11_init (q_nw S (.inl 11)) S.1.length) o 0 S.1.length) (.inl 11)) (S.1.length + 28)) o 1 (S.1.length + 28)) (.inr (1, 16000))) o 3 (S.1.length + 56)) (.inr (1, 16000))) o 6 (S.1.length + 57)) (.inr (0, 16002))) o 8 (S.1.length + 58)) (.inr (0, 16002))) o 9 (S.1.length + 59)) o 12 (-1 : Int32)) (.inr (0, 32))) o 13 (S.1.length + 60)) (.inr (0, 48))) o 14 (S.1.length + 61)) (.inr (0, 48))) o 15 (S.1.length + 62)) (.inr (0, 48))) o 16 (S.1.length + 63)) (.inr (0, 16000))) o 17 (S.1.length + 64)) (.inr (0, 16000))) o 18 (S.1.length + 65)) (.inr (0, 1024))) o 20 (S.1.length + 66)) (.inr (0, 1024))) o 21 (S.1.length + 67)) (.inr (0, 24))) o 22 (S.1.length + 68)) (.inr (2, 768))) o 24 (S.1.length + 69)) (.inr (2, 512))) o 25 (S.1.length + 70)) (.inr (0, 64))) o 26 (S.1.length + 71)) (.inr (0, 64))) o 27 (S.1.length + 72)) (.inr (0, 2000))) o 28 (S.1.length + 73)) (.inr (0, 2000))) o 29 (S.1.length + 74)) (.inr (0, 2000))) o 30 (S.1.length + 75)) (.inr (0, 2000))) o 31 (S.1.length + 76)) (.inr (2, 12000))) o 32 (S.1.length + 77)) (.inr (0, 256))) o 33 (S.1.length + 78)) (.inr (0, 256))) o 34 (S.1.length + 79)) o 42 (-1 : Int32)) o 43 (-1 : Int32)
theorem lenX12_init (S : QS) (o : Nat) : (fX12_init S o).1.length = S.1.length + 80 := by
  simp only [fX12_init, q_len_nw, q_sR, q_sI, lenX0_init, lenX1_init, lenX5_init, lenX8_init, lenX7_init, lenX4_init, lenX3_init, lenX9_init, lenX2_init, lenX6_init, lenX10_init, lenX11_init]
  try omega
theorem shX12_init {S : QS} {o : Nat} {x : Nat} {sp : QSp} (h : S.1[x]? = some sp) : (fX12_init S o).1[x]? = some sp := by
  unfold fX12_init
  repeat (first | exact h | apply q_sh_nw | apply q_shsR | apply q_shsI | apply shX0_init | apply shX1_init | apply shX5_init | apply shX8_init | apply shX7_init | apply shX4_init | apply shX3_init | apply shX9_init | apply shX2_init | apply shX6_init | apply shX10_init | apply shX11_init)
set_option maxRecDepth 20000 in
theorem kX12_init {g : QG} {Q : Option Value → QS → Prop} {S : QS} {o : Nat} (hs : S.1[o]? = some (.inl 12)) (hl : S.1.length + 80 ≤ 1000000) (hQ : Q none (fX12_init S o)) : q_M g mX12_init 2 80 179548 [.ref o] S Q := by
  show q_L g mX12_init 2 80 179548 Q 0 0 0 [(0, .ref o)] [] S
  refine q_aload_n 0 rfl rfl dX12_init_0 ?_
  refine q_objI (List.getElem?_eq_some_iff.mp hs).1 lmX12_1 q_oii q_oic (Nat.le_of_ble_eq_true rfl) dX12_init_1 ?_
  refine q_aload_n 0 rfl rfl dX12_init_4 ?_
  refine q_new2 (id := S.1.length) (ci := 11) rfl (by decide) lcX12_7 q_is11 q_in11 (by decide) (by decide) (by omega) dX12_init_5 ?_
  obtain ⟨S1, e1⟩ : ∃ y, y = q_nw S (.inl 11) := ⟨_, rfl⟩
  rw [← e1]
  have l1 : S1.1.length = S.1.length + 1 := by rw [e1]; rw [q_len_nw]
  have hs : S1.1[o]? = some (.inl 12) := by rw [e1]; exact q_sh_nw hs
  have hn1 : S1.1[S.1.length]? = some (.inl 11) := by rw [e1]; exact q_sh_new rfl
  refine q_dup rfl dX12_init_8 ?_
  refine q_callIN (d := 1) (Mc := mX11_init) (kc := 27) (nc := 29654) [] okX11_init rfl (List.getElem?_eq_some_iff.mp hn1).1 rfl lmX12_9 inX11_init rfl (Nat.le_of_ble_eq_true rfl) (Nat.le_of_ble_eq_true rfl) (by decide) (by decide) dX12_init_9 (q_L.deep (by decide) (kX11_init (Q := fun r S' => r = none ∧ S' = fX11_init S1 S.1.length) hn1 (by omega) ⟨rfl, rfl⟩)) (q_kV2 ?_)
  obtain ⟨S2, e2⟩ : ∃ y, y = fX11_init S1 S.1.length := ⟨_, rfl⟩
  rw [← e2]
  have l2 : S2.1.length = S.1.length + 28 := by rw [e2]; rw [lenX11_init]; omega
  have hs : S2.1[o]? = some (.inl 12) := by rw [e2]; exact shX11_init hs
  have hn1 : S2.1[S.1.length]? = some (.inl 11) := by rw [e2]; exact shX11_init hn1
  refine q_putR hs (by decide) (by decide) rfl rfl lfX12_10 dX12_init_12 ?_
  obtain ⟨S3, e3⟩ : ∃ y, y = q_sR S2 o 0 S.1.length := ⟨_, rfl⟩
  rw [← e3]
  have l3 : S3.1.length = S.1.length + 28 := by rw [e3]; exact l2
  have hs : S3.1[o]? = some (.inl 12) := by rw [e3]; exact hs
  have hn1 : S3.1[S.1.length]? = some (.inl 11) := by rw [e3]; exact hn1
  refine q_aload_n 0 rfl rfl dX12_init_15 ?_
  refine q_new2 (id := (S.1.length + 28)) (ci := 11) l3 (by decide) lcX12_7 q_is11 q_in11 (by decide) (by decide) (by omega) dX12_init_16 ?_
  obtain ⟨S4, e4⟩ : ∃ y, y = q_nw S3 (.inl 11) := ⟨_, rfl⟩
  rw [← e4]
  have l4 : S4.1.length = S.1.length + 29 := by rw [e4]; rw [q_len_nw]; omega
  have hs : S4.1[o]? = some (.inl 12) := by rw [e4]; exact q_sh_nw hs
  have hn1 : S4.1[S.1.length]? = some (.inl 11) := by rw [e4]; exact q_sh_nw hn1
  have hn4 : S4.1[(S.1.length + 28)]? = some (.inl 11) := by rw [e4]; exact q_sh_new l3
  refine q_dup rfl dX12_init_19 ?_
  refine q_callIN (d := 1) (Mc := mX11_init) (kc := 27) (nc := 29654) [] okX11_init rfl (List.getElem?_eq_some_iff.mp hn4).1 rfl lmX12_9 inX11_init rfl (Nat.le_of_ble_eq_true rfl) (Nat.le_of_ble_eq_true rfl) (by decide) (by decide) dX12_init_20 (q_L.deep (by decide) (kX11_init (Q := fun r S' => r = none ∧ S' = fX11_init S4 (S.1.length + 28)) hn4 (by omega) ⟨rfl, rfl⟩)) (q_kV2 ?_)
  obtain ⟨S5, e5⟩ : ∃ y, y = fX11_init S4 (S.1.length + 28) := ⟨_, rfl⟩
  rw [← e5]
  have l5 : S5.1.length = S.1.length + 56 := by rw [e5]; rw [lenX11_init]; omega
  have hs : S5.1[o]? = some (.inl 12) := by rw [e5]; exact shX11_init hs
  have hn1 : S5.1[S.1.length]? = some (.inl 11) := by rw [e5]; exact shX11_init hn1
  have hn4 : S5.1[(S.1.length + 28)]? = some (.inl 11) := by rw [e5]; exact shX11_init hn4
  refine q_putR hs (by decide) (by decide) rfl rfl lfX12_16 dX12_init_23 ?_
  obtain ⟨S6, e6⟩ : ∃ y, y = q_sR S5 o 1 (S.1.length + 28) := ⟨_, rfl⟩
  rw [← e6]
  have l6 : S6.1.length = S.1.length + 56 := by rw [e6]; exact l5
  have hs : S6.1[o]? = some (.inl 12) := by rw [e6]; exact hs
  have hn1 : S6.1[S.1.length]? = some (.inl 11) := by rw [e6]; exact hn1
  have hn4 : S6.1[(S.1.length + 28)]? = some (.inl 11) := by rw [e6]; exact hn4
  refine q_aload_n 0 rfl rfl dX12_init_26 ?_
  refine q_sipush (v := (16000 : Int32)) (by decide) dX12_init_27 ?_
  refine q_newa2 (i := (16000 : Int32)) (t := 1) (len := 16000) l6 (by decide) rfl q_ac1 (by decide) (by decide) (by decide) (by decide) (by decide) (by omega) dX12_init_30 ?_
  obtain ⟨S7, e7⟩ : ∃ y, y = q_nw S6 (.inr (1, 16000)) := ⟨_, rfl⟩
  rw [← e7]
  have l7 : S7.1.length = S.1.length + 57 := by rw [e7]; rw [q_len_nw]; omega
  have hs : S7.1[o]? = some (.inl 12) := by rw [e7]; exact q_sh_nw hs
  have hn1 : S7.1[S.1.length]? = some (.inl 11) := by rw [e7]; exact q_sh_nw hn1
  have hn4 : S7.1[(S.1.length + 28)]? = some (.inl 11) := by rw [e7]; exact q_sh_nw hn4
  refine q_putFR hs (by decide) (by decide) rfl rfl rfl rfl lfX12_19 dX12_init_32 ?_
  obtain ⟨S8, e8⟩ : ∃ y, y = q_sR S7 o 3 (S.1.length + 56) := ⟨_, rfl⟩
  rw [← e8]
  have l8 : S8.1.length = S.1.length + 57 := by rw [e8]; exact l7
  have hs : S8.1[o]? = some (.inl 12) := by rw [e8]; exact hs
  have hn1 : S8.1[S.1.length]? = some (.inl 11) := by rw [e8]; exact hn1
  have hn4 : S8.1[(S.1.length + 28)]? = some (.inl 11) := by rw [e8]; exact hn4
  refine q_aload_n 0 rfl rfl dX12_init_35 ?_
  refine q_sipush (v := (16000 : Int32)) (by decide) dX12_init_36 ?_
  refine q_newa2 (i := (16000 : Int32)) (t := 1) (len := 16000) l8 (by decide) rfl q_ac1 (by decide) (by decide) (by decide) (by decide) (by decide) (by omega) dX12_init_39 ?_
  obtain ⟨S9, e9⟩ : ∃ y, y = q_nw S8 (.inr (1, 16000)) := ⟨_, rfl⟩
  rw [← e9]
  have l9 : S9.1.length = S.1.length + 58 := by rw [e9]; rw [q_len_nw]; omega
  have hs : S9.1[o]? = some (.inl 12) := by rw [e9]; exact q_sh_nw hs
  have hn1 : S9.1[S.1.length]? = some (.inl 11) := by rw [e9]; exact q_sh_nw hn1
  have hn4 : S9.1[(S.1.length + 28)]? = some (.inl 11) := by rw [e9]; exact q_sh_nw hn4
  refine q_putFR hs (by decide) (by decide) rfl rfl rfl rfl lfX12_23 dX12_init_41 ?_
  obtain ⟨S10, e10⟩ : ∃ y, y = q_sR S9 o 6 (S.1.length + 57) := ⟨_, rfl⟩
  rw [← e10]
  have l10 : S10.1.length = S.1.length + 58 := by rw [e10]; exact l9
  have hs : S10.1[o]? = some (.inl 12) := by rw [e10]; exact hs
  have hn1 : S10.1[S.1.length]? = some (.inl 11) := by rw [e10]; exact hn1
  have hn4 : S10.1[(S.1.length + 28)]? = some (.inl 11) := by rw [e10]; exact hn4
  refine q_aload_n 0 rfl rfl dX12_init_44 ?_
  refine q_sipush (v := (16002 : Int32)) (by decide) dX12_init_45 ?_
  refine q_newa2 (i := (16002 : Int32)) (t := 0) (len := 16002) l10 (by decide) rfl q_ac0 (by decide) (by decide) (by decide) (by decide) (by decide) (by omega) dX12_init_48 ?_
  obtain ⟨S11, e11⟩ : ∃ y, y = q_nw S10 (.inr (0, 16002)) := ⟨_, rfl⟩
  rw [← e11]
  have l11 : S11.1.length = S.1.length + 59 := by rw [e11]; rw [q_len_nw]; omega
  have hs : S11.1[o]? = some (.inl 12) := by rw [e11]; exact q_sh_nw hs
  have hn1 : S11.1[S.1.length]? = some (.inl 11) := by rw [e11]; exact q_sh_nw hn1
  have hn4 : S11.1[(S.1.length + 28)]? = some (.inl 11) := by rw [e11]; exact q_sh_nw hn4
  refine q_putFR hs (by decide) (by decide) rfl rfl rfl rfl lfX12_26 dX12_init_50 ?_
  obtain ⟨S12, e12⟩ : ∃ y, y = q_sR S11 o 8 (S.1.length + 58) := ⟨_, rfl⟩
  rw [← e12]
  have l12 : S12.1.length = S.1.length + 59 := by rw [e12]; exact l11
  have hs : S12.1[o]? = some (.inl 12) := by rw [e12]; exact hs
  have hn1 : S12.1[S.1.length]? = some (.inl 11) := by rw [e12]; exact hn1
  have hn4 : S12.1[(S.1.length + 28)]? = some (.inl 11) := by rw [e12]; exact hn4
  refine q_aload_n 0 rfl rfl dX12_init_53 ?_
  refine q_sipush (v := (16002 : Int32)) (by decide) dX12_init_54 ?_
  refine q_newa2 (i := (16002 : Int32)) (t := 0) (len := 16002) l12 (by decide) rfl q_ac0 (by decide) (by decide) (by decide) (by decide) (by decide) (by omega) dX12_init_57 ?_
  obtain ⟨S13, e13⟩ : ∃ y, y = q_nw S12 (.inr (0, 16002)) := ⟨_, rfl⟩
  rw [← e13]
  have l13 : S13.1.length = S.1.length + 60 := by rw [e13]; rw [q_len_nw]; omega
  have hs : S13.1[o]? = some (.inl 12) := by rw [e13]; exact q_sh_nw hs
  have hn1 : S13.1[S.1.length]? = some (.inl 11) := by rw [e13]; exact q_sh_nw hn1
  have hn4 : S13.1[(S.1.length + 28)]? = some (.inl 11) := by rw [e13]; exact q_sh_nw hn4
  refine q_putFR hs (by decide) (by decide) rfl rfl rfl rfl lfX12_30 dX12_init_59 ?_
  obtain ⟨S14, e14⟩ : ∃ y, y = q_sR S13 o 9 (S.1.length + 59) := ⟨_, rfl⟩
  rw [← e14]
  have l14 : S14.1.length = S.1.length + 60 := by rw [e14]; exact l13
  have hs : S14.1[o]? = some (.inl 12) := by rw [e14]; exact hs
  have hn1 : S14.1[S.1.length]? = some (.inl 11) := by rw [e14]; exact hn1
  have hn4 : S14.1[(S.1.length + 28)]? = some (.inl 11) := by rw [e14]; exact hn4
  refine q_aload_n 0 rfl rfl dX12_init_62 ?_
  refine q_iconst (v := (-1 : Int32)) (by decide) dX12_init_63 ?_
  refine q_putI hs (by decide) (by decide) rfl rfl ⟨rfl, rfl⟩ lfX12_33 dX12_init_64 ?_
  obtain ⟨S15, e15⟩ : ∃ y, y = q_sI S14 o 12 (-1 : Int32) := ⟨_, rfl⟩
  rw [← e15]
  have l15 : S15.1.length = S.1.length + 60 := by rw [e15]; exact l14
  have hs : S15.1[o]? = some (.inl 12) := by rw [e15]; exact hs
  have hn1 : S15.1[S.1.length]? = some (.inl 11) := by rw [e15]; exact hn1
  have hn4 : S15.1[(S.1.length + 28)]? = some (.inl 11) := by rw [e15]; exact hn4
  refine q_aload_n 0 rfl rfl dX12_init_67 ?_
  refine q_bipush (v := (32 : Int32)) (by decide) dX12_init_68 ?_
  refine q_newa2 (i := (32 : Int32)) (t := 0) (len := 32) l15 (by decide) rfl q_ac0 (by decide) (by decide) (by decide) (by decide) (by decide) (by omega) dX12_init_70 ?_
  obtain ⟨S16, e16⟩ : ∃ y, y = q_nw S15 (.inr (0, 32)) := ⟨_, rfl⟩
  rw [← e16]
  have l16 : S16.1.length = S.1.length + 61 := by rw [e16]; rw [q_len_nw]; omega
  have hs : S16.1[o]? = some (.inl 12) := by rw [e16]; exact q_sh_nw hs
  have hn1 : S16.1[S.1.length]? = some (.inl 11) := by rw [e16]; exact q_sh_nw hn1
  have hn4 : S16.1[(S.1.length + 28)]? = some (.inl 11) := by rw [e16]; exact q_sh_nw hn4
  refine q_putFR hs (by decide) (by decide) rfl rfl rfl rfl lfX12_37 dX12_init_72 ?_
  obtain ⟨S17, e17⟩ : ∃ y, y = q_sR S16 o 13 (S.1.length + 60) := ⟨_, rfl⟩
  rw [← e17]
  have l17 : S17.1.length = S.1.length + 61 := by rw [e17]; exact l16
  have hs : S17.1[o]? = some (.inl 12) := by rw [e17]; exact hs
  have hn1 : S17.1[S.1.length]? = some (.inl 11) := by rw [e17]; exact hn1
  have hn4 : S17.1[(S.1.length + 28)]? = some (.inl 11) := by rw [e17]; exact hn4
  refine q_aload_n 0 rfl rfl dX12_init_75 ?_
  refine q_bipush (v := (48 : Int32)) (by decide) dX12_init_76 ?_
  refine q_newa2 (i := (48 : Int32)) (t := 0) (len := 48) l17 (by decide) rfl q_ac0 (by decide) (by decide) (by decide) (by decide) (by decide) (by omega) dX12_init_78 ?_
  obtain ⟨S18, e18⟩ : ∃ y, y = q_nw S17 (.inr (0, 48)) := ⟨_, rfl⟩
  rw [← e18]
  have l18 : S18.1.length = S.1.length + 62 := by rw [e18]; rw [q_len_nw]; omega
  have hs : S18.1[o]? = some (.inl 12) := by rw [e18]; exact q_sh_nw hs
  have hn1 : S18.1[S.1.length]? = some (.inl 11) := by rw [e18]; exact q_sh_nw hn1
  have hn4 : S18.1[(S.1.length + 28)]? = some (.inl 11) := by rw [e18]; exact q_sh_nw hn4
  refine q_putFR hs (by decide) (by decide) rfl rfl rfl rfl lfX12_40 dX12_init_80 ?_
  obtain ⟨S19, e19⟩ : ∃ y, y = q_sR S18 o 14 (S.1.length + 61) := ⟨_, rfl⟩
  rw [← e19]
  have l19 : S19.1.length = S.1.length + 62 := by rw [e19]; exact l18
  have hs : S19.1[o]? = some (.inl 12) := by rw [e19]; exact hs
  have hn1 : S19.1[S.1.length]? = some (.inl 11) := by rw [e19]; exact hn1
  have hn4 : S19.1[(S.1.length + 28)]? = some (.inl 11) := by rw [e19]; exact hn4
  refine q_aload_n 0 rfl rfl dX12_init_83 ?_
  refine q_bipush (v := (48 : Int32)) (by decide) dX12_init_84 ?_
  refine q_newa2 (i := (48 : Int32)) (t := 0) (len := 48) l19 (by decide) rfl q_ac0 (by decide) (by decide) (by decide) (by decide) (by decide) (by omega) dX12_init_86 ?_
  obtain ⟨S20, e20⟩ : ∃ y, y = q_nw S19 (.inr (0, 48)) := ⟨_, rfl⟩
  rw [← e20]
  have l20 : S20.1.length = S.1.length + 63 := by rw [e20]; rw [q_len_nw]; omega
  have hs : S20.1[o]? = some (.inl 12) := by rw [e20]; exact q_sh_nw hs
  have hn1 : S20.1[S.1.length]? = some (.inl 11) := by rw [e20]; exact q_sh_nw hn1
  have hn4 : S20.1[(S.1.length + 28)]? = some (.inl 11) := by rw [e20]; exact q_sh_nw hn4
  refine q_putFR hs (by decide) (by decide) rfl rfl rfl rfl lfX12_43 dX12_init_88 ?_
  obtain ⟨S21, e21⟩ : ∃ y, y = q_sR S20 o 15 (S.1.length + 62) := ⟨_, rfl⟩
  rw [← e21]
  have l21 : S21.1.length = S.1.length + 63 := by rw [e21]; exact l20
  have hs : S21.1[o]? = some (.inl 12) := by rw [e21]; exact hs
  have hn1 : S21.1[S.1.length]? = some (.inl 11) := by rw [e21]; exact hn1
  have hn4 : S21.1[(S.1.length + 28)]? = some (.inl 11) := by rw [e21]; exact hn4
  refine q_aload_n 0 rfl rfl dX12_init_91 ?_
  refine q_bipush (v := (48 : Int32)) (by decide) dX12_init_92 ?_
  refine q_newa2 (i := (48 : Int32)) (t := 0) (len := 48) l21 (by decide) rfl q_ac0 (by decide) (by decide) (by decide) (by decide) (by decide) (by omega) dX12_init_94 ?_
  obtain ⟨S22, e22⟩ : ∃ y, y = q_nw S21 (.inr (0, 48)) := ⟨_, rfl⟩
  rw [← e22]
  have l22 : S22.1.length = S.1.length + 64 := by rw [e22]; rw [q_len_nw]; omega
  have hs : S22.1[o]? = some (.inl 12) := by rw [e22]; exact q_sh_nw hs
  have hn1 : S22.1[S.1.length]? = some (.inl 11) := by rw [e22]; exact q_sh_nw hn1
  have hn4 : S22.1[(S.1.length + 28)]? = some (.inl 11) := by rw [e22]; exact q_sh_nw hn4
  refine q_putFR hs (by decide) (by decide) rfl rfl rfl rfl lfX12_46 dX12_init_96 ?_
  obtain ⟨S23, e23⟩ : ∃ y, y = q_sR S22 o 16 (S.1.length + 63) := ⟨_, rfl⟩
  rw [← e23]
  have l23 : S23.1.length = S.1.length + 64 := by rw [e23]; exact l22
  have hs : S23.1[o]? = some (.inl 12) := by rw [e23]; exact hs
  have hn1 : S23.1[S.1.length]? = some (.inl 11) := by rw [e23]; exact hn1
  have hn4 : S23.1[(S.1.length + 28)]? = some (.inl 11) := by rw [e23]; exact hn4
  refine q_aload_n 0 rfl rfl dX12_init_99 ?_
  refine q_sipush (v := (16000 : Int32)) (by decide) dX12_init_100 ?_
  refine q_newa2 (i := (16000 : Int32)) (t := 0) (len := 16000) l23 (by decide) rfl q_ac0 (by decide) (by decide) (by decide) (by decide) (by decide) (by omega) dX12_init_103 ?_
  obtain ⟨S24, e24⟩ : ∃ y, y = q_nw S23 (.inr (0, 16000)) := ⟨_, rfl⟩
  rw [← e24]
  have l24 : S24.1.length = S.1.length + 65 := by rw [e24]; rw [q_len_nw]; omega
  have hs : S24.1[o]? = some (.inl 12) := by rw [e24]; exact q_sh_nw hs
  have hn1 : S24.1[S.1.length]? = some (.inl 11) := by rw [e24]; exact q_sh_nw hn1
  have hn4 : S24.1[(S.1.length + 28)]? = some (.inl 11) := by rw [e24]; exact q_sh_nw hn4
  refine q_putFR hs (by decide) (by decide) rfl rfl rfl rfl lfX12_49 dX12_init_105 ?_
  obtain ⟨S25, e25⟩ : ∃ y, y = q_sR S24 o 17 (S.1.length + 64) := ⟨_, rfl⟩
  rw [← e25]
  have l25 : S25.1.length = S.1.length + 65 := by rw [e25]; exact l24
  have hs : S25.1[o]? = some (.inl 12) := by rw [e25]; exact hs
  have hn1 : S25.1[S.1.length]? = some (.inl 11) := by rw [e25]; exact hn1
  have hn4 : S25.1[(S.1.length + 28)]? = some (.inl 11) := by rw [e25]; exact hn4
  refine q_aload_n 0 rfl rfl dX12_init_108 ?_
  refine q_sipush (v := (16000 : Int32)) (by decide) dX12_init_109 ?_
  refine q_newa2 (i := (16000 : Int32)) (t := 0) (len := 16000) l25 (by decide) rfl q_ac0 (by decide) (by decide) (by decide) (by decide) (by decide) (by omega) dX12_init_112 ?_
  obtain ⟨S26, e26⟩ : ∃ y, y = q_nw S25 (.inr (0, 16000)) := ⟨_, rfl⟩
  rw [← e26]
  have l26 : S26.1.length = S.1.length + 66 := by rw [e26]; rw [q_len_nw]; omega
  have hs : S26.1[o]? = some (.inl 12) := by rw [e26]; exact q_sh_nw hs
  have hn1 : S26.1[S.1.length]? = some (.inl 11) := by rw [e26]; exact q_sh_nw hn1
  have hn4 : S26.1[(S.1.length + 28)]? = some (.inl 11) := by rw [e26]; exact q_sh_nw hn4
  refine q_putFR hs (by decide) (by decide) rfl rfl rfl rfl lfX12_52 dX12_init_114 ?_
  obtain ⟨S27, e27⟩ : ∃ y, y = q_sR S26 o 18 (S.1.length + 65) := ⟨_, rfl⟩
  rw [← e27]
  have l27 : S27.1.length = S.1.length + 66 := by rw [e27]; exact l26
  have hs : S27.1[o]? = some (.inl 12) := by rw [e27]; exact hs
  have hn1 : S27.1[S.1.length]? = some (.inl 11) := by rw [e27]; exact hn1
  have hn4 : S27.1[(S.1.length + 28)]? = some (.inl 11) := by rw [e27]; exact hn4
  refine q_aload_n 0 rfl rfl dX12_init_117 ?_
  refine q_sipush (v := (1024 : Int32)) (by decide) dX12_init_118 ?_
  refine q_newa2 (i := (1024 : Int32)) (t := 0) (len := 1024) l27 (by decide) rfl q_ac0 (by decide) (by decide) (by decide) (by decide) (by decide) (by omega) dX12_init_121 ?_
  obtain ⟨S28, e28⟩ : ∃ y, y = q_nw S27 (.inr (0, 1024)) := ⟨_, rfl⟩
  rw [← e28]
  have l28 : S28.1.length = S.1.length + 67 := by rw [e28]; rw [q_len_nw]; omega
  have hs : S28.1[o]? = some (.inl 12) := by rw [e28]; exact q_sh_nw hs
  have hn1 : S28.1[S.1.length]? = some (.inl 11) := by rw [e28]; exact q_sh_nw hn1
  have hn4 : S28.1[(S.1.length + 28)]? = some (.inl 11) := by rw [e28]; exact q_sh_nw hn4
  refine q_putFR hs (by decide) (by decide) rfl rfl rfl rfl lfX12_55 dX12_init_123 ?_
  obtain ⟨S29, e29⟩ : ∃ y, y = q_sR S28 o 20 (S.1.length + 66) := ⟨_, rfl⟩
  rw [← e29]
  have l29 : S29.1.length = S.1.length + 67 := by rw [e29]; exact l28
  have hs : S29.1[o]? = some (.inl 12) := by rw [e29]; exact hs
  have hn1 : S29.1[S.1.length]? = some (.inl 11) := by rw [e29]; exact hn1
  have hn4 : S29.1[(S.1.length + 28)]? = some (.inl 11) := by rw [e29]; exact hn4
  refine q_aload_n 0 rfl rfl dX12_init_126 ?_
  refine q_sipush (v := (1024 : Int32)) (by decide) dX12_init_127 ?_
  refine q_newa2 (i := (1024 : Int32)) (t := 0) (len := 1024) l29 (by decide) rfl q_ac0 (by decide) (by decide) (by decide) (by decide) (by decide) (by omega) dX12_init_130 ?_
  obtain ⟨S30, e30⟩ : ∃ y, y = q_nw S29 (.inr (0, 1024)) := ⟨_, rfl⟩
  rw [← e30]
  have l30 : S30.1.length = S.1.length + 68 := by rw [e30]; rw [q_len_nw]; omega
  have hs : S30.1[o]? = some (.inl 12) := by rw [e30]; exact q_sh_nw hs
  have hn1 : S30.1[S.1.length]? = some (.inl 11) := by rw [e30]; exact q_sh_nw hn1
  have hn4 : S30.1[(S.1.length + 28)]? = some (.inl 11) := by rw [e30]; exact q_sh_nw hn4
  refine q_putFR hs (by decide) (by decide) rfl rfl rfl rfl lfX12_58 dX12_init_132 ?_
  obtain ⟨S31, e31⟩ : ∃ y, y = q_sR S30 o 21 (S.1.length + 67) := ⟨_, rfl⟩
  rw [← e31]
  have l31 : S31.1.length = S.1.length + 68 := by rw [e31]; exact l30
  have hs : S31.1[o]? = some (.inl 12) := by rw [e31]; exact hs
  have hn1 : S31.1[S.1.length]? = some (.inl 11) := by rw [e31]; exact hn1
  have hn4 : S31.1[(S.1.length + 28)]? = some (.inl 11) := by rw [e31]; exact hn4
  refine q_aload_n 0 rfl rfl dX12_init_135 ?_
  refine q_bipush (v := (24 : Int32)) (by decide) dX12_init_136 ?_
  refine q_newa2 (i := (24 : Int32)) (t := 0) (len := 24) l31 (by decide) rfl q_ac0 (by decide) (by decide) (by decide) (by decide) (by decide) (by omega) dX12_init_138 ?_
  obtain ⟨S32, e32⟩ : ∃ y, y = q_nw S31 (.inr (0, 24)) := ⟨_, rfl⟩
  rw [← e32]
  have l32 : S32.1.length = S.1.length + 69 := by rw [e32]; rw [q_len_nw]; omega
  have hs : S32.1[o]? = some (.inl 12) := by rw [e32]; exact q_sh_nw hs
  have hn1 : S32.1[S.1.length]? = some (.inl 11) := by rw [e32]; exact q_sh_nw hn1
  have hn4 : S32.1[(S.1.length + 28)]? = some (.inl 11) := by rw [e32]; exact q_sh_nw hn4
  refine q_putFR hs (by decide) (by decide) rfl rfl rfl rfl lfX12_61 dX12_init_140 ?_
  obtain ⟨S33, e33⟩ : ∃ y, y = q_sR S32 o 22 (S.1.length + 68) := ⟨_, rfl⟩
  rw [← e33]
  have l33 : S33.1.length = S.1.length + 69 := by rw [e33]; exact l32
  have hs : S33.1[o]? = some (.inl 12) := by rw [e33]; exact hs
  have hn1 : S33.1[S.1.length]? = some (.inl 11) := by rw [e33]; exact hn1
  have hn4 : S33.1[(S.1.length + 28)]? = some (.inl 11) := by rw [e33]; exact hn4
  refine q_aload_n 0 rfl rfl dX12_init_143 ?_
  refine q_sipush (v := (768 : Int32)) (by decide) dX12_init_144 ?_
  refine q_newa2 (i := (768 : Int32)) (t := 2) (len := 768) l33 (by decide) rfl q_ac2 (by decide) (by decide) (by decide) (by decide) (by decide) (by omega) dX12_init_147 ?_
  obtain ⟨S34, e34⟩ : ∃ y, y = q_nw S33 (.inr (2, 768)) := ⟨_, rfl⟩
  rw [← e34]
  have l34 : S34.1.length = S.1.length + 70 := by rw [e34]; rw [q_len_nw]; omega
  have hs : S34.1[o]? = some (.inl 12) := by rw [e34]; exact q_sh_nw hs
  have hn1 : S34.1[S.1.length]? = some (.inl 11) := by rw [e34]; exact q_sh_nw hn1
  have hn4 : S34.1[(S.1.length + 28)]? = some (.inl 11) := by rw [e34]; exact q_sh_nw hn4
  refine q_putFR hs (by decide) (by decide) rfl rfl rfl rfl lfX12_64 dX12_init_149 ?_
  obtain ⟨S35, e35⟩ : ∃ y, y = q_sR S34 o 24 (S.1.length + 69) := ⟨_, rfl⟩
  rw [← e35]
  have l35 : S35.1.length = S.1.length + 70 := by rw [e35]; exact l34
  have hs : S35.1[o]? = some (.inl 12) := by rw [e35]; exact hs
  have hn1 : S35.1[S.1.length]? = some (.inl 11) := by rw [e35]; exact hn1
  have hn4 : S35.1[(S.1.length + 28)]? = some (.inl 11) := by rw [e35]; exact hn4
  refine q_aload_n 0 rfl rfl dX12_init_152 ?_
  refine q_sipush (v := (512 : Int32)) (by decide) dX12_init_153 ?_
  refine q_newa2 (i := (512 : Int32)) (t := 2) (len := 512) l35 (by decide) rfl q_ac2 (by decide) (by decide) (by decide) (by decide) (by decide) (by omega) dX12_init_156 ?_
  obtain ⟨S36, e36⟩ : ∃ y, y = q_nw S35 (.inr (2, 512)) := ⟨_, rfl⟩
  rw [← e36]
  have l36 : S36.1.length = S.1.length + 71 := by rw [e36]; rw [q_len_nw]; omega
  have hs : S36.1[o]? = some (.inl 12) := by rw [e36]; exact q_sh_nw hs
  have hn1 : S36.1[S.1.length]? = some (.inl 11) := by rw [e36]; exact q_sh_nw hn1
  have hn4 : S36.1[(S.1.length + 28)]? = some (.inl 11) := by rw [e36]; exact q_sh_nw hn4
  refine q_putFR hs (by decide) (by decide) rfl rfl rfl rfl lfX12_68 dX12_init_158 ?_
  obtain ⟨S37, e37⟩ : ∃ y, y = q_sR S36 o 25 (S.1.length + 70) := ⟨_, rfl⟩
  rw [← e37]
  have l37 : S37.1.length = S.1.length + 71 := by rw [e37]; exact l36
  have hs : S37.1[o]? = some (.inl 12) := by rw [e37]; exact hs
  have hn1 : S37.1[S.1.length]? = some (.inl 11) := by rw [e37]; exact hn1
  have hn4 : S37.1[(S.1.length + 28)]? = some (.inl 11) := by rw [e37]; exact hn4
  refine q_aload_n 0 rfl rfl dX12_init_161 ?_
  refine q_bipush (v := (64 : Int32)) (by decide) dX12_init_162 ?_
  refine q_newa2 (i := (64 : Int32)) (t := 0) (len := 64) l37 (by decide) rfl q_ac0 (by decide) (by decide) (by decide) (by decide) (by decide) (by omega) dX12_init_164 ?_
  obtain ⟨S38, e38⟩ : ∃ y, y = q_nw S37 (.inr (0, 64)) := ⟨_, rfl⟩
  rw [← e38]
  have l38 : S38.1.length = S.1.length + 72 := by rw [e38]; rw [q_len_nw]; omega
  have hs : S38.1[o]? = some (.inl 12) := by rw [e38]; exact q_sh_nw hs
  have hn1 : S38.1[S.1.length]? = some (.inl 11) := by rw [e38]; exact q_sh_nw hn1
  have hn4 : S38.1[(S.1.length + 28)]? = some (.inl 11) := by rw [e38]; exact q_sh_nw hn4
  refine q_putFR hs (by decide) (by decide) rfl rfl rfl rfl lfX12_71 dX12_init_166 ?_
  obtain ⟨S39, e39⟩ : ∃ y, y = q_sR S38 o 26 (S.1.length + 71) := ⟨_, rfl⟩
  rw [← e39]
  have l39 : S39.1.length = S.1.length + 72 := by rw [e39]; exact l38
  have hs : S39.1[o]? = some (.inl 12) := by rw [e39]; exact hs
  have hn1 : S39.1[S.1.length]? = some (.inl 11) := by rw [e39]; exact hn1
  have hn4 : S39.1[(S.1.length + 28)]? = some (.inl 11) := by rw [e39]; exact hn4
  refine q_aload_n 0 rfl rfl dX12_init_169 ?_
  refine q_bipush (v := (64 : Int32)) (by decide) dX12_init_170 ?_
  refine q_newa2 (i := (64 : Int32)) (t := 0) (len := 64) l39 (by decide) rfl q_ac0 (by decide) (by decide) (by decide) (by decide) (by decide) (by omega) dX12_init_172 ?_
  obtain ⟨S40, e40⟩ : ∃ y, y = q_nw S39 (.inr (0, 64)) := ⟨_, rfl⟩
  rw [← e40]
  have l40 : S40.1.length = S.1.length + 73 := by rw [e40]; rw [q_len_nw]; omega
  have hs : S40.1[o]? = some (.inl 12) := by rw [e40]; exact q_sh_nw hs
  have hn1 : S40.1[S.1.length]? = some (.inl 11) := by rw [e40]; exact q_sh_nw hn1
  have hn4 : S40.1[(S.1.length + 28)]? = some (.inl 11) := by rw [e40]; exact q_sh_nw hn4
  refine q_putFR hs (by decide) (by decide) rfl rfl rfl rfl lfX12_74 dX12_init_174 ?_
  obtain ⟨S41, e41⟩ : ∃ y, y = q_sR S40 o 27 (S.1.length + 72) := ⟨_, rfl⟩
  rw [← e41]
  have l41 : S41.1.length = S.1.length + 73 := by rw [e41]; exact l40
  have hs : S41.1[o]? = some (.inl 12) := by rw [e41]; exact hs
  have hn1 : S41.1[S.1.length]? = some (.inl 11) := by rw [e41]; exact hn1
  have hn4 : S41.1[(S.1.length + 28)]? = some (.inl 11) := by rw [e41]; exact hn4
  refine q_aload_n 0 rfl rfl dX12_init_177 ?_
  refine q_sipush (v := (2000 : Int32)) (by decide) dX12_init_178 ?_
  refine q_newa2 (i := (2000 : Int32)) (t := 0) (len := 2000) l41 (by decide) rfl q_ac0 (by decide) (by decide) (by decide) (by decide) (by decide) (by omega) dX12_init_181 ?_
  obtain ⟨S42, e42⟩ : ∃ y, y = q_nw S41 (.inr (0, 2000)) := ⟨_, rfl⟩
  rw [← e42]
  have l42 : S42.1.length = S.1.length + 74 := by rw [e42]; rw [q_len_nw]; omega
  have hs : S42.1[o]? = some (.inl 12) := by rw [e42]; exact q_sh_nw hs
  have hn1 : S42.1[S.1.length]? = some (.inl 11) := by rw [e42]; exact q_sh_nw hn1
  have hn4 : S42.1[(S.1.length + 28)]? = some (.inl 11) := by rw [e42]; exact q_sh_nw hn4
  refine q_putFR hs (by decide) (by decide) rfl rfl rfl rfl lfX12_77 dX12_init_183 ?_
  obtain ⟨S43, e43⟩ : ∃ y, y = q_sR S42 o 28 (S.1.length + 73) := ⟨_, rfl⟩
  rw [← e43]
  have l43 : S43.1.length = S.1.length + 74 := by rw [e43]; exact l42
  have hs : S43.1[o]? = some (.inl 12) := by rw [e43]; exact hs
  have hn1 : S43.1[S.1.length]? = some (.inl 11) := by rw [e43]; exact hn1
  have hn4 : S43.1[(S.1.length + 28)]? = some (.inl 11) := by rw [e43]; exact hn4
  refine q_aload_n 0 rfl rfl dX12_init_186 ?_
  refine q_sipush (v := (2000 : Int32)) (by decide) dX12_init_187 ?_
  refine q_newa2 (i := (2000 : Int32)) (t := 0) (len := 2000) l43 (by decide) rfl q_ac0 (by decide) (by decide) (by decide) (by decide) (by decide) (by omega) dX12_init_190 ?_
  obtain ⟨S44, e44⟩ : ∃ y, y = q_nw S43 (.inr (0, 2000)) := ⟨_, rfl⟩
  rw [← e44]
  have l44 : S44.1.length = S.1.length + 75 := by rw [e44]; rw [q_len_nw]; omega
  have hs : S44.1[o]? = some (.inl 12) := by rw [e44]; exact q_sh_nw hs
  have hn1 : S44.1[S.1.length]? = some (.inl 11) := by rw [e44]; exact q_sh_nw hn1
  have hn4 : S44.1[(S.1.length + 28)]? = some (.inl 11) := by rw [e44]; exact q_sh_nw hn4
  refine q_putFR hs (by decide) (by decide) rfl rfl rfl rfl lfX12_80 dX12_init_192 ?_
  obtain ⟨S45, e45⟩ : ∃ y, y = q_sR S44 o 29 (S.1.length + 74) := ⟨_, rfl⟩
  rw [← e45]
  have l45 : S45.1.length = S.1.length + 75 := by rw [e45]; exact l44
  have hs : S45.1[o]? = some (.inl 12) := by rw [e45]; exact hs
  have hn1 : S45.1[S.1.length]? = some (.inl 11) := by rw [e45]; exact hn1
  have hn4 : S45.1[(S.1.length + 28)]? = some (.inl 11) := by rw [e45]; exact hn4
  refine q_aload_n 0 rfl rfl dX12_init_195 ?_
  refine q_sipush (v := (2000 : Int32)) (by decide) dX12_init_196 ?_
  refine q_newa2 (i := (2000 : Int32)) (t := 0) (len := 2000) l45 (by decide) rfl q_ac0 (by decide) (by decide) (by decide) (by decide) (by decide) (by omega) dX12_init_199 ?_
  obtain ⟨S46, e46⟩ : ∃ y, y = q_nw S45 (.inr (0, 2000)) := ⟨_, rfl⟩
  rw [← e46]
  have l46 : S46.1.length = S.1.length + 76 := by rw [e46]; rw [q_len_nw]; omega
  have hs : S46.1[o]? = some (.inl 12) := by rw [e46]; exact q_sh_nw hs
  have hn1 : S46.1[S.1.length]? = some (.inl 11) := by rw [e46]; exact q_sh_nw hn1
  have hn4 : S46.1[(S.1.length + 28)]? = some (.inl 11) := by rw [e46]; exact q_sh_nw hn4
  refine q_putFR hs (by decide) (by decide) rfl rfl rfl rfl lfX12_83 dX12_init_201 ?_
  obtain ⟨S47, e47⟩ : ∃ y, y = q_sR S46 o 30 (S.1.length + 75) := ⟨_, rfl⟩
  rw [← e47]
  have l47 : S47.1.length = S.1.length + 76 := by rw [e47]; exact l46
  have hs : S47.1[o]? = some (.inl 12) := by rw [e47]; exact hs
  have hn1 : S47.1[S.1.length]? = some (.inl 11) := by rw [e47]; exact hn1
  have hn4 : S47.1[(S.1.length + 28)]? = some (.inl 11) := by rw [e47]; exact hn4
  refine q_aload_n 0 rfl rfl dX12_init_204 ?_
  refine q_sipush (v := (2000 : Int32)) (by decide) dX12_init_205 ?_
  refine q_newa2 (i := (2000 : Int32)) (t := 0) (len := 2000) l47 (by decide) rfl q_ac0 (by decide) (by decide) (by decide) (by decide) (by decide) (by omega) dX12_init_208 ?_
  obtain ⟨S48, e48⟩ : ∃ y, y = q_nw S47 (.inr (0, 2000)) := ⟨_, rfl⟩
  rw [← e48]
  have l48 : S48.1.length = S.1.length + 77 := by rw [e48]; rw [q_len_nw]; omega
  have hs : S48.1[o]? = some (.inl 12) := by rw [e48]; exact q_sh_nw hs
  have hn1 : S48.1[S.1.length]? = some (.inl 11) := by rw [e48]; exact q_sh_nw hn1
  have hn4 : S48.1[(S.1.length + 28)]? = some (.inl 11) := by rw [e48]; exact q_sh_nw hn4
  refine q_putFR hs (by decide) (by decide) rfl rfl rfl rfl lfX12_86 dX12_init_210 ?_
  obtain ⟨S49, e49⟩ : ∃ y, y = q_sR S48 o 31 (S.1.length + 76) := ⟨_, rfl⟩
  rw [← e49]
  have l49 : S49.1.length = S.1.length + 77 := by rw [e49]; exact l48
  have hs : S49.1[o]? = some (.inl 12) := by rw [e49]; exact hs
  have hn1 : S49.1[S.1.length]? = some (.inl 11) := by rw [e49]; exact hn1
  have hn4 : S49.1[(S.1.length + 28)]? = some (.inl 11) := by rw [e49]; exact hn4
  refine q_aload_n 0 rfl rfl dX12_init_213 ?_
  refine q_sipush (v := (12000 : Int32)) (by decide) dX12_init_214 ?_
  refine q_newa2 (i := (12000 : Int32)) (t := 2) (len := 12000) l49 (by decide) rfl q_ac2 (by decide) (by decide) (by decide) (by decide) (by decide) (by omega) dX12_init_217 ?_
  obtain ⟨S50, e50⟩ : ∃ y, y = q_nw S49 (.inr (2, 12000)) := ⟨_, rfl⟩
  rw [← e50]
  have l50 : S50.1.length = S.1.length + 78 := by rw [e50]; rw [q_len_nw]; omega
  have hs : S50.1[o]? = some (.inl 12) := by rw [e50]; exact q_sh_nw hs
  have hn1 : S50.1[S.1.length]? = some (.inl 11) := by rw [e50]; exact q_sh_nw hn1
  have hn4 : S50.1[(S.1.length + 28)]? = some (.inl 11) := by rw [e50]; exact q_sh_nw hn4
  refine q_putFR hs (by decide) (by decide) rfl rfl rfl rfl lfX12_89 dX12_init_219 ?_
  obtain ⟨S51, e51⟩ : ∃ y, y = q_sR S50 o 32 (S.1.length + 77) := ⟨_, rfl⟩
  rw [← e51]
  have l51 : S51.1.length = S.1.length + 78 := by rw [e51]; exact l50
  have hs : S51.1[o]? = some (.inl 12) := by rw [e51]; exact hs
  have hn1 : S51.1[S.1.length]? = some (.inl 11) := by rw [e51]; exact hn1
  have hn4 : S51.1[(S.1.length + 28)]? = some (.inl 11) := by rw [e51]; exact hn4
  refine q_aload_n 0 rfl rfl dX12_init_222 ?_
  refine q_sipush (v := (256 : Int32)) (by decide) dX12_init_223 ?_
  refine q_newa2 (i := (256 : Int32)) (t := 0) (len := 256) l51 (by decide) rfl q_ac0 (by decide) (by decide) (by decide) (by decide) (by decide) (by omega) dX12_init_226 ?_
  obtain ⟨S52, e52⟩ : ∃ y, y = q_nw S51 (.inr (0, 256)) := ⟨_, rfl⟩
  rw [← e52]
  have l52 : S52.1.length = S.1.length + 79 := by rw [e52]; rw [q_len_nw]; omega
  have hs : S52.1[o]? = some (.inl 12) := by rw [e52]; exact q_sh_nw hs
  have hn1 : S52.1[S.1.length]? = some (.inl 11) := by rw [e52]; exact q_sh_nw hn1
  have hn4 : S52.1[(S.1.length + 28)]? = some (.inl 11) := by rw [e52]; exact q_sh_nw hn4
  refine q_putFR hs (by decide) (by decide) rfl rfl rfl rfl lfX12_92 dX12_init_228 ?_
  obtain ⟨S53, e53⟩ : ∃ y, y = q_sR S52 o 33 (S.1.length + 78) := ⟨_, rfl⟩
  rw [← e53]
  have l53 : S53.1.length = S.1.length + 79 := by rw [e53]; exact l52
  have hs : S53.1[o]? = some (.inl 12) := by rw [e53]; exact hs
  have hn1 : S53.1[S.1.length]? = some (.inl 11) := by rw [e53]; exact hn1
  have hn4 : S53.1[(S.1.length + 28)]? = some (.inl 11) := by rw [e53]; exact hn4
  refine q_aload_n 0 rfl rfl dX12_init_231 ?_
  refine q_sipush (v := (256 : Int32)) (by decide) dX12_init_232 ?_
  refine q_newa2 (i := (256 : Int32)) (t := 0) (len := 256) l53 (by decide) rfl q_ac0 (by decide) (by decide) (by decide) (by decide) (by decide) (by omega) dX12_init_235 ?_
  obtain ⟨S54, e54⟩ : ∃ y, y = q_nw S53 (.inr (0, 256)) := ⟨_, rfl⟩
  rw [← e54]
  have l54 : S54.1.length = S.1.length + 80 := by rw [e54]; rw [q_len_nw]; omega
  have hs : S54.1[o]? = some (.inl 12) := by rw [e54]; exact q_sh_nw hs
  have hn1 : S54.1[S.1.length]? = some (.inl 11) := by rw [e54]; exact q_sh_nw hn1
  have hn4 : S54.1[(S.1.length + 28)]? = some (.inl 11) := by rw [e54]; exact q_sh_nw hn4
  refine q_putFR hs (by decide) (by decide) rfl rfl rfl rfl lfX12_95 dX12_init_237 ?_
  obtain ⟨S55, e55⟩ : ∃ y, y = q_sR S54 o 34 (S.1.length + 79) := ⟨_, rfl⟩
  rw [← e55]
  have l55 : S55.1.length = S.1.length + 80 := by rw [e55]; exact l54
  have hs : S55.1[o]? = some (.inl 12) := by rw [e55]; exact hs
  have hn1 : S55.1[S.1.length]? = some (.inl 11) := by rw [e55]; exact hn1
  have hn4 : S55.1[(S.1.length + 28)]? = some (.inl 11) := by rw [e55]; exact hn4
  refine q_aload_n 0 rfl rfl dX12_init_240 ?_
  refine q_iconst (v := (-1 : Int32)) (by decide) dX12_init_241 ?_
  refine q_putI hs (by decide) (by decide) rfl rfl ⟨rfl, rfl⟩ lfX12_98 dX12_init_242 ?_
  obtain ⟨S56, e56⟩ : ∃ y, y = q_sI S55 o 42 (-1 : Int32) := ⟨_, rfl⟩
  rw [← e56]
  have l56 : S56.1.length = S.1.length + 80 := by rw [e56]; exact l55
  have hs : S56.1[o]? = some (.inl 12) := by rw [e56]; exact hs
  have hn1 : S56.1[S.1.length]? = some (.inl 11) := by rw [e56]; exact hn1
  have hn4 : S56.1[(S.1.length + 28)]? = some (.inl 11) := by rw [e56]; exact hn4
  refine q_aload_n 0 rfl rfl dX12_init_245 ?_
  refine q_iconst (v := (-1 : Int32)) (by decide) dX12_init_246 ?_
  refine q_putI hs (by decide) (by decide) rfl rfl ⟨rfl, rfl⟩ lfX12_101 dX12_init_247 ?_
  obtain ⟨S57, e57⟩ : ∃ y, y = q_sI S56 o 43 (-1 : Int32) := ⟨_, rfl⟩
  rw [← e57]
  have l57 : S57.1.length = S.1.length + 80 := by rw [e57]; exact l56
  have hs : S57.1[o]? = some (.inl 12) := by rw [e57]; exact hs
  have hn1 : S57.1[S.1.length]? = some (.inl 11) := by rw [e57]; exact hn1
  have hn4 : S57.1[(S.1.length + 28)]? = some (.inl 11) := by rw [e57]; exact hn4
  refine q_vret rfl dX12_init_250 ?_
  try subst e57
  try subst e56
  try subst e55
  try subst e54
  try subst e53
  try subst e52
  try subst e51
  try subst e50
  try subst e49
  try subst e48
  try subst e47
  try subst e46
  try subst e45
  try subst e44
  try subst e43
  try subst e42
  try subst e41
  try subst e40
  try subst e39
  try subst e38
  try subst e37
  try subst e36
  try subst e35
  try subst e34
  try subst e33
  try subst e32
  try subst e31
  try subst e30
  try subst e29
  try subst e28
  try subst e27
  try subst e26
  try subst e25
  try subst e24
  try subst e23
  try subst e22
  try subst e21
  try subst e20
  try subst e19
  try subst e18
  try subst e17
  try subst e16
  try subst e15
  try subst e14
  try subst e13
  try subst e12
  try subst e11
  try subst e10
  try subst e9
  try subst e8
  try subst e7
  try subst e6
  try subst e5
  try subst e4
  try subst e3
  try subst e2
  try subst e1
  try subst_vars
  exact hQ
