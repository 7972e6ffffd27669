/-! ===== same texts, class names, types ===== -/
def k_same (B : Nat → Int32) (u v u' v' : Nat) : Bool := decide (v - u = v' - u') && z_ff (fun k => if B (u + k) = B (u' + k) then none else some false) true 0 (v - u)
theorem k_same_iff {B : Nat → Int32} {u v u' v' : Nat} : k_same B u v u' v' = true ↔ v - u = v' - u' ∧ ∀ k, k < v - u → B (u + k) = B (u' + k) := by
  rw [k_same, Bool.and_eq_true, decide_eq_true_eq, z_ff_all (fun k _ _ => by split; exact Or.inl rfl; exact Or.inr rfl)]
  refine and_congr_right (fun _ => ⟨fun h k hk => ?_, fun h k _ hk => if_pos (h k (by omega))⟩)
  have h2 := h k (Nat.zero_le _) (by omega)
  by_cases q : B (u + k) = B (u' + k)
  · exact q
  · rw [if_neg q] at h2
    cases h2
theorem k_same_symm {B : Nat → Int32} {u v u' v' : Nat} : k_same B u v u' v' = k_same B u' v' u v := by
  have : ∀ {u v u' v' : Nat}, k_same B u v u' v' = true → k_same B u' v' u v = true := by
    intro u v u' v' h
    rw [k_same_iff] at h ⊢
    exact ⟨h.1.symm, fun k hk => (h.2 k (by omega)).symm⟩
  rw [Bool.eq_iff_iff]
  exact ⟨this, this⟩
theorem k_same_trans {B : Nat → Int32} {u v u' v' w x : Nat} (h : k_same B u v u' v' = true) : k_same B u v w x = k_same B u' v' w x := by
  rw [Bool.eq_iff_iff, k_same_iff, k_same_iff]
  rw [k_same_iff] at h
  refine ⟨fun q => ⟨by omega, fun k hk => ?_⟩, fun q => ⟨by omega, fun k hk => ?_⟩⟩
  · rw [← h.2 k (by omega)]
    exact q.2 k (by omega)
  · rw [h.2 k hk]
    exact q.2 k (by omega)
theorem k_same_refl {B : Nat → Int32} {u v : Nat} : k_same B u v u v = true := k_same_iff.mpr ⟨rfl, fun _ _ => rfl⟩
theorem z_txt_iff {B : Nat → Int32} {u v : Nat} {w : List Int32} : z_txt B u v w = true ↔ v = u + w.length ∧ ∀ k, k < w.length → B (u + k) = w.getD k 0 := by
  refine ⟨z_txt_get, fun h => ?_⟩
  rw [z_txt, decide_eq_true h.1, Bool.true_and]
  refine (z_ff_all (fun k _ _ => by split; exact Or.inl rfl; exact Or.inr rfl)).mpr (fun k _ hk => if_pos (h.2 k (by omega)))
theorem k_same_txt {B : Nat → Int32} {u v u' v' : Nat} {w : List Int32} (h : k_same B u v u' v' = true) (h1 : u ≤ v) (h2 : u' ≤ v') : z_txt B u v w = z_txt B u' v' w := by
  rw [k_same_iff] at h
  rw [Bool.eq_iff_iff, z_txt_iff, z_txt_iff]
  refine ⟨fun q => ⟨by omega, fun k hk => ?_⟩, fun q => ⟨by omega, fun k hk => ?_⟩⟩
  · rw [← h.2 k (by omega)]
    exact q.2 k (by omega)
  · rw [h.2 k (by omega)]
    exact q.2 k (by omega)
theorem z_gap {a k u : Nat} (h : a ≤ k) : nI k + (nI u - nI a) = nI (u + (k - a)) := by
  have e : nI k = nI (k - a) + nI a := by rw [nI_add, Nat.sub_add_cancel h]
  rw [e, ← nI_add, Int32.add_assoc, Int32.add_comm (nI a), Int32.sub_add_cancel, Int32.add_comm]
def k_oI : Option Nat → Int32
  | none => -1
  | some k => nI k
def k_wi (B : Nat → Int32) (u v : Nat) : List (List Int32) → Nat → Option Nat
  | [], _ => none
  | w :: ws, i => if z_txt B u v w = true then some i else k_wi B u v ws (i + 1)
theorem z_wi_k {B : Nat → Int32} {u v : Nat} : ∀ (ws : List (List Int32)) (i : Nat), z_wi B u v ws i = k_oI (k_wi B u v ws i)
  | [], _ => rfl
  | w :: ws, i => by
    rw [z_wi, k_wi]
    split
    · rfl
    · exact z_wi_k ws (i + 1)
theorem k_wi_lt {B : Nat → Int32} {u v k : Nat} : ∀ (ws : List (List Int32)) (i : Nat), k_wi B u v ws i = some k → k < i + ws.length
  | [], _, h => by cases h
  | w :: ws, i, h => by
    rw [k_wi] at h
    split at h
    · cases h
      simp
    · have := k_wi_lt ws (i + 1) h
      simp only [List.length_cons]
      omega
theorem k_same_wi {B : Nat → Int32} {u v u' v' : Nat} (h : k_same B u v u' v' = true) (h1 : u ≤ v) (h2 : u' ≤ v') : ∀ (ws : List (List Int32)) (i : Nat), k_wi B u v ws i = k_wi B u' v' ws i
  | [], _ => rfl
  | w :: ws, i => by
    rw [k_wi, k_wi, k_same_txt h h1 h2, k_same_wi h h1 h2 ws]
section ZCLS
variable {C D : QS} {n T : Nat} {B : Nat → Int32} {a b : Nat → Nat}
theorem z_same {t u v : Nat} (hC : z_cX C n T B a b) (hG : z_gX n T B a b) (ht : t < T) (huv : u ≤ v) (hv : v ≤ n) : fX8_same C (nI t) (nI u) (nI v) = some (k_same B u v (a t) (b t)) := by
  have hn := hG.1
  have hT := hG.2.1
  have g := hG.2.2.2 t ht
  have e1 : ¬ nI T ≤ nI t := by rw [z_leN (by omega) (by omega)]; omega
  have e2 : ¬ nI n < nI v := by rw [z_ltN (by omega) (by omega)]; omega
  simp only [fX8_same, z_negN (show t < 2147483648 by omega), if_false, hC.2.1, if_neg e1, z_negN (show u < 2147483648 by omega), hC.1, if_neg e2, z_inbN (show t < 16000 by omega) (by decide), if_true, z_cl (show t < 2147483648 by omega), hC.2.2.2 t ht, z_subN huv, z_subN (Nat.le_of_lt g.1), z_eqN (show v - u < 2147483648 by omega) (show b t - a t < 2147483648 by omega)]
  by_cases h : v - u = b t - a t
  · rw [if_pos h, k_same, decide_eq_true h, Bool.true_and, fX8_same_63, h]
    refine (z_for (fun k => if B k = B (u + (k - a t)) then none else some false) true (a t) (b t - a t) (fun k k1 k2 => ?_) ?_).trans ?_
    · have g1 : ¬ nI (b t) ≤ nI k := by rw [z_leN (by omega) (by omega)]; omega
      simp only [tX8_same_63, z_inbN (show t < 16000 by omega) (by decide), if_true, z_cl (show t < 2147483648 by omega), hC.2.2.2 t ht, if_neg g1, z_gap k1, z_inbN (show k < 16000 by omega) (by decide), z_inbN (show u + (k - a t) < 16000 by omega) (by decide), z_cl (show k < 2147483648 by omega), z_cl (show u + (k - a t) < 2147483648 by omega), hC.2.2.1 k (by omega), hC.2.2.1 (u + (k - a t)) (by omega), nI_1]
      by_cases q : B k = B (u + (k - a t))
      · rw [if_pos q, if_pos q]
      · rw [if_neg q, if_neg q]
    · rw [show a t + (b t - a t) = b t by omega]
      simp only [tX8_same_63, z_inbN (show t < 16000 by omega) (by decide), if_true, z_cl (show t < 2147483648 by omega), hC.2.2.2 t ht]
      rw [if_pos (by rw [z_leN (by omega) (by omega)]; exact Nat.le_refl _)]
    · refine congrArg some (z_ff_shift (fun k hk => ?_))
      rw [show a t + k - a t = k by omega, Nat.zero_add]
      by_cases q : B (a t + k) = B (u + k)
      · rw [if_pos q, if_pos q.symm]
      · rw [if_neg q, if_neg (fun x => q x.symm)]
  · rw [if_neg h, k_same, decide_eq_false h, Bool.false_and]
theorem z_dSame {u v u' v' : Nat} (hD : z_dX D n T B a b) (hG : z_gX n T B a b) (huv : u ≤ v) (hv : v ≤ n) (huv' : u' ≤ v') (hv' : v' ≤ n) : fX12_isSame D (nI u) (nI v) (nI u') (nI v') = some (k_same B u v u' v') := by
  have hn := hG.1
  simp only [fX12_isSame, z_subN huv, z_subN huv', z_eqN (show v - u < 2147483648 by omega) (show v' - u' < 2147483648 by omega)]
  by_cases h : v - u = v' - u'
  · rw [if_pos h, k_same, decide_eq_true h, Bool.true_and, fX12_isSame_15]
    refine z_for _ true 0 (v - u) (fun k k1 k2 => ?_) ?_
    · have g1 : ¬ nI (v - u) ≤ nI k := by rw [z_leN (by omega) (by omega)]; omega
      simp only [tX12_isSame_15, z_subN huv, if_neg g1, nI_add, nI_1, z_inbN (show u + k < 16000 by omega) (by decide), z_inbN (show u' + k < 16000 by omega) (by decide), if_true, z_cl (show u + k < 2147483648 by omega), z_cl (show u' + k < 2147483648 by omega), hD.2.2.1 (u + k) (by omega), hD.2.2.1 (u' + k) (by omega)]
      by_cases q : B (u + k) = B (u' + k)
      · rw [if_pos q, if_pos q]
      · rw [if_neg q, if_neg q]
    · simp only [tX12_isSame_15, z_subN huv, Nat.zero_add]
      rw [if_pos (by rw [z_leN (by omega) (by omega)]; exact Nat.le_refl _)]
  · rw [if_neg h, k_same, decide_eq_false h, Bool.false_and]
theorem z_dSameTok {t t' : Nat} (hD : z_dX D n T B a b) (hG : z_gX n T B a b) (ht : t < T) (ht' : t' < T) : fX12_isSameToken D (nI t) (nI t') = some (k_same B (a t) (b t) (a t') (b t')) := by
  have hn := hG.1
  have hT := hG.2.1
  have g := hG.2.2.2 t ht
  have g' := hG.2.2.2 t' ht'
  simp only [fX12_isSameToken, z_inbN (show t < 16002 by omega) (by decide), z_inbN (show t' < 16002 by omega) (by decide), if_true, z_cl (show t < 2147483648 by omega), z_cl (show t' < 2147483648 by omega), hD.2.2.2 t ht, hD.2.2.2 t' ht', z_dSame hD hG (Nat.le_of_lt g.1) g.2.1 (Nat.le_of_lt g'.1) g'.2.1, Option.bind_some]
end ZCLS
/-- the classes of a program -/
def ZK : Type := Nat × (Nat → Nat) × (Nat → Nat)
def ZK.cc : ZK → Nat := fun (K : Nat × (Nat → Nat) × (Nat → Nat)) => K.1
def ZK.cw : ZK → Nat → Nat := fun (K : Nat × (Nat → Nat) × (Nat → Nat)) => K.2.1
def ZK.cp : ZK → Nat → Nat := fun (K : Nat × (Nat → Nat) × (Nat → Nat)) => K.2.2
/-- is d the class c, or above it -/
def k_anc (cp : Nat → Nat) (d : Nat) (c : Nat) : Bool :=
  if d = c then true else if h : 0 < c ∧ cp c < c then k_anc cp d (cp c) else false
termination_by c
decreasing_by exact h.2
theorem k_anc_self (cp : Nat → Nat) (c : Nat) : k_anc cp c c = true := by rw [k_anc, if_pos rfl]
theorem k_anc_up {cp : Nat → Nat} {d c : Nat} (h : d ≠ c) (h0 : 0 < c) (hc : cp c < c) : k_anc cp d c = k_anc cp d (cp c) := by
  conv => lhs; rw [k_anc]
  rw [if_neg h, dif_pos ⟨h0, hc⟩]
theorem k_anc_0 {cp : Nat → Nat} {d : Nat} (h : d ≠ 0) : k_anc cp d 0 = false := by
  rw [k_anc, if_neg h, dif_neg (by omega)]
theorem k_anc_le {cp : Nat → Nat} {d : Nat} : ∀ c, k_anc cp d c = true → d ≤ c := by
  intro c
  induction c using Nat.strongRecOn with
  | _ c ih =>
    intro h
    rw [k_anc] at h
    split at h
    · omega
    · split at h
      · next q =>
        have := ih _ q.2 h
        omega
      · cases h
theorem k_anc_congr {cp cp' : Nat → Nat} {d : Nat} : ∀ c, (∀ x, x ≤ c → cp x = cp' x) → k_anc cp d c = k_anc cp' d c := by
  intro c
  induction c using Nat.strongRecOn with
  | _ c ih =>
    intro h
    conv => lhs; rw [k_anc]
    conv => rhs; rw [k_anc]
    rw [h c (Nat.le_refl _)]
    split
    · rfl
    · split
      · next q => rw [ih _ q.2 (fun x hx => h x (by omega))]
      · rfl
def k_fnd (g : ZT) (cw : Nat → Nat) (u v lo m : Nat) : Option Nat := z_ff (fun c => if k_same g.2.1 u v (g.2.2.1 (cw c)) (g.2.2.2 (cw c)) = true then some (some c) else none) none lo m
/-- the class that a text names -/
def k_cls (g : ZT) (K : ZK) (u v : Nat) : Option Nat := (k_wi g.2.1 u v z_names 0).or (k_fnd g K.cw u v 8 (K.cc - 8))
theorem k_fnd_some {g : ZT} {cw : Nat → Nat} {u v c : Nat} : ∀ m lo, k_fnd g cw u v lo m = some c → lo ≤ c ∧ c < lo + m ∧ k_same g.2.1 u v (g.2.2.1 (cw c)) (g.2.2.2 (cw c)) = true := by
  intro m
  induction m with
  | zero => intro lo h; cases h
  | succ m ih =>
    intro lo h
    rw [k_fnd, z_ff] at h
    by_cases q : k_same g.2.1 u v (g.2.2.1 (cw lo)) (g.2.2.2 (cw lo)) = true
    · rw [if_pos q] at h
      cases h
      exact ⟨Nat.le_refl _, by omega, q⟩
    · rw [if_neg q] at h
      have := ih (lo + 1) h
      exact ⟨by omega, by omega, this.2.2⟩
theorem k_fnd_none {g : ZT} {cw : Nat → Nat} {u v : Nat} : ∀ m lo, k_fnd g cw u v lo m = none → ∀ c, lo ≤ c → c < lo + m → k_same g.2.1 u v (g.2.2.1 (cw c)) (g.2.2.2 (cw c)) = false := by
  intro m
  induction m with
  | zero => intro lo h c h1 h2; omega
  | succ m ih =>
    intro lo h c h1 h2
    rw [k_fnd, z_ff] at h
    by_cases q : k_same g.2.1 u v (g.2.2.1 (cw lo)) (g.2.2.2 (cw lo)) = true
    · rw [if_pos q] at h
      cases h
    · rw [if_neg q] at h
      by_cases e : c = lo
      · rw [e]; exact Bool.eq_false_iff.mpr q
      · exact ih (lo + 1) h c (by omega) (by omega)
theorem z_ff_nI {P : Nat → Bool} {d : Int32} : ∀ m lo, z_ff (fun c => if P c = true then some (nI c) else none) d lo m = ((z_ff (fun c => if P c = true then some (some c) else none) none lo m).map nI).getD d := by
  intro m
  induction m with
  | zero => intro lo; rfl
  | succ m ih =>
    intro lo
    simp only [z_ff]
    by_cases q : P lo = true
    · rw [if_pos q, if_pos q]; rfl
    · rw [if_neg q, if_neg q]; exact ih (lo + 1)
/-- what holds of the classes -/
def k_K (g : ZT) (K : ZK) : Prop := 8 ≤ K.cc ∧ K.cc ≤ 32 ∧ (∀ c, 0 < c → c < K.cc → K.cp c < c) ∧ (∀ c, 8 ≤ c → c < K.cc → K.cw c < g.1 ∧ k_wi g.2.1 (g.2.2.1 (K.cw c)) (g.2.2.2 (K.cw c)) z_names 0 = none) ∧ K.cp 1 = 0 ∧ ∀ c, 2 ≤ c → c < 8 → K.cp c = 1
def k_C (C : QS) (p : Nat) (K : ZK) : Prop := C.2.1 (p + 1) 0 = nI K.cc ∧ ∀ c, c < K.cc → C.2.1 (p + 2) c = (if c < 8 then -1 else nI (K.cw c)) ∧ C.2.1 (p + 3) c = (if c = 0 then -1 else nI (K.cp c)) ∧ ∀ d, d < 32 → ((C.2.1 (p + 4) c).toBitVec.getLsbD d = k_anc K.cp d c)
def k_D (D : QS) (q : Nat) (K : ZK) : Prop := D.2.1 q 0 = nI (K.cc - 8) ∧ ∀ c, c < K.cc → (8 ≤ c → D.2.1 163 c = nI (K.cw c)) ∧ D.2.1 (q + 1) c = (if c = 0 then -1 else nI (K.cp c))
theorem z_names_len : z_names.length = 8 := by decide
theorem z_namesOk : z_names.all z_nsp = true := by decide +kernel
theorem k_cls_lt {g : ZT} {K : ZK} {u v c : Nat} (h8 : 8 ≤ K.cc) (h : k_cls g K u v = some c) : c < K.cc := by
  rw [k_cls] at h
  cases hw : k_wi g.2.1 u v z_names 0 with
  | some k =>
    rw [hw, Option.some_or] at h
    cases h
    have := k_wi_lt _ _ hw
    rw [z_names_len] at this
    omega
  | none =>
    rw [hw, Option.none_or] at h
    have := k_fnd_some _ _ h
    omega
theorem z_sKnown : z_S 1000048 (z_join z_names) := ⟨by decide +kernel, by decide +kernel, by decide +kernel⟩
theorem z_sKnown2 : z_S 1000088 (32 :: z_joinT z_names) := ⟨by decide +kernel, by decide +kernel, by decide +kernel⟩
section ZCLS2
variable {C D : QS} {n p q : Nat} {g : ZT} {K : ZK}
theorem z_classIn {u v : Nat} (hC : z_C C n g) (hG : z_G n g) (hK : k_K g K) (hk : k_C C p K) (huv : u ≤ v) (hv : v ≤ n) : fX4_classIn C p (nI u) (nI v) = some (k_oI (k_cls g K u v)) := by
  have hn := hG.1
  have hT := hG.2.1
  obtain ⟨k1, k2, k3, k4, -⟩ := hK
  obtain ⟨c1, c2⟩ := hk
  rw [fX4_classIn, fX4_classIn_3]
  show q_run _ (nI 8) = _
  refine (z_for (f := tX4_classIn_3 C p (nI u) (nI v)) (lo := 8) (m := K.cc - 8) (fun c => if k_same g.2.1 u v (g.2.2.1 (K.cw c)) (g.2.2.2 (K.cw c)) = true then some (nI c) else none) (z_wi g.2.1 u v z_names 0) (fun c h1 h2 => ?_) ?_).trans ?_
  · have g1 : ¬ nI K.cc ≤ nI c := by rw [z_leN (by omega) (by omega)]; omega
    have kc := k4 c h1 (by omega)
    have e1 : C.2.1 (p + 2) c = nI (K.cw c) := by rw [(c2 c (by omega)).1, if_neg (by omega)]
    simp only [tX4_classIn_3, c1, if_neg g1, z_inbN (show c < 32 by omega) (by decide), if_true, z_cl (show c < 2147483648 by omega), e1, z_same hC hG kc.1 huv hv, Option.bind_some, nI_1]
    by_cases x : k_same g.2.1 u v (g.2.2.1 (K.cw c)) (g.2.2.2 (K.cw c)) = true
    · rw [if_pos x, if_pos x]
    · rw [if_neg x, if_neg x]
  · rw [show 8 + (K.cc - 8) = K.cc by omega]
    simp only [tX4_classIn_3, c1]
    rw [if_pos (by rw [z_leN (by omega) (by omega)]; exact Nat.le_refl _), z_numberIn hC hG z_sKnown z_namesOk (by decide) (by omega) hv, Option.bind_some]
  · rw [z_ff_nI, z_wi_k]
    refine congrArg some ?_
    show ((k_fnd g K.cw u v 8 (K.cc - 8)).map nI).getD _ = _
    rw [k_cls]
    cases hf : k_fnd g K.cw u v 8 (K.cc - 8) with
    | none =>
      rw [Option.or_none]
      rfl
    | some c =>
      obtain ⟨f1, f2, f3⟩ := k_fnd_some _ _ hf
      have kc := k4 c f1 (by omega)
      have gt := hG.2.2.2 (K.cw c) kc.1
      rw [k_same_wi f3 huv (Nat.le_of_lt gt.1), kc.2]
      rfl
theorem z_classOf {u v : Nat} (hD : z_D D n g) (hG : z_G n g) (hK : k_K g K) (hk : k_D D q K) (huv : u ≤ v) (hv : v ≤ n) : fX12_classOf D q (nI u) (nI v) = some (k_oI (k_cls g K u v)) := by
  have hn := hG.1
  have hT := hG.2.1
  obtain ⟨k1, k2, k3, k4, -⟩ := hK
  obtain ⟨c1, c2⟩ := hk
  rw [fX12_classOf, z_among hD hG z_sKnown2 z_namesOk huv hv, Option.bind_some, z_wi_k, k_cls]
  cases hw : k_wi g.2.1 u v z_names 0 with
  | some k =>
    have hl := k_wi_lt _ _ hw
    rw [z_names_len] at hl
    rw [Option.some_or]
    show (if nI k < 0 then _ else _) = _
    rw [if_neg (nI_pos (by omega))]
  | none =>
    rw [Option.none_or]
    show (if (-1 : Int32) < 0 then _ else _) = _
    rw [if_pos (by decide), fX12_classOf_22]
    show q_run _ (nI 8) = _
    refine (z_for (f := tX12_classOf_22 D q (nI u) (nI v)) (lo := 8) (m := K.cc - 8) (fun c => if k_same g.2.1 u v (g.2.2.1 (K.cw c)) (g.2.2.2 (K.cw c)) = true then some (nI c) else none) (-1) (fun c h1 h2 => ?_) ?_).trans ?_
    · have e0 : (8 : Int32) + nI (K.cc - 8) = nI K.cc := by
        rw [show (8 : Int32) = nI 8 from rfl, nI_add, show 8 + (K.cc - 8) = K.cc by omega]
      have g1 : ¬ nI K.cc ≤ nI c := by rw [z_leN (by omega) (by omega)]; omega
      have kc := k4 c h1 (by omega)
      have gt := hG.2.2.2 (K.cw c) kc.1
      have dt := hD.2.2.2 (K.cw c) kc.1
      have e1 : D.2.1 163 c = nI (K.cw c) := (c2 c (by omega)).1 h1
      simp only [tX12_classOf_22, fX12_classCount, c1, Option.bind_some, e0, if_neg g1, z_inbN (show c < 32 by omega) (by decide), if_true, z_cl (show c < 2147483648 by omega), e1, z_inbN (show K.cw c < 16002 by omega) (by decide), z_cl (show K.cw c < 2147483648 by omega), dt.1, dt.2, z_dSame hD hG huv hv (Nat.le_of_lt gt.1) gt.2.1, nI_1]
      by_cases x : k_same g.2.1 u v (g.2.2.1 (K.cw c)) (g.2.2.2 (K.cw c)) = true
      · rw [if_pos x, if_pos x]
      · rw [if_neg x, if_neg x]
    · have e0 : (8 : Int32) + nI (K.cc - 8) = nI K.cc := by
        rw [show (8 : Int32) = nI 8 from rfl, nI_add, show 8 + (K.cc - 8) = K.cc by omega]
      rw [show 8 + (K.cc - 8) = K.cc by omega]
      simp only [tX12_classOf_22, fX12_classCount, c1, Option.bind_some, e0]
      rw [if_pos (by rw [z_leN (by omega) (by omega)]; exact Nat.le_refl _)]
    · rw [z_ff_nI]
      show some (((k_fnd g K.cw u v 8 (K.cc - 8)).map nI).getD _) = _
      cases k_fnd g K.cw u v 8 (K.cc - 8) <;> rfl
end ZCLS2
