/-! ===== the run: values, and what the small steps do ===== -/
theorem lg_3 (x y : Int64) : (y.toInt < x.toInt ∧ lg_cmp x y = 1) ∨ (x.toInt = y.toInt ∧ lg_cmp x y = 0) ∨ (x.toInt < y.toInt ∧ lg_cmp x y = -1) := by
  unfold lg_cmp
  by_cases c : x > y
  · exact Or.inl ⟨Int64.lt_iff_toInt_lt.mp c, if_pos c⟩
  · right
    rw [if_neg c]
    have c' : ¬ y.toInt < x.toInt := fun h => c (Int64.lt_iff_toInt_lt.mpr h)
    by_cases e : x = y
    · left; rw [if_pos e]; exact ⟨by rw [e], rfl⟩
    · right; rw [if_neg e]
      have : x.toInt ≠ y.toInt := fun h => e (Int64.toInt_inj.mp h)
      exact ⟨by omega, rfl⟩
theorem lg_eq {x y : Int64} : (lg_cmp x y = 0) = (x.toInt = y.toInt) := by
  apply propext
  rcases lg_3 x y with ⟨a, b⟩ | ⟨a, b⟩ | ⟨a, b⟩ <;> rw [b]
  · exact ⟨fun h => absurd h (by decide), fun h => by omega⟩
  · exact ⟨fun _ => a, fun _ => rfl⟩
  · exact ⟨fun h => absurd h (by decide), fun h => by omega⟩
theorem lg_lt {x y : Int64} : (lg_cmp x y < 0) = (x.toInt < y.toInt) := by
  apply propext
  rcases lg_3 x y with ⟨a, b⟩ | ⟨a, b⟩ | ⟨a, b⟩ <;> rw [b]
  · exact ⟨fun h => absurd h (by decide), fun h => by omega⟩
  · exact ⟨fun h => absurd h (by decide), fun h => by omega⟩
  · exact ⟨fun _ => a, fun _ => by decide⟩
theorem lg_gt {x y : Int64} : (0 < lg_cmp x y) = (y.toInt < x.toInt) := by
  apply propext
  rcases lg_3 x y with ⟨a, b⟩ | ⟨a, b⟩ | ⟨a, b⟩ <;> rw [b]
  · exact ⟨fun _ => a, fun _ => by decide⟩
  · exact ⟨fun h => absurd h (by decide), fun h => by omega⟩
  · exact ⟨fun h => absurd h (by decide), fun h => by omega⟩
theorem lg_le {x y : Int64} : (lg_cmp x y ≤ 0) = (x.toInt ≤ y.toInt) := by
  apply propext
  rcases lg_3 x y with ⟨a, b⟩ | ⟨a, b⟩ | ⟨a, b⟩ <;> rw [b]
  · exact ⟨fun h => absurd h (by decide), fun h => by omega⟩
  · exact ⟨fun _ => by omega, fun _ => by decide⟩
  · exact ⟨fun _ => by omega, fun _ => by decide⟩
theorem lg_ge {x y : Int64} : (0 ≤ lg_cmp x y) = (y.toInt ≤ x.toInt) := by
  apply propext
  rcases lg_3 x y with ⟨a, b⟩ | ⟨a, b⟩ | ⟨a, b⟩ <;> rw [b]
  · exact ⟨fun _ => by omega, fun _ => by decide⟩
  · exact ⟨fun _ => by omega, fun _ => by decide⟩
  · exact ⟨fun h => absurd h (by decide), fun h => by omega⟩
theorem i64_int (c : Int32) : c.toInt64.toInt = c.toInt := Int32.toInt_toInt64 c
theorem i64_back (c : Int32) : c.toInt64.toInt32 = c := by simp
theorem i32_rng (c : Int32) : -2147483648 ≤ c.toInt ∧ c.toInt < 2147483648 := ⟨Int32.le_toInt c, Int32.toInt_lt c⟩
theorem i64_ref {o : Nat} (ho : o ≤ 2000) : ((1099511627776 : Int64) + (nI o).toInt64).toInt = 1099511627776 + o := by
  rw [Int64.toInt_add, i64_int, nI_toInt (by omega), show (1099511627776 : Int64).toInt = 1099511627776 from rfl]
  exact Int.bmod_eq_of_le (by omega) (by omega)
theorem i64_obj {o : Nat} (h1 : 1 ≤ o) (ho : o ≤ 2000) : (((1099511627776 : Int64) + (nI o).toInt64) - (1099511627776 : Int64) - (1 : Int64)).toInt32 = nI (o - 1) := by
  apply Int32.toInt_inj.mp
  have e1 : (((1099511627776 : Int64) + (nI o).toInt64) - (1099511627776 : Int64)).toInt = o := by
    rw [Int64.toInt_sub, i64_ref ho, show (1099511627776 : Int64).toInt = 1099511627776 from rfl, Int.bmod_eq_of_le (by omega) (by omega)]
    omega
  have e2 : (((1099511627776 : Int64) + (nI o).toInt64) - (1099511627776 : Int64) - (1 : Int64)).toInt = (o - 1 : Int) := by
    rw [Int64.toInt_sub, e1, show (1 : Int64).toInt = 1 from rfl, Int.bmod_eq_of_le (by omega) (by omega)]
  rw [Int64.toInt_toInt32, e2, nI_toInt (by omega), Int.bmod_eq_of_le (by omega) (by omega)]
  omega
theorem i64_big : (1125899906842624 : Int64).toInt = 1125899906842624 ∧ (1099511627776 : Int64).toInt = 1099511627776 ∧ (0 : Int64).toInt = 0 := ⟨rfl, rfl, rfl⟩
/-- the type of an object; of null, where there is none -/
def r_th (H : ZH) (o : Nat) : Nat := if o = 0 then 65 else H.th o
/-- a value as it may lie in a cell -/
def r_vo (H : ZH) (x : Nat × Int32) : Prop := x.1 = 66 ∨ x.1 = 67 ∨ ∃ o, o ≤ H.n ∧ x = (r_th H o, nI o)
/-- the objects have types of objects -/
def r_ob (K : ZK) (H : ZH) : Prop := H.n ≤ 2000 ∧ ∀ o, 1 ≤ o → o ≤ H.n → k_tok K (H.th o) ∧ H.th o ≤ 64
theorem r_th_0 {H : ZH} : r_th H 0 = 65 := if_pos rfl
theorem r_th_p {H : ZH} {o : Nat} (h : 1 ≤ o) : r_th H o = H.th o := if_neg (by omega)
theorem r_th_le {K : ZK} {H : ZH} {o : Nat} (B : r_ob K H) (h : o ≤ H.n) : r_th H o ≤ 65 := by
  rw [r_th]
  split
  · omega
  · have := (B.2 o (by omega) h).2; omega
theorem r_th_vt {K : ZK} {H : ZH} {o : Nat} (B : r_ob K H) (h : o ≤ H.n) : k_vt K (r_th H o) := by
  rw [r_th]
  split
  · exact Or.inr (Or.inl rfl)
  · exact Or.inl (B.2 o (by omega) h).1
theorem r_vo.le {K : ZK} {H : ZH} {x : Nat × Int32} (B : r_ob K H) (h : r_vo H x) : x.1 ≤ 67 := by
  rcases h with h | h | ⟨o, h1, h2⟩
  · omega
  · omega
  · rw [h2]; have := r_th_le B h1; show r_th H o ≤ 67; omega
theorem r_vo.vt {K : ZK} {H : ZH} {x : Nat × Int32} (B : r_ob K H) (h : r_vo H x) : k_vt K x.1 := by
  rcases h with h | h | ⟨o, h1, h2⟩
  · exact Or.inl (Or.inr (Or.inr (Or.inr h)))
  · exact Or.inr (Or.inr h)
  · rw [h2]; exact r_th_vt B h1
theorem r_vo.ref {H : ZH} {x : Nat × Int32} (h : r_vo H x) (hx : x.1 ≤ 65) : ∃ o, o ≤ H.n ∧ x = (r_th H o, nI o) := by
  rcases h with h | h | h
  · omega
  · omega
  · exact h
theorem r_e_i {x : Nat × Int32} (h : x.1 = 66) : r_e x = x.2.toInt64 := if_pos h
theorem r_e_u {x : Nat × Int32} (h : x.1 = 67) : r_e x = 1125899906842624 := by rw [r_e, if_neg (by omega), if_pos h]
theorem r_e_r {K : ZK} {H : ZH} {o : Nat} (B : r_ob K H) (h : o ≤ H.n) : r_e (r_th H o, nI o) = 1099511627776 + (nI o).toInt64 := by
  have := r_th_le B h
  rw [r_e, if_neg (show ¬ r_th H o = 66 by omega), if_neg (show ¬ r_th H o = 67 by omega)]
theorem r_e_ri {K : ZK} {H : ZH} {o : Nat} (B : r_ob K H) (h : o ≤ H.n) : (r_e (r_th H o, nI o)).toInt = 1099511627776 + o := by
  rw [r_e_r B h, i64_ref (by have := B.1; omega)]
theorem r_e_null {K : ZK} {H : ZH} {o : Nat} (B : r_ob K H) (h : o ≤ H.n) : (lg_cmp (r_e (r_th H o, nI o)) (1099511627776 : Int64) = 0) = (o = 0) := by
  rw [lg_eq, r_e_ri B h, i64_big.2.1]
  apply propext
  omega
theorem r_e_obj {K : ZK} {H : ZH} {o : Nat} {S : QS} (B : r_ob K H) (h : o ≤ H.n) (h1 : 1 ≤ o) : fX12_objectOf S (r_e (r_th H o, nI o)) = some (nI (o - 1)) := by
  rw [fX12_objectOf, r_e_r B h, i64_obj h1 (by have := B.1; omega)]
theorem r_blw66 {K : ZK} {x : Nat} (h : k_blw K x 66 = true) : x = 66 := by
  rcases k_blw_iff.mp h with h | h | h
  · exact h
  · omega
  · omega
theorem r_blw65 {K : ZK} {x t : Nat} (h : k_blw K x t = true) (ht : t ≤ 65) : x ≤ 65 := by
  rcases k_blw_iff.mp h with h | h | h
  · omega
  · omega
  · omega
theorem r_blwn {K : ZK} {x : Nat} (hK : K.cc ≤ 32) (h : k_blw K x 65 = true) : x = 65 := by
  rcases k_blw_iff.mp h with h | h | ⟨a, b, c⟩
  · omega
  · omega
  · rcases c with c | c | c | c <;> omega
section ZRV
variable {p q n m : Nat} {g : ZT} {K : ZK} {M : ZM} {P : ZP} {hh : Nat → Nat → Int32} {R : Nat → Nat → Bool} {T : Nat → Nat → Nat → Nat} {Cx Dx C D : QS} {d : Nat} {h : Nat → Nat} {V : Nat → Nat → Nat × Int32} {pa pd : Nat → Nat} {H : ZH} {X : ZX} {to pl : Nat}
theorem r_isOf {x : Nat × Int32} {t : Nat} (W : r_W p q n g K M P m hh R T Cx Dx) (e : r_gD q Dx D) (B : r_ob K H) (eH : ∀ o, 1 ≤ o → o ≤ H.n → D.2.1 176 (o - 1) = k_y (H.th o)) (ht : k_vt K t) (hx : r_vo H x) (hb : k_blw K x.1 t = true) : fX12_isOf D q (r_e x) (k_y t) = some true := by
  have t67 := k_vt_lt W.hK ht
  have hn := B.1
  have k2 := k_y_2 t67
  have k1 := k_y_1 t67
  have k0 := k_y_0 t67
  rw [fX12_isOf]
  simp only [k2, k1, k0]
  by_cases c2 : t = 67
  · rw [if_pos c2]
  rw [if_neg c2]
  by_cases c0 : t = 66
  · rw [if_pos c0]
    rw [c0] at hb
    have hx66 := r_blw66 hb
    have rg := i32_rng x.2
    rw [r_e_i hx66]
    simp only [fX12_isInt, lg_ge, lg_eq, i64_int, i64_big.1, i64_big.2.1]
    rw [if_neg (by omega), if_neg (by omega)]; rfl
  rw [if_neg c0]
  obtain ⟨o, ho, rfl⟩ := hx.ref (r_blw65 hb (by omega))
  have hi : fX12_isInt D (r_e (r_th H o, nI o)) = some false := by
    simp only [fX12_isInt, lg_ge, r_e_ri B ho, i64_big.2.1]
    rw [if_pos (by omega)]
  rw [hi, Option.bind_some, if_neg (by decide)]
  simp only [lg_eq, r_e_ri B ho, i64_big.1, i64_big.2.1]
  rw [if_neg (show ¬ (1099511627776 + (o : Int) = 1125899906842624) by omega)]
  by_cases c : o = 0
  · rw [if_pos (by omega)]
  rw [if_neg (by omega), if_neg (fun c1 => by
    rw [c1] at hb
    have := r_blwn W.hK.2.1 hb
    rw [r_th_p (by omega)] at this
    have := (B.2 o (by omega) ho).2
    omega), r_e_obj B ho (by omega), Option.bind_some, if_pos (z_inbN (show o - 1 < 2000 by omega) (by decide)), z_cl (show o - 1 < 2147483648 by omega), eH o (by omega) ho, r_isBelow e, z_isBelow12 W.hK W.N.S.mJ.kD (Or.inl (B.2 o (by omega) ho).1) ht, Option.bind_some]
  rw [show r_th H o = H.th o from r_th_p (by omega)] at hb
  rw [hb, if_pos rfl]
theorem rD.dm (I : rD q Dx d h V pd H X pl D) : D.2.1 102 35 - (1 : Int32) = nI d := by
  rw [I.F.d, z_sub1 (by omega)]; rfl
theorem rD_F.sJl (I : rD_F d h V D) {s : Nat} (hs : s < 12) {x : Nat × Int32} : rD_F d h (r_uv V d s x) (q_sJ D 172 (d * 12 + s) (r_e x)) := by
  refine ⟨I.d, I.lt, I.h, fun f t hf ht => ?_, fun f t hf ht => ?_⟩
  · rw [q_sJ_J]
    by_cases e : f = d
    · subst e
      by_cases e2 : t = s
      · rw [e2, r_uv_eq, if_pos ⟨rfl, rfl⟩]
      · rw [r_uv_s e2, if_neg (by omega)]; exact I.l f t hf ht
    · rw [r_uv_f e, if_neg (by omega)]; exact I.l f t hf ht
  · show D.2.2.1 173 (f * 8 + t) = _
    by_cases e : f = d
    · subst e
      rw [r_uv_s (by omega)]; exact I.s f t hf ht
    · rw [r_uv_f e]; exact I.s f t hf ht
theorem rD_F.sJs (I : rD_F d h V D) (h0 : h d < 8) {x : Nat × Int32} : rD_F d (k_up h d (h d + 1)) (r_uv V d (12 + h d) x) (q_sI (q_sJ D 173 (d * 8 + h d) (r_e x)) 174 d (nI (h d + 1))) := by
  refine ⟨I.d, I.lt, fun f hf => ?_, fun f t hf ht => ?_, fun f t hf ht => ?_⟩
  · rw [q_sI_I]
    by_cases e : f = d
    · rw [if_pos ⟨rfl, e⟩, e, k_up_eq]; exact ⟨by omega, rfl⟩
    · rw [if_neg (by omega), k_up_ne e]; exact I.h f hf
  · show D.2.2.1 172 (f * 12 + t) = _
    by_cases e : f = d
    · subst e
      rw [r_uv_s (by omega)]; exact I.l f t hf ht
    · rw [r_uv_f e]; exact I.l f t hf ht
  · show (q_sJ D 173 (d * 8 + h d) (r_e x)).2.2.1 173 (f * 8 + t) = _
    rw [q_sJ_J]
    have h8 := (I.h f hf).1
    by_cases e : f = d
    · subst e
      rw [k_up_eq] at ht
      by_cases e2 : t = h f
      · rw [e2, r_uv_eq, if_pos ⟨rfl, rfl⟩]
      · rw [r_uv_s (by omega), if_neg (by omega)]; exact I.s f t hf (by omega)
    · rw [k_up_ne e] at ht
      rw [r_uv_f e, if_neg (by omega)]; exact I.s f t hf ht
theorem rD.pop (hq : z_qq q) (I : rD q Dx d h V pd H X pl D) (h0 : 0 < h d) : ∃ D', fX12_pop D = some (r_e (V d (11 + h d)), D') ∧ rD q Dx d (k_up h d (h d - 1)) V pd H X pl D' := by
  have hd := I.F.lt
  obtain ⟨h8, eh⟩ := I.F.h d (Nat.le_refl _)
  have I' := I.sh hq (show h d - 1 ≤ h d by omega)
  have e2 := (I'.F.h d (Nat.le_refl _)).2
  rw [k_up_eq] at e2
  refine ⟨_, ?_, I'⟩
  have ev := I.F.s d (h d - 1) (Nat.le_refl _) (by omega)
  rw [show 12 + (h d - 1) = 11 + h d by omega] at ev
  have e8 : nI d * (8 : Int32) + nI (h d - 1) = nI (d * 8 + (h d - 1)) := by
    rw [show nI d * (8 : Int32) = nI (d * 8) from nI_mulN d 8, nI_add]
  simp only [fX12_pop, I.dm, z_inbN hd (by decide), if_true, z_cl (show d < 2147483648 by omega), eh, z_sub1 h0, Option.bind_some, I'.dm, e2, e8, z_inbN (show d * 8 + (h d - 1) < 512 by omega) (by decide), z_cl (show d * 8 + (h d - 1) < 2147483648 by omega)]
  show some (D.2.2.1 173 (d * 8 + (h d - 1)), _) = _
  rw [ev]
theorem rD.push (hq : z_qq q) (I : rD q Dx d h V pd H X pl D) (h0 : h d < 8) {x : Nat × Int32} {w : Int64} (hw : w = r_e x) : ∃ D', fX12_push D w = some D' ∧ rD q Dx d (k_up h d (h d + 1)) (r_uv V d (12 + h d) x) pd H X pl D' := by
  have hd := I.F.lt
  obtain ⟨h8, eh⟩ := I.F.h d (Nat.le_refl _)
  subst hw
  refine ⟨_, ?_, ⟨r_gD.sI hq (r_gD.sJ I.g) (by decide), I.F.sJs h0, I.P, I.H, I.X⟩⟩
  have e8 : nI d * (8 : Int32) + nI (h d) = nI (d * 8 + h d) := by
    rw [show nI d * (8 : Int32) = nI (d * 8) from nI_mulN d 8, nI_add]
  have d1 : (q_sJ D 173 (d * 8 + h d) (r_e x)).2.1 102 35 - (1 : Int32) = nI d := I.dm
  have d2 : (q_sJ D 173 (d * 8 + h d) (r_e x)).2.1 174 d = nI (h d) := eh
  simp only [fX12_push, I.dm, z_inbN hd (by decide), if_true, z_cl (show d < 2147483648 by omega), eh, e8, z_inbN (show d * 8 + h d < 512 by omega) (by decide), z_cl (show d * 8 + h d < 2147483648 by omega), Option.bind_some, d1, d2, nI_1]
theorem rD_P.set {k : Nat} (I : rD_P d pd D) : rD_P d (k_up pd d k) (q_sI D 175 d (nI k)) := by
  intro f hf
  rw [q_sI_I]
  by_cases e : f = d
  · rw [if_pos ⟨rfl, e⟩, e, k_up_eq]
  · rw [if_neg (by omega), k_up_ne e]; exact I f hf
theorem rC_P.set {k : Nat} (I : rC_P d pa C) : rC_P d (k_up pa d k) (q_sI C 98 d (nI k)) := by
  intro f hf
  rw [q_sI_I]
  by_cases e : f = d
  · rw [if_pos ⟨rfl, e⟩, e, k_up_eq]
  · rw [if_neg (by omega), k_up_ne e]; exact I f hf
theorem rD.jump (hq : z_qq q) (I : rD q Dx d h V pd H X pl D) (k : Nat) : rD q Dx d h V (k_up pd d k) H X pl (q_sI D 175 d (nI k)) := ⟨I.g.sI hq (by decide), I.F, I.P.set, I.H, I.X⟩
theorem rC.jump (hp : z_pp p) (I : rC p Cx d h V pa H X to pl C) (k : Nat) : rC p Cx d h V (k_up pa d k) H X to pl (q_sI C 98 d (nI k)) := ⟨I.g.sI hp (by decide), I.F, I.P.set, I.H, I.X⟩
theorem rD.next (hq : z_qq q) (I : rD q Dx d h V pd H X pl D) : ∃ D', fX12_next D = some D' ∧ rD q Dx d h V (k_up pd d (pd d + 1)) H X pl D' := by
  have hd := I.F.lt
  refine ⟨_, ?_, I.jump hq (pd d + 1)⟩
  simp only [fX12_next, I.dm, z_inbN hd (by decide), if_true, z_cl (show d < 2147483648 by omega), I.P d (Nat.le_refl _), nI_1, Option.bind_some]
theorem rD.loc (I : rD q Dx d h V pd H X pl D) {s : Nat} (hs : s < 12) : fX12_local D (nI s) = some (r_e (V d s)) := by
  have hd := I.F.lt
  have e12 : nI d * (12 : Int32) + nI s = nI (d * 12 + s) := by
    rw [show nI d * (12 : Int32) = nI (d * 12) from nI_mulN d 12, nI_add]
  simp only [fX12_local, I.dm, e12, z_inbN (show d * 12 + s < 768 by omega) (by decide), if_true, z_cl (show d * 12 + s < 2147483648 by omega), I.F.l d s (Nat.le_refl _) hs]
theorem rD.setl (I : rD q Dx d h V pd H X pl D) {s : Nat} (hs : s < 12) (x : Nat × Int32) : rD q Dx d h (r_uv V d s x) pd H X pl (q_sJ D 172 (d * 12 + s) (r_e x)) := ⟨r_gD.sJ I.g, I.F.sJl hs, I.P, I.H, I.X⟩
theorem rC.setv (hp : z_pp p) (I : rC p Cx d h V pa H X to pl C) {s : Nat} (hs : s < 20) {x : Nat × Int32} {c : Int32} (hx : x.1 ≤ 67) (hc : x.1 ≠ 67 → c = x.2) : rC p Cx d h (r_uv V d s x) pa H X to pl (q_sI (q_sI C 96 (d * 20 + s) c) 97 (d * 20 + s) (nI x.1)) := ⟨(I.g.sI hp (by decide)).sI hp (by decide), I.F.sv hs hx hc, I.P, I.H, I.X⟩
theorem rC.pushInt (hp : z_pp p) (I : rC p Cx d h V pa H X to pl C) (h0 : h d < 8) (c : Int32) : ∃ C', fX6_pushInt C c = some C' ∧ rC p Cx d (k_up h d (h d + 1)) (r_uv V d (12 + h d) (66, c)) pa H X to pl C' := by
  obtain ⟨C', e, I'⟩ := I.push hp h0 (x := (66, c)) (c := c) (show 66 ≤ 67 by decide) (fun _ => rfl)
  refine ⟨C', ?_, I'⟩
  rw [fX6_pushInt]
  rw [show (66 : Int32) = nI ((66, c) : Nat × Int32).1 from rfl, e]; rfl
theorem rC.pushObj (hp : z_pp p) (B : r_ob K H) (I : rC p Cx d h V pa H X to pl C) (h0 : h d < 8) {o : Nat} (ho : o ≤ H.n) : ∃ C', fX6_pushObject C (nI o) = some C' ∧ rC p Cx d (k_up h d (h d + 1)) (r_uv V d (12 + h d) (r_th H o, nI o)) pa H X to pl C' := by
  have hn := B.1
  obtain ⟨C', e, I'⟩ := I.push hp h0 (x := (r_th H o, nI o)) (c := nI o) (by have := r_th_le B ho; show r_th H o ≤ 67; omega) (fun _ => rfl)
  refine ⟨C', ?_, I'⟩
  have e91 : C.2.1 91 o = nI (r_th H o) := by
    by_cases c : o = 0
    · rw [c, r_th_0]; exact I.H.z
    · rw [r_th_p (by omega)]; exact (I.H.o o (by omega) ho).1
  simp only [fX6_pushObject, z_inbN (show o < 2001 by omega) (by decide), if_true, z_cl (show o < 2147483648 by omega), e91]
  rw [e]; rfl
end ZRV
