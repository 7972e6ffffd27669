/-! ===== the run: new objects, and errors raised ===== -/
def ZH.add : ZH → Nat → Nat → Int32 → (Nat → Nat × Int32) → ZH := fun (H : ZH0) t l s hp => ((H.1 + 1, H.2.1 + l, k_up H.2.2.1 (H.1 + 1) t, k_up H.2.2.2.1 (H.1 + 1) H.2.1, k_up H.2.2.2.2.1 (H.1 + 1) l, k_up H.2.2.2.2.2.1 (H.1 + 1) s, hp) : ZH0)
section ZRN
variable {p q n m : Nat} {g : ZT} {K : ZK} {M : ZM} {P : ZP} {hh : Nat → Nat → Int32} {R : Nat → Nat → Bool} {T : Nat → Nat → Nat → Nat} {Cx Dx C D C' D' : QS} {d i : Nat} {h : Nat → Nat} {V : Nat → Nat → Nat × Int32} {pa pd : Nat → Nat} {H H' : ZH} {X : ZX} {to pl : Nat} {t l : Nat} {s : Int32} {hp' : Nat → Nat × Int32}
theorem add_n : (H.add t l s hp').n = H.n + 1 := rfl
theorem add_u : (H.add t l s hp').u = H.u + l := rfl
theorem add_th : (H.add t l s hp').th = k_up H.th (H.n + 1) t := rfl
theorem add_st : (H.add t l s hp').st = k_up H.st (H.n + 1) H.u := rfl
theorem add_ln : (H.add t l s hp').ln = k_up H.ln (H.n + 1) l := rfl
theorem add_si : (H.add t l s hp').si = k_up H.si (H.n + 1) s := rfl
theorem add_hp : (H.add t l s hp').hp = hp' := rfl
theorem add_up : r_up H (H.add t l s hp') := ⟨Nat.le_succ _, fun o _ h => by rw [add_th, k_up_ne (by omega)]⟩
theorem add_ob (B : r_ob K H) (hn : H.n < 2000) (ht : k_tok K t) (ht2 : t ≤ 64) : r_ob K (H.add t l s hp') := by
  refine ⟨hn, fun o o1 o2 => ?_⟩
  rw [add_n] at o2
  rw [add_th]
  by_cases e : o = H.n + 1
  · rw [e, k_up_eq]; exact ⟨ht, ht2⟩
  · rw [k_up_ne e]; exact B.2 o o1 (by omega)
theorem add_hc (hc : r_hc K M H) (h1 : ∀ c, c < H.u → hp' c = H.hp c) (h2 : 32 ≤ t → ∀ j, j < l → r_vo H (hp' (H.u + j)) ∧ k_blw K (hp' (H.u + j)).1 (k_el t) = true) (h3 : t < 32 → ∀ f, f < M.fc → k_anc K.cp (M.fo f) t = true → M.fs f < l ∧ r_vo H (hp' (H.u + M.fs f)) ∧ k_blw K (hp' (H.u + M.fs f)).1 (M.ft f) = true) : r_hc K M (H.add t l s hp') := by
  intro o o1 o2
  have u : r_up H (H.add t l s hp') := add_up
  rw [add_n] at o2
  rw [add_th, add_st, add_ln, add_u, add_hp, add_n]
  by_cases e : o = H.n + 1
  · rw [e]
    simp only [k_up_eq]
    exact ⟨Nat.le_refl _, fun o' a b => by omega, fun a j hj => ⟨u.vo (h2 a j hj).1, (h2 a j hj).2⟩, fun a f hf ha => ⟨(h3 a f hf ha).1, u.vo (h3 a f hf ha).2.1, (h3 a f hf ha).2.2⟩⟩
  · simp only [k_up_ne e]
    obtain ⟨a1, a2, a3, a4⟩ := hc o o1 (by omega)
    refine ⟨by omega, fun o' b1 b2 => ?_, fun a j hj => ?_, fun a f hf ha => ?_⟩
    · by_cases e' : o' = H.n + 1
      · rw [e', k_up_eq]; exact a1
      · rw [k_up_ne e']; exact a2 o' b1 (by omega)
    · rw [h1 _ (by omega)]
      exact ⟨u.vo (a3 a j hj).1, (a3 a j hj).2⟩
    · obtain ⟨x1, x2, x3⟩ := a4 a f hf ha
      rw [h1 _ (by omega)]
      exact ⟨x1, u.vo x2, x3⟩
theorem rC.frH (hp : z_pp p) (I : rC p Cx d h V pa H X to pl C) (f0 : ∀ o j, o ≤ 76 → C'.2.1 o j = C.2.1 o j) (f1 : ∀ o j, (o = 89 ∨ (96 ≤ o ∧ o ≤ 101)) → C'.2.1 o j = C.2.1 o j) (hH : rC_H H' C') : rC p Cx d h V pa H' X to pl C' := by
  have e89 : C'.2.1 89 = C.2.1 89 := funext (fun j => f1 _ _ (by omega))
  have e96 : C'.2.1 96 = C.2.1 96 := funext (fun j => f1 _ _ (by omega))
  have e97 : C'.2.1 97 = C.2.1 97 := funext (fun j => f1 _ _ (by omega))
  have e98 : C'.2.1 98 = C.2.1 98 := funext (fun j => f1 _ _ (by omega))
  have e99 : C'.2.1 99 = C.2.1 99 := funext (fun j => f1 _ _ (by omega))
  have e100 : C'.2.1 100 = C.2.1 100 := funext (fun j => f1 _ _ (by omega))
  have e101 : C'.2.1 101 = C.2.1 101 := funext (fun j => f1 _ _ (by omega))
  refine ⟨I.g.of hp f0, ?_, ?_, hH, ?_⟩
  · rw [rC_F, e89, e99, e97, e96]; exact I.F
  · rw [rC_P, e98]; exact I.P
  · rw [rC_X, e89, e100, e101]; exact I.X
theorem rD.frH (hq : z_qq q) (I : rD q Dx d h V pd H X pl D) (f0 : ∀ o j, 103 ≤ o → o ≤ 158 → D'.2.1 o j = D.2.1 o j) (f1 : ∀ o j, ((o = 102 ∧ j ≠ 36 ∧ j ≠ 37) ∨ o = 174 ∨ o = 175 ∨ o = 181 ∨ o = 182) → D'.2.1 o j = D.2.1 o j) (f2 : ∀ o j, (o = 172 ∨ o = 173) → D'.2.2.1 o j = D.2.2.1 o j) (hH : rD_H H' D') : rD q Dx d h V pd H' X pl D' := by
  refine ⟨I.g.of hq f0, ⟨(f1 _ _ (by omega)).trans I.F.d, I.F.lt, fun f hf => ⟨(I.F.h f hf).1, (f1 _ _ (by omega)).trans (I.F.h f hf).2⟩, fun f s hf hs => (f2 _ _ (by omega)).trans (I.F.l f s hf hs), fun f s hf hs => (f2 _ _ (by omega)).trans (I.F.s f s hf hs)⟩, fun f hf => (f1 _ _ (by omega)).trans (I.P f hf), hH, ?_⟩
  exact ⟨(f1 _ _ (by omega)).trans I.X.ni, fun k hk => (f1 _ _ (by omega)).trans (I.X.inp k hk), (f1 _ _ (by omega)).trans I.X.nx, (f1 _ _ (by omega)).trans I.X.w, fun k a b => (f1 _ _ (by omega)).trans (I.X.out k a b), (f1 _ _ (by omega)).trans I.X.sp, (f1 _ _ (by omega)).trans I.X.oc, (f1 _ _ (by omega)).trans I.X.ts, (f1 _ _ (by omega)).trans I.X.sy, fun a => (f1 _ _ (by omega)).trans (I.X.pl a)⟩
theorem rC.make0 (I : rC p Cx d h V pa H X to pl C) {t' : Int32} (hl2 : l < 2147483648) (hf : ¬ (H.n < 2000 ∧ l ≤ 12000 - H.u)) : fX2_make C t' (nI l) s = some (0, C) := by
  have n2 := I.H.n2
  have u2 := I.H.u2
  have e1 : (nI H.n = (2000 : Int32)) = (H.n = 2000) := by rw [show (2000 : Int32) = nI 2000 from rfl, z_eqN (by omega) (by decide)]
  have e2 : (nI l ≤ (12000 : Int32) - nI H.u) = (l ≤ 12000 - H.u) := by rw [show (12000 : Int32) = nI 12000 from rfl, z_subN (by omega), z_leN (by omega) (by omega)]
  simp only [fX2_make, I.H.n, I.H.u, e1, z_negN hl2, if_false, e2]
  by_cases c : H.n = 2000
  · rw [if_pos c]
  · rw [if_neg c, if_neg (fun h => hf ⟨by omega, h⟩)]
theorem rC.make (hp : z_pp p) (I : rC p Cx d h V pa H X to pl C) (hn : H.n < 2000) (hl : l ≤ 12000 - H.u) (h1 : ∀ c, c < H.u → hp' c = H.hp c) (h2 : ∀ c, H.u ≤ c → c < H.u + l → (hp' c).2 = 0) : ∃ C', fX2_make C (nI t) (nI l) s = some (nI (H.n + 1), C') ∧ rC p Cx d h V pa (H.add t l s hp') X to pl C' := by
  have u2 := I.H.u2
  have e1 : (nI H.n = (2000 : Int32)) = (H.n = 2000) := by rw [show (2000 : Int32) = nI 2000 from rfl, z_eqN (by omega) (by decide)]
  have e2 : (nI l ≤ (12000 : Int32) - nI H.u) = (l ≤ 12000 - H.u) := by rw [show (12000 : Int32) = nI 12000 from rfl, z_subN (by omega), z_leN (by omega) (by omega)]
  obtain ⟨S', f1, f2, -⟩ := z_fillR (a := 95) (n0 := 12000) (lo := H.u) (hi := H.u + l) (v := 0) (by omega) (by omega) (by decide) (q_sI (q_sI (q_sI (q_sI (q_sI C 90 5 (nI (H.n + 1))) 91 (H.n + 1) (nI t)) 92 (H.n + 1) (nI H.u)) 93 (H.n + 1) (nI l)) 94 (H.n + 1) s)
  have gC : ∀ y j, (q_sI S' 90 6 (nI (H.u + l))).2.1 y j = if y = 90 ∧ j = 6 then nI (H.u + l) else if y = 95 ∧ H.u ≤ j ∧ j < H.u + l then 0 else if y = 94 ∧ j = H.n + 1 then s else if y = 93 ∧ j = H.n + 1 then nI l else if y = 92 ∧ j = H.n + 1 then nI H.u else if y = 91 ∧ j = H.n + 1 then nI t else if y = 90 ∧ j = 5 then nI (H.n + 1) else C.2.1 y j := by
    intro y j
    rw [q_sI_I, f2, q_sI_I, q_sI_I, q_sI_I, q_sI_I, q_sI_I]
  have r6 : S'.2.1 90 6 = nI H.u := by
    rw [f2, if_neg (by omega)]; exact I.H.u
  have r5 : (q_sI C 90 5 (nI (H.n + 1))).2.1 90 5 = nI (H.n + 1) := by rw [q_sI_I, if_pos ⟨rfl, rfl⟩]
  refine ⟨q_sI S' 90 6 (nI (H.u + l)), ?_, I.frH hp (fun o j ho => ?_) (fun o j ho => ?_) ⟨?_, ?_, ?_, ?_, ?_, fun o o1 o2 => ?_, fun c hc => ?_⟩⟩
  · have i5 := z_inbN (show H.n + 1 < 2001 by omega) (by decide)
    have c5 := z_cl (show H.n + 1 < 2147483648 by omega)
    simp only [fX2_make, I.H.n, I.H.u, e1, if_neg (show ¬ H.n = 2000 by omega), z_negN (show l < 2147483648 by omega), if_false, e2, if_pos hl, nI_1, Option.bind_some, r5, i5, if_true, c5]
    have s1 : (q_sI (q_sI C 90 5 (nI (H.n + 1))) 91 (H.n + 1) (nI t)).2.1 90 5 = nI (H.n + 1) := r5
    have s1u : (q_sI (q_sI C 90 5 (nI (H.n + 1))) 91 (H.n + 1) (nI t)).2.1 90 6 = nI H.u := I.H.u
    simp only [s1, s1u, i5, if_true, c5]
    have s2 : (q_sI (q_sI (q_sI C 90 5 (nI (H.n + 1))) 91 (H.n + 1) (nI t)) 92 (H.n + 1) (nI H.u)).2.1 90 5 = nI (H.n + 1) := r5
    simp only [s2, i5, if_true, c5]
    have s3 : (q_sI (q_sI (q_sI (q_sI C 90 5 (nI (H.n + 1))) 91 (H.n + 1) (nI t)) 92 (H.n + 1) (nI H.u)) 93 (H.n + 1) (nI l)).2.1 90 5 = nI (H.n + 1) := r5
    simp only [s3, i5, if_true, c5]
    have s4 : (q_sI (q_sI (q_sI (q_sI (q_sI C 90 5 (nI (H.n + 1))) 91 (H.n + 1) (nI t)) 92 (H.n + 1) (nI H.u)) 93 (H.n + 1) (nI l)) 94 (H.n + 1) s).2.1 90 6 = nI H.u := I.H.u
    simp only [s4, nI_add, f1, Option.bind_some, r6]
    rw [gC, if_neg (by omega), if_neg (by omega), if_neg (by omega), if_neg (by omega), if_neg (by omega), if_neg (by omega), if_pos ⟨rfl, rfl⟩]
  · rw [gC]; simp (disch := omega) only [if_neg]
  · rw [gC]; simp (disch := omega) only [if_neg]
  · rw [gC]; simp (disch := omega) only [if_neg, and_self, if_true]; rfl
  · exact hn
  · rw [gC]; simp (disch := omega) only [if_neg, and_self, if_true]; rfl
  · rw [add_u]; omega
  · rw [gC]; simp (disch := omega) only [if_neg]; exact I.H.z
  · rw [add_n] at o2
    rw [add_th, add_st, add_ln, add_si]
    by_cases e : o = H.n + 1
    · subst e
      simp only [k_up_eq]
      refine ⟨?_, ?_, ?_, ?_⟩
      all_goals rw [gC]; simp (disch := omega) only [if_neg, and_self, if_true]
    · simp only [k_up_ne e]
      obtain ⟨a1, a2, a3, a4⟩ := I.H.o o o1 (by omega)
      refine ⟨?_, ?_, ?_, ?_⟩
      · rw [gC]; simp (disch := omega) only [if_neg]; exact a1
      · rw [gC]; simp (disch := omega) only [if_neg]; exact a2
      · rw [gC]; simp (disch := omega) only [if_neg]; exact a3
      · rw [gC]; simp (disch := omega) only [if_neg]; exact a4
  · rw [add_u] at hc
    rw [add_hp, gC, if_neg (by omega)]
    by_cases e : H.u ≤ c
    · rw [if_pos ⟨rfl, e, hc⟩, h2 c e hc]
    · rw [if_neg (by omega), if_neg (by omega), if_neg (by omega), if_neg (by omega), if_neg (by omega), if_neg (by omega), h1 c (by omega)]
      exact I.H.c c (by omega)
theorem rD.obj0 (B : r_ob K H) (hu : H.u ≤ 12000) (I : rD q Dx d h V pd H X pl D) {t' : Int32} {y : Int32} (hl2 : l ≤ 12001) (hf : ¬ (H.n < 2000 ∧ l ≤ 12000 - H.u)) : fX12_object D t' s (nI l) y = some (0, q_sI (q_sI D 102 44 3) 102 42 y) := by
  have n2 := B.1
  have e1 : (nI H.n = (2000 : Int32)) = (H.n = 2000) := by rw [show (2000 : Int32) = nI 2000 from rfl, z_eqN (by omega) (by decide)]
  have e2 : (nI (H.u + l) ≤ (12000 : Int32)) = (H.u + l ≤ 12000) := by rw [show (12000 : Int32) = nI 12000 from rfl, z_leN (by omega) (by omega)]
  simp only [fX12_object, I.H.n, I.H.u, nI_add, e1, e2, fX12_ended, Option.bind_some]
  by_cases c : H.n = 2000
  · rw [if_pos c]
  · rw [if_neg c, if_neg (fun h => hf ⟨by omega, by omega⟩)]
theorem rD.obj (I : rD q Dx d h V pd H X pl D) {y : Int32} (hu : H.u ≤ 12000) (hn : H.n < 2000) (hl : l ≤ 12000 - H.u) : ∃ D', fX12_object D (k_y t) s (nI l) y = some ((1099511627776 : Int64) + (nI (H.n + 1)).toInt64, D') ∧ D'.2.2.1 = D.2.2.1 ∧ ∀ y j, D'.2.1 y j = if y = 102 ∧ j = 36 then nI (H.n + 1) else if y = 102 ∧ j = 37 then nI (H.u + l) else if y = 179 ∧ j = H.n then nI l else if y = 178 ∧ j = H.n then nI H.u else if y = 177 ∧ j = H.n then s else if y = 176 ∧ j = H.n then k_y t else D.2.1 y j := by
  have e1 : (nI H.n = (2000 : Int32)) = (H.n = 2000) := by rw [show (2000 : Int32) = nI 2000 from rfl, z_eqN (by omega) (by decide)]
  have e2 : (nI (H.u + l) ≤ (12000 : Int32)) = (H.u + l ≤ 12000) := by rw [show (12000 : Int32) = nI 12000 from rfl, z_leN (by omega) (by omega)]
  refine ⟨q_sI (q_sI (q_sI (q_sI (q_sI (q_sI D 176 H.n (k_y t)) 177 H.n s) 178 H.n (nI H.u)) 179 H.n (nI l)) 102 37 (nI (H.u + l))) 102 36 (nI (H.n + 1)), ?_, rfl, fun y j => by rw [q_sI_I, q_sI_I, q_sI_I, q_sI_I, q_sI_I, q_sI_I]⟩
  have i5 := z_inbN (show H.n < 2000 by omega) (by decide)
  have c5 := z_cl (show H.n < 2147483648 by omega)
  have n0 := I.H.n
  have u0 := I.H.u
  simp only [fX12_object, n0, u0, nI_add, e1, if_neg (show ¬ H.n = 2000 by omega), e2, if_pos (show H.u + l ≤ 12000 by omega), i5, if_true, c5, Option.bind_some]
  have s1 : (q_sI D 176 H.n (k_y t)).2.1 102 36 = nI H.n := n0
  simp only [s1, i5, if_true, c5]
  have s2 : (q_sI (q_sI D 176 H.n (k_y t)) 177 H.n s).2.1 102 36 = nI H.n := n0
  have s2u : (q_sI (q_sI D 176 H.n (k_y t)) 177 H.n s).2.1 102 37 = nI H.u := u0
  simp only [s2, s2u, i5, if_true, c5]
  have s3 : (q_sI (q_sI (q_sI D 176 H.n (k_y t)) 177 H.n s) 178 H.n (nI H.u)).2.1 102 36 = nI H.n := n0
  simp only [s3, i5, if_true, c5]
  have s4 : (q_sI (q_sI (q_sI (q_sI D 176 H.n (k_y t)) 177 H.n s) 178 H.n (nI H.u)) 179 H.n (nI l)).2.1 102 37 = nI H.u := u0
  simp only [s4, nI_add]
  have s5 : (q_sI (q_sI (q_sI (q_sI (q_sI D 176 H.n (k_y t)) 177 H.n s) 178 H.n (nI H.u)) 179 H.n (nI l)) 102 37 (nI (H.u + l))).2.1 102 36 = nI H.n := n0
  simp only [s5, nI_1]
  rw [q_sI_I, if_pos ⟨rfl, rfl⟩]
theorem rD.mk {D1 : QS} (hq : z_qq q) (I : rD q Dx d h V pd H X pl D) (gD : ∀ y j, D1.2.1 y j = if y = 102 ∧ j = 36 then nI (H.n + 1) else if y = 102 ∧ j = 37 then nI (H.u + l) else if y = 179 ∧ j = H.n then nI l else if y = 178 ∧ j = H.n then nI H.u else if y = 177 ∧ j = H.n then s else if y = 176 ∧ j = H.n then k_y t else D.2.1 y j) (e1 : D'.2.1 = D1.2.1) (e2 : ∀ o j, (o = 172 ∨ o = 173) → D'.2.2.1 o j = D.2.2.1 o j) (e3 : ∀ c, c < H.u + l → D'.2.2.1 180 c = r_e (hp' c)) : rD q Dx d h V pd (H.add t l s hp') X pl D' := by
  refine I.frH hq (fun o j a b => ?_) (fun o j a => ?_) e2 ⟨?_, ?_, fun o o1 o2 => ?_, e3⟩
  · rw [e1, gD]; simp (disch := omega) only [if_neg]
  · rw [e1, gD]; simp (disch := omega) only [if_neg]
  · rw [e1, gD, if_pos ⟨rfl, rfl⟩]; rfl
  · rw [e1, gD, if_neg (by omega), if_pos ⟨rfl, rfl⟩]; rfl
  · rw [add_n] at o2
    rw [add_th, add_st, add_ln, add_si, e1]
    by_cases e : o = H.n + 1
    · subst e
      simp only [k_up_eq, Nat.add_sub_cancel]
      refine ⟨?_, ?_, ?_, ?_⟩
      all_goals rw [gD]; simp (disch := omega) only [if_neg, and_self, if_true]
    · simp only [k_up_ne e]
      obtain ⟨a1, a2, a3, a4⟩ := I.H.o o o1 (by omega)
      refine ⟨?_, ?_, ?_, ?_⟩
      · rw [gD]; simp (disch := omega) only [if_neg]; exact a1
      · rw [gD]; simp (disch := omega) only [if_neg]; exact a2
      · rw [gD]; simp (disch := omega) only [if_neg]; exact a3
      · rw [gD]; simp (disch := omega) only [if_neg]; exact a4
/-- an error is raised -/
theorem r_raise (W : r_W p q n g K M P m hh R T Cx Dx) (B : r_ob K H) (hc : r_hc K M H) {x : Nat} (x2 : 2 ≤ x) (x7 : x ≤ 7) (IC : rC p Cx d h V pa H X 0 i C) (ID : rD q Dx d h V pd H X pl D) (hi : i < P.n) (hR : R (P.bd i) i = true) (hv : ∀ s, s < 12 → r_vo H (V d s) ∧ k_blw K (V d s).1 (T (P.bd i) i s) = true) (lo : ∀ f, f < d → r_lf K M P hh R T H (pd f) (h f) (V f) (P.bd (pd (f + 1)))) (ei : pd d = i) (el : ∀ f, f < d → pa f = pd f + 1) (oc : X.oc = -1) : r_res p q K M P hh R T Cx Dx X.sp ((fX6_raise C (nI x)).bind (r_pu p)) (fX12_raise D q (nI (x - 2)) (nI i)) := by
  have h8 := W.hK.1
  have u2 := IC.H.u2
  have n2 := IC.H.n2
  have es : (48 : Int32) + nI x - 2 = nI (46 + x) := by
    rw [show (48 : Int32) = nI 48 from rfl, nI_add, show (2 : Int32) = nI 2 from rfl, z_subN (by omega)]; congr 1; omega
  have es2 : (48 : Int32) + nI (x - 2) = nI (46 + x) := by
    rw [show (48 : Int32) = nI 48 from rfl, nI_add]; congr 1; omega
  have et : (10 : Int32) + nI (x - 2) = k_y x := by
    rw [k_y_c (by omega), show (10 : Int32) = nI 10 from rfl, nI_add]; congr 1; omega
  by_cases c : H.n < 2000
  · obtain ⟨C1, e1, IC1⟩ := IC.make W.hp (t := x) (l := 0) (s := nI (46 + x)) (hp' := H.hp) c (by omega) (fun _ _ => rfl) (fun c a b => by omega)
    obtain ⟨D1, e2, e3, gD⟩ := ID.obj (t := x) (l := 0) (s := nI (46 + x)) (y := nI i) u2 c (by omega)
    have ID1 := ID.mk W.hq (hp' := H.hp) gD rfl (fun o j _ => by rw [e3]) (fun c hc => by rw [e3]; exact ID.H.c c (by omega))
    have B1 : r_ob K (H.add x 0 (nI (46 + x)) H.hp) := add_ob B c (Or.inl (by omega)) (by omega)
    have hc1 : r_hc K M (H.add x 0 (nI (46 + x)) H.hp) := add_hc hc (fun _ _ => rfl) (fun a j hj => by omega) (fun a f hf ha => by
      have := (W.N.S.mJ.mF.2 f hf).2.2
      have := k_anc_le _ ha
      omega)
    have u : r_up H (H.add x 0 (nI (46 + x)) H.hp) := add_up
    have IC2 := IC1.sto W.hp (H.n + 1)
    have tr := r_throw W B1 hc1 (o := H.n + 1) (by omega) (Nat.le_refl _) IC2 ID1 hi hR (fun s hs => ⟨u.vo (hv s hs).1, (hv s hs).2⟩) (fun f hf => u.lf (lo f hf)) ei el oc
    have ne : ¬ (nI (H.n + 1) = 0) := by rw [show (0 : Int32) = nI 0 from rfl, z_eqN (by omega) (by decide)]; omega
    have c1 : (fX6_raise C (nI x)).bind (r_pu p) = fX6_passUp (q_sI C1 89 9 (nI (H.n + 1))) p := by
      have e0 : fX2_make C (nI x) 0 (nI (46 + x)) = some (nI (H.n + 1), C1) := e1
      simp only [fX6_raise, es, e0, Option.bind_some]
      rw [IC2.X.to, if_neg ne, Option.bind_some, r_pu, IC2.X.to, if_neg ne]
    have c2 : fX12_raise D q (nI (x - 2)) (nI i) = fX12_toss D1 q (r_e (r_th (H.add x 0 (nI (46 + x)) H.hp) (H.n + 1), nI (H.n + 1))) (nI i) := by
      have e0 : fX12_object D (k_y x) (nI (46 + x)) 0 (nI i) = some ((1099511627776 : Int64) + (nI (H.n + 1)).toInt64, D1) := e2
      have ev := r_e_r B1 (show H.n + 1 ≤ (H.add x 0 (nI (46 + x)) H.hp).n from Nat.le_refl _)
      simp only [fX12_raise, et, es2, e0, Option.bind_some, lg_eq, i64_ref (show H.n + 1 ≤ 2000 by omega), i64_big.2.2]
      rw [if_neg (by omega), ev]
      cases fX12_toss D1 q (1099511627776 + (nI (H.n + 1)).toInt64) (nI i) <;> rfl
    rw [c1, c2]; exact tr
  · have e1 := IC.make0 (l := 0) (s := nI (46 + x)) (t' := nI x) (by decide) (fun h => c h.1)
    have e2 := ID.obj0 B u2 (l := 0) (s := nI (46 + x)) (t' := k_y x) (y := nI i) (by decide) (fun h => c h.1)
    have IC2 := IC.sto W.hp 0
    refine ⟨q_sI (q_sI C 89 9 (nI 0)) 89 8 3, _, ?_, ?_, Or.inr (r_end1 W.hp W.hq IC2 ID 3 (by decide))⟩
    · have e0 : fX2_make C (nI x) 0 (nI (46 + x)) = some (0, C) := e1
      have t0 : (q_sI C 89 9 0).2.1 89 9 = 0 := IC2.X.to
      simp only [fX6_raise, es, e0, Option.bind_some, t0, if_true]
      rw [r_pu, if_pos (show (q_sI (q_sI C 89 9 0) 89 8 3).2.1 89 9 = 0 from t0)]; rfl
    · have e0 : fX12_object D (k_y x) (nI (46 + x)) 0 (nI i) = some (0, q_sI (q_sI D 102 44 3) 102 42 (nI i)) := e2
      simp only [fX12_raise, et, es2, e0, Option.bind_some, lg_eq, if_true]
end ZRN
