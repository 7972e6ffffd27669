/-! ===== the run: returns ===== -/
section ZRR
variable {p q n m : Nat} {g : ZT} {K : ZK} {M : ZM} {P : ZP} {hh : Nat → Nat → Int32} {R : Nat → Nat → Bool} {T : Nat → Nat → Nat → Nat} {Cx Dx C D : QS} {d i k : Nat} {h h' : Nat → Nat} {V : Nat → Nat → Nat × Int32} {pa pd : Nat → Nat} {H H' : ZH} {X : ZX} {to pl : Nat}
theorem rD.hcg (e : ∀ f, f ≤ d → h' f = h f) (I : rD q Dx d h' V pd H X pl D) : rD q Dx d h V pd H X pl D := ⟨I.g, ⟨I.F.d, I.F.lt, fun f hf => by rw [← e f hf]; exact I.F.h f hf, I.F.l, fun f s hf hs => I.F.s f s hf (by rw [e f hf]; exact hs)⟩, I.P, I.H, I.X⟩
theorem r_M.retEnd {D1 : QS} {j : Nat} {w : Int64} (Z : r_M p q n g K M P m hh R T Cx Dx d h V pa pd H X pl i C D) (d0 : d = 0) (b : Bool) (ID : rD q Dx d (k_up h d j) V pd H X pl D1) : r_res p q K M P hh R T Cx Dx X.sp ((fX6_leave C b).bind (r_pu p)) (if (D1.2.1 102 35) = (1 : Int32) then (fX12_ended D1 ((0 : Int32)) (nI i)).bind fun r106 => some (r106) else (some (q_sI D1 102 35 ((D1.2.1 102 35) - (1 : Int32)))).bind fun S94 => if b = true then (fX12_push S94 w).bind fun r100 => (fX12_next r100).bind fun r103 => some (r103) else (fX12_next S94).bind fun r97 => some (r97)) := by
  refine ⟨q_sI C 89 8 0, _, ?_, ?_, Or.inr (r_end1 Z.W.hp Z.W.hq Z.C ID 0 (by decide))⟩
  · have e0 : C.2.1 89 7 = 0 := by rw [Z.C.F.d, d0]; rfl
    rw [fX6_leave, if_pos e0]
    simp only [Option.bind_some, r_pu]
    rw [if_pos (show (q_sI C 89 8 0).2.1 89 9 = 0 from Z.C.X.to)]
  · have e1 : D1.2.1 102 35 = 1 := by rw [ID.F.d, d0]; rfl
    rw [if_pos e1]; rfl
/-- the frame below goes on -/
theorem r_M.back {C1 D1 : QS} {e : Nat} {h' : Nat → Nat} {V' : Nat → Nat → Nat × Int32} (Z : r_M p q n g K M P m hh R T Cx Dx d h V pa pd H X pl i C D) (hd : d = e + 1) (IC : rC p Cx e h' V' pa H X 0 i C1) (ID : rD q Dx e h' V' pd H X pl D1) (hl : ∀ f, f < e → h' f = h f ∧ V' f = V f) (eh : h' e = h e + k_lv M P (pd e)) (hv : ∀ s, s < 12 + h e → V' e s = V e s) (hr : k_lv M P (pd e) = 1 → r_vo H (V' e (12 + h e)) ∧ k_blw K (V' e (12 + h e)).1 (M.br (k_fb P (pd e))) = true) : ∃ D2, fX12_next D1 = some D2 ∧ r_GG p q K M P hh R T Cx Dx X.sp C1 D2 := by
  obtain ⟨D2, e2, ID2⟩ := ID.next Z.W.hq
  obtain ⟨l1, l2, l3, l4, l5, l6⟩ := Z.lo e (by omega)
  have hn : k_nx (P.op (pd e)) = true := by rcases l3 with l3 | l3 <;> rw [l3] <;> rfl
  obtain ⟨hb, b1, b2⟩ := Z.W.in l1
  have Bb := Z.W.N.B _ hb
  have ebd : P.bd (pd e + 1) = P.bd (pd e) := Bb.bd _ (by omega) (k_nx_in Bb b2 hn)
  have lv1 : k_lv M P (pd e) ≤ 1 := by
    rw [k_lv, if_pos l3]; split <;> omega
  have ew : k_wd (hh (P.bd (pd e))) (pd e) - k_tk M P (pd e) = 12 + h e := by rw [k_wd]; omega
  obtain ⟨r, r1, r2⟩ : ∃ r, k_tr M P (hh (P.bd (pd e))) (pd e) (T (P.bd (pd e)) (pd e)) = some r ∧ ∀ s, s < 12 + h' e → r_vo H (V' e s) ∧ k_blw K (V' e s).1 (r s) = true := by
    rw [k_tr, if_neg (by omega), if_neg (by omega), if_neg (by omega), if_neg (by omega), if_neg (by omega), ew]
    by_cases c : k_lv M P (pd e) = 1
    · rw [if_pos c]
      refine ⟨_, rfl, fun s hs => ?_⟩
      by_cases es : s = 12 + h e
      · rw [es, k_up_eq, k_lf, if_neg (by omega), if_neg (by omega), if_neg (by omega), if_pos l3]
        exact hr c
      · rw [k_up_ne es, hv s (by omega)]; exact l6 s (by omega)
    · rw [if_neg c]
      refine ⟨_, rfl, fun s hs => ?_⟩
      rw [hv s (by omega)]; exact l6 s (by omega)
  have t' := r_tf.go (H := H) (v := V' e) (hf := h' e) Z.W l1 l2 (j := pd e + 1) (Or.inl ⟨hn, rfl⟩) r1 (by omega) r2
  refine ⟨D2, e2, e, h', V', pa, _, H, X, pl, i, IC, ID2, by rw [k_up_eq]; exact t', fun f hf => ?_, Z.B, Z.hc, by rw [k_up_eq]; exact Z.el e (by omega), fun f hf => by rw [k_up_ne (by omega)]; exact Z.el f (by omega), Z.oc, rfl⟩
  have x := Z.lo f (by omega)
  rw [k_up_ne (show f ≠ e by omega), (hl f hf).1, (hl f hf).2]
  by_cases c : f + 1 = e
  · rw [c, k_up_eq, ebd]
    rw [c] at x; exact x
  · rw [k_up_ne c]; exact x
theorem r_op43 (Z : r_M p q n g K M P m hh R T Cx Dx d h V pa pd H X pl i C D) (hop : P.op i = 43) : r_res p q K M P hh R T Cx Dx X.sp ((fX6_transfer C p (nI i)).bind (r_pu p)) (fX12_step D q (nI i)) := by
  obtain ⟨i1, c1, d1, d2, d3⟩ := Z.rdD
  obtain ⟨p11, p12, p13, p16⟩ := Z.rdC
  have hC : C.2.1 (p + 11) i = 43 := by rw [p11, hop]; rfl
  have eC : fX6_transfer C p (nI i) = fX6_leave C false := by
    simp (decide := true) only [fX6_transfer, i1, if_true, if_false, c1, hC, o_bs]
  have ft := Z.W.fit Z.t.1 Z.t.2.1
  rw [k_ft, if_neg (by omega), if_neg (by omega), if_pos hop] at ft
  rw [r_stepOb Z (by omega) (by omega), hop, eC]
  show r_res p q K M P hh R T Cx Dx X.sp _ (fX12_objectStep D q 43 (P.ya i) (nI i))
  have eD : fX12_objectStep D q 43 (P.ya i) (nI i) = if (D.2.1 102 35) = (1 : Int32) then (fX12_ended D ((0 : Int32)) (nI i)).bind fun r106 => some (r106) else (some (q_sI D 102 35 ((D.2.1 102 35) - (1 : Int32)))).bind fun S94 => if false = true then (fX12_push S94 0).bind fun r100 => (fX12_next r100).bind fun r103 => some (r103) else (fX12_next S94).bind fun r97 => some (r97) := by
    simp (decide := true) only [fX12_objectStep, if_true, if_false, Option.bind_some]
  by_cases dz : d = 0
  · rw [eD]; exact Z.retEnd dz false Z.hk.2
  · obtain ⟨e, he⟩ : ∃ e, d = e + 1 := ⟨d - 1, by omega⟩
    have hd := Z.C.F.lt
    have IC1 := Z.C.down Z.W.hp (show e ≤ d by omega)
    have ID1 := Z.D.down Z.W.hq (show e ≤ d by omega)
    obtain ⟨l1, l2, l3, l4, l5, l6⟩ := Z.lo e (by omega)
    rw [← he, Z.ei, ft] at l5
    have lv : k_lv M P (pd e) = 0 := by rw [k_lv, if_pos l3, if_pos l5.symm]
    obtain ⟨D2, f1, G⟩ := Z.back he IC1 ID1 (fun f _ => ⟨rfl, rfl⟩) (by omega) (fun s _ => rfl) (fun c => by omega)
    refine ⟨q_sI C 89 7 (nI e), D2, ?_, ?_, Or.inl G⟩
    · have e0 : ¬ (nI d = 0) := by rw [show (0 : Int32) = nI 0 from rfl, z_eqN (by omega) (by decide)]; exact dz
      have e1 : nI d - (1 : Int32) = nI e := by rw [z_sub1 (by omega)]; congr 1; omega
      simp (decide := true) only [fX6_leave, Z.C.F.d, if_neg e0, Z.C.top, Option.bind_some, e1, if_false]
      exact r_pu_0 IC1
    · have e0 : ¬ (nI (d + 1) = 1) := by rw [show (1 : Int32) = nI 1 from rfl, z_eqN (by omega) (by decide)]; omega
      rw [eD, Z.D.F.d, if_neg e0, Option.bind_some, if_neg (by decide), show nI (d + 1) - (1 : Int32) = nI (e + 1) by rw [z_sub1 (by omega), Nat.add_sub_cancel, he], f1]; rfl
theorem r_op42 (Z : r_M p q n g K M P m hh R T Cx Dx d h V pa pd H X pl i C D) (hop : P.op i = 42) : r_res p q K M P hh R T Cx Dx X.sp ((fX6_transfer C p (nI i)).bind (r_pu p)) (fX12_step D q (nI i)) := by
  obtain ⟨i1, c1, d1, d2, d3⟩ := Z.rdD
  obtain ⟨p11, p12, p13, p16⟩ := Z.rdC
  obtain ⟨k1, k2⟩ := k_tk_at (M := M) 42 hop (by decide) (by decide)
  have k1 : k_tk M P i = 1 := k1
  have h8 := Z.t.h8 Z.W
  have hC : C.2.1 (p + 11) i = 42 := by rw [p11, hop]; rfl
  have eC : fX6_transfer C p (nI i) = fX6_leave C true := by
    simp (decide := true) only [fX6_transfer, i1, if_true, if_false, c1, hC, o_bs]
  obtain ⟨j, hj⟩ : ∃ j, h d = j + 1 := ⟨h d - 1, by omega⟩
  obtain ⟨HC, HD⟩ := Z.hk
  rw [hj] at HD
  obtain ⟨D1, f1, ID1⟩ := HD.popN Z.W.hq
  obtain ⟨-, -, -, tt⟩ := Z.t.told Z.W Z.B (by omega) (by omega) (by omega)
  have tt := tt 0 (by omega)
  rw [k1, show 12 + h d - 1 + 0 = 12 + j by omega, show k_told M P i 0 = M.br (P.bd i) by simp [k_told, hop]] at tt
  obtain ⟨v1, -⟩ := Z.t.2.2.2 (12 + j) (by omega)
  have v67 := v1.le Z.B
  obtain ⟨hb, b1, b2⟩ := Z.W.in Z.t.1
  have brt : M.br (P.bd i) ≠ 68 ∧ k_blw K (V d (12 + j)).1 (M.br (P.bd i)) = true := by
    rcases k_br_rng Z.W.hK Z.W.N.S.mJ hb with c | c
    · rw [c, k_fit, if_neg (by decide)] at tt
      rcases k_blw_iff.mp tt with x | x | x <;> omega
    · have := k_tok_lt Z.W.hK c
      rw [k_fit, if_neg (by omega)] at tt
      exact ⟨by rcases c with c | c | c | c <;> have := Z.W.hK.2.1 <;> omega, tt⟩
  rw [r_stepOb Z (by omega) (by omega), hop, eC]
  show r_res p q K M P hh R T Cx Dx X.sp _ (fX12_objectStep D q 42 (P.ya i) (nI i))
  have eD : fX12_objectStep D q 42 (P.ya i) (nI i) = if (D1.2.1 102 35) = (1 : Int32) then (fX12_ended D1 ((0 : Int32)) (nI i)).bind fun r106 => some (r106) else (some (q_sI D1 102 35 ((D1.2.1 102 35) - (1 : Int32)))).bind fun S94 => if true = true then (fX12_push S94 (r_e (V d (12 + j)))).bind fun r100 => (fX12_next r100).bind fun r103 => some (r103) else (fX12_next S94).bind fun r97 => some (r97) := by
    simp (decide := true) only [fX12_objectStep, if_true, if_false, f1, Option.bind_some]
  by_cases dz : d = 0
  · rw [eD]; exact Z.retEnd dz true ID1
  · obtain ⟨e, he⟩ : ∃ e, d = e + 1 := ⟨d - 1, by omega⟩
    have hd := Z.C.F.lt
    have IC1 := Z.C.down Z.W.hp (show e ≤ d by omega)
    have ID2 := (ID1.down Z.W.hq (show e ≤ d by omega)).hcg (h := h) (fun f hf => k_up_ne (by omega))
    obtain ⟨l1, l2, l3, l4, l5, l6⟩ := Z.lo e (by omega)
    rw [← he, Z.ei] at l5
    have lv : k_lv M P (pd e) = 1 := by rw [k_lv, if_pos l3, if_neg (by rw [← l5]; exact brt.1)]
    have he8 := Z.W.hi l1 l2
    have h7 : h e < 8 := by
      obtain ⟨⟨a1, a2, a3, a4⟩, -⟩ := he8
      omega
    obtain ⟨w1, w2, w3⟩ := Z.C.tv (s := 12 + j) (by omega)
    rw [← k_up_self h e] at IC1 ID2
    obtain ⟨C2, g1, IC2⟩ := IC1.pushN Z.W.hp h7 (x := V d (12 + j)) (c := C.2.1 96 (d * 20 + (12 + j))) w1 w3
    obtain ⟨D3, g2, ID3⟩ := ID2.pushN Z.W.hq h7 (x := V d (12 + j)) rfl
    obtain ⟨D4, g3, G⟩ := Z.back he IC2 ID3 (fun f hf => ⟨k_up_ne (by omega), r_uv_F (by omega)⟩) (by rw [k_up_eq]; omega) (fun s hs => r_uv_s (by omega)) (fun _ => by
      rw [r_uv_eq, ← l5]; exact ⟨v1, brt.2⟩)
    refine ⟨C2, D4, ?_, ?_, Or.inl G⟩
    · have e0 : ¬ (nI d = 0) := by rw [show (0 : Int32) = nI 0 from rfl, z_eqN (by omega) (by decide)]; exact dz
      have e1 : nI d - (1 : Int32) = nI e := by rw [z_sub1 (by omega)]; congr 1; omega
      have et : nI (d * 20 + (12 + h d)) - (1 : Int32) = nI (d * 20 + (12 + j)) := by
        rw [z_sub1 (by omega)]; congr 1; omega
      have w2' : (q_sI C 89 7 (nI e)).2.1 97 (d * 20 + (12 + j)) = nI (V d (12 + j)).1 := w2
      have w3' : (q_sI C 89 7 (nI e)).2.1 96 (d * 20 + (12 + j)) = C.2.1 96 (d * 20 + (12 + j)) := rfl
      simp (decide := true) only [fX6_leave, Z.C.F.d, if_neg e0, Z.C.top, Option.bind_some, e1, if_true, et, z_inbN (show d * 20 + (12 + j) < 1280 by omega) (by decide), z_cl (show d * 20 + (12 + j) < 2147483648 by omega), w2', w3', g1]
      exact r_pu_0 IC2
    · have e0 : ¬ (nI (d + 1) = 1) := by rw [show (1 : Int32) = nI 1 from rfl, z_eqN (by omega) (by decide)]; omega
      rw [eD, ID1.F.d, if_neg e0, Option.bind_some, if_pos rfl, show nI (d + 1) - (1 : Int32) = nI (e + 1) by rw [z_sub1 (by omega), Nat.add_sub_cancel, he], g2, Option.bind_some, g3]; rfl
end ZRR
