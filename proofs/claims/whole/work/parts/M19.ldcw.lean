section QLDCW
variable {g : QG} {M : QM} {d K N : Nat} {Q : Option Value → QS → Prop} {k n pc : Nat} {lv : List (Nat × Value)} {st : List Value} {S : QS}
theorem q_ldcSw {j idx : Nat} {tx : String} {bs : List Int32} {r : Nat} (hj : q_strs[j]? = some (M.1.cls, idx, tx, bs)) (hr : r = 1000000 + 2 * j) (hd : decode M.2.1 pc = .ok (.ldc_w idx, 3)) (h : q_L g M d K N Q k n (pc + 3) lv (.ref r :: st) S) : q_L g M d K N Q k n pc lv st S := by
  intro p e s m args below meth c H locs ls C hP hS hb hl
  have hjl := q_strsN hj
  have h1 : W p g.1 e (q_room d K N) s m args below meth c H locs k n (MQ below (q_Q g K Q) args s K N (q_A g)) (F0 m (pc + 3) ls (q_rv g (.ref r) :: st.map (q_rv g))) := h p e s m args below meth c H locs ls C hP hS hb hl
  rw [hr, q_rv_con _ (by omega)] at h1
  have hZ := (C.con.1 j _ idx tx bs hj).1
  intro T hT X
  obtain ⟨t, a1, b1⟩ := h1 T hT X
  exact ⟨t, ldcStringW X C.1 C.own (text := tx) (a := g.2.2.2.2.1 (2 * j)) hZ.1 hZ.2 (g := F0 m pc ls (st.map (q_rv g))) rfl (by rw [C.2.1]; exact hd) t a1, b1⟩
end QLDCW
