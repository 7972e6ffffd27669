/-! ===== String constants: length and charAt ===== -/
theorem q_isS_of {r : Nat} (h : q_isS r = true) : ∃ (j : Nat) (own : String) (ix : Nat) (tx : String) (bs : List Int32), q_strs[j]? = some (own, ix, tx, bs) ∧ r = 1000000 + 2 * j ∧ q_sb r = bs := by
  unfold q_isS at h
  cases hx : q_fs r with
  | none => rw [hx] at h; cases h
  | some x =>
    have h1 := List.find?_some hx
    have h2 := List.mem_of_find?_eq_some hx
    have h3 := List.mem_zipIdx_iff_getElem?.mp h2
    refine ⟨x.2, x.1.1, x.1.2.1, x.1.2.2.1, x.1.2.2.2, h3, ?_, ?_⟩
    · exact (beq_iff_eq.mp h1).symm
    · unfold q_sb
      rw [hx]
theorem fJ0_length_str {r : Nat} {v : Int32} (h : fJ0_length r = some v) : q_isS r = true := (q_guard h).1
theorem fJ0_charAt_str {r : Nat} {i v : Int32} (h : fJ0_charAt r i = some v) : q_isS r = true := (q_guard h).1
/-- all the texts are plain -/
theorem q_plain : ∀ x ∈ q_strs, ∀ b ∈ x.2.2.2, ((b &&& 255).toUInt32 % 65536).toInt32 = b ∧ narrow .char (.int b) = .int b := by decide +kernel
theorem q_plain_at {j : Nat} {own tx : String} {ix : Nat} {bs : List Int32} (hj : q_strs[j]? = some (own, ix, tx, bs)) {k : Nat} (hk : k < bs.length) : ((bs.getD k 0 &&& 255).toUInt32 % 65536).toInt32 = bs.getD k 0 ∧ narrow .char (.int (bs.getD k 0)) = .int (bs.getD k 0) := by
  have h1 := q_plain _ (List.mem_of_getElem? hj) (bs.getD k 0) (by simp only [List.getD_eq_getElem?_getD, List.getElem?_eq_getElem hk, Option.getD_some]; exact List.getElem_mem hk)
  exact h1
section QSTR
variable {g : QG} {Q : Option Value → QS → Prop} {S : QS} {j ix r0 : Nat} {own tx : String} {bs : List Int32}
theorem kJ0_coder (hj : q_strs[j]? = some (own, ix, tx, bs)) (hr : r0 = 1000000 + 2 * j) (hQ : Q (some (.int 0)) S) : q_M g mJ0_coder_7d493 0 0 0 [.ref r0] S Q := by
  show q_L g mJ0_coder_7d493 0 0 0 Q 0 0 0 [(0, .ref r0)] [] S
  refine q_getsC lfJ0_38 dJ0_coder_7d493_0 ?_
  refine q_if_eq 13 (by decide) dJ0_coder_7d493_3 (fun c => absurd c (by decide)) (fun c => ?_)
  refine q_aload_n 0 rfl rfl dJ0_coder_7d493_6 ?_
  refine q_strC hj hr lfJ0_15 dJ0_coder_7d493_7 ?_
  refine q_goto 14 (by decide) dJ0_coder_7d493_10 ?_
  exact q_iret rfl (by decide) dJ0_coder_7d493_14 hQ
theorem kJ0_isLatin1 (hj : q_strs[j]? = some (own, ix, tx, bs)) (hr : r0 = 1000000 + 2 * j) (hQ : Q (some (.int 1)) S) : q_M g mJ0_isLatin1_aae02 0 0 0 [.ref r0] S Q := by
  show q_L g mJ0_isLatin1_aae02 0 0 0 Q 0 0 0 [(0, .ref r0)] [] S
  refine q_getsC lfJ0_38 dJ0_isLatin1_aae02_0 ?_
  refine q_if_eq 17 (by decide) dJ0_isLatin1_aae02_3 (fun c => absurd c (by decide)) (fun c => ?_)
  refine q_aload_n 0 rfl rfl dJ0_isLatin1_aae02_6 ?_
  refine q_strC hj hr lfJ0_15 dJ0_isLatin1_aae02_7 ?_
  refine q_if_ne 17 (by decide) dJ0_isLatin1_aae02_10 (fun c => absurd rfl c) (fun c => ?_)
  refine q_iconst (v := (1 : Int32)) (by decide) dJ0_isLatin1_aae02_13 ?_
  refine q_goto 18 (by decide) dJ0_isLatin1_aae02_14 ?_
  exact q_iret rfl (by decide) dJ0_isLatin1_aae02_18 hQ
theorem kJ0_length_8abf5 {r : Int32} (h : fJ0_length r0 = some r) (hQ : Q (some (.int r)) S) : q_M g mJ0_length_8abf5 1 0 0 [.ref r0] S Q := by
  obtain ⟨h0, h⟩ := q_guard h
  obtain ⟨j, own, ix, tx, bs, hj, hr, hb⟩ := q_isS_of h0
  rw [hb] at h
  obtain rfl := Option.some.inj h
  show q_L g mJ0_length_8abf5 1 0 0 Q 0 0 0 [(0, .ref r0)] [] S
  refine q_aload_n 0 rfl rfl dJ0_length_8abf5_0 ?_
  refine q_strV hj hr rfl lfJ0_9 dJ0_length_8abf5_1 ?_
  refine q_bytL hj rfl dJ0_length_8abf5_4 ?_
  refine q_aload_n 0 rfl rfl dJ0_length_8abf5_5 ?_
  refine q_callT (d := 0) (Mc := mJ0_coder_7d493) (kc := 0) (nc := 0) [] okJ0_coder_7d493 hj hr rfl lmJ0_335 inJ0_coder_7d493 seJ0_coder_7d493 rfl (Nat.le_of_ble_eq_true rfl) (Nat.le_of_ble_eq_true rfl) (Nat.le_refl _) (Nat.le_refl _) dJ0_length_8abf5_6 (kJ0_coder (Q := fun r S' => r = some (.int 0) ∧ S' = S) hj hr ⟨rfl, rfl⟩) (q_kI ?_)
  refine q_ishr dJ0_length_8abf5_9 ?_
  rw [sb_shr0]
  exact q_iret rfl rfl dJ0_length_8abf5_10 hQ
theorem kJ3_checkIndex {i m : Int32} {f : Nat} (h1 : ¬ i < 0) (h2 : i < m) (hQ : Q (some (.int i)) S) : q_M g mJ3_checkIndex_8e157 0 0 0 [.int i, .int m, .ref f] S Q := by
  show q_L g mJ3_checkIndex_8e157 0 0 0 Q 0 0 0 [(0, .int i), (1, .int m), (2, .ref f)] [] S
  refine q_iload_n 0 rfl rfl dJ3_checkIndex_8e157_0 ?_
  refine q_if_lt 9 (by decide) dJ3_checkIndex_8e157_1 (fun c => absurd c h1) (fun c => ?_)
  refine q_iload_n 0 rfl rfl dJ3_checkIndex_8e157_4 ?_
  refine q_iload_n 1 rfl rfl dJ3_checkIndex_8e157_5 ?_
  refine q_icmp_lt 16 (by decide) dJ3_checkIndex_8e157_6 (fun c => ?_) (fun c => absurd h2 c)
  refine q_iload_n 0 rfl rfl dJ3_checkIndex_8e157_16 ?_
  exact q_iret rfl rfl dJ3_checkIndex_8e157_17 hQ
theorem kJ0_checkIndex {i m : Int32} (h1 : ¬ i < 0) (h2 : i < m) (hQ : Q none S) : q_M g mJ0_checkIndex_df160 1 0 0 [.int i, .int m] S Q := by
  show q_L g mJ0_checkIndex_df160 1 0 0 Q 0 0 0 [(0, .int i), (1, .int m)] [] S
  refine q_iload_n 0 rfl rfl dJ0_checkIndex_df160_0 ?_
  refine q_iload_n 1 rfl rfl dJ0_checkIndex_df160_1 ?_
  refine q_getsF lfJ0_1053 dJ0_checkIndex_df160_2 (fun f => ?_)
  refine q_callS (d := 0) (Mc := mJ3_checkIndex_8e157) (kc := 0) (nc := 0) [.int i, .int m, .ref f] okJ3_checkIndex_8e157 lmJ0_1059 inJ3_checkIndex_8e157 rfl (Nat.le_of_ble_eq_true rfl) (Nat.le_of_ble_eq_true rfl) (Nat.le_refl _) (Nat.le_refl _) dJ0_checkIndex_df160_5 (kJ3_checkIndex (Q := fun r S' => r = some (.int i) ∧ S' = S) h1 h2 ⟨rfl, rfl⟩) (q_kI ?_)
  refine q_pop rfl dJ0_checkIndex_df160_8 ?_
  exact q_vret rfl dJ0_checkIndex_df160_9 hQ
theorem kJ1_charAt {i : Int32} {r2 : Nat} (hj : q_strs[j]? = some (own, ix, tx, bs)) (hr : r2 = 1000000 + (2 * j + 1)) (hin : q_inb i bs.length = true) (hQ : Q (some (.int (bs.getD i.toNatClampNeg 0))) S) : q_M g mJ1_charAt_3b067 2 0 0 [.ref r2, .int i] S Q := by
  have hl : bs.length < 2 ^ 31 := by
    have : ∀ x ∈ q_strs, x.2.2.2.length < 2 ^ 31 := by decide +kernel
    exact this _ (List.mem_of_getElem? hj)
  have hv := q_inb_in hin
  obtain ⟨k, hk, rfl⟩ := vp_in_of hv hl
  have hkl : k < 2 ^ 31 := by omega
  have hc := nI_clamp hkl
  obtain ⟨p1, p2⟩ := q_plain_at hj hk
  rw [hc] at hQ
  show q_L g mJ1_charAt_3b067 2 0 0 Q 0 0 0 [(0, .ref r2), (1, .int (nI k))] [] S
  refine q_iload_n 1 rfl rfl dJ1_charAt_3b067_0 ?_
  refine q_aload_n 0 rfl rfl dJ1_charAt_3b067_1 ?_
  refine q_bytL hj hr dJ1_charAt_3b067_2 ?_
  refine q_callS (d := 1) (Mc := mJ0_checkIndex_df160) (kc := 0) (nc := 0) [.int (nI k), .int (nI bs.length)] okJ0_checkIndex_df160 lmJ1_9 inJ0_checkIndex_df160 rfl (Nat.le_of_ble_eq_true rfl) (Nat.le_of_ble_eq_true rfl) (Nat.le_refl _) (Nat.le_refl _) dJ1_charAt_3b067_3 (kJ0_checkIndex (Q := fun r S' => r = none ∧ S' = S) (nI_pos hkl) (nI_lt hk hl) ⟨rfl, rfl⟩) (q_kV ?_)
  refine q_aload_n 0 rfl rfl dJ1_charAt_3b067_6 ?_
  refine q_iload_n 1 rfl rfl dJ1_charAt_3b067_7 ?_
  refine q_bytI hj hr hv dJ1_charAt_3b067_8 ?_
  refine q_sipush (v := (255 : Int32)) (by decide) dJ1_charAt_3b067_9 ?_
  refine q_iand dJ1_charAt_3b067_12 ?_
  refine q_i2c dJ1_charAt_3b067_13 ?_
  rw [hc, p1]
  exact q_iret rfl p2 dJ1_charAt_3b067_14 hQ
theorem kJ0_charAt_5068e {i r : Int32} (h : fJ0_charAt r0 i = some r) (hQ : Q (some (.int r)) S) : q_M g mJ0_charAt_5068e 3 0 0 [.ref r0, .int i] S Q := by
  obtain ⟨h0, h⟩ := q_guard h
  obtain ⟨j, own, ix, tx, bs, hj, hr, hb⟩ := q_isS_of h0
  rw [hb] at h
  obtain ⟨hin, h⟩ := q_guard h
  obtain rfl := Option.some.inj h
  have hp : narrow .char (.int (bs.getD i.toNatClampNeg 0)) = .int (bs.getD i.toNatClampNeg 0) := (q_plain_at hj (by simp only [q_inb, Bool.and_eq_true, decide_eq_true_eq] at hin; exact hin.2)).2
  show q_L g mJ0_charAt_5068e 3 0 0 Q 0 0 0 [(0, .ref r0), (1, .int i)] [] S
  refine q_aload_n 0 rfl rfl dJ0_charAt_5068e_0 ?_
  refine q_callT (d := 2) (Mc := mJ0_isLatin1_aae02) (kc := 0) (nc := 0) [] okJ0_isLatin1_aae02 hj hr rfl lmJ0_492 inJ0_isLatin1_aae02 seJ0_isLatin1_aae02 rfl (Nat.le_of_ble_eq_true rfl) (Nat.le_of_ble_eq_true rfl) (Nat.le_refl _) (Nat.le_refl _) dJ0_charAt_5068e_1 (q_L.deep (by decide) (kJ0_isLatin1 (Q := fun r S' => r = some (.int 1) ∧ S' = S) hj hr ⟨rfl, rfl⟩)) (q_kI ?_)
  refine q_if_eq 16 (by decide) dJ0_charAt_5068e_4 (fun c => absurd c (by decide)) (fun c => ?_)
  refine q_aload_n 0 rfl rfl dJ0_charAt_5068e_7 ?_
  refine q_strV hj hr rfl lfJ0_9 dJ0_charAt_5068e_8 ?_
  refine q_iload_n 1 rfl rfl dJ0_charAt_5068e_11 ?_
  refine q_callS (d := 2) (Mc := mJ1_charAt_3b067) (kc := 0) (nc := 0) [.ref (1000000 + (2 * j + 1)), .int i] okJ1_charAt_3b067 lmJ0_495 inJ1_charAt_3b067 rfl (Nat.le_of_ble_eq_true rfl) (Nat.le_of_ble_eq_true rfl) (Nat.le_refl _) (Nat.le_refl _) dJ0_charAt_5068e_12 (kJ1_charAt (Q := fun r S' => r = some (.int (bs.getD i.toNatClampNeg 0)) ∧ S' = S) hj rfl hin ⟨rfl, rfl⟩) (q_kI ?_)
  exact q_iret rfl hp dJ0_charAt_5068e_15 hQ
end QSTR
