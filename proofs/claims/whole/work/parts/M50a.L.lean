set_option maxRecDepth 20000 in
theorem sL_law_18 {g : QG} {Q : Option Value → QS → Prop} {L : Nat} {xs : Nat → Int32}   {x : Int32 × QS} {z : (Bool × QS) ⊕ (Int32 × QS)} (hL : g.2.2.2.2.2.1 = L) (hxs : g.2.2.2.2.2.2 = xs) (h : tL_law_18 L xs x = some z) (hQ : (Sum.elim (fun r0 : Bool × QS => Q (some (.int (q_b r0.1))) r0.2) (fun y : Int32 × QS => q_L g mL_law 16 183 332315 Q 183 332315 18 [(0, .ref 1000300), (1, .ref 0), (2, .ref 102), (3, .int y.1)] [] y.2) z)) : q_L g mL_law 16 183 332315 Q 183 332315 18 [(0, .ref 1000300), (1, .ref 0), (2, .ref 102), (3, .int x.1)] [] x.2 := by
  unfold tL_law_18 at h
  obtain ⟨pp, epp, h⟩ := q_bindS h
  obtain ⟨ps, eps, h⟩ := q_bindS h
  obtain ⟨q, eq, h⟩ := q_bindS h
  obtain ⟨qs, eqs, h⟩ := q_bindS h
  obtain ⟨hg1, h⟩ := q_guard h
  obtain ⟨w, hpp, hps, hq, hqs, aO, aM⟩ := q_okL_of hg1
  refine q_iload_n 3 rfl rfl dL_law_18 ?_
  refine q_aload_n 0 rfl rfl dL_law_19 ?_
  refine q_scrL2 hL dL_law_20 ?_
  refine q_bipush (v := (6 : Int32)) (by decide) dL_law_21 ?_
  refine q_isub dL_law_23 ?_
  refine q_icmp_gt 429 (by decide) dL_law_24 (fun c => ?_) (fun c => ?_)
  · rw [if_pos c] at h
    refine q_iconst (v := (1 : Int32)) (by decide) dL_law_429 ?_
    cases h
    exact q_iret rfl (by decide) dL_law_430 hQ
  · rw [if_neg c] at h
    refine q_aload_n 0 rfl rfl dL_law_27 ?_
    refine q_iload_n 3 rfl rfl dL_law_28 ?_
    obtain ⟨hg2, h⟩ := q_guard h
    refine q_scrI2 hL hxs (q_inb_in hg2) dL_law_29 ?_
    refine q_bipush (v := (15 : Int32)) (by decide) dL_law_30 ?_
    refine q_iand dL_law_32 ?_
    by_cases c3 : ((xs x.1.toNatClampNeg) &&& (15 : Int32)) = (0 : Int32)
    · rw [if_pos c3] at h
      refine q_tabIn (M := mL_law) (pc := 33) (x := ((xs x.1.toNatClampNeg) &&& (15 : Int32))) 108 (by rw [c3]; decide) (by rw [c3]; decide) (by rw [c3]; rfl) (by decide) dL_law_33 ?_
      refine q_aload_n 1 rfl rfl dL_law_108 ?_
      refine q_aload_n 0 rfl rfl dL_law_109 ?_
      refine q_iload_n 3 rfl rfl dL_law_110 ?_
      refine q_iconst (v := (1 : Int32)) (by decide) dL_law_111 ?_
      refine q_iadd dL_law_112 ?_
      obtain ⟨hg4, h⟩ := q_guard h
      refine q_scrI2 hL hxs (q_inb_in hg4) dL_law_113 ?_
      refine q_aload_n 0 rfl rfl dL_law_114 ?_
      refine q_iload_n 3 rfl rfl dL_law_115 ?_
      refine q_iconst (v := (2 : Int32)) (by decide) dL_law_116 ?_
      refine q_iadd dL_law_117 ?_
      obtain ⟨hg5, h⟩ := q_guard h
      refine q_scrI2 hL hxs (q_inb_in hg5) dL_law_118 ?_
      refine q_aload_n 0 rfl rfl dL_law_119 ?_
      refine q_iload_n 3 rfl rfl dL_law_120 ?_
      refine q_iconst (v := (3 : Int32)) (by decide) dL_law_121 ?_
      refine q_iadd dL_law_122 ?_
      obtain ⟨hg6, h⟩ := q_guard h
      refine q_scrI2 hL hxs (q_inb_in hg6) dL_law_123 ?_
      refine q_aload_n 0 rfl rfl dL_law_124 ?_
      refine q_iload_n 3 rfl rfl dL_law_125 ?_
      refine q_iconst (v := (4 : Int32)) (by decide) dL_law_126 ?_
      refine q_iadd dL_law_127 ?_
      obtain ⟨hg7, h⟩ := q_guard h
      refine q_scrI2 hL hxs (q_inb_in hg7) dL_law_128 ?_
      refine q_aload_n 0 rfl rfl dL_law_129 ?_
      refine q_iload_n 3 rfl rfl dL_law_130 ?_
      refine q_iconst (v := (5 : Int32)) (by decide) dL_law_131 ?_
      refine q_iadd dL_law_132 ?_
      obtain ⟨hg8, h⟩ := q_guard h
      refine q_scrI2 hL hxs (q_inb_in hg8) dL_law_133 ?_
      obtain ⟨r9, e10, h⟩ := q_bind h
      refine q_callV (ci := 10) (d := 15) (Mc := mX10_feed) (kc := 0) (nc := 0) [.int (xs (x.1 + (1 : Int32)).toNatClampNeg), .int (xs (x.1 + (2 : Int32)).toNatClampNeg), .int (xs (x.1 + (3 : Int32)).toNatClampNeg), .int (xs (x.1 + (4 : Int32)).toNatClampNeg), .int (xs (x.1 + (5 : Int32)).toNatClampNeg)] okX10_feed (q_sh0 w) (by decide) rfl lmL_13 inX10_feed seX10_feed rfl (Nat.le_of_ble_eq_true rfl) (Nat.le_of_ble_eq_true rfl) (Nat.le_refl _) (Nat.le_refl _) dL_law_134 (q_L.deep (by decide) (kX10_feed (Q := fun r S' => r = some (.int r9.1) ∧ S' = r9.2) w e10 ⟨rfl, rfl⟩)) (q_kI ?_)
      have fx11 : q_Fx x.2 r9.2 := q_Fx.tr (q_Fx.rf x.2) (fxX10_feed e10)
      refine q_aload_n 2 rfl rfl dL_law_137 ?_
      refine q_aload_n 0 rfl rfl dL_law_138 ?_
      refine q_iload_n 3 rfl rfl dL_law_139 ?_
      refine q_iconst (v := (1 : Int32)) (by decide) dL_law_140 ?_
      refine q_iadd dL_law_141 ?_
      obtain ⟨hg12, h⟩ := q_guard h
      refine q_scrI2 hL hxs (q_inb_in hg12) dL_law_142 ?_
      refine q_aload_n 0 rfl rfl dL_law_143 ?_
      refine q_iload_n 3 rfl rfl dL_law_144 ?_
      refine q_iconst (v := (2 : Int32)) (by decide) dL_law_145 ?_
      refine q_iadd dL_law_146 ?_
      obtain ⟨hg13, h⟩ := q_guard h
      refine q_scrI2 hL hxs (q_inb_in hg13) dL_law_147 ?_
      refine q_aload_n 0 rfl rfl dL_law_148 ?_
      refine q_iload_n 3 rfl rfl dL_law_149 ?_
      refine q_iconst (v := (3 : Int32)) (by decide) dL_law_150 ?_
      refine q_iadd dL_law_151 ?_
      obtain ⟨hg14, h⟩ := q_guard h
      refine q_scrI2 hL hxs (q_inb_in hg14) dL_law_152 ?_
      refine q_aload_n 0 rfl rfl dL_law_153 ?_
      refine q_iload_n 3 rfl rfl dL_law_154 ?_
      refine q_iconst (v := (4 : Int32)) (by decide) dL_law_155 ?_
      refine q_iadd dL_law_156 ?_
      obtain ⟨hg15, h⟩ := q_guard h
      refine q_scrI2 hL hxs (q_inb_in hg15) dL_law_157 ?_
      refine q_aload_n 0 rfl rfl dL_law_158 ?_
      refine q_iload_n 3 rfl rfl dL_law_159 ?_
      refine q_iconst (v := (5 : Int32)) (by decide) dL_law_160 ?_
      refine q_iadd dL_law_161 ?_
      obtain ⟨hg16, h⟩ := q_guard h
      refine q_scrI2 hL hxs (q_inb_in hg16) dL_law_162 ?_
      obtain ⟨r17, e18, h⟩ := q_bind h
      refine q_callV (ci := 12) (d := 15) (Mc := mX12_feed) (kc := 0) (nc := 0) [.int (xs (x.1 + (1 : Int32)).toNatClampNeg), .int (xs (x.1 + (2 : Int32)).toNatClampNeg), .int (xs (x.1 + (3 : Int32)).toNatClampNeg), .int (xs (x.1 + (4 : Int32)).toNatClampNeg), .int (xs (x.1 + (5 : Int32)).toNatClampNeg)] okX12_feed (q_sh102 (w.fx fx11)) (by decide) rfl lmL_17 inX12_feed seX12_feed rfl (Nat.le_of_ble_eq_true rfl) (Nat.le_of_ble_eq_true rfl) (Nat.le_refl _) (Nat.le_refl _) dL_law_163 (q_L.deep (by decide) (kX12_feed (Q := fun r S' => r = some (.int r17.1) ∧ S' = r17.2) (w.fx fx11) e18 ⟨rfl, rfl⟩)) (q_kI ?_)
      have fx19 : q_Fx x.2 r17.2 := q_Fx.tr (fx11) (fxX12_feed e18)
      refine q_icmp_eq 423 (by decide) dL_law_166 (fun c => ?_) (fun c => ?_)
      · rw [if_pos c] at h
        refine q_iinc (v := (x.1 + (6 : Int32))) 3 [(3, .int (x.1 + (6 : Int32))), (0, .ref 1000300), (1, .ref 0), (2, .ref 102)] (by decide) rfl (congrArg (fun t => x.1 + t) (by decide)) rfl dL_law_423 ?_
        refine q_goto 18 (by decide) dL_law_426 ?_
        refine q_sub [1, 2, 3, 0] rfl ?_
        cases h
        exact hQ
      · rw [if_neg c] at h
        refine q_iconst (v := (0 : Int32)) (by decide) dL_law_169 ?_
        cases h
        exact q_iret rfl (by decide) dL_law_170 hQ
    rw [if_neg c3] at h
    by_cases c20 : ((xs x.1.toNatClampNeg) &&& (15 : Int32)) = (1 : Int32)
    · rw [if_pos c20] at h
      refine q_tabIn (M := mL_law) (pc := 33) (x := ((xs x.1.toNatClampNeg) &&& (15 : Int32))) 171 (by rw [c20]; decide) (by rw [c20]; decide) (by rw [c20]; rfl) (by decide) dL_law_33 ?_
      refine q_aload_n 1 rfl rfl dL_law_171 ?_
      refine q_aload_n 0 rfl rfl dL_law_172 ?_
      refine q_iload_n 3 rfl rfl dL_law_173 ?_
      refine q_iconst (v := (1 : Int32)) (by decide) dL_law_174 ?_
      refine q_iadd dL_law_175 ?_
      obtain ⟨hg21, h⟩ := q_guard h
      refine q_scrI2 hL hxs (q_inb_in hg21) dL_law_176 ?_
      obtain ⟨r22, e23, h⟩ := q_bind h
      refine q_callV (ci := 10) (d := 15) (Mc := mX10_end) (kc := 0) (nc := 0) [.int (xs (x.1 + (1 : Int32)).toNatClampNeg)] okX10_end (q_sh0 w) (by decide) rfl lmL_18 inX10_end seX10_end rfl (Nat.le_of_ble_eq_true rfl) (Nat.le_of_ble_eq_true rfl) (Nat.le_refl _) (Nat.le_refl _) dL_law_177 (q_L.deep (by decide) (kX10_end (Q := fun r S' => r = some (.int (q_b r22.1)) ∧ S' = r22.2) w e23 ⟨rfl, rfl⟩)) (q_kI ?_)
      have fx24 : q_Fx x.2 r22.2 := q_Fx.tr (q_Fx.rf x.2) (fxX10_end e23)
      refine q_aload_n 2 rfl rfl dL_law_180 ?_
      refine q_aload_n 0 rfl rfl dL_law_181 ?_
      refine q_iload_n 3 rfl rfl dL_law_182 ?_
      refine q_iconst (v := (1 : Int32)) (by decide) dL_law_183 ?_
      refine q_iadd dL_law_184 ?_
      obtain ⟨hg25, h⟩ := q_guard h
      refine q_scrI2 hL hxs (q_inb_in hg25) dL_law_185 ?_
      obtain ⟨r26, e27, h⟩ := q_bind h
      refine q_callV (ci := 12) (d := 15) (Mc := mX12_end) (kc := 0) (nc := 0) [.int (xs (x.1 + (1 : Int32)).toNatClampNeg)] okX12_end (q_sh102 (w.fx fx24)) (by decide) rfl lmL_22 inX12_end seX12_end rfl (Nat.le_of_ble_eq_true rfl) (Nat.le_of_ble_eq_true rfl) (Nat.le_refl _) (Nat.le_refl _) dL_law_186 (q_L.deep (by decide) (kX12_end (Q := fun r S' => r = some (.int (q_b r26.1)) ∧ S' = r26.2) (w.fx fx24) e27 ⟨rfl, rfl⟩)) (q_kI ?_)
      have fx28 : q_Fx x.2 r26.2 := q_Fx.tr (fx24) (fxX12_end e27)
      refine q_icmp_eq 423 (by decide) dL_law_189 (fun c => ?_) (fun c => ?_)
      · rw [if_pos c] at h
        refine q_iinc (v := (x.1 + (6 : Int32))) 3 [(3, .int (x.1 + (6 : Int32))), (0, .ref 1000300), (1, .ref 0), (2, .ref 102)] (by decide) rfl (congrArg (fun t => x.1 + t) (by decide)) rfl dL_law_423 ?_
        refine q_goto 18 (by decide) dL_law_426 ?_
        refine q_sub [1, 2, 3, 0] rfl ?_
        cases h
        exact hQ
      · rw [if_neg c] at h
        refine q_iconst (v := (0 : Int32)) (by decide) dL_law_192 ?_
        cases h
        exact q_iret rfl (by decide) dL_law_193 hQ
    rw [if_neg c20] at h
    by_cases c29 : ((xs x.1.toNatClampNeg) &&& (15 : Int32)) = (2 : Int32)
    · rw [if_pos c29] at h
      refine q_tabIn (M := mL_law) (pc := 33) (x := ((xs x.1.toNatClampNeg) &&& (15 : Int32))) 194 (by rw [c29]; decide) (by rw [c29]; decide) (by rw [c29]; rfl) (by decide) dL_law_33 ?_
      refine q_aload_n 1 rfl rfl dL_law_194 ?_
      obtain ⟨r30, e31, h⟩ := q_bind h
      refine q_callV (ci := 10) (d := 15) (Mc := mX10_load) (kc := 0) (nc := 0) [] okX10_load (q_sh0 w) (by decide) rfl lmL_23 inX10_load seX10_load rfl (Nat.le_of_ble_eq_true rfl) (Nat.le_of_ble_eq_true rfl) (Nat.le_refl _) (Nat.le_refl _) dL_law_195 (q_L.deep (by decide) (kX10_load (Q := fun r S' => r = some (.int r30.1) ∧ S' = r30.2) w hpp hps (aO) e31 ⟨rfl, rfl⟩)) (q_kI ?_)
      obtain ⟨pp, epp, h⟩ := q_bindS h
      obtain ⟨ps, eps, h⟩ := q_bindS h
      obtain ⟨q, eq, h⟩ := q_bindS h
      obtain ⟨qs, eqs, h⟩ := q_bindS h
      obtain ⟨hg32, h⟩ := q_guard h
      obtain ⟨w, hpp, hps, hq, hqs, aO, aM⟩ := q_okL_of hg32
      refine q_aload_n 2 rfl rfl dL_law_198 ?_
      obtain ⟨r33, e34, h⟩ := q_bind h
      refine q_callV (ci := 12) (d := 15) (Mc := mX12_load) (kc := 0) (nc := 0) [] okX12_load (q_sh102 w) (by decide) rfl lmL_27 inX12_load seX12_load rfl (Nat.le_of_ble_eq_true rfl) (Nat.le_of_ble_eq_true rfl) (Nat.le_refl _) (Nat.le_refl _) dL_law_199 (q_L.deep (by decide) (kX12_load (Q := fun r S' => r = some (.int r33.1) ∧ S' = r33.2) w hq hqs (aM) e34 ⟨rfl, rfl⟩)) (q_kI ?_)
      obtain ⟨pp, epp, h⟩ := q_bindS h
      obtain ⟨ps, eps, h⟩ := q_bindS h
      obtain ⟨q, eq, h⟩ := q_bindS h
      obtain ⟨qs, eqs, h⟩ := q_bindS h
      obtain ⟨hg35, h⟩ := q_guard h
      obtain ⟨w, hpp, hps, hq, hqs, aO, aM⟩ := q_okL_of hg35
      refine q_icmp_eq 423 (by decide) dL_law_202 (fun c => ?_) (fun c => ?_)
      · rw [if_pos c] at h
        refine q_iinc (v := (x.1 + (6 : Int32))) 3 [(3, .int (x.1 + (6 : Int32))), (0, .ref 1000300), (1, .ref 0), (2, .ref 102)] (by decide) rfl (congrArg (fun t => x.1 + t) (by decide)) rfl dL_law_423 ?_
        refine q_goto 18 (by decide) dL_law_426 ?_
        refine q_sub [1, 2, 3, 0] rfl ?_
        cases h
        exact hQ
      · rw [if_neg c] at h
        refine q_iconst (v := (0 : Int32)) (by decide) dL_law_205 ?_
        cases h
        exact q_iret rfl (by decide) dL_law_206 hQ
    rw [if_neg c29] at h
    by_cases c36 : ((xs x.1.toNatClampNeg) &&& (15 : Int32)) = (3 : Int32)
    · rw [if_pos c36] at h
      refine q_tabIn (M := mL_law) (pc := 33) (x := ((xs x.1.toNatClampNeg) &&& (15 : Int32))) 207 (by rw [c36]; decide) (by rw [c36]; decide) (by rw [c36]; rfl) (by decide) dL_law_33 ?_
      refine q_aload_n 1 rfl rfl dL_law_207 ?_
      obtain ⟨r37, e38, h⟩ := q_bind h
      refine q_callV (ci := 10) (d := 15) (Mc := mX10_faultAt) (kc := 0) (nc := 0) [] okX10_faultAt (q_sh0 w) (by decide) rfl lmL_28 inX10_faultAt seX10_faultAt rfl (Nat.le_of_ble_eq_true rfl) (Nat.le_of_ble_eq_true rfl) (Nat.le_refl _) (Nat.le_refl _) dL_law_208 (q_L.deep (by decide) (kX10_faultAt (Q := fun r S' => r = some (.int r37) ∧ S' = x.2) w e38 ⟨rfl, rfl⟩)) (q_kI ?_)
      refine q_aload_n 2 rfl rfl dL_law_211 ?_
      obtain ⟨r39, e40, h⟩ := q_bind h
      refine q_callV (ci := 12) (d := 15) (Mc := mX12_faultAt) (kc := 0) (nc := 0) [] okX12_faultAt (q_sh102 w) (by decide) rfl lmL_31 inX12_faultAt seX12_faultAt rfl (Nat.le_of_ble_eq_true rfl) (Nat.le_of_ble_eq_true rfl) (Nat.le_refl _) (Nat.le_refl _) dL_law_212 (q_L.deep (by decide) (kX12_faultAt (Q := fun r S' => r = some (.int r39) ∧ S' = x.2) w e40 ⟨rfl, rfl⟩)) (q_kI ?_)
      refine q_icmp_eq 423 (by decide) dL_law_215 (fun c => ?_) (fun c => ?_)
      · rw [if_pos c] at h
        refine q_iinc (v := (x.1 + (6 : Int32))) 3 [(3, .int (x.1 + (6 : Int32))), (0, .ref 1000300), (1, .ref 0), (2, .ref 102)] (by decide) rfl (congrArg (fun t => x.1 + t) (by decide)) rfl dL_law_423 ?_
        refine q_goto 18 (by decide) dL_law_426 ?_
        refine q_sub [1, 2, 3, 0] rfl ?_
        cases h
        exact hQ
      · rw [if_neg c] at h
        refine q_iconst (v := (0 : Int32)) (by decide) dL_law_218 ?_
        cases h
        exact q_iret rfl (by decide) dL_law_219 hQ
    rw [if_neg c36] at h
    by_cases c41 : ((xs x.1.toNatClampNeg) &&& (15 : Int32)) = (4 : Int32)
    · rw [if_pos c41] at h
      refine q_tabIn (M := mL_law) (pc := 33) (x := ((xs x.1.toNatClampNeg) &&& (15 : Int32))) 220 (by rw [c41]; decide) (by rw [c41]; decide) (by rw [c41]; rfl) (by decide) dL_law_33 ?_
      refine q_aload_n 1 rfl rfl dL_law_220 ?_
      refine q_aload_n 0 rfl rfl dL_law_221 ?_
      refine q_iload_n 3 rfl rfl dL_law_222 ?_
      refine q_iconst (v := (1 : Int32)) (by decide) dL_law_223 ?_
      refine q_iadd dL_law_224 ?_
      obtain ⟨hg42, h⟩ := q_guard h
      refine q_scrI2 hL hxs (q_inb_in hg42) dL_law_225 ?_
      obtain ⟨r43, e44, h⟩ := q_bind h
      refine q_callV (ci := 10) (d := 15) (Mc := mX10_size) (kc := 0) (nc := 0) [.int (xs (x.1 + (1 : Int32)).toNatClampNeg)] okX10_size (q_sh0 w) (by decide) rfl lmL_32 inX10_size seX10_size rfl (Nat.le_of_ble_eq_true rfl) (Nat.le_of_ble_eq_true rfl) (Nat.le_refl _) (Nat.le_refl _) dL_law_226 (q_L.deep (by decide) (kX10_size (Q := fun r S' => r = some (.int r43) ∧ S' = x.2) w hpp hps (aO) e44 ⟨rfl, rfl⟩)) (q_kI ?_)
      refine q_aload_n 2 rfl rfl dL_law_229 ?_
      refine q_aload_n 0 rfl rfl dL_law_230 ?_
      refine q_iload_n 3 rfl rfl dL_law_231 ?_
      refine q_iconst (v := (1 : Int32)) (by decide) dL_law_232 ?_
      refine q_iadd dL_law_233 ?_
      obtain ⟨hg45, h⟩ := q_guard h
      refine q_scrI2 hL hxs (q_inb_in hg45) dL_law_234 ?_
      obtain ⟨r46, e47, h⟩ := q_bind h
      refine q_callV (ci := 12) (d := 15) (Mc := mX12_size) (kc := 0) (nc := 0) [.int (xs (x.1 + (1 : Int32)).toNatClampNeg)] okX12_size (q_sh102 w) (by decide) rfl lmL_36 inX12_size seX12_size rfl (Nat.le_of_ble_eq_true rfl) (Nat.le_of_ble_eq_true rfl) (Nat.le_refl _) (Nat.le_refl _) dL_law_235 (q_L.deep (by decide) (kX12_size (Q := fun r S' => r = some (.int r46) ∧ S' = x.2) w hq (aM) e47 ⟨rfl, rfl⟩)) (q_kI ?_)
      refine q_icmp_eq 423 (by decide) dL_law_238 (fun c => ?_) (fun c => ?_)
      · rw [if_pos c] at h
        refine q_iinc (v := (x.1 + (6 : Int32))) 3 [(3, .int (x.1 + (6 : Int32))), (0, .ref 1000300), (1, .ref 0), (2, .ref 102)] (by decide) rfl (congrArg (fun t => x.1 + t) (by decide)) rfl dL_law_423 ?_
        refine q_goto 18 (by decide) dL_law_426 ?_
        refine q_sub [1, 2, 3, 0] rfl ?_
        cases h
        exact hQ
      · rw [if_neg c] at h
        refine q_iconst (v := (0 : Int32)) (by decide) dL_law_241 ?_
        cases h
        exact q_iret rfl (by decide) dL_law_242 hQ
    rw [if_neg c41] at h
    by_cases c48 : ((xs x.1.toNatClampNeg) &&& (15 : Int32)) = (5 : Int32)
    · rw [if_pos c48] at h
      refine q_tabIn (M := mL_law) (pc := 33) (x := ((xs x.1.toNatClampNeg) &&& (15 : Int32))) 243 (by rw [c48]; decide) (by rw [c48]; decide) (by rw [c48]; rfl) (by decide) dL_law_33 ?_
      refine q_aload_n 1 rfl rfl dL_law_243 ?_
      refine q_aload_n 0 rfl rfl dL_law_244 ?_
      refine q_iload_n 3 rfl rfl dL_law_245 ?_
      refine q_iconst (v := (1 : Int32)) (by decide) dL_law_246 ?_
      refine q_iadd dL_law_247 ?_
      obtain ⟨hg49, h⟩ := q_guard h
      refine q_scrI2 hL hxs (q_inb_in hg49) dL_law_248 ?_
      obtain ⟨r50, e51, h⟩ := q_bind h
      refine q_callV (ci := 10) (d := 15) (Mc := mX10_height) (kc := 0) (nc := 0) [.int (xs (x.1 + (1 : Int32)).toNatClampNeg)] okX10_height (q_sh0 w) (by decide) rfl lmL_37 inX10_height seX10_height rfl (Nat.le_of_ble_eq_true rfl) (Nat.le_of_ble_eq_true rfl) (Nat.le_refl _) (Nat.le_refl _) dL_law_249 (q_L.deep (by decide) (kX10_height (Q := fun r S' => r = some (.int r50) ∧ S' = x.2) w hpp hps (aO) e51 ⟨rfl, rfl⟩)) (q_kI ?_)
      refine q_aload_n 2 rfl rfl dL_law_252 ?_
      refine q_aload_n 0 rfl rfl dL_law_253 ?_
      refine q_iload_n 3 rfl rfl dL_law_254 ?_
      refine q_iconst (v := (1 : Int32)) (by decide) dL_law_255 ?_
      refine q_iadd dL_law_256 ?_
      obtain ⟨hg52, h⟩ := q_guard h
      refine q_scrI2 hL hxs (q_inb_in hg52) dL_law_257 ?_
      obtain ⟨r53, e54, h⟩ := q_bind h
      refine q_callV (ci := 12) (d := 15) (Mc := mX12_height) (kc := 0) (nc := 0) [.int (xs (x.1 + (1 : Int32)).toNatClampNeg)] okX12_height (q_sh102 w) (by decide) rfl lmL_40 inX12_height seX12_height rfl (Nat.le_of_ble_eq_true rfl) (Nat.le_of_ble_eq_true rfl) (Nat.le_refl _) (Nat.le_refl _) dL_law_258 (q_L.deep (by decide) (kX12_height (Q := fun r S' => r = some (.int r53) ∧ S' = x.2) w hq (aM) e54 ⟨rfl, rfl⟩)) (q_kI ?_)
      refine q_icmp_eq 423 (by decide) dL_law_261 (fun c => ?_) (fun c => ?_)
      · rw [if_pos c] at h
        refine q_iinc (v := (x.1 + (6 : Int32))) 3 [(3, .int (x.1 + (6 : Int32))), (0, .ref 1000300), (1, .ref 0), (2, .ref 102)] (by decide) rfl (congrArg (fun t => x.1 + t) (by decide)) rfl dL_law_423 ?_
        refine q_goto 18 (by decide) dL_law_426 ?_
        refine q_sub [1, 2, 3, 0] rfl ?_
        cases h
        exact hQ
      · rw [if_neg c] at h
        refine q_iconst (v := (0 : Int32)) (by decide) dL_law_264 ?_
        cases h
        exact q_iret rfl (by decide) dL_law_265 hQ
    rw [if_neg c48] at h
    by_cases c55 : ((xs x.1.toNatClampNeg) &&& (15 : Int32)) = (6 : Int32)
    · rw [if_pos c55] at h
      refine q_tabIn (M := mL_law) (pc := 33) (x := ((xs x.1.toNatClampNeg) &&& (15 : Int32))) 266 (by rw [c55]; decide) (by rw [c55]; decide) (by rw [c55]; rfl) (by decide) dL_law_33 ?_
      refine q_aload_n 1 rfl rfl dL_law_266 ?_
      refine q_aload_n 0 rfl rfl dL_law_267 ?_
      refine q_iload_n 3 rfl rfl dL_law_268 ?_
      refine q_iconst (v := (1 : Int32)) (by decide) dL_law_269 ?_
      refine q_iadd dL_law_270 ?_
      obtain ⟨hg56, h⟩ := q_guard h
      refine q_scrI2 hL hxs (q_inb_in hg56) dL_law_271 ?_
      obtain ⟨r57, e58, h⟩ := q_bind h
      refine q_callV (ci := 10) (d := 15) (Mc := mX10_input) (kc := 0) (nc := 0) [.int (xs (x.1 + (1 : Int32)).toNatClampNeg)] okX10_input (q_sh0 w) (by decide) rfl lmL_41 inX10_input seX10_input rfl (Nat.le_of_ble_eq_true rfl) (Nat.le_of_ble_eq_true rfl) (Nat.le_refl _) (Nat.le_refl _) dL_law_272 (q_L.deep (by decide) (kX10_input (Q := fun r S' => r = some (.int (q_b r57.1)) ∧ S' = r57.2) w e58 ⟨rfl, rfl⟩)) (q_kI ?_)
      have fx59 : q_Fx x.2 r57.2 := q_Fx.tr (q_Fx.rf x.2) (fxX10_input e58)
      refine q_aload_n 2 rfl rfl dL_law_275 ?_
      refine q_aload_n 0 rfl rfl dL_law_276 ?_
      refine q_iload_n 3 rfl rfl dL_law_277 ?_
      refine q_iconst (v := (1 : Int32)) (by decide) dL_law_278 ?_
      refine q_iadd dL_law_279 ?_
      obtain ⟨hg60, h⟩ := q_guard h
      refine q_scrI2 hL hxs (q_inb_in hg60) dL_law_280 ?_
      obtain ⟨r61, e62, h⟩ := q_bind h
      refine q_callV (ci := 12) (d := 15) (Mc := mX12_input) (kc := 0) (nc := 0) [.int (xs (x.1 + (1 : Int32)).toNatClampNeg)] okX12_input (q_sh102 (w.fx fx59)) (by decide) rfl lmL_44 inX12_input seX12_input rfl (Nat.le_of_ble_eq_true rfl) (Nat.le_of_ble_eq_true rfl) (Nat.le_refl _) (Nat.le_refl _) dL_law_281 (q_L.deep (by decide) (kX12_input (Q := fun r S' => r = some (.int (q_b r61.1)) ∧ S' = r61.2) (w.fx fx59) e62 ⟨rfl, rfl⟩)) (q_kI ?_)
      have fx63 : q_Fx x.2 r61.2 := q_Fx.tr (fx59) (fxX12_input e62)
      refine q_icmp_eq 423 (by decide) dL_law_284 (fun c => ?_) (fun c => ?_)
      · rw [if_pos c] at h
        refine q_iinc (v := (x.1 + (6 : Int32))) 3 [(3, .int (x.1 + (6 : Int32))), (0, .ref 1000300), (1, .ref 0), (2, .ref 102)] (by decide) rfl (congrArg (fun t => x.1 + t) (by decide)) rfl dL_law_423 ?_
        refine q_goto 18 (by decide) dL_law_426 ?_
        refine q_sub [1, 2, 3, 0] rfl ?_
        cases h
        exact hQ
      · rw [if_neg c] at h
        refine q_iconst (v := (0 : Int32)) (by decide) dL_law_287 ?_
        cases h
        exact q_iret rfl (by decide) dL_law_288 hQ
    rw [if_neg c55] at h
    by_cases c64 : ((xs x.1.toNatClampNeg) &&& (15 : Int32)) = (7 : Int32)
    · rw [if_pos c64] at h
      refine q_tabIn (M := mL_law) (pc := 33) (x := ((xs x.1.toNatClampNeg) &&& (15 : Int32))) 289 (by rw [c64]; decide) (by rw [c64]; decide) (by rw [c64]; rfl) (by decide) dL_law_33 ?_
      refine q_aload_n 1 rfl rfl dL_law_289 ?_
      refine q_aload_n 0 rfl rfl dL_law_290 ?_
      refine q_iload_n 3 rfl rfl dL_law_291 ?_
      refine q_iconst (v := (1 : Int32)) (by decide) dL_law_292 ?_
      refine q_iadd dL_law_293 ?_
      obtain ⟨hg65, h⟩ := q_guard h
      refine q_scrI2 hL hxs (q_inb_in hg65) dL_law_294 ?_
      obtain ⟨r66, e67, h⟩ := q_bind h
      refine q_callV (ci := 10) (d := 15) (Mc := mX10_run) (kc := 0) (nc := 0) [.int (xs (x.1 + (1 : Int32)).toNatClampNeg)] okX10_run (q_sh0 w) (by decide) rfl lmL_45 inX10_run seX10_run rfl (Nat.le_of_ble_eq_true rfl) (Nat.le_of_ble_eq_true rfl) (Nat.le_refl _) (Nat.le_refl _) dL_law_295 (q_L.deep (by decide) (kX10_run (Q := fun r S' => r = some (.int r66.1) ∧ S' = r66.2) w hpp hps (aO) e67 ⟨rfl, rfl⟩)) (q_kI ?_)
      obtain ⟨pp, epp, h⟩ := q_bindS h
      obtain ⟨ps, eps, h⟩ := q_bindS h
      obtain ⟨q, eq, h⟩ := q_bindS h
      obtain ⟨qs, eqs, h⟩ := q_bindS h
      obtain ⟨hg68, h⟩ := q_guard h
      obtain ⟨w, hpp, hps, hq, hqs, aO, aM⟩ := q_okL_of hg68
      refine q_aload_n 2 rfl rfl dL_law_298 ?_
      refine q_aload_n 0 rfl rfl dL_law_299 ?_
      refine q_iload_n 3 rfl rfl dL_law_300 ?_
      refine q_iconst (v := (1 : Int32)) (by decide) dL_law_301 ?_
      refine q_iadd dL_law_302 ?_
      obtain ⟨hg69, h⟩ := q_guard h
      refine q_scrI2 hL hxs (q_inb_in hg69) dL_law_303 ?_
      obtain ⟨r70, e71, h⟩ := q_bind h
      refine q_callV (ci := 12) (d := 15) (Mc := mX12_run) (kc := 0) (nc := 0) [.int (xs (x.1 + (1 : Int32)).toNatClampNeg)] okX12_run (q_sh102 w) (by decide) rfl lmL_48 inX12_run seX12_run rfl (Nat.le_of_ble_eq_true rfl) (Nat.le_of_ble_eq_true rfl) (Nat.le_refl _) (Nat.le_refl _) dL_law_304 (q_L.deep (by decide) (kX12_run (Q := fun r S' => r = some (.int r70.1) ∧ S' = r70.2) w hq (aM) e71 ⟨rfl, rfl⟩)) (q_kI ?_)
      have fx72 : q_Fx r66.2 r70.2 := q_Fx.tr (q_Fx.rf r66.2) (fxX12_run e71)
      refine q_icmp_eq 423 (by decide) dL_law_307 (fun c => ?_) (fun c => ?_)
      · rw [if_pos c] at h
        refine q_iinc (v := (x.1 + (6 : Int32))) 3 [(3, .int (x.1 + (6 : Int32))), (0, .ref 1000300), (1, .ref 0), (2, .ref 102)] (by decide) rfl (congrArg (fun t => x.1 + t) (by decide)) rfl dL_law_423 ?_
        refine q_goto 18 (by decide) dL_law_426 ?_
        refine q_sub [1, 2, 3, 0] rfl ?_
        cases h
        exact hQ
      · rw [if_neg c] at h
        refine q_iconst (v := (0 : Int32)) (by decide) dL_law_310 ?_
        cases h
        exact q_iret rfl (by decide) dL_law_311 hQ
    rw [if_neg c64] at h
    by_cases c73 : ((xs x.1.toNatClampNeg) &&& (15 : Int32)) = (8 : Int32)
    · rw [if_pos c73] at h
      refine q_tabIn (M := mL_law) (pc := 33) (x := ((xs x.1.toNatClampNeg) &&& (15 : Int32))) 312 (by rw [c73]; decide) (by rw [c73]; decide) (by rw [c73]; rfl) (by decide) dL_law_33 ?_
      refine q_aload_n 1 rfl rfl dL_law_312 ?_
      obtain ⟨r74, e75, h⟩ := q_bind h
      refine q_callV (ci := 10) (d := 15) (Mc := mX10_steps) (kc := 0) (nc := 0) [] okX10_steps (q_sh0 w) (by decide) rfl lmL_49 inX10_steps seX10_steps rfl (Nat.le_of_ble_eq_true rfl) (Nat.le_of_ble_eq_true rfl) (Nat.le_refl _) (Nat.le_refl _) dL_law_313 (q_L.deep (by decide) (kX10_steps (Q := fun r S' => r = some (.int r74) ∧ S' = x.2) w e75 ⟨rfl, rfl⟩)) (q_kI ?_)
      refine q_aload_n 2 rfl rfl dL_law_316 ?_
      obtain ⟨r76, e77, h⟩ := q_bind h
      refine q_callV (ci := 12) (d := 15) (Mc := mX12_steps) (kc := 0) (nc := 0) [] okX12_steps (q_sh102 w) (by decide) rfl lmL_52 inX12_steps seX12_steps rfl (Nat.le_of_ble_eq_true rfl) (Nat.le_of_ble_eq_true rfl) (Nat.le_refl _) (Nat.le_refl _) dL_law_317 (q_L.deep (by decide) (kX12_steps (Q := fun r S' => r = some (.int r76) ∧ S' = x.2) w e77 ⟨rfl, rfl⟩)) (q_kI ?_)
      refine q_icmp_eq 423 (by decide) dL_law_320 (fun c => ?_) (fun c => ?_)
      · rw [if_pos c] at h
        refine q_iinc (v := (x.1 + (6 : Int32))) 3 [(3, .int (x.1 + (6 : Int32))), (0, .ref 1000300), (1, .ref 0), (2, .ref 102)] (by decide) rfl (congrArg (fun t => x.1 + t) (by decide)) rfl dL_law_423 ?_
        refine q_goto 18 (by decide) dL_law_426 ?_
        refine q_sub [1, 2, 3, 0] rfl ?_
        cases h
        exact hQ
      · rw [if_neg c] at h
        refine q_iconst (v := (0 : Int32)) (by decide) dL_law_323 ?_
        cases h
        exact q_iret rfl (by decide) dL_law_324 hQ
    rw [if_neg c73] at h
    by_cases c78 : ((xs x.1.toNatClampNeg) &&& (15 : Int32)) = (9 : Int32)
    · rw [if_pos c78] at h
      refine q_tabIn (M := mL_law) (pc := 33) (x := ((xs x.1.toNatClampNeg) &&& (15 : Int32))) 325 (by rw [c78]; decide) (by rw [c78]; decide) (by rw [c78]; rfl) (by decide) dL_law_33 ?_
      refine q_aload_n 1 rfl rfl dL_law_325 ?_
      obtain ⟨r79, e80, h⟩ := q_bind h
      refine q_callV (ci := 10) (d := 15) (Mc := mX10_place) (kc := 0) (nc := 0) [] okX10_place (q_sh0 w) (by decide) rfl lmL_53 inX10_place seX10_place rfl (Nat.le_of_ble_eq_true rfl) (Nat.le_of_ble_eq_true rfl) (Nat.le_refl _) (Nat.le_refl _) dL_law_326 (q_L.deep (by decide) (kX10_place (Q := fun r S' => r = some (.int r79) ∧ S' = x.2) w e80 ⟨rfl, rfl⟩)) (q_kI ?_)
      refine q_aload_n 2 rfl rfl dL_law_329 ?_
      obtain ⟨r81, e82, h⟩ := q_bind h
      refine q_callV (ci := 12) (d := 15) (Mc := mX12_place) (kc := 0) (nc := 0) [] okX12_place (q_sh102 w) (by decide) rfl lmL_56 inX12_place seX12_place rfl (Nat.le_of_ble_eq_true rfl) (Nat.le_of_ble_eq_true rfl) (Nat.le_refl _) (Nat.le_refl _) dL_law_330 (q_L.deep (by decide) (kX12_place (Q := fun r S' => r = some (.int r81) ∧ S' = x.2) w e82 ⟨rfl, rfl⟩)) (q_kI ?_)
      refine q_icmp_eq 423 (by decide) dL_law_333 (fun c => ?_) (fun c => ?_)
      · rw [if_pos c] at h
        refine q_iinc (v := (x.1 + (6 : Int32))) 3 [(3, .int (x.1 + (6 : Int32))), (0, .ref 1000300), (1, .ref 0), (2, .ref 102)] (by decide) rfl (congrArg (fun t => x.1 + t) (by decide)) rfl dL_law_423 ?_
        refine q_goto 18 (by decide) dL_law_426 ?_
        refine q_sub [1, 2, 3, 0] rfl ?_
        cases h
        exact hQ
      · rw [if_neg c] at h
        refine q_iconst (v := (0 : Int32)) (by decide) dL_law_336 ?_
        cases h
        exact q_iret rfl (by decide) dL_law_337 hQ
    rw [if_neg c78] at h
    by_cases c83 : ((xs x.1.toNatClampNeg) &&& (15 : Int32)) = (10 : Int32)
    · rw [if_pos c83] at h
      refine q_tabIn (M := mL_law) (pc := 33) (x := ((xs x.1.toNatClampNeg) &&& (15 : Int32))) 338 (by rw [c83]; decide) (by rw [c83]; decide) (by rw [c83]; rfl) (by decide) dL_law_33 ?_
      refine q_aload_n 1 rfl rfl dL_law_338 ?_
      obtain ⟨r84, e85, h⟩ := q_bind h
      refine q_callV (ci := 10) (d := 15) (Mc := mX10_thrown) (kc := 0) (nc := 0) [] okX10_thrown (q_sh0 w) (by decide) rfl lmL_57 inX10_thrown seX10_thrown rfl (Nat.le_of_ble_eq_true rfl) (Nat.le_of_ble_eq_true rfl) (Nat.le_refl _) (Nat.le_refl _) dL_law_339 (q_L.deep (by decide) (kX10_thrown (Q := fun r S' => r = some (.int r84) ∧ S' = x.2) w e85 ⟨rfl, rfl⟩)) (q_kI ?_)
      refine q_aload_n 2 rfl rfl dL_law_342 ?_
      obtain ⟨r86, e87, h⟩ := q_bind h
      refine q_callV (ci := 12) (d := 15) (Mc := mX12_thrown) (kc := 0) (nc := 0) [] okX12_thrown (q_sh102 w) (by decide) rfl lmL_60 inX12_thrown seX12_thrown rfl (Nat.le_of_ble_eq_true rfl) (Nat.le_of_ble_eq_true rfl) (Nat.le_refl _) (Nat.le_refl _) dL_law_343 (q_L.deep (by decide) (kX12_thrown (Q := fun r S' => r = some (.int r86) ∧ S' = x.2) w e87 ⟨rfl, rfl⟩)) (q_kI ?_)
      refine q_icmp_eq 423 (by decide) dL_law_346 (fun c => ?_) (fun c => ?_)
      · rw [if_pos c] at h
        refine q_iinc (v := (x.1 + (6 : Int32))) 3 [(3, .int (x.1 + (6 : Int32))), (0, .ref 1000300), (1, .ref 0), (2, .ref 102)] (by decide) rfl (congrArg (fun t => x.1 + t) (by decide)) rfl dL_law_423 ?_
        refine q_goto 18 (by decide) dL_law_426 ?_
        refine q_sub [1, 2, 3, 0] rfl ?_
        cases h
        exact hQ
      · rw [if_neg c] at h
        refine q_iconst (v := (0 : Int32)) (by decide) dL_law_349 ?_
        cases h
        exact q_iret rfl (by decide) dL_law_350 hQ
    rw [if_neg c83] at h
    by_cases c88 : ((xs x.1.toNatClampNeg) &&& (15 : Int32)) = (11 : Int32)
    · rw [if_pos c88] at h
      refine q_tabIn (M := mL_law) (pc := 33) (x := ((xs x.1.toNatClampNeg) &&& (15 : Int32))) 351 (by rw [c88]; decide) (by rw [c88]; decide) (by rw [c88]; rfl) (by decide) dL_law_33 ?_
      refine q_aload_n 1 rfl rfl dL_law_351 ?_
      refine q_aload_n 0 rfl rfl dL_law_352 ?_
      refine q_iload_n 3 rfl rfl dL_law_353 ?_
      refine q_iconst (v := (1 : Int32)) (by decide) dL_law_354 ?_
      refine q_iadd dL_law_355 ?_
      obtain ⟨hg89, h⟩ := q_guard h
      refine q_scrI2 hL hxs (q_inb_in hg89) dL_law_356 ?_
      obtain ⟨r90, e91, h⟩ := q_bind h
      refine q_callV (ci := 10) (d := 15) (Mc := mX10_made) (kc := 0) (nc := 0) [.int (xs (x.1 + (1 : Int32)).toNatClampNeg)] okX10_made (q_sh0 w) (by decide) rfl lmL_61 inX10_made seX10_made rfl (Nat.le_of_ble_eq_true rfl) (Nat.le_of_ble_eq_true rfl) (Nat.le_refl _) (Nat.le_refl _) dL_law_357 (q_L.deep (by decide) (kX10_made (Q := fun r S' => r = some (.int r90) ∧ S' = x.2) w e91 ⟨rfl, rfl⟩)) (q_kI ?_)
      refine q_aload_n 2 rfl rfl dL_law_360 ?_
      refine q_aload_n 0 rfl rfl dL_law_361 ?_
      refine q_iload_n 3 rfl rfl dL_law_362 ?_
      refine q_iconst (v := (1 : Int32)) (by decide) dL_law_363 ?_
      refine q_iadd dL_law_364 ?_
      obtain ⟨hg92, h⟩ := q_guard h
      refine q_scrI2 hL hxs (q_inb_in hg92) dL_law_365 ?_
      obtain ⟨r93, e94, h⟩ := q_bind h
      refine q_callV (ci := 12) (d := 15) (Mc := mX12_made) (kc := 0) (nc := 0) [.int (xs (x.1 + (1 : Int32)).toNatClampNeg)] okX12_made (q_sh102 w) (by decide) rfl lmL_64 inX12_made seX12_made rfl (Nat.le_of_ble_eq_true rfl) (Nat.le_of_ble_eq_true rfl) (Nat.le_refl _) (Nat.le_refl _) dL_law_366 (q_L.deep (by decide) (kX12_made (Q := fun r S' => r = some (.int r93) ∧ S' = x.2) w e94 ⟨rfl, rfl⟩)) (q_kI ?_)
      refine q_icmp_eq 423 (by decide) dL_law_369 (fun c => ?_) (fun c => ?_)
      · rw [if_pos c] at h
        refine q_iinc (v := (x.1 + (6 : Int32))) 3 [(3, .int (x.1 + (6 : Int32))), (0, .ref 1000300), (1, .ref 0), (2, .ref 102)] (by decide) rfl (congrArg (fun t => x.1 + t) (by decide)) rfl dL_law_423 ?_
        refine q_goto 18 (by decide) dL_law_426 ?_
        refine q_sub [1, 2, 3, 0] rfl ?_
        cases h
        exact hQ
      · rw [if_neg c] at h
        refine q_iconst (v := (0 : Int32)) (by decide) dL_law_372 ?_
        cases h
        exact q_iret rfl (by decide) dL_law_373 hQ
    rw [if_neg c88] at h
    by_cases c95 : ((xs x.1.toNatClampNeg) &&& (15 : Int32)) = (12 : Int32)
    · rw [if_pos c95] at h
      refine q_tabIn (M := mL_law) (pc := 33) (x := ((xs x.1.toNatClampNeg) &&& (15 : Int32))) 374 (by rw [c95]; decide) (by rw [c95]; decide) (by rw [c95]; rfl) (by decide) dL_law_33 ?_
      refine q_aload_n 1 rfl rfl dL_law_374 ?_
      obtain ⟨r96, e97, h⟩ := q_bind h
      refine q_callV (ci := 10) (d := 15) (Mc := mX10_written) (kc := 0) (nc := 0) [] okX10_written (q_sh0 w) (by decide) rfl lmL_65 inX10_written seX10_written rfl (Nat.le_of_ble_eq_true rfl) (Nat.le_of_ble_eq_true rfl) (Nat.le_refl _) (Nat.le_refl _) dL_law_375 (q_L.deep (by decide) (kX10_written (Q := fun r S' => r = some (.int r96) ∧ S' = x.2) w e97 ⟨rfl, rfl⟩)) (q_kI ?_)
      refine q_aload_n 2 rfl rfl dL_law_378 ?_
      obtain ⟨r98, e99, h⟩ := q_bind h
      refine q_callV (ci := 12) (d := 15) (Mc := mX12_written) (kc := 0) (nc := 0) [] okX12_written (q_sh102 w) (by decide) rfl lmL_68 inX12_written seX12_written rfl (Nat.le_of_ble_eq_true rfl) (Nat.le_of_ble_eq_true rfl) (Nat.le_refl _) (Nat.le_refl _) dL_law_379 (q_L.deep (by decide) (kX12_written (Q := fun r S' => r = some (.int r98) ∧ S' = x.2) w e99 ⟨rfl, rfl⟩)) (q_kI ?_)
      refine q_icmp_eq 423 (by decide) dL_law_382 (fun c => ?_) (fun c => ?_)
      · rw [if_pos c] at h
        refine q_iinc (v := (x.1 + (6 : Int32))) 3 [(3, .int (x.1 + (6 : Int32))), (0, .ref 1000300), (1, .ref 0), (2, .ref 102)] (by decide) rfl (congrArg (fun t => x.1 + t) (by decide)) rfl dL_law_423 ?_
        refine q_goto 18 (by decide) dL_law_426 ?_
        refine q_sub [1, 2, 3, 0] rfl ?_
        cases h
        exact hQ
      · rw [if_neg c] at h
        refine q_iconst (v := (0 : Int32)) (by decide) dL_law_385 ?_
        cases h
        exact q_iret rfl (by decide) dL_law_386 hQ
    rw [if_neg c95] at h
    by_cases c100 : ((xs x.1.toNatClampNeg) &&& (15 : Int32)) = (13 : Int32)
    · rw [if_pos c100] at h
      refine q_tabIn (M := mL_law) (pc := 33) (x := ((xs x.1.toNatClampNeg) &&& (15 : Int32))) 387 (by rw [c100]; decide) (by rw [c100]; decide) (by rw [c100]; rfl) (by decide) dL_law_33 ?_
      refine q_aload_n 1 rfl rfl dL_law_387 ?_
      refine q_aload_n 0 rfl rfl dL_law_388 ?_
      refine q_iload_n 3 rfl rfl dL_law_389 ?_
      refine q_iconst (v := (1 : Int32)) (by decide) dL_law_390 ?_
      refine q_iadd dL_law_391 ?_
      obtain ⟨hg101, h⟩ := q_guard h
      refine q_scrI2 hL hxs (q_inb_in hg101) dL_law_392 ?_
      obtain ⟨r102, e103, h⟩ := q_bind h
      refine q_callV (ci := 10) (d := 15) (Mc := mX10_out) (kc := 0) (nc := 0) [.int (xs (x.1 + (1 : Int32)).toNatClampNeg)] okX10_out (q_sh0 w) (by decide) rfl lmL_69 inX10_out seX10_out rfl (Nat.le_of_ble_eq_true rfl) (Nat.le_of_ble_eq_true rfl) (Nat.le_refl _) (Nat.le_refl _) dL_law_393 (q_L.deep (by decide) (kX10_out (Q := fun r S' => r = some (.int r102) ∧ S' = x.2) w e103 ⟨rfl, rfl⟩)) (q_kI ?_)
      refine q_aload_n 2 rfl rfl dL_law_396 ?_
      refine q_aload_n 0 rfl rfl dL_law_397 ?_
      refine q_iload_n 3 rfl rfl dL_law_398 ?_
      refine q_iconst (v := (1 : Int32)) (by decide) dL_law_399 ?_
      refine q_iadd dL_law_400 ?_
      obtain ⟨hg104, h⟩ := q_guard h
      refine q_scrI2 hL hxs (q_inb_in hg104) dL_law_401 ?_
      obtain ⟨r105, e106, h⟩ := q_bind h
      refine q_callV (ci := 12) (d := 15) (Mc := mX12_out) (kc := 0) (nc := 0) [.int (xs (x.1 + (1 : Int32)).toNatClampNeg)] okX12_out (q_sh102 w) (by decide) rfl lmL_72 inX12_out seX12_out rfl (Nat.le_of_ble_eq_true rfl) (Nat.le_of_ble_eq_true rfl) (Nat.le_refl _) (Nat.le_refl _) dL_law_402 (q_L.deep (by decide) (kX12_out (Q := fun r S' => r = some (.int r105) ∧ S' = x.2) w e106 ⟨rfl, rfl⟩)) (q_kI ?_)
      refine q_icmp_eq 423 (by decide) dL_law_405 (fun c => ?_) (fun c => ?_)
      · rw [if_pos c] at h
        refine q_iinc (v := (x.1 + (6 : Int32))) 3 [(3, .int (x.1 + (6 : Int32))), (0, .ref 1000300), (1, .ref 0), (2, .ref 102)] (by decide) rfl (congrArg (fun t => x.1 + t) (by decide)) rfl dL_law_423 ?_
        refine q_goto 18 (by decide) dL_law_426 ?_
        refine q_sub [1, 2, 3, 0] rfl ?_
        cases h
        exact hQ
      · rw [if_neg c] at h
        refine q_iconst (v := (0 : Int32)) (by decide) dL_law_408 ?_
        cases h
        exact q_iret rfl (by decide) dL_law_409 hQ
    rw [if_neg c100] at h
    by_cases c107 : ((xs x.1.toNatClampNeg) &&& (15 : Int32)) = (14 : Int32)
    · rw [if_pos c107] at h
      refine q_tabIn (M := mL_law) (pc := 33) (x := ((xs x.1.toNatClampNeg) &&& (15 : Int32))) 410 (by rw [c107]; decide) (by rw [c107]; decide) (by rw [c107]; rfl) (by decide) dL_law_33 ?_
      refine q_aload_n 1 rfl rfl dL_law_410 ?_
      obtain ⟨r108, e109, h⟩ := q_bind h
      refine q_callV (ci := 10) (d := 15) (Mc := mX10_strays) (kc := 0) (nc := 0) [] okX10_strays (q_sh0 w) (by decide) rfl lmL_73 inX10_strays seX10_strays rfl (Nat.le_of_ble_eq_true rfl) (Nat.le_of_ble_eq_true rfl) (Nat.le_refl _) (Nat.le_refl _) dL_law_411 (q_L.deep (by decide) (kX10_strays (Q := fun r S' => r = some (.int r108) ∧ S' = x.2) w e109 ⟨rfl, rfl⟩)) (q_kI ?_)
      refine q_aload_n 2 rfl rfl dL_law_414 ?_
      obtain ⟨r110, e111, h⟩ := q_bind h
      refine q_callV (ci := 12) (d := 15) (Mc := mX12_strays) (kc := 0) (nc := 0) [] okX12_strays (q_sh102 w) (by decide) rfl lmL_76 inX12_strays seX12_strays rfl (Nat.le_of_ble_eq_true rfl) (Nat.le_of_ble_eq_true rfl) (Nat.le_refl _) (Nat.le_refl _) dL_law_415 (q_L.deep (by decide) (kX12_strays (Q := fun r S' => r = some (.int r110) ∧ S' = x.2) w e111 ⟨rfl, rfl⟩)) (q_kI ?_)
      refine q_icmp_eq 423 (by decide) dL_law_418 (fun c => ?_) (fun c => ?_)
      · rw [if_pos c] at h
        refine q_iinc (v := (x.1 + (6 : Int32))) 3 [(3, .int (x.1 + (6 : Int32))), (0, .ref 1000300), (1, .ref 0), (2, .ref 102)] (by decide) rfl (congrArg (fun t => x.1 + t) (by decide)) rfl dL_law_423 ?_
        refine q_goto 18 (by decide) dL_law_426 ?_
        refine q_sub [1, 2, 3, 0] rfl ?_
        cases h
        exact hQ
      · rw [if_neg c] at h
        refine q_iconst (v := (0 : Int32)) (by decide) dL_law_421 ?_
        cases h
        exact q_iret rfl (by decide) dL_law_422 hQ
    rw [if_neg c107] at h
    refine q_tabOut (M := mL_law) (pc := 33) (x := ((xs x.1.toNatClampNeg) &&& (15 : Int32))) 423 (by have := lv_neT (a := 0) c3 (by decide); have := lv_neT (a := 1) c20 (by decide); have := lv_neT (a := 2) c29 (by decide); have := lv_neT (a := 3) c36 (by decide); have := lv_neT (a := 4) c41 (by decide); have := lv_neT (a := 5) c48 (by decide); have := lv_neT (a := 6) c55 (by decide); have := lv_neT (a := 7) c64 (by decide); have := lv_neT (a := 8) c73 (by decide); have := lv_neT (a := 9) c78 (by decide); have := lv_neT (a := 10) c83 (by decide); have := lv_neT (a := 11) c88 (by decide); have := lv_neT (a := 12) c95 (by decide); have := lv_neT (a := 13) c100 (by decide); have := lv_neT (a := 14) c107 (by decide); omega) (by decide) dL_law_33 ?_
    refine q_iinc (v := (x.1 + (6 : Int32))) 3 [(3, .int (x.1 + (6 : Int32))), (0, .ref 1000300), (1, .ref 0), (2, .ref 102)] (by decide) rfl (congrArg (fun t => x.1 + t) (by decide)) rfl dL_law_423 ?_
    refine q_goto 18 (by decide) dL_law_426 ?_
    refine q_sub [1, 2, 3, 0] rfl ?_
    cases h
    exact hQ
theorem lL_law_18 {g : QG} {Q : Option Value → QS → Prop} {L : Nat} {xs : Nat → Int32}   {r : Bool × QS} (hL : g.2.2.2.2.2.1 = L) (hxs : g.2.2.2.2.2.2 = xs) (hQ : Q (some (.int (q_b r.1))) r.2) : ∀ (c : Nat) (x : Int32 × QS), q_it (tL_law_18 L xs) c x = some r → q_L g mL_law 16 183 332315 Q 183 332315 18 [(0, .ref 1000300), (1, .ref 0), (2, .ref 102), (3, .int x.1)] [] x.2 := by
  intro c
  induction c with
  | zero => intro x  h; cases h
  | succ c ih =>
    intro x  h
    simp only [q_it] at h
    cases hz : tL_law_18 L xs x with
    | none => rw [hz] at h; cases h
    | some z =>
      rw [hz] at h
      refine sL_law_18 hL hxs hz ?_
      rcases z with z | y
      · cases h; exact hQ
      · exact ih y  h
theorem kL_law_18 {S : QS} {g : QG} {Q : Option Value → QS → Prop} {L : Nat} {xs : Nat → Int32}  {y3 : Int32} {r : Bool × QS} (hL : g.2.2.2.2.2.1 = L) (hxs : g.2.2.2.2.2.2 = xs) (h : fL_law_18 S L xs y3 = some r) (hQ : Q (some (.int (q_b r.1))) r.2) : q_L g mL_law 16 183 332315 Q 183 332315 18 [(0, .ref 1000300), (1, .ref 0), (2, .ref 102), (3, .int y3)] [] S := by
  obtain ⟨c, hc⟩ := q_run_it h
  exact lL_law_18 hL hxs hQ c (y3, S)  hc
