set_option maxRecDepth 20000 in
theorem kX12_leaves {S : QS} {g : QG} {Q : Option Value → QS → Prop} {q : Nat} {x1 : Int32} {r : Int32} (w : q_Wire S) (hq : q_qok q) (h : fX12_leaves S q x1 = some r) (hQ : Q (some (.int r)) S) : q_M g mX12_leaves 0 0 0 [.ref q, .int x1] S Q := by
  unfold fX12_leaves at h
  show q_L g mX12_leaves 0 0 0 Q 0 0 0 [(0, .ref q), (1, .int x1)] [] S
  refine q_aload_n 0 rfl rfl dX12_leaves_0 ?_
  refine q_getR (q_shQ0 w hq) (by decide) (by decide) rfl lfX12_353 dX12_leaves_1 (r := (q + 15)) (q_wrQ0_21 w hq) ?_
  refine q_iload_n 1 rfl rfl dX12_leaves_4 ?_
  obtain ⟨hg1, h⟩ := q_guard h
  refine q_iald (q_shQ15 w hq) (q_inb_in hg1) dX12_leaves_5 ?_
  refine q_istore_n [(2, .int (S.2.1 (q + 15) x1.toNatClampNeg)), (0, .ref q), (1, .int x1)] rfl (by decide) rfl dX12_leaves_6 ?_
  refine q_iload_n 0 rfl rfl dX12_leaves_7 ?_
  by_cases c2 : (S.2.1 (q + 15) x1.toNatClampNeg) = (0 : Int32) ∨ (S.2.1 (q + 15) x1.toNatClampNeg) = (1 : Int32) ∨ (S.2.1 (q + 15) x1.toNatClampNeg) = (2 : Int32) ∨ (S.2.1 (q + 15) x1.toNatClampNeg) = (18 : Int32) ∨ (S.2.1 (q + 15) x1.toNatClampNeg) = (30 : Int32) ∨ (S.2.1 (q + 15) x1.toNatClampNeg) = (31 : Int32) ∨ (S.2.1 (q + 15) x1.toNatClampNeg) = (32 : Int32) ∨ (S.2.1 (q + 15) x1.toNatClampNeg) = (33 : Int32) ∨ (S.2.1 (q + 15) x1.toNatClampNeg) = (35 : Int32) ∨ (S.2.1 (q + 15) x1.toNatClampNeg) = (37 : Int32) ∨ (S.2.1 (q + 15) x1.toNatClampNeg) = (38 : Int32) ∨ (S.2.1 (q + 15) x1.toNatClampNeg) = (44 : Int32)
  · rw [if_pos c2] at h
    have K : ∀ (hK : True), q_L g mX12_leaves 0 0 0 Q 0 0 204 [(2, .int (S.2.1 (q + 15) x1.toNatClampNeg)), (0, .ref q), (1, .int x1)] [] S := by
      intro _
      refine q_iconst (v := (1 : Int32)) (by decide) dX12_leaves_204 ?_
      obtain rfl := Option.some.inj h
      exact q_iret rfl rfl dX12_leaves_205 hQ
    rcases c2 with c2 | c2 | c2 | c2 | c2 | c2 | c2 | c2 | c2 | c2 | c2 | c2
    · exact q_tabIn (M := mX12_leaves) (pc := 8) (x := (S.2.1 (q + 15) x1.toNatClampNeg)) 204 (by rw [c2]; decide) (by rw [c2]; decide) (by rw [c2]; rfl) (by decide) dX12_leaves_8 (K trivial)
    · exact q_tabIn (M := mX12_leaves) (pc := 8) (x := (S.2.1 (q + 15) x1.toNatClampNeg)) 204 (by rw [c2]; decide) (by rw [c2]; decide) (by rw [c2]; rfl) (by decide) dX12_leaves_8 (K trivial)
    · exact q_tabIn (M := mX12_leaves) (pc := 8) (x := (S.2.1 (q + 15) x1.toNatClampNeg)) 204 (by rw [c2]; decide) (by rw [c2]; decide) (by rw [c2]; rfl) (by decide) dX12_leaves_8 (K trivial)
    · exact q_tabIn (M := mX12_leaves) (pc := 8) (x := (S.2.1 (q + 15) x1.toNatClampNeg)) 204 (by rw [c2]; decide) (by rw [c2]; decide) (by rw [c2]; rfl) (by decide) dX12_leaves_8 (K trivial)
    · exact q_tabIn (M := mX12_leaves) (pc := 8) (x := (S.2.1 (q + 15) x1.toNatClampNeg)) 204 (by rw [c2]; decide) (by rw [c2]; decide) (by rw [c2]; rfl) (by decide) dX12_leaves_8 (K trivial)
    · exact q_tabIn (M := mX12_leaves) (pc := 8) (x := (S.2.1 (q + 15) x1.toNatClampNeg)) 204 (by rw [c2]; decide) (by rw [c2]; decide) (by rw [c2]; rfl) (by decide) dX12_leaves_8 (K trivial)
    · exact q_tabIn (M := mX12_leaves) (pc := 8) (x := (S.2.1 (q + 15) x1.toNatClampNeg)) 204 (by rw [c2]; decide) (by rw [c2]; decide) (by rw [c2]; rfl) (by decide) dX12_leaves_8 (K trivial)
    · exact q_tabIn (M := mX12_leaves) (pc := 8) (x := (S.2.1 (q + 15) x1.toNatClampNeg)) 204 (by rw [c2]; decide) (by rw [c2]; decide) (by rw [c2]; rfl) (by decide) dX12_leaves_8 (K trivial)
    · exact q_tabIn (M := mX12_leaves) (pc := 8) (x := (S.2.1 (q + 15) x1.toNatClampNeg)) 204 (by rw [c2]; decide) (by rw [c2]; decide) (by rw [c2]; rfl) (by decide) dX12_leaves_8 (K trivial)
    · exact q_tabIn (M := mX12_leaves) (pc := 8) (x := (S.2.1 (q + 15) x1.toNatClampNeg)) 204 (by rw [c2]; decide) (by rw [c2]; decide) (by rw [c2]; rfl) (by decide) dX12_leaves_8 (K trivial)
    · exact q_tabIn (M := mX12_leaves) (pc := 8) (x := (S.2.1 (q + 15) x1.toNatClampNeg)) 204 (by rw [c2]; decide) (by rw [c2]; decide) (by rw [c2]; rfl) (by decide) dX12_leaves_8 (K trivial)
    · exact q_tabIn (M := mX12_leaves) (pc := 8) (x := (S.2.1 (q + 15) x1.toNatClampNeg)) 204 (by rw [c2]; decide) (by rw [c2]; decide) (by rw [c2]; rfl) (by decide) dX12_leaves_8 (K trivial)
  rw [if_neg c2] at h
  by_cases c3 : (S.2.1 (q + 15) x1.toNatClampNeg) = (5 : Int32) ∨ (S.2.1 (q + 15) x1.toNatClampNeg) = (7 : Int32)
  · rw [if_pos c3] at h
    have K : ∀ (hK : True), q_L g mX12_leaves 0 0 0 Q 0 0 206 [(2, .int (S.2.1 (q + 15) x1.toNatClampNeg)), (0, .ref q), (1, .int x1)] [] S := by
      intro _
      refine q_iconst (v := (2 : Int32)) (by decide) dX12_leaves_206 ?_
      obtain rfl := Option.some.inj h
      exact q_iret rfl rfl dX12_leaves_207 hQ
    rcases c3 with c3 | c3
    · exact q_tabIn (M := mX12_leaves) (pc := 8) (x := (S.2.1 (q + 15) x1.toNatClampNeg)) 206 (by rw [c3]; decide) (by rw [c3]; decide) (by rw [c3]; rfl) (by decide) dX12_leaves_8 (K trivial)
    · exact q_tabIn (M := mX12_leaves) (pc := 8) (x := (S.2.1 (q + 15) x1.toNatClampNeg)) 206 (by rw [c3]; decide) (by rw [c3]; decide) (by rw [c3]; rfl) (by decide) dX12_leaves_8 (K trivial)
  rw [if_neg c3] at h
  by_cases c4 : (S.2.1 (q + 15) x1.toNatClampNeg) = (39 : Int32) ∨ (S.2.1 (q + 15) x1.toNatClampNeg) = (40 : Int32)
  · rw [if_pos c4] at h
    have K : ∀ (hK : True), q_L g mX12_leaves 0 0 0 Q 0 0 208 [(2, .int (S.2.1 (q + 15) x1.toNatClampNeg)), (0, .ref q), (1, .int x1)] [] S := by
      intro _
      refine q_aload_n 1 rfl rfl dX12_leaves_208 ?_
      refine q_getR (q_shQ0 w hq) (by decide) (by decide) rfl lfX12_308 dX12_leaves_209 (r := (q + 10)) (q_wrQ0_16 w hq) ?_
      refine q_aload_n 1 rfl rfl dX12_leaves_212 ?_
      refine q_getR (q_shQ0 w hq) (by decide) (by decide) rfl lfX12_376 dX12_leaves_213 (r := (q + 16)) (q_wrQ0_22 w hq) ?_
      refine q_iload_n 2 rfl rfl dX12_leaves_216 ?_
      obtain ⟨hg5, h⟩ := q_guard h
      refine q_iald (q_shQ16 w hq) (q_inb_in hg5) dX12_leaves_217 ?_
      obtain ⟨hg6, h⟩ := q_guard h
      refine q_iald (q_shQ10 w hq) (q_inb_in hg6) dX12_leaves_218 ?_
      refine q_iconst (v := (-1 : Int32)) (by decide) dX12_leaves_219 ?_
      refine q_icmp_ne 227 (by decide) dX12_leaves_220 (fun c => ?_) (fun c => ?_)
      · rw [if_neg c] at h
        refine q_iconst (v := (1 : Int32)) (by decide) dX12_leaves_227 ?_
        obtain rfl := Option.some.inj h
        exact q_iret rfl rfl dX12_leaves_228 hQ
      · rw [if_pos c] at h
        refine q_iconst (v := (0 : Int32)) (by decide) dX12_leaves_223 ?_
        refine q_goto 228 (by decide) dX12_leaves_224 ?_
        obtain rfl := Option.some.inj h
        exact q_iret rfl rfl dX12_leaves_228 hQ
    rcases c4 with c4 | c4
    · exact q_tabIn (M := mX12_leaves) (pc := 8) (x := (S.2.1 (q + 15) x1.toNatClampNeg)) 208 (by rw [c4]; decide) (by rw [c4]; decide) (by rw [c4]; rfl) (by decide) dX12_leaves_8 (K trivial)
    · exact q_tabIn (M := mX12_leaves) (pc := 8) (x := (S.2.1 (q + 15) x1.toNatClampNeg)) 208 (by rw [c4]; decide) (by rw [c4]; decide) (by rw [c4]; rfl) (by decide) dX12_leaves_8 (K trivial)
  rw [if_neg c4] at h
  have n7 : ¬ (S.2.1 (q + 15) x1.toNatClampNeg) = (0 : Int32) := (fun q => c2 (Or.inl q))
  have n8 : ¬ (S.2.1 (q + 15) x1.toNatClampNeg) = (1 : Int32) := (fun q => c2 (Or.inr (Or.inl q)))
  have n9 : ¬ (S.2.1 (q + 15) x1.toNatClampNeg) = (2 : Int32) := (fun q => c2 (Or.inr (Or.inr (Or.inl q))))
  have n10 : ¬ (S.2.1 (q + 15) x1.toNatClampNeg) = (18 : Int32) := (fun q => c2 (Or.inr (Or.inr (Or.inr (Or.inl q)))))
  have n11 : ¬ (S.2.1 (q + 15) x1.toNatClampNeg) = (30 : Int32) := (fun q => c2 (Or.inr (Or.inr (Or.inr (Or.inr (Or.inl q))))))
  have n12 : ¬ (S.2.1 (q + 15) x1.toNatClampNeg) = (31 : Int32) := (fun q => c2 (Or.inr (Or.inr (Or.inr (Or.inr (Or.inr (Or.inl q)))))))
  have n13 : ¬ (S.2.1 (q + 15) x1.toNatClampNeg) = (32 : Int32) := (fun q => c2 (Or.inr (Or.inr (Or.inr (Or.inr (Or.inr (Or.inr (Or.inl q))))))))
  have n14 : ¬ (S.2.1 (q + 15) x1.toNatClampNeg) = (33 : Int32) := (fun q => c2 (Or.inr (Or.inr (Or.inr (Or.inr (Or.inr (Or.inr (Or.inr (Or.inl q)))))))))
  have n15 : ¬ (S.2.1 (q + 15) x1.toNatClampNeg) = (35 : Int32) := (fun q => c2 (Or.inr (Or.inr (Or.inr (Or.inr (Or.inr (Or.inr (Or.inr (Or.inr (Or.inl q))))))))))
  have n16 : ¬ (S.2.1 (q + 15) x1.toNatClampNeg) = (37 : Int32) := (fun q => c2 (Or.inr (Or.inr (Or.inr (Or.inr (Or.inr (Or.inr (Or.inr (Or.inr (Or.inr (Or.inl q)))))))))))
  have n17 : ¬ (S.2.1 (q + 15) x1.toNatClampNeg) = (38 : Int32) := (fun q => c2 (Or.inr (Or.inr (Or.inr (Or.inr (Or.inr (Or.inr (Or.inr (Or.inr (Or.inr (Or.inr (Or.inl q))))))))))))
  have n18 : ¬ (S.2.1 (q + 15) x1.toNatClampNeg) = (44 : Int32) := (fun q => c2 (Or.inr (Or.inr (Or.inr (Or.inr (Or.inr (Or.inr (Or.inr (Or.inr (Or.inr (Or.inr (Or.inr (q)))))))))))))
  have n19 : ¬ (S.2.1 (q + 15) x1.toNatClampNeg) = (5 : Int32) := (fun q => c3 (Or.inl q))
  have n20 : ¬ (S.2.1 (q + 15) x1.toNatClampNeg) = (7 : Int32) := (fun q => c3 (Or.inr (q)))
  have n21 : ¬ (S.2.1 (q + 15) x1.toNatClampNeg) = (39 : Int32) := (fun q => c4 (Or.inl q))
  have n22 : ¬ (S.2.1 (q + 15) x1.toNatClampNeg) = (40 : Int32) := (fun q => c4 (Or.inr (q)))
  have K : ∀ (hK : True), q_L g mX12_leaves 0 0 0 Q 0 0 229 [(2, .int (S.2.1 (q + 15) x1.toNatClampNeg)), (0, .ref q), (1, .int x1)] [] S := by
    intro _
    refine q_iload_n 0 rfl rfl dX12_leaves_229 ?_
    refine q_bipush (v := (8 : Int32)) (by decide) dX12_leaves_230 ?_
    refine q_icmp_lt 245 (by decide) dX12_leaves_232 (fun c => ?_) (fun c => ?_)
    · rw [if_pos c] at h
      refine q_iconst (v := (0 : Int32)) (by decide) dX12_leaves_245 ?_
      obtain rfl := Option.some.inj h
      exact q_iret rfl rfl dX12_leaves_246 hQ
    · rw [if_neg c] at h
      refine q_iload_n 0 rfl rfl dX12_leaves_235 ?_
      refine q_bipush (v := (17 : Int32)) (by decide) dX12_leaves_236 ?_
      refine q_icmp_gt 245 (by decide) dX12_leaves_238 (fun c => ?_) (fun c => ?_)
      · rw [if_pos c] at h
        refine q_iconst (v := (0 : Int32)) (by decide) dX12_leaves_245 ?_
        obtain rfl := Option.some.inj h
        exact q_iret rfl rfl dX12_leaves_246 hQ
      · rw [if_neg c] at h
        refine q_iconst (v := (1 : Int32)) (by decide) dX12_leaves_241 ?_
        refine q_goto 246 (by decide) dX12_leaves_242 ?_
        obtain rfl := Option.some.inj h
        exact q_iret rfl rfl dX12_leaves_246 hQ
  by_cases n23 : (S.2.1 (q + 15) x1.toNatClampNeg) = (3 : Int32)
  · exact q_tabIn (M := mX12_leaves) (pc := 8) (x := (S.2.1 (q + 15) x1.toNatClampNeg)) 229 (by rw [n23]; decide) (by rw [n23]; decide) (by rw [n23]; rfl) (by decide) dX12_leaves_8 (K trivial)
  by_cases n24 : (S.2.1 (q + 15) x1.toNatClampNeg) = (4 : Int32)
  · exact q_tabIn (M := mX12_leaves) (pc := 8) (x := (S.2.1 (q + 15) x1.toNatClampNeg)) 229 (by rw [n24]; decide) (by rw [n24]; decide) (by rw [n24]; rfl) (by decide) dX12_leaves_8 (K trivial)
  by_cases n25 : (S.2.1 (q + 15) x1.toNatClampNeg) = (6 : Int32)
  · exact q_tabIn (M := mX12_leaves) (pc := 8) (x := (S.2.1 (q + 15) x1.toNatClampNeg)) 229 (by rw [n25]; decide) (by rw [n25]; decide) (by rw [n25]; rfl) (by decide) dX12_leaves_8 (K trivial)
  by_cases n26 : (S.2.1 (q + 15) x1.toNatClampNeg) = (8 : Int32)
  · exact q_tabIn (M := mX12_leaves) (pc := 8) (x := (S.2.1 (q + 15) x1.toNatClampNeg)) 229 (by rw [n26]; decide) (by rw [n26]; decide) (by rw [n26]; rfl) (by decide) dX12_leaves_8 (K trivial)
  by_cases n27 : (S.2.1 (q + 15) x1.toNatClampNeg) = (9 : Int32)
  · exact q_tabIn (M := mX12_leaves) (pc := 8) (x := (S.2.1 (q + 15) x1.toNatClampNeg)) 229 (by rw [n27]; decide) (by rw [n27]; decide) (by rw [n27]; rfl) (by decide) dX12_leaves_8 (K trivial)
  by_cases n28 : (S.2.1 (q + 15) x1.toNatClampNeg) = (10 : Int32)
  · exact q_tabIn (M := mX12_leaves) (pc := 8) (x := (S.2.1 (q + 15) x1.toNatClampNeg)) 229 (by rw [n28]; decide) (by rw [n28]; decide) (by rw [n28]; rfl) (by decide) dX12_leaves_8 (K trivial)
  by_cases n29 : (S.2.1 (q + 15) x1.toNatClampNeg) = (11 : Int32)
  · exact q_tabIn (M := mX12_leaves) (pc := 8) (x := (S.2.1 (q + 15) x1.toNatClampNeg)) 229 (by rw [n29]; decide) (by rw [n29]; decide) (by rw [n29]; rfl) (by decide) dX12_leaves_8 (K trivial)
  by_cases n30 : (S.2.1 (q + 15) x1.toNatClampNeg) = (12 : Int32)
  · exact q_tabIn (M := mX12_leaves) (pc := 8) (x := (S.2.1 (q + 15) x1.toNatClampNeg)) 229 (by rw [n30]; decide) (by rw [n30]; decide) (by rw [n30]; rfl) (by decide) dX12_leaves_8 (K trivial)
  by_cases n31 : (S.2.1 (q + 15) x1.toNatClampNeg) = (13 : Int32)
  · exact q_tabIn (M := mX12_leaves) (pc := 8) (x := (S.2.1 (q + 15) x1.toNatClampNeg)) 229 (by rw [n31]; decide) (by rw [n31]; decide) (by rw [n31]; rfl) (by decide) dX12_leaves_8 (K trivial)
  by_cases n32 : (S.2.1 (q + 15) x1.toNatClampNeg) = (14 : Int32)
  · exact q_tabIn (M := mX12_leaves) (pc := 8) (x := (S.2.1 (q + 15) x1.toNatClampNeg)) 229 (by rw [n32]; decide) (by rw [n32]; decide) (by rw [n32]; rfl) (by decide) dX12_leaves_8 (K trivial)
  by_cases n33 : (S.2.1 (q + 15) x1.toNatClampNeg) = (15 : Int32)
  · exact q_tabIn (M := mX12_leaves) (pc := 8) (x := (S.2.1 (q + 15) x1.toNatClampNeg)) 229 (by rw [n33]; decide) (by rw [n33]; decide) (by rw [n33]; rfl) (by decide) dX12_leaves_8 (K trivial)
  by_cases n34 : (S.2.1 (q + 15) x1.toNatClampNeg) = (16 : Int32)
  · exact q_tabIn (M := mX12_leaves) (pc := 8) (x := (S.2.1 (q + 15) x1.toNatClampNeg)) 229 (by rw [n34]; decide) (by rw [n34]; decide) (by rw [n34]; rfl) (by decide) dX12_leaves_8 (K trivial)
  by_cases n35 : (S.2.1 (q + 15) x1.toNatClampNeg) = (17 : Int32)
  · exact q_tabIn (M := mX12_leaves) (pc := 8) (x := (S.2.1 (q + 15) x1.toNatClampNeg)) 229 (by rw [n35]; decide) (by rw [n35]; decide) (by rw [n35]; rfl) (by decide) dX12_leaves_8 (K trivial)
  by_cases n36 : (S.2.1 (q + 15) x1.toNatClampNeg) = (19 : Int32)
  · exact q_tabIn (M := mX12_leaves) (pc := 8) (x := (S.2.1 (q + 15) x1.toNatClampNeg)) 229 (by rw [n36]; decide) (by rw [n36]; decide) (by rw [n36]; rfl) (by decide) dX12_leaves_8 (K trivial)
  by_cases n37 : (S.2.1 (q + 15) x1.toNatClampNeg) = (20 : Int32)
  · exact q_tabIn (M := mX12_leaves) (pc := 8) (x := (S.2.1 (q + 15) x1.toNatClampNeg)) 229 (by rw [n37]; decide) (by rw [n37]; decide) (by rw [n37]; rfl) (by decide) dX12_leaves_8 (K trivial)
  by_cases n38 : (S.2.1 (q + 15) x1.toNatClampNeg) = (21 : Int32)
  · exact q_tabIn (M := mX12_leaves) (pc := 8) (x := (S.2.1 (q + 15) x1.toNatClampNeg)) 229 (by rw [n38]; decide) (by rw [n38]; decide) (by rw [n38]; rfl) (by decide) dX12_leaves_8 (K trivial)
  by_cases n39 : (S.2.1 (q + 15) x1.toNatClampNeg) = (22 : Int32)
  · exact q_tabIn (M := mX12_leaves) (pc := 8) (x := (S.2.1 (q + 15) x1.toNatClampNeg)) 229 (by rw [n39]; decide) (by rw [n39]; decide) (by rw [n39]; rfl) (by decide) dX12_leaves_8 (K trivial)
  by_cases n40 : (S.2.1 (q + 15) x1.toNatClampNeg) = (23 : Int32)
  · exact q_tabIn (M := mX12_leaves) (pc := 8) (x := (S.2.1 (q + 15) x1.toNatClampNeg)) 229 (by rw [n40]; decide) (by rw [n40]; decide) (by rw [n40]; rfl) (by decide) dX12_leaves_8 (K trivial)
  by_cases n41 : (S.2.1 (q + 15) x1.toNatClampNeg) = (24 : Int32)
  · exact q_tabIn (M := mX12_leaves) (pc := 8) (x := (S.2.1 (q + 15) x1.toNatClampNeg)) 229 (by rw [n41]; decide) (by rw [n41]; decide) (by rw [n41]; rfl) (by decide) dX12_leaves_8 (K trivial)
  by_cases n42 : (S.2.1 (q + 15) x1.toNatClampNeg) = (25 : Int32)
  · exact q_tabIn (M := mX12_leaves) (pc := 8) (x := (S.2.1 (q + 15) x1.toNatClampNeg)) 229 (by rw [n42]; decide) (by rw [n42]; decide) (by rw [n42]; rfl) (by decide) dX12_leaves_8 (K trivial)
  by_cases n43 : (S.2.1 (q + 15) x1.toNatClampNeg) = (26 : Int32)
  · exact q_tabIn (M := mX12_leaves) (pc := 8) (x := (S.2.1 (q + 15) x1.toNatClampNeg)) 229 (by rw [n43]; decide) (by rw [n43]; decide) (by rw [n43]; rfl) (by decide) dX12_leaves_8 (K trivial)
  by_cases n44 : (S.2.1 (q + 15) x1.toNatClampNeg) = (27 : Int32)
  · exact q_tabIn (M := mX12_leaves) (pc := 8) (x := (S.2.1 (q + 15) x1.toNatClampNeg)) 229 (by rw [n44]; decide) (by rw [n44]; decide) (by rw [n44]; rfl) (by decide) dX12_leaves_8 (K trivial)
  by_cases n45 : (S.2.1 (q + 15) x1.toNatClampNeg) = (28 : Int32)
  · exact q_tabIn (M := mX12_leaves) (pc := 8) (x := (S.2.1 (q + 15) x1.toNatClampNeg)) 229 (by rw [n45]; decide) (by rw [n45]; decide) (by rw [n45]; rfl) (by decide) dX12_leaves_8 (K trivial)
  by_cases n46 : (S.2.1 (q + 15) x1.toNatClampNeg) = (29 : Int32)
  · exact q_tabIn (M := mX12_leaves) (pc := 8) (x := (S.2.1 (q + 15) x1.toNatClampNeg)) 229 (by rw [n46]; decide) (by rw [n46]; decide) (by rw [n46]; rfl) (by decide) dX12_leaves_8 (K trivial)
  by_cases n47 : (S.2.1 (q + 15) x1.toNatClampNeg) = (34 : Int32)
  · exact q_tabIn (M := mX12_leaves) (pc := 8) (x := (S.2.1 (q + 15) x1.toNatClampNeg)) 229 (by rw [n47]; decide) (by rw [n47]; decide) (by rw [n47]; rfl) (by decide) dX12_leaves_8 (K trivial)
  by_cases n48 : (S.2.1 (q + 15) x1.toNatClampNeg) = (36 : Int32)
  · exact q_tabIn (M := mX12_leaves) (pc := 8) (x := (S.2.1 (q + 15) x1.toNatClampNeg)) 229 (by rw [n48]; decide) (by rw [n48]; decide) (by rw [n48]; rfl) (by decide) dX12_leaves_8 (K trivial)
  by_cases n49 : (S.2.1 (q + 15) x1.toNatClampNeg) = (41 : Int32)
  · exact q_tabIn (M := mX12_leaves) (pc := 8) (x := (S.2.1 (q + 15) x1.toNatClampNeg)) 229 (by rw [n49]; decide) (by rw [n49]; decide) (by rw [n49]; rfl) (by decide) dX12_leaves_8 (K trivial)
  by_cases n50 : (S.2.1 (q + 15) x1.toNatClampNeg) = (42 : Int32)
  · exact q_tabIn (M := mX12_leaves) (pc := 8) (x := (S.2.1 (q + 15) x1.toNatClampNeg)) 229 (by rw [n50]; decide) (by rw [n50]; decide) (by rw [n50]; rfl) (by decide) dX12_leaves_8 (K trivial)
  by_cases n51 : (S.2.1 (q + 15) x1.toNatClampNeg) = (43 : Int32)
  · exact q_tabIn (M := mX12_leaves) (pc := 8) (x := (S.2.1 (q + 15) x1.toNatClampNeg)) 229 (by rw [n51]; decide) (by rw [n51]; decide) (by rw [n51]; rfl) (by decide) dX12_leaves_8 (K trivial)
  exact q_tabOut (M := mX12_leaves) (pc := 8) (x := (S.2.1 (q + 15) x1.toNatClampNeg)) 229 (by have := lv_neT (a := 0) n7 (by decide); have := lv_neT (a := 1) n8 (by decide); have := lv_neT (a := 2) n9 (by decide); have := lv_neT (a := 18) n10 (by decide); have := lv_neT (a := 30) n11 (by decide); have := lv_neT (a := 31) n12 (by decide); have := lv_neT (a := 32) n13 (by decide); have := lv_neT (a := 33) n14 (by decide); have := lv_neT (a := 35) n15 (by decide); have := lv_neT (a := 37) n16 (by decide); have := lv_neT (a := 38) n17 (by decide); have := lv_neT (a := 44) n18 (by decide); have := lv_neT (a := 5) n19 (by decide); have := lv_neT (a := 7) n20 (by decide); have := lv_neT (a := 39) n21 (by decide); have := lv_neT (a := 40) n22 (by decide); have := lv_neT (a := 3) n23 (by decide); have := lv_neT (a := 4) n24 (by decide); have := lv_neT (a := 6) n25 (by decide); have := lv_neT (a := 8) n26 (by decide); have := lv_neT (a := 9) n27 (by decide); have := lv_neT (a := 10) n28 (by decide); have := lv_neT (a := 11) n29 (by decide); have := lv_neT (a := 12) n30 (by decide); have := lv_neT (a := 13) n31 (by decide); have := lv_neT (a := 14) n32 (by decide); have := lv_neT (a := 15) n33 (by decide); have := lv_neT (a := 16) n34 (by decide); have := lv_neT (a := 17) n35 (by decide); have := lv_neT (a := 19) n36 (by decide); have := lv_neT (a := 20) n37 (by decide); have := lv_neT (a := 21) n38 (by decide); have := lv_neT (a := 22) n39 (by decide); have := lv_neT (a := 23) n40 (by decide); have := lv_neT (a := 24) n41 (by decide); have := lv_neT (a := 25) n42 (by decide); have := lv_neT (a := 26) n43 (by decide); have := lv_neT (a := 27) n44 (by decide); have := lv_neT (a := 28) n45 (by decide); have := lv_neT (a := 29) n46 (by decide); have := lv_neT (a := 34) n47 (by decide); have := lv_neT (a := 36) n48 (by decide); have := lv_neT (a := 41) n49 (by decide); have := lv_neT (a := 42) n50 (by decide); have := lv_neT (a := 43) n51 (by decide); omega) (by decide) dX12_leaves_8 (K trivial)
set_option maxRecDepth 20000 in
theorem kX12_hasNext {S : QS} {g : QG} {Q : Option Value → QS → Prop}  {x0 : Int32} {r : Bool} (w : q_Wire S) (h : fX12_hasNext S x0 = some r) (hQ : Q (some (.int (q_b r))) S) : q_M g mX12_hasNext 0 0 0 [.int x0] S Q := by
  unfold fX12_hasNext at h
  show q_L g mX12_hasNext 0 0 0 Q 0 0 0 [(0, .int x0)] [] S
  refine q_iload_n 0 rfl rfl dX12_hasNext_0 ?_
  refine q_bipush (v := (19 : Int32)) (by decide) dX12_hasNext_1 ?_
  refine q_icmp_eq 28 (by decide) dX12_hasNext_3 (fun c => ?_) (fun c => ?_)
  · rw [if_pos c] at h
    refine q_iconst (v := (0 : Int32)) (by decide) dX12_hasNext_28 ?_
    obtain rfl := Option.some.inj h
    exact q_iret rfl (by decide) dX12_hasNext_29 hQ
  · rw [if_neg c] at h
    refine q_iload_n 0 rfl rfl dX12_hasNext_6 ?_
    refine q_bipush (v := (41 : Int32)) (by decide) dX12_hasNext_7 ?_
    refine q_icmp_eq 28 (by decide) dX12_hasNext_9 (fun c => ?_) (fun c => ?_)
    · rw [if_pos c] at h
      refine q_iconst (v := (0 : Int32)) (by decide) dX12_hasNext_28 ?_
      obtain rfl := Option.some.inj h
      exact q_iret rfl (by decide) dX12_hasNext_29 hQ
    · rw [if_neg c] at h
      refine q_iload_n 0 rfl rfl dX12_hasNext_12 ?_
      refine q_bipush (v := (42 : Int32)) (by decide) dX12_hasNext_13 ?_
      refine q_icmp_eq 28 (by decide) dX12_hasNext_15 (fun c => ?_) (fun c => ?_)
      · rw [if_pos c] at h
        refine q_iconst (v := (0 : Int32)) (by decide) dX12_hasNext_28 ?_
        obtain rfl := Option.some.inj h
        exact q_iret rfl (by decide) dX12_hasNext_29 hQ
      · rw [if_neg c] at h
        refine q_iload_n 0 rfl rfl dX12_hasNext_18 ?_
        refine q_bipush (v := (43 : Int32)) (by decide) dX12_hasNext_19 ?_
        refine q_icmp_eq 28 (by decide) dX12_hasNext_21 (fun c => ?_) (fun c => ?_)
        · rw [if_pos c] at h
          refine q_iconst (v := (0 : Int32)) (by decide) dX12_hasNext_28 ?_
          obtain rfl := Option.some.inj h
          exact q_iret rfl (by decide) dX12_hasNext_29 hQ
        · rw [if_neg c] at h
          refine q_iconst (v := (1 : Int32)) (by decide) dX12_hasNext_24 ?_
          refine q_goto 29 (by decide) dX12_hasNext_25 ?_
          obtain rfl := Option.some.inj h
          exact q_iret rfl (by decide) dX12_hasNext_29 hQ
set_option maxRecDepth 20000 in
theorem kX12_hasLabel {S : QS} {g : QG} {Q : Option Value → QS → Prop}  {x0 : Int32} {r : Bool} (w : q_Wire S) (h : fX12_hasLabel S x0 = some r) (hQ : Q (some (.int (q_b r))) S) : q_M g mX12_hasLabel 0 0 0 [.int x0] S Q := by
  unfold fX12_hasLabel at h
  show q_L g mX12_hasLabel 0 0 0 Q 0 0 0 [(0, .int x0)] [] S
  refine q_iload_n 0 rfl rfl dX12_hasLabel_0 ?_
  refine q_bipush (v := (19 : Int32)) (by decide) dX12_hasLabel_1 ?_
  refine q_icmp_lt 16 (by decide) dX12_hasLabel_3 (fun c => ?_) (fun c => ?_)
  · rw [if_pos c] at h
    refine q_iconst (v := (0 : Int32)) (by decide) dX12_hasLabel_16 ?_
    obtain rfl := Option.some.inj h
    exact q_iret rfl (by decide) dX12_hasLabel_17 hQ
  · rw [if_neg c] at h
    refine q_iload_n 0 rfl rfl dX12_hasLabel_6 ?_
    refine q_bipush (v := (29 : Int32)) (by decide) dX12_hasLabel_7 ?_
    refine q_icmp_gt 16 (by decide) dX12_hasLabel_9 (fun c => ?_) (fun c => ?_)
    · rw [if_pos c] at h
      refine q_iconst (v := (0 : Int32)) (by decide) dX12_hasLabel_16 ?_
      obtain rfl := Option.some.inj h
      exact q_iret rfl (by decide) dX12_hasLabel_17 hQ
    · rw [if_neg c] at h
      refine q_iconst (v := (1 : Int32)) (by decide) dX12_hasLabel_12 ?_
      refine q_goto 17 (by decide) dX12_hasLabel_13 ?_
      obtain rfl := Option.some.inj h
      exact q_iret rfl (by decide) dX12_hasLabel_17 hQ
set_option maxRecDepth 20000 in
theorem kX12_covers {S : QS} {g : QG} {Q : Option Value → QS → Prop} {q : Nat} {x1 : Int32} {x2 : Int32} {r : Bool} (w : q_Wire S) (hq : q_qok q) (h : fX12_covers S q x1 x2 = some r) (hQ : Q (some (.int (q_b r))) S) : q_M g mX12_covers 0 0 0 [.ref q, .int x1, .int x2] S Q := by
  unfold fX12_covers at h
  show q_L g mX12_covers 0 0 0 Q 0 0 0 [(0, .ref q), (1, .int x1), (2, .int x2)] [] S
  refine q_aload_n 0 rfl rfl dX12_covers_0 ?_
  refine q_getR (q_shQ0 w hq) (by decide) (by decide) rfl lfX12_359 dX12_covers_1 (r := (q + 21)) (q_wrQ0_27 w hq) ?_
  refine q_iload_n 1 rfl rfl dX12_covers_4 ?_
  obtain ⟨hg1, h⟩ := q_guard h
  refine q_iald (q_shQ21 w hq) (q_inb_in hg1) dX12_covers_5 ?_
  refine q_aload_n 0 rfl rfl dX12_covers_6 ?_
  refine q_getR (q_shQ0 w hq) (by decide) (by decide) rfl lfX12_374 dX12_covers_7 (r := (q + 18)) (q_wrQ0_24 w hq) ?_
  refine q_iload_n 2 rfl rfl dX12_covers_10 ?_
  obtain ⟨hg2, h⟩ := q_guard h
  refine q_iald (q_shQ18 w hq) (q_inb_in hg2) dX12_covers_11 ?_
  refine q_icmp_ne 39 (by decide) dX12_covers_12 (fun c => ?_) (fun c => ?_)
  · rw [if_neg c] at h
    refine q_iconst (v := (0 : Int32)) (by decide) dX12_covers_39 ?_
    obtain rfl := Option.some.inj h
    exact q_iret rfl (by decide) dX12_covers_40 hQ
  · rw [if_pos c] at h
    refine q_aload_n 0 rfl rfl dX12_covers_15 ?_
    refine q_getR (q_shQ0 w hq) (by decide) (by decide) rfl lfX12_362 dX12_covers_16 (r := (q + 22)) (q_wrQ0_28 w hq) ?_
    refine q_iload_n 1 rfl rfl dX12_covers_19 ?_
    obtain ⟨hg3, h⟩ := q_guard h
    refine q_iald (q_shQ22 w hq) (q_inb_in hg3) dX12_covers_20 ?_
    refine q_iload_n 2 rfl rfl dX12_covers_21 ?_
    refine q_icmp_gt 39 (by decide) dX12_covers_22 (fun c => ?_) (fun c => ?_)
    · rw [if_pos c] at h
      refine q_iconst (v := (0 : Int32)) (by decide) dX12_covers_39 ?_
      obtain rfl := Option.some.inj h
      exact q_iret rfl (by decide) dX12_covers_40 hQ
    · rw [if_neg c] at h
      refine q_iload_n 2 rfl rfl dX12_covers_25 ?_
      refine q_aload_n 0 rfl rfl dX12_covers_26 ?_
      refine q_getR (q_shQ0 w hq) (by decide) (by decide) rfl lfX12_365 dX12_covers_27 (r := (q + 23)) (q_wrQ0_29 w hq) ?_
      refine q_iload_n 1 rfl rfl dX12_covers_30 ?_
      obtain ⟨hg4, h⟩ := q_guard h
      refine q_iald (q_shQ23 w hq) (q_inb_in hg4) dX12_covers_31 ?_
      refine q_icmp_ge 39 (by decide) dX12_covers_32 (fun c => ?_) (fun c => ?_)
      · rw [if_pos c] at h
        refine q_iconst (v := (0 : Int32)) (by decide) dX12_covers_39 ?_
        obtain rfl := Option.some.inj h
        exact q_iret rfl (by decide) dX12_covers_40 hQ
      · rw [if_neg c] at h
        refine q_iconst (v := (1 : Int32)) (by decide) dX12_covers_35 ?_
        refine q_goto 40 (by decide) dX12_covers_36 ?_
        obtain rfl := Option.some.inj h
        exact q_iret rfl (by decide) dX12_covers_40 hQ
set_option maxRecDepth 20000 in
theorem sX12_goodHeights_5 {S : QS} {g : QG} {Q : Option Value → QS → Prop} {q : Nat} {y2 : Int32} {x : Int32 × Int32} {z : (Int32) ⊕ (Int32 × Int32)} (w : q_Wire S) (hq : q_qok q) (h : tX12_goodHeights_5 S q y2 x = some z) (hQ : (Sum.elim (fun r0 : Int32 => Q (some (.int r0)) S) (fun y : Int32 × Int32 => q_L g mX12_goodHeights 1 0 0 Q 0 0 5 [(0, .ref 102), (1, .ref q), (2, .int y2), (3, .int y.1), (4, .int y.2)] [] S) z)) : q_L g mX12_goodHeights 1 0 0 Q 0 0 5 [(0, .ref 102), (1, .ref q), (2, .int y2), (3, .int x.1), (4, .int x.2)] [] S := by
  unfold tX12_goodHeights_5 at h
  refine q_iload 4 rfl dX12_goodHeights_5 ?_
  refine q_bipush (v := (8 : Int32)) (by decide) dX12_goodHeights_7 ?_
  refine q_icmp_gt 74 (by decide) dX12_goodHeights_9 (fun c => ?_) (fun c => ?_)
  · rw [if_pos c] at h
    refine q_iload_n 3 rfl rfl dX12_goodHeights_74 ?_
    cases h
    exact q_iret rfl rfl dX12_goodHeights_75 hQ
  · rw [if_neg c] at h
    refine q_iload 4 rfl dX12_goodHeights_12 ?_
    refine q_aload_n 1 rfl rfl dX12_goodHeights_14 ?_
    refine q_iload_n 2 rfl rfl dX12_goodHeights_15 ?_
    obtain ⟨r1, e2, h⟩ := q_bind h
    refine q_callS (d := 0) (Mc := mX12_howMany) (kc := 0) (nc := 0) [.ref q, .int y2] okX12_howMany lmX12_427 inX12_howMany rfl (Nat.le_of_ble_eq_true rfl) (Nat.le_of_ble_eq_true rfl) (Nat.le_refl _) (Nat.le_refl _) dX12_goodHeights_16 (q_L.deep (by decide) (kX12_howMany (Q := fun r S' => r = some (.int r1) ∧ S' = S) w hq e2 ⟨rfl, rfl⟩)) (q_kI ?_)
    refine q_isub dX12_goodHeights_19 ?_
    refine q_istore [(5, .int (x.2 - r1)), (0, .ref 102), (1, .ref q), (2, .int y2), (3, .int x.1), (4, .int x.2)] (by decide) rfl dX12_goodHeights_20 ?_
    refine q_aload_n 1 rfl rfl dX12_goodHeights_22 ?_
    refine q_getR (q_sh102 w) (by decide) (by decide) rfl lfX12_58 dX12_goodHeights_23 (r := 170) (q_wr102_21 w) ?_
    refine q_iload_n 3 rfl rfl dX12_goodHeights_26 ?_
    obtain ⟨hg3, h⟩ := q_guard h
    refine q_iald (q_sh170 w) (q_inb_in hg3) dX12_goodHeights_27 ?_
    refine q_iload 5 rfl dX12_goodHeights_28 ?_
    refine q_ishr dX12_goodHeights_30 ?_
    refine q_iconst (v := (1 : Int32)) (by decide) dX12_goodHeights_31 ?_
    refine q_iand dX12_goodHeights_32 ?_
    refine q_iconst (v := (1 : Int32)) (by decide) dX12_goodHeights_33 ?_
    refine q_icmp_ne 68 (by decide) dX12_goodHeights_34 (fun c => ?_) (fun c => ?_)
    · rw [if_neg c] at h
      refine q_iinc (v := (x.2 + (1 : Int32))) 5 [(4, .int (x.2 + (1 : Int32))), (5, .int (x.2 - r1)), (0, .ref 102), (1, .ref q), (2, .int y2), (3, .int x.1)] (by decide) rfl (congrArg (fun t => x.2 + t) (by decide)) rfl dX12_goodHeights_68 ?_
      refine q_goto 5 (by decide) dX12_goodHeights_71 ?_
      refine q_sub [2, 3, 4, 5, 0] rfl ?_
      cases h
      exact hQ
    · rw [if_pos c] at h
      refine q_iload 0 rfl dX12_goodHeights_37 ?_
      refine q_if_lt 68 (by decide) dX12_goodHeights_39 (fun c => ?_) (fun c => ?_)
      · rw [if_pos c] at h
        refine q_iinc (v := (x.2 + (1 : Int32))) 5 [(4, .int (x.2 + (1 : Int32))), (5, .int (x.2 - r1)), (0, .ref 102), (1, .ref q), (2, .int y2), (3, .int x.1)] (by decide) rfl (congrArg (fun t => x.2 + t) (by decide)) rfl dX12_goodHeights_68 ?_
        refine q_goto 5 (by decide) dX12_goodHeights_71 ?_
        refine q_sub [2, 3, 4, 5, 0] rfl ?_
        cases h
        exact hQ
      · rw [if_neg c] at h
        refine q_iload 0 rfl dX12_goodHeights_42 ?_
        refine q_aload_n 2 rfl rfl dX12_goodHeights_44 ?_
        refine q_iload_n 3 rfl rfl dX12_goodHeights_45 ?_
        obtain ⟨r4, e5, h⟩ := q_bind h
        refine q_callS (d := 0) (Mc := mX12_leaves) (kc := 0) (nc := 0) [.ref q, .int y2] okX12_leaves lmX12_430 inX12_leaves rfl (Nat.le_of_ble_eq_true rfl) (Nat.le_of_ble_eq_true rfl) (Nat.le_refl _) (Nat.le_refl _) dX12_goodHeights_46 (q_L.deep (by decide) (kX12_leaves (Q := fun r S' => r = some (.int r4) ∧ S' = S) w hq e5 ⟨rfl, rfl⟩)) (q_kI ?_)
        refine q_iadd dX12_goodHeights_49 ?_
        refine q_bipush (v := (8 : Int32)) (by decide) dX12_goodHeights_50 ?_
        refine q_icmp_gt 68 (by decide) dX12_goodHeights_52 (fun c => ?_) (fun c => ?_)
        · rw [if_pos c] at h
          refine q_iinc (v := (x.2 + (1 : Int32))) 5 [(4, .int (x.2 + (1 : Int32))), (5, .int (x.2 - r1)), (0, .ref 102), (1, .ref q), (2, .int y2), (3, .int x.1)] (by decide) rfl (congrArg (fun t => x.2 + t) (by decide)) rfl dX12_goodHeights_68 ?_
          refine q_goto 5 (by decide) dX12_goodHeights_71 ?_
          refine q_sub [2, 3, 4, 5, 0] rfl ?_
          cases h
          exact hQ
        · rw [if_neg c] at h
          refine q_iload_n 4 rfl rfl dX12_goodHeights_55 ?_
          refine q_iconst (v := (1 : Int32)) (by decide) dX12_goodHeights_56 ?_
          refine q_iload 0 rfl dX12_goodHeights_57 ?_
          refine q_aload_n 2 rfl rfl dX12_goodHeights_59 ?_
          refine q_iload_n 3 rfl rfl dX12_goodHeights_60 ?_
          obtain ⟨r6, e7, h⟩ := q_bind h
          refine q_callS (d := 0) (Mc := mX12_leaves) (kc := 0) (nc := 0) [.ref q, .int y2] okX12_leaves lmX12_430 inX12_leaves rfl (Nat.le_of_ble_eq_true rfl) (Nat.le_of_ble_eq_true rfl) (Nat.le_refl _) (Nat.le_refl _) dX12_goodHeights_61 (q_L.deep (by decide) (kX12_leaves (Q := fun r S' => r = some (.int r6) ∧ S' = S) w hq e7 ⟨rfl, rfl⟩)) (q_kI ?_)
          refine q_iadd dX12_goodHeights_64 ?_
          refine q_ishl dX12_goodHeights_65 ?_
          refine q_ior dX12_goodHeights_66 ?_
          refine q_istore_n [(3, .int (x.1 ||| ((1 : Int32) <<< (((x.2 - r1) + r6) &&& 31)))), (5, .int (x.2 - r1)), (0, .ref 102), (1, .ref q), (2, .int y2), (4, .int x.2)] rfl (by decide) rfl dX12_goodHeights_67 ?_
          refine q_iinc (v := (x.2 + (1 : Int32))) 5 [(4, .int (x.2 + (1 : Int32))), (3, .int (x.1 ||| ((1 : Int32) <<< (((x.2 - r1) + r6) &&& 31)))), (5, .int (x.2 - r1)), (0, .ref 102), (1, .ref q), (2, .int y2)] (by decide) rfl (congrArg (fun t => x.2 + t) (by decide)) rfl dX12_goodHeights_68 ?_
          refine q_goto 5 (by decide) dX12_goodHeights_71 ?_
          refine q_sub [3, 4, 5, 1, 0] rfl ?_
          cases h
          exact hQ
theorem lX12_goodHeights_5 {S : QS} {g : QG} {Q : Option Value → QS → Prop} {q : Nat} {y2 : Int32} {r : Int32} (w : q_Wire S) (hq : q_qok q) (hQ : Q (some (.int r)) S) : ∀ (c : Nat) (x : Int32 × Int32), q_it (tX12_goodHeights_5 S q y2) c x = some r → q_L g mX12_goodHeights 1 0 0 Q 0 0 5 [(0, .ref 102), (1, .ref q), (2, .int y2), (3, .int x.1), (4, .int x.2)] [] S := by
  intro c
  induction c with
  | zero => intro x  h; cases h
  | succ c ih =>
    intro x  h
    simp only [q_it] at h
    cases hz : tX12_goodHeights_5 S q y2 x with
    | none => rw [hz] at h; cases h
    | some z =>
      rw [hz] at h
      refine sX12_goodHeights_5 w hq hz ?_
      rcases z with z | y
      · cases h; exact hQ
      · exact ih y  h
theorem kX12_goodHeights_5 {S : QS} {g : QG} {Q : Option Value → QS → Prop} {q : Nat} {y2 : Int32} {y3 : Int32} {y4 : Int32} {r : Int32} (w : q_Wire S) (hq : q_qok q) (h : fX12_goodHeights_5 S q y2 y3 y4 = some r) (hQ : Q (some (.int r)) S) : q_L g mX12_goodHeights 1 0 0 Q 0 0 5 [(0, .ref 102), (1, .ref q), (2, .int y2), (3, .int y3), (4, .int y4)] [] S := by
  obtain ⟨c, hc⟩ := q_run_it h
  exact lX12_goodHeights_5 w hq hQ c (y3, y4)  hc
set_option maxRecDepth 20000 in
theorem kX12_goodHeights {S : QS} {g : QG} {Q : Option Value → QS → Prop} {q : Nat} {x2 : Int32} {r : Int32} (w : q_Wire S) (hq : q_qok q) (h : fX12_goodHeights S q x2 = some r) (hQ : Q (some (.int r)) S) : q_M g mX12_goodHeights 1 0 0 [.ref 102, .ref q, .int x2] S Q := by
  unfold fX12_goodHeights at h
  show q_L g mX12_goodHeights 1 0 0 Q 0 0 0 [(0, .ref 102), (1, .ref q), (2, .int x2)] [] S
  refine q_iconst (v := (0 : Int32)) (by decide) dX12_goodHeights_0 ?_
  refine q_istore_n [(3, .int (0 : Int32)), (0, .ref 102), (1, .ref q), (2, .int x2)] rfl (by decide) rfl dX12_goodHeights_1 ?_
  refine q_iconst (v := (0 : Int32)) (by decide) dX12_goodHeights_2 ?_
  refine q_istore [(4, .int (0 : Int32)), (3, .int (0 : Int32)), (0, .ref 102), (1, .ref q), (2, .int x2)] (by decide) rfl dX12_goodHeights_3 ?_
  refine q_sub [2, 3, 4, 1, 0] rfl ?_
  exact kX12_goodHeights_5 w hq h hQ
set_option maxRecDepth 20000 in
theorem kX12_added {S : QS} {g : QG} {Q : Option Value → QS → Prop}  {x1 : Int32} {x2 : Int32} {r : Bool × QS} (w : q_Wire S) (h : fX12_added S x1 x2 = some r) (hQ : Q (some (.int (q_b r.1))) r.2) : q_M g mX12_added 0 0 0 [.ref 102, .int x1, .int x2] S Q := by
  unfold fX12_added at h
  show q_L g mX12_added 0 0 0 Q 0 0 0 [(0, .ref 102), (1, .int x1), (2, .int x2)] [] S
  refine q_aload_n 0 rfl rfl dX12_added_0 ?_
  refine q_getR (q_sh102 w) (by decide) (by decide) rfl lfX12_58 dX12_added_1 (r := 170) (q_wr102_21 w) ?_
  refine q_iload_n 1 rfl rfl dX12_added_4 ?_
  obtain ⟨hg1, h⟩ := q_guard h
  refine q_iald (q_sh170 w) (q_inb_in hg1) dX12_added_5 ?_
  refine q_iload_n 2 rfl rfl dX12_added_6 ?_
  refine q_ior dX12_added_7 ?_
  refine q_aload_n 0 rfl rfl dX12_added_8 ?_
  refine q_getR (q_sh102 w) (by decide) (by decide) rfl lfX12_58 dX12_added_9 (r := 170) (q_wr102_21 w) ?_
  refine q_iload_n 1 rfl rfl dX12_added_12 ?_
  obtain ⟨hg2, h⟩ := q_guard h
  refine q_iald (q_sh170 w) (q_inb_in hg2) dX12_added_13 ?_
  obtain ⟨v3, hv, h⟩ := q_bind h
  have K1 : q_L g mX12_added 0 0 0 Q 0 0 22 [(0, .ref 102), (1, .int x1), (2, .int x2)] [.int (q_b v3)] S := by
    refine q_istore_n [(3, .int (q_b v3)), (0, .ref 102), (1, .int x1), (2, .int x2)] rfl (by decide) rfl dX12_added_22 ?_
    refine q_aload_n 1 rfl rfl dX12_added_23 ?_
    refine q_getR (q_sh102 w) (by decide) (by decide) rfl lfX12_58 dX12_added_24 (r := 170) (q_wr102_21 w) ?_
    refine q_iload_n 2 rfl rfl dX12_added_27 ?_
    refine q_dup2 rfl rfl dX12_added_28 ?_
    obtain ⟨hg4, h⟩ := q_guard h
    refine q_iald (q_sh170 w) (q_inb_in hg4) dX12_added_29 ?_
    refine q_iload_n 3 rfl rfl dX12_added_30 ?_
    refine q_ior dX12_added_31 ?_
    obtain ⟨hg5, h⟩ := q_guard h
    refine q_iast (q_sh170 w) (q_inb_in hg5) dX12_added_32 ?_
    obtain ⟨S6, e7, h⟩ := q_bindS h
    refine q_st e7 ?_
    have fx8 : q_Fx S S6 := e7 ▸ q_Fx.sI (q_Fx.rf S)
    refine q_iload_n 0 rfl rfl dX12_added_33 ?_
    obtain rfl := Option.some.inj h
    exact q_iret rfl (q_b_nar _) dX12_added_34 hQ
  replace h := hv
  refine q_icmp_eq 21 (by decide) dX12_added_14 (fun c => ?_) (fun c => ?_)
  · rw [if_pos c] at h
    refine q_iconst (v := (0 : Int32)) (by decide) dX12_added_21 ?_
    obtain rfl := Option.some.inj h
    refine q_sub [0, 1, 2] rfl ?_
    exact K1
  · rw [if_neg c] at h
    refine q_iconst (v := (1 : Int32)) (by decide) dX12_added_17 ?_
    refine q_goto 22 (by decide) dX12_added_18 ?_
    obtain rfl := Option.some.inj h
    refine q_sub [0, 1, 2] rfl ?_
    exact K1
set_option maxRecDepth 20000 in
theorem sX12_heights_300 {g : QG} {Q : Option Value → QS → Prop} {q : Nat} {y2 : Int32} {y5 : Int32} {x : Int32 × Int32 × QS} {z : ((Bool × QS) ⊕ (Int32 × QS)) ⊕ (Int32 × Int32 × QS)} (w : q_Wire x.2.2) (hq : q_qok q) (h : tX12_heights_300 q y2 y5 x = some z) (hQ : (Sum.elim (fun r1 : (Bool × QS) ⊕ (Int32 × QS) => (Sum.elim (fun r0 : Bool × QS => Q (some (.int (q_b r0.1))) r0.2) (fun y : Int32 × QS => q_L g mX12_heights 2 0 0 Q 0 0 232 [(0, .ref 102), (1, .ref q), (2, .int y2), (4, .int y.1)] [] y.2) r1)) (fun y' : Int32 × Int32 × QS => q_L g mX12_heights 2 0 0 Q 0 0 300 [(0, .ref 102), (1, .ref q), (2, .int y2), (4, .int y'.1), (5, .int y5), (6, .int y'.2.1)] [] y'.2.2) z)) : q_L g mX12_heights 2 0 0 Q 0 0 300 [(0, .ref 102), (1, .ref q), (2, .int y2), (4, .int x.1), (5, .int y5), (6, .int x.2.1)] [] x.2.2 := by
  unfold tX12_heights_300 at h
  refine q_iload 5 rfl dX12_heights_300 ?_
  refine q_bipush (v := (8 : Int32)) (by decide) dX12_heights_302 ?_
  refine q_icmp_gt 331 (by decide) dX12_heights_304 (fun c => ?_) (fun c => ?_)
  · rw [if_pos c] at h
    refine q_iinc (v := (x.1 + (1 : Int32))) 3 [(4, .int (x.1 + (1 : Int32))), (0, .ref 102), (1, .ref q), (2, .int y2), (5, .int y5), (6, .int x.2.1)] (by decide) rfl (congrArg (fun t => x.1 + t) (by decide)) rfl dX12_heights_331 ?_
    refine q_goto 232 (by decide) dX12_heights_334 ?_
    refine q_sub [1, 2, 3, 0] rfl ?_
    cases h
    exact hQ
  · rw [if_neg c] at h
    refine q_iload 4 rfl dX12_heights_307 ?_
    refine q_iconst (v := (1 : Int32)) (by decide) dX12_heights_309 ?_
    refine q_iload 5 rfl dX12_heights_310 ?_
    refine q_ishl dX12_heights_312 ?_
    refine q_icmp_ne 325 (by decide) dX12_heights_313 (fun c => ?_) (fun c => ?_)
    · rw [if_neg c] at h
      refine q_iinc (v := (x.2.1 + (1 : Int32))) 5 [(6, .int (x.2.1 + (1 : Int32))), (0, .ref 102), (1, .ref q), (2, .int y2), (4, .int x.1), (5, .int y5)] (by decide) rfl (congrArg (fun t => x.2.1 + t) (by decide)) rfl dX12_heights_325 ?_
      refine q_goto 300 (by decide) dX12_heights_328 ?_
      refine q_sub [1, 2, 3, 4, 5, 0] rfl ?_
      cases h
      exact hQ
    · rw [if_pos c] at h
      refine q_aload_n 1 rfl rfl dX12_heights_316 ?_
      refine q_getR (q_shQ0 w hq) (by decide) (by decide) rfl lfX12_424 dX12_heights_317 (r := (q + 19)) (q_wrQ0_25 w hq) ?_
      refine q_iload 3 rfl dX12_heights_320 ?_
      refine q_iload 5 rfl dX12_heights_322 ?_
      obtain ⟨hg1, h⟩ := q_guard h
      refine q_iast (q_shQ19 w hq) (q_inb_in hg1) dX12_heights_324 ?_
      obtain ⟨S2, e3, h⟩ := q_bindS h
      refine q_st e3 ?_
      have fx4 : q_Fx x.2.2 S2 := e3 ▸ q_Fx.sI (q_Fx.rf x.2.2)
      refine q_iinc (v := (x.2.1 + (1 : Int32))) 5 [(6, .int (x.2.1 + (1 : Int32))), (0, .ref 102), (1, .ref q), (2, .int y2), (4, .int x.1), (5, .int y5)] (by decide) rfl (congrArg (fun t => x.2.1 + t) (by decide)) rfl dX12_heights_325 ?_
      refine q_goto 300 (by decide) dX12_heights_328 ?_
      refine q_sub [1, 2, 3, 4, 5, 0] rfl ?_
      cases h
      exact hQ
theorem lX12_heights_300 {g : QG} {Q : Option Value → QS → Prop} {q : Nat} {y2 : Int32} {y5 : Int32} {r : (Bool × QS) ⊕ (Int32 × QS)} (hq : q_qok q) (hQ : (Sum.elim (fun r0 : Bool × QS => Q (some (.int (q_b r0.1))) r0.2) (fun y : Int32 × QS => q_L g mX12_heights 2 0 0 Q 0 0 232 [(0, .ref 102), (1, .ref q), (2, .int y2), (4, .int y.1)] [] y.2) r)) : ∀ (c : Nat) (x : Int32 × Int32 × QS), q_Wire x.2.2 → q_it (tX12_heights_300 q y2 y5) c x = some r → q_L g mX12_heights 2 0 0 Q 0 0 300 [(0, .ref 102), (1, .ref q), (2, .int y2), (4, .int x.1), (5, .int y5), (6, .int x.2.1)] [] x.2.2 := by
  intro c
  induction c with
  | zero => intro x w h; cases h
  | succ c ih =>
    intro x w h
    simp only [q_it] at h
    cases hz : tX12_heights_300 q y2 y5 x with
    | none => rw [hz] at h; cases h
    | some z =>
      rw [hz] at h
      refine sX12_heights_300 w hq hz ?_
      rcases z with z | y
      · cases h; exact hQ
      · have fz := fxtX12_heights_300 hz; exact ih y (w.fx fz) h
theorem usX12_heights_300 {S : QS} {g : QG} {Q : Option Value → QS → Prop} {q : Nat} {y2 : Int32} {y4 : Int32} {y5 : Int32} {y6 : Int32} {r : (Bool × QS) ⊕ (Int32 × QS)} (w : q_Wire S) (hq : q_qok q) (h : uX12_heights_300 S q y2 y4 y5 y6 = some r) (hQ : (Sum.elim (fun r0 : Bool × QS => Q (some (.int (q_b r0.1))) r0.2) (fun y : Int32 × QS => q_L g mX12_heights 2 0 0 Q 0 0 232 [(0, .ref 102), (1, .ref q), (2, .int y2), (4, .int y.1)] [] y.2) r)) : q_L g mX12_heights 2 0 0 Q 0 0 300 [(0, .ref 102), (1, .ref q), (2, .int y2), (4, .int y4), (5, .int y5), (6, .int y6)] [] S := by
  obtain ⟨c, hc⟩ := q_run_it h
  exact lX12_heights_300 hq hQ c (y4, y6, S) w hc
set_option maxRecDepth 20000 in
theorem sX12_heights_232 {g : QG} {Q : Option Value → QS → Prop} {q : Nat} {y2 : Int32} {x : Int32 × QS} {z : (Bool × QS) ⊕ (Int32 × QS)} (w : q_Wire x.2) (hq : q_qok q) (h : tX12_heights_232 q y2 x = some z) (hQ : (Sum.elim (fun r0 : Bool × QS => Q (some (.int (q_b r0.1))) r0.2) (fun y : Int32 × QS => q_L g mX12_heights 2 0 0 Q 0 0 232 [(0, .ref 102), (1, .ref q), (2, .int y2), (4, .int y.1)] [] y.2) z)) : q_L g mX12_heights 2 0 0 Q 0 0 232 [(0, .ref 102), (1, .ref q), (2, .int y2), (4, .int x.1)] [] x.2 := by
  unfold tX12_heights_232 at h
  refine q_iload 3 rfl dX12_heights_232 ?_
  refine q_aload_n 1 rfl rfl dX12_heights_234 ?_
  refine q_getR (q_shQ0 w hq) (by decide) (by decide) rfl lfX12_340 dX12_heights_235 (r := (q + 13)) (q_wrQ0_19 w hq) ?_
  refine q_iload_n 2 rfl rfl dX12_heights_238 ?_
  obtain ⟨hg5, h⟩ := q_guard h
  refine q_iald (q_shQ13 w hq) (q_inb_in hg5) dX12_heights_239 ?_
  refine q_icmp_ge 337 (by decide) dX12_heights_240 (fun c => ?_) (fun c => ?_)
  · rw [if_pos c] at h
    refine q_iconst (v := (1 : Int32)) (by decide) dX12_heights_337 ?_
    cases h
    exact q_iret rfl (by decide) dX12_heights_338 hQ
  · rw [if_neg c] at h
    refine q_aload_n 0 rfl rfl dX12_heights_243 ?_
    refine q_getR (q_sh102 w) (by decide) (by decide) rfl lfX12_58 dX12_heights_244 (r := 170) (q_wr102_21 w) ?_
    refine q_iload 3 rfl dX12_heights_247 ?_
    obtain ⟨hg6, h⟩ := q_guard h
    refine q_iald (q_sh170 w) (q_inb_in hg6) dX12_heights_249 ?_
    refine q_istore [(5, .int (x.2.2.1 170 x.1.toNatClampNeg)), (0, .ref 102), (1, .ref q), (2, .int y2), (4, .int x.1)] (by decide) rfl dX12_heights_250 ?_
    refine q_iload 0 rfl dX12_heights_252 ?_
    refine q_iload 0 rfl dX12_heights_254 ?_
    refine q_iconst (v := (1 : Int32)) (by decide) dX12_heights_256 ?_
    refine q_isub dX12_heights_257 ?_
    refine q_iand dX12_heights_258 ?_
    refine q_if_ne 277 (by decide) dX12_heights_259 (fun c => ?_) (fun c => ?_)
    · rw [if_neg c] at h
      refine q_aload_n 1 rfl rfl dX12_heights_277 ?_
      refine q_aload_n 1 rfl rfl dX12_heights_278 ?_
      refine q_getR (q_sh102 w) (by decide) (by decide) rfl lfX12_55 dX12_heights_279 (r := 169) (q_wr102_20 w) ?_
      refine q_iload 4 rfl dX12_heights_282 ?_
      obtain ⟨hg7, h⟩ := q_guard h
      refine q_iald (q_sh169 w) (q_inb_in hg7) dX12_heights_284 ?_
      obtain ⟨r8, e9, h⟩ := q_bind h
      refine q_callV (ci := 12) (d := 1) (Mc := mX12_wrong) (kc := 0) (nc := 0) [.int (x.2.2.1 169 x.1.toNatClampNeg)] okX12_wrong (q_sh102 w) (by decide) rfl lmX12_254 inX12_wrong seX12_wrong rfl (Nat.le_of_ble_eq_true rfl) (Nat.le_of_ble_eq_true rfl) (Nat.le_refl _) (Nat.le_refl _) dX12_heights_285 (q_L.deep (by decide) (kX12_wrong (Q := fun r S' => r = some (.int (q_b r8.1)) ∧ S' = r8.2) w e9 ⟨rfl, rfl⟩)) (q_kI ?_)
      have fx10 : q_Fx x.2 r8.2 := q_Fx.tr (q_Fx.rf x.2) (fxX12_wrong e9)
      cases h
      exact q_iret rfl (q_b_nar _) dX12_heights_288 hQ
    · rw [if_pos c] at h
      refine q_iload 0 rfl dX12_heights_262 ?_
      refine q_if_eq 289 (by decide) dX12_heights_264 (fun c => ?_) (fun c => ?_)
      · rw [if_pos c] at h
        refine q_aload_n 2 rfl rfl dX12_heights_289 ?_
        refine q_getR (q_shQ0 w hq) (by decide) (by decide) rfl lfX12_424 dX12_heights_290 (r := (q + 19)) (q_wrQ0_25 w hq) ?_
        refine q_iload 4 rfl dX12_heights_293 ?_
        refine q_iconst (v := (-1 : Int32)) (by decide) dX12_heights_295 ?_
        obtain ⟨hg11, h⟩ := q_guard h
        refine q_iast (q_shQ19 w hq) (q_inb_in hg11) dX12_heights_296 ?_
        obtain ⟨S12, e13, h⟩ := q_bindS h
        refine q_st e13 ?_
        have fx14 : q_Fx x.2 S12 := e13 ▸ q_Fx.sI (q_Fx.rf x.2)
        refine q_iconst (v := (0 : Int32)) (by decide) dX12_heights_297 ?_
        refine q_istore [(6, .int (0 : Int32)), (5, .int (x.2.2.1 170 x.1.toNatClampNeg)), (0, .ref 102), (1, .ref q), (2, .int y2), (4, .int x.1)] (by decide) rfl dX12_heights_298 ?_
        refine q_sub [2, 3, 4, 5, 1, 0] rfl ?_
        exact usX12_heights_300 (w.fx fx14) hq h hQ
      · rw [if_neg c] at h
        refine q_aload_n 1 rfl rfl dX12_heights_267 ?_
        refine q_aload_n 2 rfl rfl dX12_heights_268 ?_
        refine q_iload 4 rfl dX12_heights_269 ?_
        obtain ⟨r15, e16, h⟩ := q_bind h
        refine q_callV (ci := 12) (d := 1) (Mc := mX12_goodHeights) (kc := 0) (nc := 0) [.ref q, .int x.1] okX12_goodHeights (q_sh102 w) (by decide) rfl lmX12_409 inX12_goodHeights seX12_goodHeights rfl (Nat.le_of_ble_eq_true rfl) (Nat.le_of_ble_eq_true rfl) (Nat.le_refl _) (Nat.le_refl _) dX12_heights_271 (q_L.deep (by decide) (kX12_goodHeights (Q := fun r S' => r = some (.int r15) ∧ S' = x.2) w hq e16 ⟨rfl, rfl⟩)) (q_kI ?_)
        refine q_if_ne 289 (by decide) dX12_heights_274 (fun c => ?_) (fun c => ?_)
        · rw [if_neg c] at h
          refine q_aload_n 2 rfl rfl dX12_heights_289 ?_
          refine q_getR (q_shQ0 w hq) (by decide) (by decide) rfl lfX12_424 dX12_heights_290 (r := (q + 19)) (q_wrQ0_25 w hq) ?_
          refine q_iload 4 rfl dX12_heights_293 ?_
          refine q_iconst (v := (-1 : Int32)) (by decide) dX12_heights_295 ?_
          obtain ⟨hg17, h⟩ := q_guard h
          refine q_iast (q_shQ19 w hq) (q_inb_in hg17) dX12_heights_296 ?_
          obtain ⟨S18, e19, h⟩ := q_bindS h
          refine q_st e19 ?_
          have fx20 : q_Fx x.2 S18 := e19 ▸ q_Fx.sI (q_Fx.rf x.2)
          refine q_iconst (v := (0 : Int32)) (by decide) dX12_heights_297 ?_
          refine q_istore [(6, .int (0 : Int32)), (5, .int (x.2.2.1 170 x.1.toNatClampNeg)), (0, .ref 102), (1, .ref q), (2, .int y2), (4, .int x.1)] (by decide) rfl dX12_heights_298 ?_
          refine q_sub [2, 3, 4, 5, 1, 0] rfl ?_
          exact usX12_heights_300 (w.fx fx20) hq h hQ
        · rw [if_pos c] at h
          refine q_aload_n 1 rfl rfl dX12_heights_277 ?_
          refine q_aload_n 1 rfl rfl dX12_heights_278 ?_
          refine q_getR (q_sh102 w) (by decide) (by decide) rfl lfX12_55 dX12_heights_279 (r := 169) (q_wr102_20 w) ?_
          refine q_iload 4 rfl dX12_heights_282 ?_
          obtain ⟨hg21, h⟩ := q_guard h
          refine q_iald (q_sh169 w) (q_inb_in hg21) dX12_heights_284 ?_
          obtain ⟨r22, e23, h⟩ := q_bind h
          refine q_callV (ci := 12) (d := 1) (Mc := mX12_wrong) (kc := 0) (nc := 0) [.int (x.2.2.1 169 x.1.toNatClampNeg)] okX12_wrong (q_sh102 w) (by decide) rfl lmX12_254 inX12_wrong seX12_wrong rfl (Nat.le_of_ble_eq_true rfl) (Nat.le_of_ble_eq_true rfl) (Nat.le_refl _) (Nat.le_refl _) dX12_heights_285 (q_L.deep (by decide) (kX12_wrong (Q := fun r S' => r = some (.int (q_b r22.1)) ∧ S' = r22.2) w e23 ⟨rfl, rfl⟩)) (q_kI ?_)
          have fx24 : q_Fx x.2 r22.2 := q_Fx.tr (q_Fx.rf x.2) (fxX12_wrong e23)
          cases h
          exact q_iret rfl (q_b_nar _) dX12_heights_288 hQ
theorem lX12_heights_232 {g : QG} {Q : Option Value → QS → Prop} {q : Nat} {y2 : Int32} {r : Bool × QS} (hq : q_qok q) (hQ : Q (some (.int (q_b r.1))) r.2) : ∀ (c : Nat) (x : Int32 × QS), q_Wire x.2 → q_it (tX12_heights_232 q y2) c x = some r → q_L g mX12_heights 2 0 0 Q 0 0 232 [(0, .ref 102), (1, .ref q), (2, .int y2), (4, .int x.1)] [] x.2 := by
  intro c
  induction c with
  | zero => intro x w h; cases h
  | succ c ih =>
    intro x w h
    simp only [q_it] at h
    cases hz : tX12_heights_232 q y2 x with
    | none => rw [hz] at h; cases h
    | some z =>
      rw [hz] at h
      refine sX12_heights_232 w hq hz ?_
      rcases z with z | y
      · cases h; exact hQ
      · have fz := fxtX12_heights_232 hz; exact ih y (w.fx fz) h
theorem kX12_heights_232 {S : QS} {g : QG} {Q : Option Value → QS → Prop} {q : Nat} {y2 : Int32} {y4 : Int32} {r : Bool × QS} (w : q_Wire S) (hq : q_qok q) (h : fX12_heights_232 S q y2 y4 = some r) (hQ : Q (some (.int (q_b r.1))) r.2) : q_L g mX12_heights 2 0 0 Q 0 0 232 [(0, .ref 102), (1, .ref q), (2, .int y2), (4, .int y4)] [] S := by
  obtain ⟨c, hc⟩ := q_run_it h
  exact lX12_heights_232 hq hQ c (y4, S) w hc
set_option maxRecDepth 20000 in
theorem sX12_heights_164 {g : QG} {Q : Option Value → QS → Prop} {q : Nat} {y2 : Int32} {x : Int32 × Int32 × Int32 × QS} {z : (((Bool × QS) ⊕ (Int32 × QS)) ⊕ (Int32 × Int32 × QS)) ⊕ (Int32 × Int32 × Int32 × QS)} (w : q_Wire x.2.2.2) (hq : q_qok q) (h : tX12_heights_164 q y2 x = some z) (hQ : (Sum.elim (fun r2 : ((Bool × QS) ⊕ (Int32 × QS)) ⊕ (Int32 × Int32 × QS) => (Sum.elim (fun r1 : (Bool × QS) ⊕ (Int32 × QS) => (Sum.elim (fun r0 : Bool × QS => Q (some (.int (q_b r0.1))) r0.2) (fun y : Int32 × QS => q_L g mX12_heights 2 0 0 Q 0 0 44 [(0, .ref 102), (1, .ref q), (2, .int y2), (3, .int y.1)] [] y.2) r1)) (fun y' : Int32 × Int32 × QS => q_L g mX12_heights 2 0 0 Q 0 0 58 [(0, .ref 102), (1, .ref q), (2, .int y2), (3, .int y'.1), (4, .int y'.2.1)] [] y'.2.2) r2)) (fun y'' : Int32 × Int32 × Int32 × QS => q_L g mX12_heights 2 0 0 Q 0 0 164 [(0, .ref 102), (1, .ref q), (2, .int y2), (3, .int y''.1), (4, .int y''.2.1), (6, .int y''.2.2.1)] [] y''.2.2.2) z)) : q_L g mX12_heights 2 0 0 Q 0 0 164 [(0, .ref 102), (1, .ref q), (2, .int y2), (3, .int x.1), (4, .int x.2.1), (6, .int x.2.2.1)] [] x.2.2.2 := by
  unfold tX12_heights_164 at h
  refine q_iload 5 rfl dX12_heights_164 ?_
  refine q_aload_n 1 rfl rfl dX12_heights_166 ?_
  refine q_getI (q_shQ0 w hq) (by decide) (by decide) rfl lfX12_324 dX12_heights_167 ?_
  refine q_icmp_ge 215 (by decide) dX12_heights_170 (fun c => ?_) (fun c => ?_)
  · rw [if_pos c] at h
    refine q_iinc (v := (x.2.1 + (1 : Int32))) 4 [(4, .int (x.2.1 + (1 : Int32))), (0, .ref 102), (1, .ref q), (2, .int y2), (3, .int x.1), (6, .int x.2.2.1)] (by decide) rfl (congrArg (fun t => x.2.1 + t) (by decide)) rfl dX12_heights_215 ?_
    refine q_goto 58 (by decide) dX12_heights_218 ?_
    refine q_sub [1, 2, 3, 4, 0] rfl ?_
    cases h
    exact hQ
  · rw [if_neg c] at h
    refine q_aload_n 1 rfl rfl dX12_heights_173 ?_
    refine q_iload 5 rfl dX12_heights_174 ?_
    refine q_iload 4 rfl dX12_heights_176 ?_
    obtain ⟨r25, e26, h⟩ := q_bind h
    refine q_callS (d := 1) (Mc := mX12_covers) (kc := 0) (nc := 0) [.ref q, .int x.2.2.1, .int x.2.1] okX12_covers lmX12_421 inX12_covers rfl (Nat.le_of_ble_eq_true rfl) (Nat.le_of_ble_eq_true rfl) (Nat.le_refl _) (Nat.le_refl _) dX12_heights_178 (q_L.deep (by decide) (kX12_covers (Q := fun r S' => r = some (.int (q_b r25)) ∧ S' = x.2.2.2) w hq e26 ⟨rfl, rfl⟩)) (q_kI ?_)
    refine q_if_eq 209 (by decide) dX12_heights_181 (fun c => ?_) (fun c => ?_)
    · have c := q_b_0.mp c; rw [q_if0 c] at h
      refine q_iinc (v := (x.2.2.1 + (1 : Int32))) 5 [(6, .int (x.2.2.1 + (1 : Int32))), (0, .ref 102), (1, .ref q), (2, .int y2), (3, .int x.1), (4, .int x.2.1)] (by decide) rfl (congrArg (fun t => x.2.2.1 + t) (by decide)) rfl dX12_heights_209 ?_
      refine q_goto 164 (by decide) dX12_heights_212 ?_
      refine q_sub [1, 2, 3, 4, 5, 0] rfl ?_
      cases h
      exact hQ
    · have c := q_b_n.mp c; rw [q_if1 c] at h
      refine q_aload_n 0 rfl rfl dX12_heights_184 ?_
      refine q_aload_n 1 rfl rfl dX12_heights_185 ?_
      refine q_getR (q_shQ0 w hq) (by decide) (by decide) rfl lfX12_368 dX12_heights_186 (r := (q + 24)) (q_wrQ0_30 w hq) ?_
      refine q_iload 5 rfl dX12_heights_189 ?_
      obtain ⟨hg27, h⟩ := q_guard h
      refine q_iald (q_shQ24 w hq) (q_inb_in hg27) dX12_heights_191 ?_
      refine q_iconst (v := (2 : Int32)) (by decide) dX12_heights_192 ?_
      obtain ⟨r28, e29, h⟩ := q_bind h
      refine q_callV (ci := 12) (d := 1) (Mc := mX12_added) (kc := 0) (nc := 0) [.int (x.2.2.2.2.1 (q + 24) x.2.2.1.toNatClampNeg), .int (2 : Int32)] okX12_added (q_sh102 w) (by decide) rfl lmX12_415 inX12_added seX12_added rfl (Nat.le_of_ble_eq_true rfl) (Nat.le_of_ble_eq_true rfl) (Nat.le_refl _) (Nat.le_refl _) dX12_heights_193 (q_L.deep (by decide) (kX12_added (Q := fun r S' => r = some (.int (q_b r28.1)) ∧ S' = r28.2) w e29 ⟨rfl, rfl⟩)) (q_kI ?_)
      have fx30 : q_Fx x.2.2.2 r28.2 := q_Fx.tr (q_Fx.rf x.2.2.2) (fxX12_added e29)
      refine q_if_ne 203 (by decide) dX12_heights_196 (fun c => ?_) (fun c => ?_)
      · have c := q_b_n.mp c; rw [q_if1 c] at h
        refine q_iconst (v := (1 : Int32)) (by decide) dX12_heights_203 ?_
        refine q_goto 208 (by decide) dX12_heights_204 ?_
        refine q_istore_n [(3, .int (1 : Int32)), (0, .ref 102), (1, .ref q), (2, .int y2), (4, .int x.2.1), (6, .int x.2.2.1)] rfl (by decide) rfl dX12_heights_208 ?_
        refine q_iinc (v := (x.2.2.1 + (1 : Int32))) 5 [(6, .int (x.2.2.1 + (1 : Int32))), (3, .int (1 : Int32)), (0, .ref 102), (1, .ref q), (2, .int y2), (4, .int x.2.1)] (by decide) rfl (congrArg (fun t => x.2.2.1 + t) (by decide)) rfl dX12_heights_209 ?_
        refine q_goto 164 (by decide) dX12_heights_212 ?_
        refine q_sub [2, 3, 4, 1, 5, 0] rfl ?_
        cases h
        exact hQ
      · have c := q_b_0.mp c; rw [q_if0 c] at h
        refine q_iload_n 3 rfl rfl dX12_heights_199 ?_
        refine q_if_eq 207 (by decide) dX12_heights_200 (fun c => ?_) (fun c => ?_)
        · rw [if_pos c] at h
          refine q_iconst (v := (0 : Int32)) (by decide) dX12_heights_207 ?_
          refine q_istore_n [(3, .int (0 : Int32)), (0, .ref 102), (1, .ref q), (2, .int y2), (4, .int x.2.1), (6, .int x.2.2.1)] rfl (by decide) rfl dX12_heights_208 ?_
          refine q_iinc (v := (x.2.2.1 + (1 : Int32))) 5 [(6, .int (x.2.2.1 + (1 : Int32))), (3, .int (0 : Int32)), (0, .ref 102), (1, .ref q), (2, .int y2), (4, .int x.2.1)] (by decide) rfl (congrArg (fun t => x.2.2.1 + t) (by decide)) rfl dX12_heights_209 ?_
          refine q_goto 164 (by decide) dX12_heights_212 ?_
          refine q_sub [2, 3, 4, 1, 5, 0] rfl ?_
          cases h
          exact hQ
        · rw [if_neg c] at h
          refine q_iconst (v := (1 : Int32)) (by decide) dX12_heights_203 ?_
          refine q_goto 208 (by decide) dX12_heights_204 ?_
          refine q_istore_n [(3, .int (1 : Int32)), (0, .ref 102), (1, .ref q), (2, .int y2), (4, .int x.2.1), (6, .int x.2.2.1)] rfl (by decide) rfl dX12_heights_208 ?_
          refine q_iinc (v := (x.2.2.1 + (1 : Int32))) 5 [(6, .int (x.2.2.1 + (1 : Int32))), (3, .int (1 : Int32)), (0, .ref 102), (1, .ref q), (2, .int y2), (4, .int x.2.1)] (by decide) rfl (congrArg (fun t => x.2.2.1 + t) (by decide)) rfl dX12_heights_209 ?_
          refine q_goto 164 (by decide) dX12_heights_212 ?_
          refine q_sub [2, 3, 4, 1, 5, 0] rfl ?_
          cases h
          exact hQ
theorem lX12_heights_164 {g : QG} {Q : Option Value → QS → Prop} {q : Nat} {y2 : Int32} {r : ((Bool × QS) ⊕ (Int32 × QS)) ⊕ (Int32 × Int32 × QS)} (hq : q_qok q) (hQ : (Sum.elim (fun r1 : (Bool × QS) ⊕ (Int32 × QS) => (Sum.elim (fun r0 : Bool × QS => Q (some (.int (q_b r0.1))) r0.2) (fun y : Int32 × QS => q_L g mX12_heights 2 0 0 Q 0 0 44 [(0, .ref 102), (1, .ref q), (2, .int y2), (3, .int y.1)] [] y.2) r1)) (fun y' : Int32 × Int32 × QS => q_L g mX12_heights 2 0 0 Q 0 0 58 [(0, .ref 102), (1, .ref q), (2, .int y2), (3, .int y'.1), (4, .int y'.2.1)] [] y'.2.2) r)) : ∀ (c : Nat) (x : Int32 × Int32 × Int32 × QS), q_Wire x.2.2.2 → q_it (tX12_heights_164 q y2) c x = some r → q_L g mX12_heights 2 0 0 Q 0 0 164 [(0, .ref 102), (1, .ref q), (2, .int y2), (3, .int x.1), (4, .int x.2.1), (6, .int x.2.2.1)] [] x.2.2.2 := by
  intro c
  induction c with
  | zero => intro x w h; cases h
  | succ c ih =>
    intro x w h
    simp only [q_it] at h
    cases hz : tX12_heights_164 q y2 x with
    | none => rw [hz] at h; cases h
    | some z =>
      rw [hz] at h
      refine sX12_heights_164 w hq hz ?_
      rcases z with z | y
      · cases h; exact hQ
      · have fz := fxtX12_heights_164 hz; exact ih y (w.fx fz) h
theorem usX12_heights_164 {S : QS} {g : QG} {Q : Option Value → QS → Prop} {q : Nat} {y2 : Int32} {y3 : Int32} {y4 : Int32} {y6 : Int32} {r : ((Bool × QS) ⊕ (Int32 × QS)) ⊕ (Int32 × Int32 × QS)} (w : q_Wire S) (hq : q_qok q) (h : uX12_heights_164 S q y2 y3 y4 y6 = some r) (hQ : (Sum.elim (fun r1 : (Bool × QS) ⊕ (Int32 × QS) => (Sum.elim (fun r0 : Bool × QS => Q (some (.int (q_b r0.1))) r0.2) (fun y : Int32 × QS => q_L g mX12_heights 2 0 0 Q 0 0 44 [(0, .ref 102), (1, .ref q), (2, .int y2), (3, .int y.1)] [] y.2) r1)) (fun y' : Int32 × Int32 × QS => q_L g mX12_heights 2 0 0 Q 0 0 58 [(0, .ref 102), (1, .ref q), (2, .int y2), (3, .int y'.1), (4, .int y'.2.1)] [] y'.2.2) r)) : q_L g mX12_heights 2 0 0 Q 0 0 164 [(0, .ref 102), (1, .ref q), (2, .int y2), (3, .int y3), (4, .int y4), (6, .int y6)] [] S := by
  obtain ⟨c, hc⟩ := q_run_it h
  exact lX12_heights_164 hq hQ c (y3, y4, y6, S) w hc
set_option maxRecDepth 20000 in
theorem sX12_heights_58 {g : QG} {Q : Option Value → QS → Prop} {q : Nat} {y2 : Int32} {x : Int32 × Int32 × QS} {z : ((Bool × QS) ⊕ (Int32 × QS)) ⊕ (Int32 × Int32 × QS)} (w : q_Wire x.2.2) (hq : q_qok q) (h : tX12_heights_58 q y2 x = some z) (hQ : (Sum.elim (fun r1 : (Bool × QS) ⊕ (Int32 × QS) => (Sum.elim (fun r0 : Bool × QS => Q (some (.int (q_b r0.1))) r0.2) (fun y : Int32 × QS => q_L g mX12_heights 2 0 0 Q 0 0 44 [(0, .ref 102), (1, .ref q), (2, .int y2), (3, .int y.1)] [] y.2) r1)) (fun y' : Int32 × Int32 × QS => q_L g mX12_heights 2 0 0 Q 0 0 58 [(0, .ref 102), (1, .ref q), (2, .int y2), (3, .int y'.1), (4, .int y'.2.1)] [] y'.2.2) z)) : q_L g mX12_heights 2 0 0 Q 0 0 58 [(0, .ref 102), (1, .ref q), (2, .int y2), (3, .int x.1), (4, .int x.2.1)] [] x.2.2 := by
  unfold tX12_heights_58 at h
  refine q_iload 4 rfl dX12_heights_58 ?_
  refine q_aload_n 1 rfl rfl dX12_heights_60 ?_
  refine q_getR (q_shQ0 w hq) (by decide) (by decide) rfl lfX12_340 dX12_heights_61 (r := (q + 13)) (q_wrQ0_19 w hq) ?_
  refine q_iload_n 2 rfl rfl dX12_heights_64 ?_
  obtain ⟨hg31, h⟩ := q_guard h
  refine q_iald (q_shQ13 w hq) (q_inb_in hg31) dX12_heights_65 ?_
  refine q_icmp_ge 221 (by decide) dX12_heights_66 (fun c => ?_) (fun c => ?_)
  · rw [if_pos c] at h
    refine q_goto 44 (by decide) dX12_heights_221 ?_
    refine q_sub [0, 1, 2, 3] rfl ?_
    cases h
    exact hQ
  · rw [if_neg c] at h
    refine q_aload_n 0 rfl rfl dX12_heights_69 ?_
    refine q_aload_n 1 rfl rfl dX12_heights_70 ?_
    refine q_iload 4 rfl dX12_heights_71 ?_
    obtain ⟨r32, e33, h⟩ := q_bind h
    refine q_callV (ci := 12) (d := 1) (Mc := mX12_goodHeights) (kc := 0) (nc := 0) [.ref q, .int x.2.1] okX12_goodHeights (q_sh102 w) (by decide) rfl lmX12_409 inX12_goodHeights seX12_goodHeights rfl (Nat.le_of_ble_eq_true rfl) (Nat.le_of_ble_eq_true rfl) (Nat.le_refl _) (Nat.le_refl _) dX12_heights_73 (q_L.deep (by decide) (kX12_goodHeights (Q := fun r S' => r = some (.int r32) ∧ S' = x.2.2) w hq e33 ⟨rfl, rfl⟩)) (q_kI ?_)
    refine q_istore [(5, .int r32), (0, .ref 102), (1, .ref q), (2, .int y2), (3, .int x.1), (4, .int x.2.1)] (by decide) rfl dX12_heights_76 ?_
    refine q_iload 0 rfl dX12_heights_78 ?_
    refine q_if_ne 86 (by decide) dX12_heights_80 (fun c => ?_) (fun c => ?_)
    · rw [if_neg c] at h
      refine q_aload_n 2 rfl rfl dX12_heights_86 ?_
      refine q_getR (q_shQ0 w hq) (by decide) (by decide) rfl lfX12_353 dX12_heights_87 (r := (q + 15)) (q_wrQ0_21 w hq) ?_
      refine q_iload 5 rfl dX12_heights_90 ?_
      obtain ⟨hg34, h⟩ := q_guard h
      refine q_iald (q_shQ15 w hq) (q_inb_in hg34) dX12_heights_92 ?_
      obtain ⟨r35, e36, h⟩ := q_bind h
      refine q_callS (d := 1) (Mc := mX12_hasNext) (kc := 0) (nc := 0) [.int (x.2.2.2.1 (q + 15) x.2.1.toNatClampNeg)] okX12_hasNext lmX12_412 inX12_hasNext rfl (Nat.le_of_ble_eq_true rfl) (Nat.le_of_ble_eq_true rfl) (Nat.le_refl _) (Nat.le_refl _) dX12_heights_93 (q_L.deep (by decide) (kX12_hasNext (Q := fun r S' => r = some (.int (q_b r35)) ∧ S' = x.2.2) w e36 ⟨rfl, rfl⟩)) (q_kI ?_)
      obtain ⟨v41, hv, h⟩ := q_bind h
      have fx42 : q_Fx x.2.2 v41.2 := by
        replace h := hv
        by_cases c : r35 = true
        · rw [if_pos c] at h
          obtain ⟨r37, e38, h⟩ := q_bind h
          have fx39 : q_Fx x.2.2 r37.2 := q_Fx.tr (q_Fx.rf x.2.2) (fxX12_added e38)
          obtain ⟨v40, hv, h⟩ := q_bind h
          obtain rfl := Option.some.inj h
          exact fx39
        · rw [if_neg c] at h
          obtain rfl := Option.some.inj h
          exact q_Fx.rf _
      have K1 : q_L g mX12_heights 2 0 0 Q 0 0 122 [(0, .ref 102), (1, .ref q), (2, .int y2), (3, .int v41.1), (4, .int x.2.1), (5, .int r32)] [] v41.2 := by
        refine q_aload_n 1 rfl rfl dX12_heights_122 ?_
        refine q_getR (q_shQ0 (w.fx fx42) hq) (by decide) (by decide) rfl lfX12_353 dX12_heights_123 (r := (q + 15)) (q_wrQ0_21 (w.fx fx42) hq) ?_
        refine q_iload 4 rfl dX12_heights_126 ?_
        obtain ⟨hg43, h⟩ := q_guard h
        refine q_iald (q_shQ15 (w.fx fx42) hq) (q_inb_in hg43) dX12_heights_128 ?_
        obtain ⟨r44, e45, h⟩ := q_bind h
        refine q_callS (d := 1) (Mc := mX12_hasLabel) (kc := 0) (nc := 0) [.int (v41.2.2.1 (q + 15) x.2.1.toNatClampNeg)] okX12_hasLabel lmX12_418 inX12_hasLabel rfl (Nat.le_of_ble_eq_true rfl) (Nat.le_of_ble_eq_true rfl) (Nat.le_refl _) (Nat.le_refl _) dX12_heights_129 (q_L.deep (by decide) (kX12_hasLabel (Q := fun r S' => r = some (.int (q_b r44)) ∧ S' = v41.2) (w.fx fx42) e45 ⟨rfl, rfl⟩)) (q_kI ?_)
        refine q_if_eq 161 (by decide) dX12_heights_132 (fun c => ?_) (fun c => ?_)
        · have c := q_b_0.mp c; rw [q_if0 c] at h
          refine q_iconst (v := (0 : Int32)) (by decide) dX12_heights_161 ?_
          refine q_istore [(6, .int (0 : Int32)), (0, .ref 102), (1, .ref q), (2, .int y2), (3, .int v41.1), (4, .int x.2.1), (5, .int r32)] (by decide) rfl dX12_heights_162 ?_
          refine q_sub [1, 2, 3, 4, 5, 0] rfl ?_
          exact usX12_heights_164 (w.fx fx42) hq h hQ
        · have c := q_b_n.mp c; rw [q_if1 c] at h
          refine q_aload_n 0 rfl rfl dX12_heights_135 ?_
          refine q_aload_n 1 rfl rfl dX12_heights_136 ?_
          refine q_getR (q_shQ0 (w.fx fx42) hq) (by decide) (by decide) rfl lfX12_376 dX12_heights_137 (r := (q + 16)) (q_wrQ0_22 (w.fx fx42) hq) ?_
          refine q_iload 4 rfl dX12_heights_140 ?_
          obtain ⟨hg46, h⟩ := q_guard h
          refine q_iald (q_shQ16 (w.fx fx42) hq) (q_inb_in hg46) dX12_heights_142 ?_
          refine q_iload 5 rfl dX12_heights_143 ?_
          obtain ⟨r47, e48, h⟩ := q_bind h
          refine q_callV (ci := 12) (d := 1) (Mc := mX12_added) (kc := 0) (nc := 0) [.int (v41.2.2.1 (q + 16) x.2.1.toNatClampNeg), .int r32] okX12_added (q_sh102 (w.fx fx42)) (by decide) rfl lmX12_415 inX12_added seX12_added rfl (Nat.le_of_ble_eq_true rfl) (Nat.le_of_ble_eq_true rfl) (Nat.le_refl _) (Nat.le_refl _) dX12_heights_145 (q_L.deep (by decide) (kX12_added (Q := fun r S' => r = some (.int (q_b r47.1)) ∧ S' = r47.2) (w.fx fx42) e48 ⟨rfl, rfl⟩)) (q_kI ?_)
          have fx49 : q_Fx x.2.2 r47.2 := q_Fx.tr (fx42) (fxX12_added e48)
          refine q_if_ne 155 (by decide) dX12_heights_148 (fun c => ?_) (fun c => ?_)
          · have c := q_b_n.mp c; rw [q_if1 c] at h
            refine q_iconst (v := (1 : Int32)) (by decide) dX12_heights_155 ?_
            refine q_goto 160 (by decide) dX12_heights_156 ?_
            refine q_istore_n [(3, .int (1 : Int32)), (0, .ref 102), (1, .ref q), (2, .int y2), (4, .int x.2.1), (5, .int r32)] rfl (by decide) rfl dX12_heights_160 ?_
            refine q_iconst (v := (0 : Int32)) (by decide) dX12_heights_161 ?_
            refine q_istore [(6, .int (0 : Int32)), (3, .int (1 : Int32)), (0, .ref 102), (1, .ref q), (2, .int y2), (4, .int x.2.1), (5, .int r32)] (by decide) rfl dX12_heights_162 ?_
            refine q_sub [2, 3, 4, 1, 5, 0] rfl ?_
            exact usX12_heights_164 (w.fx fx49) hq h hQ
          · have c := q_b_0.mp c; rw [q_if0 c] at h
            refine q_iload_n 3 rfl rfl dX12_heights_151 ?_
            refine q_if_eq 159 (by decide) dX12_heights_152 (fun c => ?_) (fun c => ?_)
            · rw [if_pos c] at h
              refine q_iconst (v := (0 : Int32)) (by decide) dX12_heights_159 ?_
              refine q_istore_n [(3, .int (0 : Int32)), (0, .ref 102), (1, .ref q), (2, .int y2), (4, .int x.2.1), (5, .int r32)] rfl (by decide) rfl dX12_heights_160 ?_
              refine q_iconst (v := (0 : Int32)) (by decide) dX12_heights_161 ?_
              refine q_istore [(6, .int (0 : Int32)), (3, .int (0 : Int32)), (0, .ref 102), (1, .ref q), (2, .int y2), (4, .int x.2.1), (5, .int r32)] (by decide) rfl dX12_heights_162 ?_
              refine q_sub [2, 3, 4, 1, 5, 0] rfl ?_
              exact usX12_heights_164 (w.fx fx49) hq h hQ
            · rw [if_neg c] at h
              refine q_iconst (v := (1 : Int32)) (by decide) dX12_heights_155 ?_
              refine q_goto 160 (by decide) dX12_heights_156 ?_
              refine q_istore_n [(3, .int (1 : Int32)), (0, .ref 102), (1, .ref q), (2, .int y2), (4, .int x.2.1), (5, .int r32)] rfl (by decide) rfl dX12_heights_160 ?_
              refine q_iconst (v := (0 : Int32)) (by decide) dX12_heights_161 ?_
              refine q_istore [(6, .int (0 : Int32)), (3, .int (1 : Int32)), (0, .ref 102), (1, .ref q), (2, .int y2), (4, .int x.2.1), (5, .int r32)] (by decide) rfl dX12_heights_162 ?_
              refine q_sub [2, 3, 4, 1, 5, 0] rfl ?_
              exact usX12_heights_164 (w.fx fx49) hq h hQ
      replace h := hv
      refine q_if_eq 122 (by decide) dX12_heights_96 (fun c => ?_) (fun c => ?_)
      · have c := q_b_0.mp c; rw [q_if0 c] at h
        obtain rfl := Option.some.inj h
        refine q_sub [1, 2, 3, 4, 5, 0] rfl ?_
        exact K1
      · have c := q_b_n.mp c; rw [q_if1 c] at h
        refine q_aload_n 1 rfl rfl dX12_heights_99 ?_
        refine q_iload 5 rfl dX12_heights_100 ?_
        refine q_iconst (v := (1 : Int32)) (by decide) dX12_heights_102 ?_
        refine q_iadd dX12_heights_103 ?_
        refine q_iload 0 rfl dX12_heights_104 ?_
        obtain ⟨r37, e38, h⟩ := q_bind h
        refine q_callV (ci := 12) (d := 1) (Mc := mX12_added) (kc := 0) (nc := 0) [.int (x.2.1 + (1 : Int32)), .int r32] okX12_added (q_sh102 w) (by decide) rfl lmX12_415 inX12_added seX12_added rfl (Nat.le_of_ble_eq_true rfl) (Nat.le_of_ble_eq_true rfl) (Nat.le_refl _) (Nat.le_refl _) dX12_heights_106 (q_L.deep (by decide) (kX12_added (Q := fun r S' => r = some (.int (q_b r37.1)) ∧ S' = r37.2) w e38 ⟨rfl, rfl⟩)) (q_kI ?_)
        have fx39 : q_Fx x.2.2 r37.2 := q_Fx.tr (q_Fx.rf x.2.2) (fxX12_added e38)
        obtain ⟨v40, hv, h⟩ := q_bind h
        have K2 : q_L g mX12_heights 2 0 0 Q 0 0 121 [(0, .ref 102), (1, .ref q), (2, .int y2), (4, .int x.2.1), (5, .int r32)] [.int (q_b v40)] r37.2 := by
          refine q_istore_n [(3, .int (q_b v40)), (0, .ref 102), (1, .ref q), (2, .int y2), (4, .int x.2.1), (5, .int r32)] rfl (by decide) rfl dX12_heights_121 ?_
          obtain rfl := Option.some.inj h
          refine q_sub [1, 2, 3, 0, 4, 5] rfl ?_
          exact K1
        replace h := hv
        refine q_if_ne 116 (by decide) dX12_heights_109 (fun c => ?_) (fun c => ?_)
        · have c := q_b_n.mp c; rw [q_if1 c] at h
          refine q_iconst (v := (1 : Int32)) (by decide) dX12_heights_116 ?_
          refine q_goto 121 (by decide) dX12_heights_117 ?_
          obtain rfl := Option.some.inj h
          refine q_sub [1, 2, 3, 5, 0] rfl ?_
          exact K2
        · have c := q_b_0.mp c; rw [q_if0 c] at h
          refine q_iload_n 4 rfl rfl dX12_heights_112 ?_
          refine q_if_eq 120 (by decide) dX12_heights_113 (fun c => ?_) (fun c => ?_)
          · rw [if_pos c] at h
            refine q_iconst (v := (0 : Int32)) (by decide) dX12_heights_120 ?_
            obtain rfl := Option.some.inj h
            refine q_sub [1, 2, 3, 5, 0] rfl ?_
            exact K2
          · rw [if_neg c] at h
            refine q_iconst (v := (1 : Int32)) (by decide) dX12_heights_116 ?_
            refine q_goto 121 (by decide) dX12_heights_117 ?_
            obtain rfl := Option.some.inj h
            refine q_sub [1, 2, 3, 5, 0] rfl ?_
            exact K2
    · rw [if_pos c] at h
      refine q_goto 215 (by decide) dX12_heights_83 ?_
      refine q_iinc (v := (x.2.1 + (1 : Int32))) 5 [(4, .int (x.2.1 + (1 : Int32))), (5, .int r32), (0, .ref 102), (1, .ref q), (2, .int y2), (3, .int x.1)] (by decide) rfl (congrArg (fun t => x.2.1 + t) (by decide)) rfl dX12_heights_215 ?_
      refine q_goto 58 (by decide) dX12_heights_218 ?_
      refine q_sub [2, 3, 4, 5, 0] rfl ?_
      cases h
      exact hQ
theorem lX12_heights_58 {g : QG} {Q : Option Value → QS → Prop} {q : Nat} {y2 : Int32} {r : (Bool × QS) ⊕ (Int32 × QS)} (hq : q_qok q) (hQ : (Sum.elim (fun r0 : Bool × QS => Q (some (.int (q_b r0.1))) r0.2) (fun y : Int32 × QS => q_L g mX12_heights 2 0 0 Q 0 0 44 [(0, .ref 102), (1, .ref q), (2, .int y2), (3, .int y.1)] [] y.2) r)) : ∀ (c : Nat) (x : Int32 × Int32 × QS), q_Wire x.2.2 → q_it (tX12_heights_58 q y2) c x = some r → q_L g mX12_heights 2 0 0 Q 0 0 58 [(0, .ref 102), (1, .ref q), (2, .int y2), (3, .int x.1), (4, .int x.2.1)] [] x.2.2 := by
  intro c
  induction c with
  | zero => intro x w h; cases h
  | succ c ih =>
    intro x w h
    simp only [q_it] at h
    cases hz : tX12_heights_58 q y2 x with
    | none => rw [hz] at h; cases h
    | some z =>
      rw [hz] at h
      refine sX12_heights_58 w hq hz ?_
      rcases z with z | y
      · cases h; exact hQ
      · have fz := fxtX12_heights_58 hz; exact ih y (w.fx fz) h
theorem usX12_heights_58 {S : QS} {g : QG} {Q : Option Value → QS → Prop} {q : Nat} {y2 : Int32} {y3 : Int32} {y4 : Int32} {r : (Bool × QS) ⊕ (Int32 × QS)} (w : q_Wire S) (hq : q_qok q) (h : uX12_heights_58 S q y2 y3 y4 = some r) (hQ : (Sum.elim (fun r0 : Bool × QS => Q (some (.int (q_b r0.1))) r0.2) (fun y : Int32 × QS => q_L g mX12_heights 2 0 0 Q 0 0 44 [(0, .ref 102), (1, .ref q), (2, .int y2), (3, .int y.1)] [] y.2) r)) : q_L g mX12_heights 2 0 0 Q 0 0 58 [(0, .ref 102), (1, .ref q), (2, .int y2), (3, .int y3), (4, .int y4)] [] S := by
  obtain ⟨c, hc⟩ := q_run_it h
  exact lX12_heights_58 hq hQ c (y3, y4, S) w hc
set_option maxRecDepth 20000 in
theorem sX12_heights_44 {g : QG} {Q : Option Value → QS → Prop} {q : Nat} {y2 : Int32} {x : Int32 × QS} {z : (Bool × QS) ⊕ (Int32 × QS)} (w : q_Wire x.2) (hq : q_qok q) (h : tX12_heights_44 q y2 x = some z) (hQ : (Sum.elim (fun r0 : Bool × QS => Q (some (.int (q_b r0.1))) r0.2) (fun y : Int32 × QS => q_L g mX12_heights 2 0 0 Q 0 0 44 [(0, .ref 102), (1, .ref q), (2, .int y2), (3, .int y.1)] [] y.2) z)) : q_L g mX12_heights 2 0 0 Q 0 0 44 [(0, .ref 102), (1, .ref q), (2, .int y2), (3, .int x.1)] [] x.2 := by
  unfold tX12_heights_44 at h
  refine q_iload_n 3 rfl rfl dX12_heights_44 ?_
  refine q_if_eq 224 (by decide) dX12_heights_45 (fun c => ?_) (fun c => ?_)
  · rw [if_pos c] at h
    refine q_aload_n 1 rfl rfl dX12_heights_224 ?_
    refine q_getR (q_shQ0 w hq) (by decide) (by decide) rfl lfX12_331 dX12_heights_225 (r := (q + 12)) (q_wrQ0_18 w hq) ?_
    refine q_iload_n 2 rfl rfl dX12_heights_228 ?_
    obtain ⟨hg50, h⟩ := q_guard h
    refine q_iald (q_shQ12 w hq) (q_inb_in hg50) dX12_heights_229 ?_
    refine q_istore [(4, .int (x.2.2.1 (q + 12) y2.toNatClampNeg)), (0, .ref 102), (1, .ref q), (2, .int y2), (3, .int x.1)] (by decide) rfl dX12_heights_230 ?_
    refine q_sub [1, 2, 3, 0] rfl ?_
    obtain ⟨r51, e52, h⟩ := q_bind h
    cases h
    exact kX12_heights_232 w hq e52 hQ
  · rw [if_neg c] at h
    refine q_iconst (v := (0 : Int32)) (by decide) dX12_heights_48 ?_
    refine q_istore_n [(3, .int (0 : Int32)), (0, .ref 102), (1, .ref q), (2, .int y2)] rfl (by decide) rfl dX12_heights_49 ?_
    refine q_aload_n 2 rfl rfl dX12_heights_50 ?_
    refine q_getR (q_shQ0 w hq) (by decide) (by decide) rfl lfX12_331 dX12_heights_51 (r := (q + 12)) (q_wrQ0_18 w hq) ?_
    refine q_iload_n 3 rfl rfl dX12_heights_54 ?_
    obtain ⟨hg53, h⟩ := q_guard h
    refine q_iald (q_shQ12 w hq) (q_inb_in hg53) dX12_heights_55 ?_
    refine q_istore [(4, .int (x.2.2.1 (q + 12) y2.toNatClampNeg)), (3, .int (0 : Int32)), (0, .ref 102), (1, .ref q), (2, .int y2)] (by decide) rfl dX12_heights_56 ?_
    refine q_sub [2, 3, 4, 1, 0] rfl ?_
    exact usX12_heights_58 w hq h hQ
theorem lX12_heights_44 {g : QG} {Q : Option Value → QS → Prop} {q : Nat} {y2 : Int32} {r : Bool × QS} (hq : q_qok q) (hQ : Q (some (.int (q_b r.1))) r.2) : ∀ (c : Nat) (x : Int32 × QS), q_Wire x.2 → q_it (tX12_heights_44 q y2) c x = some r → q_L g mX12_heights 2 0 0 Q 0 0 44 [(0, .ref 102), (1, .ref q), (2, .int y2), (3, .int x.1)] [] x.2 := by
  intro c
  induction c with
  | zero => intro x w h; cases h
  | succ c ih =>
    intro x w h
    simp only [q_it] at h
    cases hz : tX12_heights_44 q y2 x with
    | none => rw [hz] at h; cases h
    | some z =>
      rw [hz] at h
      refine sX12_heights_44 w hq hz ?_
      rcases z with z | y
      · cases h; exact hQ
      · have fz := fxtX12_heights_44 hz; exact ih y (w.fx fz) h
theorem kX12_heights_44 {S : QS} {g : QG} {Q : Option Value → QS → Prop} {q : Nat} {y2 : Int32} {y3 : Int32} {r : Bool × QS} (w : q_Wire S) (hq : q_qok q) (h : fX12_heights_44 S q y2 y3 = some r) (hQ : Q (some (.int (q_b r.1))) r.2) : q_L g mX12_heights 2 0 0 Q 0 0 44 [(0, .ref 102), (1, .ref q), (2, .int y2), (3, .int y3)] [] S := by
  obtain ⟨c, hc⟩ := q_run_it h
  exact lX12_heights_44 hq hQ c (y3, S) w hc
set_option maxRecDepth 20000 in
theorem sX12_heights_7 {g : QG} {Q : Option Value → QS → Prop} {q : Nat} {y2 : Int32} {x : Int32 × QS} {z : (Bool × QS) ⊕ (Int32 × QS)} (w : q_Wire x.2) (hq : q_qok q) (h : tX12_heights_7 q y2 x = some z) (hQ : (Sum.elim (fun r0 : Bool × QS => Q (some (.int (q_b r0.1))) r0.2) (fun y : Int32 × QS => q_L g mX12_heights 2 0 0 Q 0 0 7 [(0, .ref 102), (1, .ref q), (2, .int y2), (3, .int y.1)] [] y.2) z)) : q_L g mX12_heights 2 0 0 Q 0 0 7 [(0, .ref 102), (1, .ref q), (2, .int y2), (3, .int x.1)] [] x.2 := by
  unfold tX12_heights_7 at h
  refine q_iload_n 3 rfl rfl dX12_heights_7 ?_
  refine q_aload_n 1 rfl rfl dX12_heights_8 ?_
  refine q_getR (q_shQ0 w hq) (by decide) (by decide) rfl lfX12_340 dX12_heights_9 (r := (q + 13)) (q_wrQ0_19 w hq) ?_
  refine q_iload_n 2 rfl rfl dX12_heights_12 ?_
  obtain ⟨hg54, h⟩ := q_guard h
  refine q_iald (q_shQ13 w hq) (q_inb_in hg54) dX12_heights_13 ?_
  refine q_icmp_ge 30 (by decide) dX12_heights_14 (fun c => ?_) (fun c => ?_)
  · rw [if_pos c] at h
    refine q_aload_n 0 rfl rfl dX12_heights_30 ?_
    refine q_getR (q_sh102 w) (by decide) (by decide) rfl lfX12_58 dX12_heights_31 (r := 170) (q_wr102_21 w) ?_
    refine q_aload_n 1 rfl rfl dX12_heights_34 ?_
    refine q_getR (q_shQ0 w hq) (by decide) (by decide) rfl lfX12_331 dX12_heights_35 (r := (q + 12)) (q_wrQ0_18 w hq) ?_
    refine q_iload_n 2 rfl rfl dX12_heights_38 ?_
    obtain ⟨hg55, h⟩ := q_guard h
    refine q_iald (q_shQ12 w hq) (q_inb_in hg55) dX12_heights_39 ?_
    refine q_iconst (v := (1 : Int32)) (by decide) dX12_heights_40 ?_
    obtain ⟨hg56, h⟩ := q_guard h
    refine q_iast (q_sh170 w) (q_inb_in hg56) dX12_heights_41 ?_
    obtain ⟨S57, e58, h⟩ := q_bindS h
    refine q_st e58 ?_
    have fx59 : q_Fx x.2 S57 := e58 ▸ q_Fx.sI (q_Fx.rf x.2)
    refine q_iconst (v := (1 : Int32)) (by decide) dX12_heights_42 ?_
    refine q_istore_n [(3, .int (1 : Int32)), (0, .ref 102), (1, .ref q), (2, .int y2)] rfl (by decide) rfl dX12_heights_43 ?_
    refine q_sub [1, 2, 3, 0] rfl ?_
    obtain ⟨r60, e61, h⟩ := q_bind h
    cases h
    exact kX12_heights_44 (w.fx fx59) hq e61 hQ
  · rw [if_neg c] at h
    refine q_aload_n 0 rfl rfl dX12_heights_17 ?_
    refine q_getR (q_sh102 w) (by decide) (by decide) rfl lfX12_58 dX12_heights_18 (r := 170) (q_wr102_21 w) ?_
    refine q_iload_n 3 rfl rfl dX12_heights_21 ?_
    refine q_iconst (v := (0 : Int32)) (by decide) dX12_heights_22 ?_
    obtain ⟨hg62, h⟩ := q_guard h
    refine q_iast (q_sh170 w) (q_inb_in hg62) dX12_heights_23 ?_
    obtain ⟨S63, e64, h⟩ := q_bindS h
    refine q_st e64 ?_
    have fx65 : q_Fx x.2 S63 := e64 ▸ q_Fx.sI (q_Fx.rf x.2)
    refine q_iinc (v := (x.1 + (1 : Int32))) 3 [(3, .int (x.1 + (1 : Int32))), (0, .ref 102), (1, .ref q), (2, .int y2)] (by decide) rfl (congrArg (fun t => x.1 + t) (by decide)) rfl dX12_heights_24 ?_
    refine q_goto 7 (by decide) dX12_heights_27 ?_
    refine q_sub [1, 2, 3, 0] rfl ?_
    cases h
    exact hQ
theorem lX12_heights_7 {g : QG} {Q : Option Value → QS → Prop} {q : Nat} {y2 : Int32} {r : Bool × QS} (hq : q_qok q) (hQ : Q (some (.int (q_b r.1))) r.2) : ∀ (c : Nat) (x : Int32 × QS), q_Wire x.2 → q_it (tX12_heights_7 q y2) c x = some r → q_L g mX12_heights 2 0 0 Q 0 0 7 [(0, .ref 102), (1, .ref q), (2, .int y2), (3, .int x.1)] [] x.2 := by
  intro c
  induction c with
  | zero => intro x w h; cases h
  | succ c ih =>
    intro x w h
    simp only [q_it] at h
    cases hz : tX12_heights_7 q y2 x with
    | none => rw [hz] at h; cases h
    | some z =>
      rw [hz] at h
      refine sX12_heights_7 w hq hz ?_
      rcases z with z | y
      · cases h; exact hQ
      · have fz := fxtX12_heights_7 hz; exact ih y (w.fx fz) h
theorem kX12_heights_7 {S : QS} {g : QG} {Q : Option Value → QS → Prop} {q : Nat} {y2 : Int32} {y3 : Int32} {r : Bool × QS} (w : q_Wire S) (hq : q_qok q) (h : fX12_heights_7 S q y2 y3 = some r) (hQ : Q (some (.int (q_b r.1))) r.2) : q_L g mX12_heights 2 0 0 Q 0 0 7 [(0, .ref 102), (1, .ref q), (2, .int y2), (3, .int y3)] [] S := by
  obtain ⟨c, hc⟩ := q_run_it h
  exact lX12_heights_7 hq hQ c (y3, S) w hc
set_option maxRecDepth 20000 in
theorem kX12_heights {S : QS} {g : QG} {Q : Option Value → QS → Prop} {q : Nat} {x2 : Int32} {r : Bool × QS} (w : q_Wire S) (hq : q_qok q) (h : fX12_heights S q x2 = some r) (hQ : Q (some (.int (q_b r.1))) r.2) : q_M g mX12_heights 2 0 0 [.ref 102, .ref q, .int x2] S Q := by
  unfold fX12_heights at h
  show q_L g mX12_heights 2 0 0 Q 0 0 0 [(0, .ref 102), (1, .ref q), (2, .int x2)] [] S
  refine q_aload_n 1 rfl rfl dX12_heights_0 ?_
  refine q_getR (q_shQ0 w hq) (by decide) (by decide) rfl lfX12_331 dX12_heights_1 (r := (q + 12)) (q_wrQ0_18 w hq) ?_
  refine q_iload_n 2 rfl rfl dX12_heights_4 ?_
  obtain ⟨hg66, h⟩ := q_guard h
  refine q_iald (q_shQ12 w hq) (q_inb_in hg66) dX12_heights_5 ?_
  refine q_istore_n [(3, .int (S.2.1 (q + 12) x2.toNatClampNeg)), (0, .ref 102), (1, .ref q), (2, .int x2)] rfl (by decide) rfl dX12_heights_6 ?_
  refine q_sub [1, 2, 3, 0] rfl ?_
  exact kX12_heights_7 w hq h hQ
set_option maxRecDepth 20000 in
theorem kX12_isClass {S : QS} {g : QG} {Q : Option Value → QS → Prop}  {x0 : Int32} {r : Bool} (w : q_Wire S) (h : fX12_isClass S x0 = some r) (hQ : Q (some (.int (q_b r))) S) : q_M g mX12_isClass 0 0 0 [.int x0] S Q := by
  unfold fX12_isClass at h
  show q_L g mX12_isClass 0 0 0 Q 0 0 0 [(0, .int x0)] [] S
  refine q_iload_n 0 rfl rfl dX12_isClass_0 ?_
  refine q_bipush (v := (8 : Int32)) (by decide) dX12_isClass_1 ?_
  refine q_icmp_lt 16 (by decide) dX12_isClass_3 (fun c => ?_) (fun c => ?_)
  · rw [if_pos c] at h
    refine q_iconst (v := (0 : Int32)) (by decide) dX12_isClass_16 ?_
    obtain rfl := Option.some.inj h
    exact q_iret rfl (by decide) dX12_isClass_17 hQ
  · rw [if_neg c] at h
    refine q_iload_n 0 rfl rfl dX12_isClass_6 ?_
    refine q_bipush (v := (40 : Int32)) (by decide) dX12_isClass_7 ?_
    refine q_icmp_ge 16 (by decide) dX12_isClass_9 (fun c => ?_) (fun c => ?_)
    · rw [if_pos c] at h
      refine q_iconst (v := (0 : Int32)) (by decide) dX12_isClass_16 ?_
      obtain rfl := Option.some.inj h
      exact q_iret rfl (by decide) dX12_isClass_17 hQ
    · rw [if_neg c] at h
      refine q_iconst (v := (1 : Int32)) (by decide) dX12_isClass_12 ?_
      refine q_goto 17 (by decide) dX12_isClass_13 ?_
      obtain rfl := Option.some.inj h
      exact q_iret rfl (by decide) dX12_isClass_17 hQ
set_option maxRecDepth 20000 in
theorem kX12_isArrayType {S : QS} {g : QG} {Q : Option Value → QS → Prop}  {x0 : Int32} {r : Bool} (w : q_Wire S) (h : fX12_isArrayType S x0 = some r) (hQ : Q (some (.int (q_b r))) S) : q_M g mX12_isArrayType 0 0 0 [.int x0] S Q := by
  unfold fX12_isArrayType at h
  show q_L g mX12_isArrayType 0 0 0 Q 0 0 0 [(0, .int x0)] [] S
  refine q_iload_n 0 rfl rfl dX12_isArrayType_0 ?_
  refine q_bipush (v := (40 : Int32)) (by decide) dX12_isArrayType_1 ?_
  refine q_icmp_lt 10 (by decide) dX12_isArrayType_3 (fun c => ?_) (fun c => ?_)
  · rw [if_pos c] at h
    refine q_iconst (v := (0 : Int32)) (by decide) dX12_isArrayType_10 ?_
    obtain rfl := Option.some.inj h
    exact q_iret rfl (by decide) dX12_isArrayType_11 hQ
  · rw [if_neg c] at h
    refine q_iconst (v := (1 : Int32)) (by decide) dX12_isArrayType_6 ?_
    refine q_goto 11 (by decide) dX12_isArrayType_7 ?_
    obtain rfl := Option.some.inj h
    exact q_iret rfl (by decide) dX12_isArrayType_11 hQ
set_option maxRecDepth 20000 in
theorem kX12_isReferenceType {S : QS} {g : QG} {Q : Option Value → QS → Prop}  {x0 : Int32} {r : Bool} (w : q_Wire S) (h : fX12_isReferenceType S x0 = some r) (hQ : Q (some (.int (q_b r))) S) : q_M g mX12_isReferenceType 0 0 0 [.int x0] S Q := by
  unfold fX12_isReferenceType at h
  show q_L g mX12_isReferenceType 0 0 0 Q 0 0 0 [(0, .int x0)] [] S
  refine q_iload_n 0 rfl rfl dX12_isReferenceType_0 ?_
  refine q_iconst (v := (1 : Int32)) (by decide) dX12_isReferenceType_1 ?_
  refine q_icmp_eq 11 (by decide) dX12_isReferenceType_2 (fun c => ?_) (fun c => ?_)
  · rw [if_pos c] at h
    refine q_iconst (v := (1 : Int32)) (by decide) dX12_isReferenceType_11 ?_
    refine q_goto 16 (by decide) dX12_isReferenceType_12 ?_
    obtain rfl := Option.some.inj h
    exact q_iret rfl (by decide) dX12_isReferenceType_16 hQ
  · rw [if_neg c] at h
    refine q_iload_n 0 rfl rfl dX12_isReferenceType_5 ?_
    refine q_bipush (v := (8 : Int32)) (by decide) dX12_isReferenceType_6 ?_
    refine q_icmp_lt 15 (by decide) dX12_isReferenceType_8 (fun c => ?_) (fun c => ?_)
    · rw [if_pos c] at h
      refine q_iconst (v := (0 : Int32)) (by decide) dX12_isReferenceType_15 ?_
      obtain rfl := Option.some.inj h
      exact q_iret rfl (by decide) dX12_isReferenceType_16 hQ
    · rw [if_neg c] at h
      refine q_iconst (v := (1 : Int32)) (by decide) dX12_isReferenceType_11 ?_
      refine q_goto 16 (by decide) dX12_isReferenceType_12 ?_
      obtain rfl := Option.some.inj h
      exact q_iret rfl (by decide) dX12_isReferenceType_16 hQ
set_option maxRecDepth 20000 in
theorem kX12_isBelow {S : QS} {g : QG} {Q : Option Value → QS → Prop} {q : Nat} {x1 : Int32} {x2 : Int32} {r : Bool} (w : q_Wire S) (hq : q_qok q) (h : fX12_isBelow S q x1 x2 = some r) (hQ : Q (some (.int (q_b r))) S) : q_M g mX12_isBelow 1 0 0 [.ref q, .int x1, .int x2] S Q := by
  unfold fX12_isBelow at h
  show q_L g mX12_isBelow 1 0 0 Q 0 0 0 [(0, .ref q), (1, .int x1), (2, .int x2)] [] S
  refine q_iload_n 2 rfl rfl dX12_isBelow_0 ?_
  refine q_iconst (v := (2 : Int32)) (by decide) dX12_isBelow_1 ?_
  refine q_icmp_eq 10 (by decide) dX12_isBelow_2 (fun c => ?_) (fun c => ?_)
  · rw [if_pos c] at h
    refine q_iconst (v := (1 : Int32)) (by decide) dX12_isBelow_10 ?_
    obtain rfl := Option.some.inj h
    exact q_iret rfl (by decide) dX12_isBelow_11 hQ
  · rw [if_neg c] at h
    refine q_iload_n 1 rfl rfl dX12_isBelow_5 ?_
    refine q_iload_n 2 rfl rfl dX12_isBelow_6 ?_
    refine q_icmp_ne 12 (by decide) dX12_isBelow_7 (fun c => ?_) (fun c => ?_)
    · rw [if_neg c] at h
      refine q_iload_n 1 rfl rfl dX12_isBelow_12 ?_
      refine q_iconst (v := (2 : Int32)) (by decide) dX12_isBelow_13 ?_
      refine q_icmp_eq 30 (by decide) dX12_isBelow_14 (fun c => ?_) (fun c => ?_)
      · rw [if_pos c] at h
        refine q_iconst (v := (0 : Int32)) (by decide) dX12_isBelow_30 ?_
        obtain rfl := Option.some.inj h
        exact q_iret rfl (by decide) dX12_isBelow_31 hQ
      · rw [if_neg c] at h
        refine q_iload_n 1 rfl rfl dX12_isBelow_17 ?_
        refine q_if_eq 30 (by decide) dX12_isBelow_18 (fun c => ?_) (fun c => ?_)
        · rw [if_pos c] at h
          refine q_iconst (v := (0 : Int32)) (by decide) dX12_isBelow_30 ?_
          obtain rfl := Option.some.inj h
          exact q_iret rfl (by decide) dX12_isBelow_31 hQ
        · rw [if_neg c] at h
          refine q_iload_n 2 rfl rfl dX12_isBelow_21 ?_
          refine q_if_eq 30 (by decide) dX12_isBelow_22 (fun c => ?_) (fun c => ?_)
          · rw [if_pos c] at h
            refine q_iconst (v := (0 : Int32)) (by decide) dX12_isBelow_30 ?_
            obtain rfl := Option.some.inj h
            exact q_iret rfl (by decide) dX12_isBelow_31 hQ
          · rw [if_neg c] at h
            refine q_iload_n 2 rfl rfl dX12_isBelow_25 ?_
            refine q_iconst (v := (1 : Int32)) (by decide) dX12_isBelow_26 ?_
            refine q_icmp_ne 32 (by decide) dX12_isBelow_27 (fun c => ?_) (fun c => ?_)
            · rw [if_neg c] at h
              refine q_iload_n 1 rfl rfl dX12_isBelow_32 ?_
              refine q_iconst (v := (1 : Int32)) (by decide) dX12_isBelow_33 ?_
              refine q_icmp_eq 43 (by decide) dX12_isBelow_34 (fun c => ?_) (fun c => ?_)
              · rw [if_pos c] at h
                refine q_iconst (v := (1 : Int32)) (by decide) dX12_isBelow_43 ?_
                obtain rfl := Option.some.inj h
                exact q_iret rfl (by decide) dX12_isBelow_44 hQ
              · rw [if_neg c] at h
                refine q_iload_n 2 rfl rfl dX12_isBelow_37 ?_
                refine q_bipush (v := (8 : Int32)) (by decide) dX12_isBelow_38 ?_
                refine q_icmp_ne 45 (by decide) dX12_isBelow_40 (fun c => ?_) (fun c => ?_)
                · rw [if_neg c] at h
                  refine q_iload_n 1 rfl rfl dX12_isBelow_45 ?_
                  obtain ⟨r1, e2, h⟩ := q_bind h
                  refine q_callS (d := 0) (Mc := mX12_isClass) (kc := 0) (nc := 0) [.int x1] okX12_isClass lmX12_433 inX12_isClass rfl (Nat.le_of_ble_eq_true rfl) (Nat.le_of_ble_eq_true rfl) (Nat.le_refl _) (Nat.le_refl _) dX12_isBelow_46 (q_L.deep (by decide) (kX12_isClass (Q := fun r S' => r = some (.int (q_b r1)) ∧ S' = S) w e2 ⟨rfl, rfl⟩)) (q_kI ?_)
                  refine q_if_eq 80 (by decide) dX12_isBelow_49 (fun c => ?_) (fun c => ?_)
                  · have c := q_b_0.mp c; rw [q_if0 c] at h
                    refine q_iload_n 1 rfl rfl dX12_isBelow_80 ?_
                    refine q_bipush (v := (48 : Int32)) (by decide) dX12_isBelow_81 ?_
                    refine q_icmp_lt 111 (by decide) dX12_isBelow_83 (fun c => ?_) (fun c => ?_)
                    · rw [if_pos c] at h
                      refine q_iconst (v := (0 : Int32)) (by decide) dX12_isBelow_111 ?_
                      obtain rfl := Option.some.inj h
                      exact q_iret rfl (by decide) dX12_isBelow_112 hQ
                    · rw [if_neg c] at h
                      refine q_iload_n 2 rfl rfl dX12_isBelow_86 ?_
                      refine q_bipush (v := (48 : Int32)) (by decide) dX12_isBelow_87 ?_
                      refine q_icmp_lt 111 (by decide) dX12_isBelow_89 (fun c => ?_) (fun c => ?_)
                      · rw [if_pos c] at h
                        refine q_iconst (v := (0 : Int32)) (by decide) dX12_isBelow_111 ?_
                        obtain rfl := Option.some.inj h
                        exact q_iret rfl (by decide) dX12_isBelow_112 hQ
                      · rw [if_neg c] at h
                        refine q_aload_n 0 rfl rfl dX12_isBelow_92 ?_
                        refine q_iload_n 1 rfl rfl dX12_isBelow_93 ?_
                        refine q_bipush (v := (48 : Int32)) (by decide) dX12_isBelow_94 ?_
                        refine q_isub dX12_isBelow_96 ?_
                        refine q_iload_n 2 rfl rfl dX12_isBelow_97 ?_
                        refine q_bipush (v := (48 : Int32)) (by decide) dX12_isBelow_98 ?_
                        refine q_isub dX12_isBelow_100 ?_
                        obtain ⟨r3, e4, h⟩ := q_bind h
                        refine q_callS (d := 0) (Mc := mX12_isAtOrBelow) (kc := 0) (nc := 0) [.ref q, .int (x1 - (48 : Int32)), .int (x2 - (48 : Int32))] okX12_isAtOrBelow lmX12_263 inX12_isAtOrBelow rfl (Nat.le_of_ble_eq_true rfl) (Nat.le_of_ble_eq_true rfl) (Nat.le_refl _) (Nat.le_refl _) dX12_isBelow_101 (q_L.deep (by decide) (kX12_isAtOrBelow (Q := fun r S' => r = some (.int (q_b r3)) ∧ S' = S) w hq e4 ⟨rfl, rfl⟩)) (q_kI ?_)
                        refine q_if_eq 111 (by decide) dX12_isBelow_104 (fun c => ?_) (fun c => ?_)
                        · have c := q_b_0.mp c; rw [q_if0 c] at h
                          refine q_iconst (v := (0 : Int32)) (by decide) dX12_isBelow_111 ?_
                          obtain rfl := Option.some.inj h
                          exact q_iret rfl (by decide) dX12_isBelow_112 hQ
                        · have c := q_b_n.mp c; rw [q_if1 c] at h
                          refine q_iconst (v := (1 : Int32)) (by decide) dX12_isBelow_107 ?_
                          refine q_goto 112 (by decide) dX12_isBelow_108 ?_
                          obtain rfl := Option.some.inj h
                          exact q_iret rfl (by decide) dX12_isBelow_112 hQ
                  · have c := q_b_n.mp c; rw [q_if1 c] at h
                    refine q_iload_n 2 rfl rfl dX12_isBelow_52 ?_
                    obtain ⟨r5, e6, h⟩ := q_bind h
                    refine q_callS (d := 0) (Mc := mX12_isClass) (kc := 0) (nc := 0) [.int x2] okX12_isClass lmX12_433 inX12_isClass rfl (Nat.le_of_ble_eq_true rfl) (Nat.le_of_ble_eq_true rfl) (Nat.le_refl _) (Nat.le_refl _) dX12_isBelow_53 (q_L.deep (by decide) (kX12_isClass (Q := fun r S' => r = some (.int (q_b r5)) ∧ S' = S) w e6 ⟨rfl, rfl⟩)) (q_kI ?_)
                    refine q_if_eq 78 (by decide) dX12_isBelow_56 (fun c => ?_) (fun c => ?_)
                    · have c := q_b_0.mp c; rw [q_if0 c] at h
                      refine q_iconst (v := (0 : Int32)) (by decide) dX12_isBelow_78 ?_
                      obtain rfl := Option.some.inj h
                      exact q_iret rfl (by decide) dX12_isBelow_79 hQ
                    · have c := q_b_n.mp c; rw [q_if1 c] at h
                      refine q_aload_n 0 rfl rfl dX12_isBelow_59 ?_
                      refine q_iload_n 1 rfl rfl dX12_isBelow_60 ?_
                      refine q_bipush (v := (8 : Int32)) (by decide) dX12_isBelow_61 ?_
                      refine q_isub dX12_isBelow_63 ?_
                      refine q_iload_n 2 rfl rfl dX12_isBelow_64 ?_
                      refine q_bipush (v := (8 : Int32)) (by decide) dX12_isBelow_65 ?_
                      refine q_isub dX12_isBelow_67 ?_
                      obtain ⟨r7, e8, h⟩ := q_bind h
                      refine q_callS (d := 0) (Mc := mX12_isAtOrBelow) (kc := 0) (nc := 0) [.ref q, .int (x1 - (8 : Int32)), .int (x2 - (8 : Int32))] okX12_isAtOrBelow lmX12_263 inX12_isAtOrBelow rfl (Nat.le_of_ble_eq_true rfl) (Nat.le_of_ble_eq_true rfl) (Nat.le_refl _) (Nat.le_refl _) dX12_isBelow_68 (q_L.deep (by decide) (kX12_isAtOrBelow (Q := fun r S' => r = some (.int (q_b r7)) ∧ S' = S) w hq e8 ⟨rfl, rfl⟩)) (q_kI ?_)
                      refine q_if_eq 78 (by decide) dX12_isBelow_71 (fun c => ?_) (fun c => ?_)
                      · have c := q_b_0.mp c; rw [q_if0 c] at h
                        refine q_iconst (v := (0 : Int32)) (by decide) dX12_isBelow_78 ?_
                        obtain rfl := Option.some.inj h
                        exact q_iret rfl (by decide) dX12_isBelow_79 hQ
                      · have c := q_b_n.mp c; rw [q_if1 c] at h
                        refine q_iconst (v := (1 : Int32)) (by decide) dX12_isBelow_74 ?_
                        refine q_goto 79 (by decide) dX12_isBelow_75 ?_
                        obtain rfl := Option.some.inj h
                        exact q_iret rfl (by decide) dX12_isBelow_79 hQ
                · rw [if_pos c] at h
                  refine q_iconst (v := (1 : Int32)) (by decide) dX12_isBelow_43 ?_
                  obtain rfl := Option.some.inj h
                  exact q_iret rfl (by decide) dX12_isBelow_44 hQ
            · rw [if_pos c] at h
              refine q_iconst (v := (0 : Int32)) (by decide) dX12_isBelow_30 ?_
              obtain rfl := Option.some.inj h
              exact q_iret rfl (by decide) dX12_isBelow_31 hQ
    · rw [if_pos c] at h
      refine q_iconst (v := (1 : Int32)) (by decide) dX12_isBelow_10 ?_
      obtain rfl := Option.some.inj h
      exact q_iret rfl (by decide) dX12_isBelow_11 hQ
