/-! ===== both read the members alike ===== -/
section ZMEMS
variable {C D : QS} {n p q : Nat} {g : ZT} {K : ZK}
def k_M0 : ZM := ((0, fun _ => 0, fun _ => 0, fun _ => 0, fun _ => 0, 0, fun _ => 0, fun _ => 0, fun _ => false, fun _ => 0, fun _ _ => 0, fun _ => 0, fun _ => 0, fun _ => 0, fun _ => 0) : ZM0)
theorem z_members (hp : z_pp p) (hq : z_qq q) (hG : z_G n g) (ho : e_ok g) (hC : z_C C n g) (hD : z_D D n g) (hkd : ∀ i, i < g.1 → C.2.1 6 i = e_kind g i) (hkC : k_C C p K) (hkD : k_D D q K) (hK : k_K g K) (hKP : k_KP g K g.1) (hz : k_z C p K) : ∃ r r', fX4_memberFault C p = some r ∧ fX12_members D q = some r' ∧ z_offC p C r.2 ∧ z_offD q D r'.2 ∧ (z_flt g r r' ∨ (r.1 = -1 ∧ r'.1 = true ∧ ∃ M', m_I p q n g K M' (K.cc - 1) r.2 r'.2 ∧ m_P g M' g.1)) := by
  have b1 := hG.1
  have b2 := hG.2.1
  have h32 := hK.2.1
  have h8 := hK.1
  have oD : z_offD q D (q_sI (q_sI D q 1 0) q 2 0) := ((z_offD.refl q D).sI (by omega)).sI (by omega)
  have I7 : m_I p q n g K k_M0 7 C (q_sI (q_sI D q 1 0) q 2 0) := by
    refine ⟨hC, hD.off hq oD, hkd, hkC, hkD.fr (fun y j h => ?_), ⟨hz.2.1, fun f hf => absurd hf (Nat.not_lt_zero _)⟩, ⟨hz.2.2.1, fun f hf => absurd hf (Nat.not_lt_zero _)⟩, ⟨?_, fun f hf => absurd hf (Nat.not_lt_zero _)⟩, ⟨?_, fun f hf => absurd hf (Nat.not_lt_zero _)⟩, ⟨Nat.zero_le _, fun f hf => absurd hf (Nat.not_lt_zero _)⟩, ⟨Nat.zero_le _, fun f hf => absurd hf (Nat.not_lt_zero _), fun b b' _ hf => absurd hf (Nat.not_lt_zero _), fun b b' _ hf => absurd hf (Nat.not_lt_zero _)⟩, fun f hf => absurd hf (Nat.not_lt_zero _), fun f hf => absurd hf (Nat.not_lt_zero _), fun f hf => absurd hf (Nat.not_lt_zero _), fun b b' _ hf => absurd hf (Nat.not_lt_zero _), by omega, Nat.le_refl _, fun c hc => hz.1 c (by omega), fun c hc r hr => hz.2.2.2.2.2.2.2 _ (by omega), fun f hf => absurd hf (Nat.not_lt_zero _), fun f hf => absurd hf (Nat.not_lt_zero _), fun f hf => absurd hf (Nat.not_lt_zero _), fun f hf => absurd hf (Nat.not_lt_zero _), fun f hf => absurd hf (Nat.not_lt_zero _), hz.2.2.2.1, hz.2.2.2.2.1, hz.2.2.2.2.2.1, hz.2.2.2.2.2.2.1⟩
    · rw [q_sI_I, if_neg (by rcases hq with rfl | rfl <;> omega), q_sI_I, if_neg (by rcases hq with rfl | rfl <;> omega)]
    · rw [q_sI_I, if_neg (by omega), q_sI_I, if_pos ⟨rfl, rfl⟩]; rfl
    · rw [q_sI_I, if_pos ⟨rfl, rfl⟩]; rfl
  have cl : fX4_memberFault C p = q_run (tX4_memberFault_5 p) (nI 7, nI 0, C) := rfl
  have dl : fX12_members D q = q_run (tX12_members_15 q) (nI 8, q_sI (q_sI D q 1 0) q 2 0) := rfl
  have hcc : fX12_classCount (q_sI (q_sI D q 1 0) q 2 0) q = some (nI K.cc) := by
    rw [fX12_classCount, I7.kD.1, show (8 : Int32) = nI 8 from rfl, nI_add, show 8 + (K.cc - 8) = K.cc by omega]
  rw [cl, dl]
  by_cases hT : g.1 = 0
  · have hc8 : K.cc = 8 := by
      by_cases c : 8 < K.cc
      · have := (hK.2.2.2.1 8 (by omega) c).1
        omega
      · omega
    have s1 : tX4_memberFault_5 p (nI 7, nI 0, C) = some (.inl (-1, C)) := by
      simp only [tX4_memberFault_5, hC.2.1, hT]
      rfl
    have s2 : tX12_members_15 q (nI 8, q_sI (q_sI D q 1 0) q 2 0) = some (.inl (true, q_sI (q_sI D q 1 0) q 2 0)) := by
      simp only [tX12_members_15, hcc, Option.bind_some, hc8]
      rfl
    refine ⟨_, _, q_run_ret s1, q_run_ret s2, z_offC.refl p C, oD, Or.inr ⟨rfl, rfl, k_M0, ?_, ?_⟩⟩
    · rw [show K.cc - 1 = 7 by omega]; exact I7
    · exact ⟨fun i hi => by omega, fun b b' _ hf => absurd hf (Nat.not_lt_zero _), fun f hf => absurd hf (Nat.not_lt_zero _)⟩
  · have h0 : 0 < g.1 := by omega
    have hc8 : 8 < K.cc := by
      by_cases c : K.cc = 8
      · have := hKP.1 c; omega
      · omega
    have hcw : K.cw 8 = 1 := hKP.2.1 hc8
    obtain ⟨y1, y2, y3, y4, y5, y6, y7, y8, y9⟩ := e_class ho h0 rfl
    obtain ⟨C', z1, z2, z3⟩ := z_inherit hp hK hc8 I7
    have e2 : ¬ nI g.1 ≤ nI 0 := by rw [z_leN (by omega) (by omega)]; omega
    have s1 : tX4_memberFault_5 p (nI 7, nI 0, C) = some (.inr (nI 8, nI 1, C')) := by
      simp only [tX4_memberFault_5, hC.2.1, if_neg e2, z_inbN (show 0 < 16000 by omega) (by decide), if_true, z_cl (show 0 < 2147483648 by omega), hkd 0 h0, y7, nI_1, z1, Option.bind_some]
    have s2 : tX12_members_15 q (nI 8, q_sI (q_sI D q 1 0) q 2 0) = q_run (tX12_members_33 q) (nI 5, nI 8, q_sI (q_sI D q 1 0) q 2 0) := by
      simp only [tX12_members_15, hcc, Option.bind_some]
      rw [if_neg (by rw [z_leN (by omega) (by omega)]; omega), if_pos (z_inbN (by omega) (by decide)), z_cl (by omega), (I7.kD.2 8 hc8).1 (by omega), hcw, show (4 : Int32) = nI 4 from rfl, nI_add]
      rfl
    rw [q_run_go s1, z_memSkip z3.hC.2.1 (by omega) z3.kd (show 5 ≤ g.1 by omega) 4 1 (by omega) (fun i i1 i2 => e_nm53 (y9 i (by omega) (by omega)).1), q_run_step (f := tX12_members_15 q), s2]
    obtain ⟨r, r', w1, w2, w3, w4, w5⟩ := z_memWalk hp hq hG hK ho hKP (g.1 - 5) 5 8 C' _ k_M0 (by omega) y8 (by omega) (by omega) (fun k k1 k2 hk => by
      by_cases c : k = 5
      · rw [c] at hk; exact absurd (y8.symm.trans hk) (by decide)
      · have := (y9 k (by omega) (by omega)).2.2
        rw [hk] at this
        exact this rfl) z3 (by
      have P0 : m_P g k_M0 0 := ⟨fun i hi => absurd hi (Nat.not_lt_zero _), fun b b' _ hf => absurd hf (Nat.not_lt_zero _), fun f hf => absurd hf (Nat.not_lt_zero _)⟩
      refine P0.skip (by omega) (fun i i1 i2 => ?_)
      by_cases c : i = 0
      · rw [c]; exact Or.inr (Or.inr y7)
      · exact Or.inl (e_nm53 (y9 i (by omega) (by omega)).1))
    exact ⟨r, r', w1, w2, z2.trans w3, oD.trans w4, w5⟩
end ZMEMS
