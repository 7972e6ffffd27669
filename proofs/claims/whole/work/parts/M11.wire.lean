/-! the shapes of all that the law makes; which reference fields never change -/
def q_Wire (S : QS) : Prop := S.1 = q_SH ∧ ∀ x ∈ q_WL, S.2.2.2 x.1 x.2.1 = x.2.2
theorem q_no77 : ∀ x ∈ q_WL, ¬ (x.1 = 77 ∧ x.2.1 = 1) := by decide +kernel
theorem q_Wire.fx {S S' : QS} (w : q_Wire S) (h : q_Fx S S') : q_Wire S' := ⟨h.1.trans w.1, fun x hx => by rw [h.2 _ _ (q_no77 x hx)]; exact w.2 x hx⟩
def q_mut : List (Nat × Nat) := [(0, 9), (0, 10), (78, 1), (78, 2), (78, 3), (81, 0), (81, 1), (84, 0), (84, 1), (84, 2), (89, 0), (89, 1), (102, 0), (102, 1), (77, 1)]
theorem q_mut_ok : ∀ y ∈ q_mut, ∀ x ∈ q_WL, ¬ (x.1 = y.1 ∧ x.2.1 = y.2) := by decide +kernel
theorem q_Wire.sR {S : QS} {o j r : Nat} (w : q_Wire S) (h : (o, j) ∈ q_mut) : q_Wire (q_sR S o j r) := by
  refine ⟨w.1, fun x hx => ?_⟩
  have h1 := q_mut_ok _ h x hx
  rw [← w.2 x hx]
  by_cases e : x.1 = o
  · have e2 : ¬ x.2.1 = j := fun q => h1 ⟨e, q⟩
    simp [q_sR, e, va_up, e2]
  · simp [q_sR, e]
theorem q_shfx {S S' : QS} {o : Nat} {sp : QSp} (h : q_Fx S S') (hs : S.1[o]? = some sp) : S'.1[o]? = some sp := by rw [h.1]; exact hs
theorem q_sh0 {S : QS} (w : q_Wire S) : S.1[0]? = some (.inl 10) := by rw [w.1]; rfl
theorem q_sh1 {S : QS} (w : q_Wire S) : S.1[1]? = some (.inr (0, 4000)) := by rw [w.1]; rfl
theorem q_sh2 {S : QS} (w : q_Wire S) : S.1[2]? = some (.inl 8) := by rw [w.1]; rfl
theorem q_sh3 {S : QS} (w : q_Wire S) : S.1[3]? = some (.inr (1, 16000)) := by rw [w.1]; rfl
theorem q_sh4 {S : QS} (w : q_Wire S) : S.1[4]? = some (.inr (0, 16000)) := by rw [w.1]; rfl
theorem q_sh5 {S : QS} (w : q_Wire S) : S.1[5]? = some (.inr (0, 16000)) := by rw [w.1]; rfl
theorem q_sh6 {S : QS} (w : q_Wire S) : S.1[6]? = some (.inr (1, 16000)) := by rw [w.1]; rfl
theorem q_sh77 {S : QS} (w : q_Wire S) : S.1[77]? = some (.inl 7) := by rw [w.1]; rfl
theorem q_sh78 {S : QS} (w : q_Wire S) : S.1[78]? = some (.inl 4) := by rw [w.1]; rfl
theorem q_sh79 {S : QS} (w : q_Wire S) : S.1[79]? = some (.inr (0, 8000)) := by rw [w.1]; rfl
theorem q_sh80 {S : QS} (w : q_Wire S) : S.1[80]? = some (.inr (0, 8000)) := by rw [w.1]; rfl
theorem q_sh81 {S : QS} (w : q_Wire S) : S.1[81]? = some (.inl 3) := by rw [w.1]; rfl
theorem q_sh82 {S : QS} (w : q_Wire S) : S.1[82]? = some (.inr (0, 1024)) := by rw [w.1]; rfl
theorem q_sh83 {S : QS} (w : q_Wire S) : S.1[83]? = some (.inr (3, 1024)) := by rw [w.1]; rfl
theorem q_sh84 {S : QS} (w : q_Wire S) : S.1[84]? = some (.inl 9) := by rw [w.1]; rfl
theorem q_sh85 {S : QS} (w : q_Wire S) : S.1[85]? = some (.inr (1, 20480)) := by rw [w.1]; rfl
theorem q_sh86 {S : QS} (w : q_Wire S) : S.1[86]? = some (.inr (3, 1024)) := by rw [w.1]; rfl
theorem q_sh87 {S : QS} (w : q_Wire S) : S.1[87]? = some (.inr (3, 1024)) := by rw [w.1]; rfl
theorem q_sh88 {S : QS} (w : q_Wire S) : S.1[88]? = some (.inr (1, 20)) := by rw [w.1]; rfl
theorem q_sh89 {S : QS} (w : q_Wire S) : S.1[89]? = some (.inl 6) := by rw [w.1]; rfl
theorem q_sh90 {S : QS} (w : q_Wire S) : S.1[90]? = some (.inl 2) := by rw [w.1]; rfl
theorem q_sh91 {S : QS} (w : q_Wire S) : S.1[91]? = some (.inr (0, 2001)) := by rw [w.1]; rfl
theorem q_sh92 {S : QS} (w : q_Wire S) : S.1[92]? = some (.inr (0, 2001)) := by rw [w.1]; rfl
theorem q_sh93 {S : QS} (w : q_Wire S) : S.1[93]? = some (.inr (0, 2001)) := by rw [w.1]; rfl
theorem q_sh94 {S : QS} (w : q_Wire S) : S.1[94]? = some (.inr (0, 2001)) := by rw [w.1]; rfl
theorem q_sh95 {S : QS} (w : q_Wire S) : S.1[95]? = some (.inr (0, 12000)) := by rw [w.1]; rfl
theorem q_sh96 {S : QS} (w : q_Wire S) : S.1[96]? = some (.inr (0, 1280)) := by rw [w.1]; rfl
theorem q_sh97 {S : QS} (w : q_Wire S) : S.1[97]? = some (.inr (1, 1280)) := by rw [w.1]; rfl
theorem q_sh98 {S : QS} (w : q_Wire S) : S.1[98]? = some (.inr (0, 64)) := by rw [w.1]; rfl
theorem q_sh99 {S : QS} (w : q_Wire S) : S.1[99]? = some (.inr (0, 64)) := by rw [w.1]; rfl
theorem q_sh100 {S : QS} (w : q_Wire S) : S.1[100]? = some (.inr (0, 256)) := by rw [w.1]; rfl
theorem q_sh101 {S : QS} (w : q_Wire S) : S.1[101]? = some (.inr (0, 256)) := by rw [w.1]; rfl
theorem q_sh102 {S : QS} (w : q_Wire S) : S.1[102]? = some (.inl 12) := by rw [w.1]; rfl
theorem q_sh159 {S : QS} (w : q_Wire S) : S.1[159]? = some (.inr (1, 16000)) := by rw [w.1]; rfl
theorem q_sh160 {S : QS} (w : q_Wire S) : S.1[160]? = some (.inr (1, 16000)) := by rw [w.1]; rfl
theorem q_sh161 {S : QS} (w : q_Wire S) : S.1[161]? = some (.inr (0, 16002)) := by rw [w.1]; rfl
theorem q_sh162 {S : QS} (w : q_Wire S) : S.1[162]? = some (.inr (0, 16002)) := by rw [w.1]; rfl
theorem q_sh163 {S : QS} (w : q_Wire S) : S.1[163]? = some (.inr (0, 32)) := by rw [w.1]; rfl
theorem q_sh164 {S : QS} (w : q_Wire S) : S.1[164]? = some (.inr (0, 48)) := by rw [w.1]; rfl
theorem q_sh165 {S : QS} (w : q_Wire S) : S.1[165]? = some (.inr (0, 48)) := by rw [w.1]; rfl
theorem q_sh166 {S : QS} (w : q_Wire S) : S.1[166]? = some (.inr (0, 48)) := by rw [w.1]; rfl
theorem q_sh167 {S : QS} (w : q_Wire S) : S.1[167]? = some (.inr (0, 16000)) := by rw [w.1]; rfl
theorem q_sh168 {S : QS} (w : q_Wire S) : S.1[168]? = some (.inr (0, 16000)) := by rw [w.1]; rfl
theorem q_sh169 {S : QS} (w : q_Wire S) : S.1[169]? = some (.inr (0, 1024)) := by rw [w.1]; rfl
theorem q_sh170 {S : QS} (w : q_Wire S) : S.1[170]? = some (.inr (0, 1024)) := by rw [w.1]; rfl
theorem q_sh171 {S : QS} (w : q_Wire S) : S.1[171]? = some (.inr (0, 24)) := by rw [w.1]; rfl
theorem q_sh172 {S : QS} (w : q_Wire S) : S.1[172]? = some (.inr (2, 768)) := by rw [w.1]; rfl
theorem q_sh173 {S : QS} (w : q_Wire S) : S.1[173]? = some (.inr (2, 512)) := by rw [w.1]; rfl
theorem q_sh174 {S : QS} (w : q_Wire S) : S.1[174]? = some (.inr (0, 64)) := by rw [w.1]; rfl
theorem q_sh175 {S : QS} (w : q_Wire S) : S.1[175]? = some (.inr (0, 64)) := by rw [w.1]; rfl
theorem q_sh176 {S : QS} (w : q_Wire S) : S.1[176]? = some (.inr (0, 2000)) := by rw [w.1]; rfl
theorem q_sh177 {S : QS} (w : q_Wire S) : S.1[177]? = some (.inr (0, 2000)) := by rw [w.1]; rfl
theorem q_sh178 {S : QS} (w : q_Wire S) : S.1[178]? = some (.inr (0, 2000)) := by rw [w.1]; rfl
theorem q_sh179 {S : QS} (w : q_Wire S) : S.1[179]? = some (.inr (0, 2000)) := by rw [w.1]; rfl
theorem q_sh180 {S : QS} (w : q_Wire S) : S.1[180]? = some (.inr (2, 12000)) := by rw [w.1]; rfl
theorem q_sh181 {S : QS} (w : q_Wire S) : S.1[181]? = some (.inr (0, 256)) := by rw [w.1]; rfl
theorem q_sh182 {S : QS} (w : q_Wire S) : S.1[182]? = some (.inr (0, 256)) := by rw [w.1]; rfl
theorem q_shP0 {S : QS} {p : Nat} (w : q_Wire S) (hp : q_pok p) : S.1[p]? = some (.inl 5) := by rw [w.1]; rcases hp with rfl | rfl <;> rfl
theorem q_shP1 {S : QS} {p : Nat} (w : q_Wire S) (hp : q_pok p) : S.1[p + 1]? = some (.inl 0) := by rw [w.1]; rcases hp with rfl | rfl <;> rfl
theorem q_shP2 {S : QS} {p : Nat} (w : q_Wire S) (hp : q_pok p) : S.1[p + 2]? = some (.inr (0, 32)) := by rw [w.1]; rcases hp with rfl | rfl <;> rfl
theorem q_shP3 {S : QS} {p : Nat} (w : q_Wire S) (hp : q_pok p) : S.1[p + 3]? = some (.inr (0, 32)) := by rw [w.1]; rcases hp with rfl | rfl <;> rfl
theorem q_shP4 {S : QS} {p : Nat} (w : q_Wire S) (hp : q_pok p) : S.1[p + 4]? = some (.inr (0, 32)) := by rw [w.1]; rcases hp with rfl | rfl <;> rfl
theorem q_shP5 {S : QS} {p : Nat} (w : q_Wire S) (hp : q_pok p) : S.1[p + 5]? = some (.inr (0, 32)) := by rw [w.1]; rcases hp with rfl | rfl <;> rfl
theorem q_shP6 {S : QS} {p : Nat} (w : q_Wire S) (hp : q_pok p) : S.1[p + 6]? = some (.inr (0, 48)) := by rw [w.1]; rcases hp with rfl | rfl <;> rfl
theorem q_shP7 {S : QS} {p : Nat} (w : q_Wire S) (hp : q_pok p) : S.1[p + 7]? = some (.inr (0, 48)) := by rw [w.1]; rcases hp with rfl | rfl <;> rfl
theorem q_shP8 {S : QS} {p : Nat} (w : q_Wire S) (hp : q_pok p) : S.1[p + 8]? = some (.inr (0, 48)) := by rw [w.1]; rcases hp with rfl | rfl <;> rfl
theorem q_shP9 {S : QS} {p : Nat} (w : q_Wire S) (hp : q_pok p) : S.1[p + 9]? = some (.inr (0, 48)) := by rw [w.1]; rcases hp with rfl | rfl <;> rfl
theorem q_shP10 {S : QS} {p : Nat} (w : q_Wire S) (hp : q_pok p) : S.1[p + 10]? = some (.inl 1) := by rw [w.1]; rcases hp with rfl | rfl <;> rfl
theorem q_shP11 {S : QS} {p : Nat} (w : q_Wire S) (hp : q_pok p) : S.1[p + 11]? = some (.inr (0, 1024)) := by rw [w.1]; rcases hp with rfl | rfl <;> rfl
theorem q_shP12 {S : QS} {p : Nat} (w : q_Wire S) (hp : q_pok p) : S.1[p + 12]? = some (.inr (0, 1024)) := by rw [w.1]; rcases hp with rfl | rfl <;> rfl
theorem q_shP13 {S : QS} {p : Nat} (w : q_Wire S) (hp : q_pok p) : S.1[p + 13]? = some (.inr (0, 1024)) := by rw [w.1]; rcases hp with rfl | rfl <;> rfl
theorem q_shP14 {S : QS} {p : Nat} (w : q_Wire S) (hp : q_pok p) : S.1[p + 14]? = some (.inr (0, 1024)) := by rw [w.1]; rcases hp with rfl | rfl <;> rfl
theorem q_shP15 {S : QS} {p : Nat} (w : q_Wire S) (hp : q_pok p) : S.1[p + 15]? = some (.inr (0, 1024)) := by rw [w.1]; rcases hp with rfl | rfl <;> rfl
theorem q_shP16 {S : QS} {p : Nat} (w : q_Wire S) (hp : q_pok p) : S.1[p + 16]? = some (.inr (0, 1024)) := by rw [w.1]; rcases hp with rfl | rfl <;> rfl
theorem q_shP17 {S : QS} {p : Nat} (w : q_Wire S) (hp : q_pok p) : S.1[p + 17]? = some (.inr (0, 1024)) := by rw [w.1]; rcases hp with rfl | rfl <;> rfl
theorem q_shP18 {S : QS} {p : Nat} (w : q_Wire S) (hp : q_pok p) : S.1[p + 18]? = some (.inr (0, 64)) := by rw [w.1]; rcases hp with rfl | rfl <;> rfl
theorem q_shP19 {S : QS} {p : Nat} (w : q_Wire S) (hp : q_pok p) : S.1[p + 19]? = some (.inr (0, 64)) := by rw [w.1]; rcases hp with rfl | rfl <;> rfl
theorem q_shP20 {S : QS} {p : Nat} (w : q_Wire S) (hp : q_pok p) : S.1[p + 20]? = some (.inr (0, 64)) := by rw [w.1]; rcases hp with rfl | rfl <;> rfl
theorem q_shP21 {S : QS} {p : Nat} (w : q_Wire S) (hp : q_pok p) : S.1[p + 21]? = some (.inr (0, 64)) := by rw [w.1]; rcases hp with rfl | rfl <;> rfl
theorem q_shP22 {S : QS} {p : Nat} (w : q_Wire S) (hp : q_pok p) : S.1[p + 22]? = some (.inr (0, 48)) := by rw [w.1]; rcases hp with rfl | rfl <;> rfl
theorem q_shP23 {S : QS} {p : Nat} (w : q_Wire S) (hp : q_pok p) : S.1[p + 23]? = some (.inr (0, 48)) := by rw [w.1]; rcases hp with rfl | rfl <;> rfl
theorem q_shP24 {S : QS} {p : Nat} (w : q_Wire S) (hp : q_pok p) : S.1[p + 24]? = some (.inr (3, 48)) := by rw [w.1]; rcases hp with rfl | rfl <;> rfl
theorem q_shP25 {S : QS} {p : Nat} (w : q_Wire S) (hp : q_pok p) : S.1[p + 25]? = some (.inr (0, 48)) := by rw [w.1]; rcases hp with rfl | rfl <;> rfl
theorem q_shP26 {S : QS} {p : Nat} (w : q_Wire S) (hp : q_pok p) : S.1[p + 26]? = some (.inr (0, 576)) := by rw [w.1]; rcases hp with rfl | rfl <;> rfl
theorem q_shP27 {S : QS} {p : Nat} (w : q_Wire S) (hp : q_pok p) : S.1[p + 27]? = some (.inr (0, 48)) := by rw [w.1]; rcases hp with rfl | rfl <;> rfl
theorem q_shP28 {S : QS} {p : Nat} (w : q_Wire S) (hp : q_pok p) : S.1[p + 28]? = some (.inr (0, 48)) := by rw [w.1]; rcases hp with rfl | rfl <;> rfl
theorem q_shP29 {S : QS} {p : Nat} (w : q_Wire S) (hp : q_pok p) : S.1[p + 29]? = some (.inr (0, 48)) := by rw [w.1]; rcases hp with rfl | rfl <;> rfl
theorem q_shP30 {S : QS} {p : Nat} (w : q_Wire S) (hp : q_pok p) : S.1[p + 30]? = some (.inr (0, 48)) := by rw [w.1]; rcases hp with rfl | rfl <;> rfl
theorem q_shP31 {S : QS} {p : Nat} (w : q_Wire S) (hp : q_pok p) : S.1[p + 31]? = some (.inr (0, 48)) := by rw [w.1]; rcases hp with rfl | rfl <;> rfl
theorem q_shP32 {S : QS} {p : Nat} (w : q_Wire S) (hp : q_pok p) : S.1[p + 32]? = some (.inr (0, 48)) := by rw [w.1]; rcases hp with rfl | rfl <;> rfl
theorem q_shP33 {S : QS} {p : Nat} (w : q_Wire S) (hp : q_pok p) : S.1[p + 33]? = some (.inr (0, 48)) := by rw [w.1]; rcases hp with rfl | rfl <;> rfl
theorem q_shP34 {S : QS} {p : Nat} (w : q_Wire S) (hp : q_pok p) : S.1[p + 34]? = some (.inr (0, 1536)) := by rw [w.1]; rcases hp with rfl | rfl <;> rfl
theorem q_shQ0 {S : QS} {q : Nat} (w : q_Wire S) (hq : q_qok q) : S.1[q]? = some (.inl 11) := by rw [w.1]; rcases hq with rfl | rfl <;> rfl
theorem q_shQ1 {S : QS} {q : Nat} (w : q_Wire S) (hq : q_qok q) : S.1[q + 1]? = some (.inr (0, 32)) := by rw [w.1]; rcases hq with rfl | rfl <;> rfl
theorem q_shQ2 {S : QS} {q : Nat} (w : q_Wire S) (hq : q_qok q) : S.1[q + 2]? = some (.inr (0, 32)) := by rw [w.1]; rcases hq with rfl | rfl <;> rfl
theorem q_shQ3 {S : QS} {q : Nat} (w : q_Wire S) (hq : q_qok q) : S.1[q + 3]? = some (.inr (0, 48)) := by rw [w.1]; rcases hq with rfl | rfl <;> rfl
theorem q_shQ4 {S : QS} {q : Nat} (w : q_Wire S) (hq : q_qok q) : S.1[q + 4]? = some (.inr (0, 48)) := by rw [w.1]; rcases hq with rfl | rfl <;> rfl
theorem q_shQ5 {S : QS} {q : Nat} (w : q_Wire S) (hq : q_qok q) : S.1[q + 5]? = some (.inr (0, 48)) := by rw [w.1]; rcases hq with rfl | rfl <;> rfl
theorem q_shQ6 {S : QS} {q : Nat} (w : q_Wire S) (hq : q_qok q) : S.1[q + 6]? = some (.inr (0, 48)) := by rw [w.1]; rcases hq with rfl | rfl <;> rfl
theorem q_shQ7 {S : QS} {q : Nat} (w : q_Wire S) (hq : q_qok q) : S.1[q + 7]? = some (.inr (3, 48)) := by rw [w.1]; rcases hq with rfl | rfl <;> rfl
theorem q_shQ8 {S : QS} {q : Nat} (w : q_Wire S) (hq : q_qok q) : S.1[q + 8]? = some (.inr (0, 48)) := by rw [w.1]; rcases hq with rfl | rfl <;> rfl
theorem q_shQ9 {S : QS} {q : Nat} (w : q_Wire S) (hq : q_qok q) : S.1[q + 9]? = some (.inr (0, 576)) := by rw [w.1]; rcases hq with rfl | rfl <;> rfl
theorem q_shQ10 {S : QS} {q : Nat} (w : q_Wire S) (hq : q_qok q) : S.1[q + 10]? = some (.inr (0, 48)) := by rw [w.1]; rcases hq with rfl | rfl <;> rfl
theorem q_shQ11 {S : QS} {q : Nat} (w : q_Wire S) (hq : q_qok q) : S.1[q + 11]? = some (.inr (0, 48)) := by rw [w.1]; rcases hq with rfl | rfl <;> rfl
theorem q_shQ12 {S : QS} {q : Nat} (w : q_Wire S) (hq : q_qok q) : S.1[q + 12]? = some (.inr (0, 48)) := by rw [w.1]; rcases hq with rfl | rfl <;> rfl
theorem q_shQ13 {S : QS} {q : Nat} (w : q_Wire S) (hq : q_qok q) : S.1[q + 13]? = some (.inr (0, 48)) := by rw [w.1]; rcases hq with rfl | rfl <;> rfl
theorem q_shQ14 {S : QS} {q : Nat} (w : q_Wire S) (hq : q_qok q) : S.1[q + 14]? = some (.inr (0, 1536)) := by rw [w.1]; rcases hq with rfl | rfl <;> rfl
theorem q_shQ15 {S : QS} {q : Nat} (w : q_Wire S) (hq : q_qok q) : S.1[q + 15]? = some (.inr (0, 1024)) := by rw [w.1]; rcases hq with rfl | rfl <;> rfl
theorem q_shQ16 {S : QS} {q : Nat} (w : q_Wire S) (hq : q_qok q) : S.1[q + 16]? = some (.inr (0, 1024)) := by rw [w.1]; rcases hq with rfl | rfl <;> rfl
theorem q_shQ17 {S : QS} {q : Nat} (w : q_Wire S) (hq : q_qok q) : S.1[q + 17]? = some (.inr (0, 1024)) := by rw [w.1]; rcases hq with rfl | rfl <;> rfl
theorem q_shQ18 {S : QS} {q : Nat} (w : q_Wire S) (hq : q_qok q) : S.1[q + 18]? = some (.inr (0, 1024)) := by rw [w.1]; rcases hq with rfl | rfl <;> rfl
theorem q_shQ19 {S : QS} {q : Nat} (w : q_Wire S) (hq : q_qok q) : S.1[q + 19]? = some (.inr (0, 1024)) := by rw [w.1]; rcases hq with rfl | rfl <;> rfl
theorem q_shQ20 {S : QS} {q : Nat} (w : q_Wire S) (hq : q_qok q) : S.1[q + 20]? = some (.inr (0, 54)) := by rw [w.1]; rcases hq with rfl | rfl <;> rfl
theorem q_shQ21 {S : QS} {q : Nat} (w : q_Wire S) (hq : q_qok q) : S.1[q + 21]? = some (.inr (0, 64)) := by rw [w.1]; rcases hq with rfl | rfl <;> rfl
theorem q_shQ22 {S : QS} {q : Nat} (w : q_Wire S) (hq : q_qok q) : S.1[q + 22]? = some (.inr (0, 64)) := by rw [w.1]; rcases hq with rfl | rfl <;> rfl
theorem q_shQ23 {S : QS} {q : Nat} (w : q_Wire S) (hq : q_qok q) : S.1[q + 23]? = some (.inr (0, 64)) := by rw [w.1]; rcases hq with rfl | rfl <;> rfl
theorem q_shQ24 {S : QS} {q : Nat} (w : q_Wire S) (hq : q_qok q) : S.1[q + 24]? = some (.inr (0, 64)) := by rw [w.1]; rcases hq with rfl | rfl <;> rfl
theorem q_shQ25 {S : QS} {q : Nat} (w : q_Wire S) (hq : q_qok q) : S.1[q + 25]? = some (.inr (0, 64)) := by rw [w.1]; rcases hq with rfl | rfl <;> rfl
theorem q_shQ26 {S : QS} {q : Nat} (w : q_Wire S) (hq : q_qok q) : S.1[q + 26]? = some (.inr (0, 20480)) := by rw [w.1]; rcases hq with rfl | rfl <;> rfl
theorem q_shQ27 {S : QS} {q : Nat} (w : q_Wire S) (hq : q_qok q) : S.1[q + 27]? = some (.inr (3, 1024)) := by rw [w.1]; rcases hq with rfl | rfl <;> rfl
theorem q_wr0_0 {S : QS} (w : q_Wire S) : S.2.2.2 0 0 = 1 := w.2 (0, 0, 1) (List.mem_of_getElem? (i := 0) rfl)
theorem q_wr0_3 {S : QS} (w : q_Wire S) : S.2.2.2 0 3 = 2 := w.2 (0, 3, 2) (List.mem_of_getElem? (i := 1) rfl)
theorem q_wr0_4 {S : QS} (w : q_Wire S) : S.2.2.2 0 4 = 77 := w.2 (0, 4, 77) (List.mem_of_getElem? (i := 2) rfl)
theorem q_wr0_5 {S : QS} (w : q_Wire S) : S.2.2.2 0 5 = 78 := w.2 (0, 5, 78) (List.mem_of_getElem? (i := 3) rfl)
theorem q_wr0_6 {S : QS} (w : q_Wire S) : S.2.2.2 0 6 = 81 := w.2 (0, 6, 81) (List.mem_of_getElem? (i := 4) rfl)
theorem q_wr0_7 {S : QS} (w : q_Wire S) : S.2.2.2 0 7 = 84 := w.2 (0, 7, 84) (List.mem_of_getElem? (i := 5) rfl)
theorem q_wr0_8 {S : QS} (w : q_Wire S) : S.2.2.2 0 8 = 89 := w.2 (0, 8, 89) (List.mem_of_getElem? (i := 6) rfl)
theorem q_wr2_0 {S : QS} (w : q_Wire S) : S.2.2.2 2 0 = 3 := w.2 (2, 0, 3) (List.mem_of_getElem? (i := 7) rfl)
theorem q_wr2_2 {S : QS} (w : q_Wire S) : S.2.2.2 2 2 = 4 := w.2 (2, 2, 4) (List.mem_of_getElem? (i := 8) rfl)
theorem q_wr2_3 {S : QS} (w : q_Wire S) : S.2.2.2 2 3 = 5 := w.2 (2, 3, 5) (List.mem_of_getElem? (i := 9) rfl)
theorem q_wr2_4 {S : QS} (w : q_Wire S) : S.2.2.2 2 4 = 6 := w.2 (2, 4, 6) (List.mem_of_getElem? (i := 10) rfl)
theorem q_wrP0_0 {S : QS} {p : Nat} (w : q_Wire S) (hp : q_pok p) : S.2.2.2 p 0 = p + 1 := by rcases hp with rfl | rfl <;> first | exact w.2 (7, 0, 8) (List.mem_of_getElem? (i := 11) rfl) | exact w.2 (42, 0, 43) (List.mem_of_getElem? (i := 45) rfl)
theorem q_wrP0_1 {S : QS} {p : Nat} (w : q_Wire S) (hp : q_pok p) : S.2.2.2 p 1 = p + 10 := by rcases hp with rfl | rfl <;> first | exact w.2 (7, 1, 17) (List.mem_of_getElem? (i := 12) rfl) | exact w.2 (42, 1, 52) (List.mem_of_getElem? (i := 46) rfl)
theorem q_wrP0_3 {S : QS} {p : Nat} (w : q_Wire S) (hp : q_pok p) : S.2.2.2 p 3 = p + 22 := by rcases hp with rfl | rfl <;> first | exact w.2 (7, 3, 29) (List.mem_of_getElem? (i := 13) rfl) | exact w.2 (42, 3, 64) (List.mem_of_getElem? (i := 47) rfl)
theorem q_wrP0_4 {S : QS} {p : Nat} (w : q_Wire S) (hp : q_pok p) : S.2.2.2 p 4 = p + 23 := by rcases hp with rfl | rfl <;> first | exact w.2 (7, 4, 30) (List.mem_of_getElem? (i := 14) rfl) | exact w.2 (42, 4, 65) (List.mem_of_getElem? (i := 48) rfl)
theorem q_wrP0_5 {S : QS} {p : Nat} (w : q_Wire S) (hp : q_pok p) : S.2.2.2 p 5 = p + 24 := by rcases hp with rfl | rfl <;> first | exact w.2 (7, 5, 31) (List.mem_of_getElem? (i := 15) rfl) | exact w.2 (42, 5, 66) (List.mem_of_getElem? (i := 49) rfl)
theorem q_wrP0_6 {S : QS} {p : Nat} (w : q_Wire S) (hp : q_pok p) : S.2.2.2 p 6 = p + 25 := by rcases hp with rfl | rfl <;> first | exact w.2 (7, 6, 32) (List.mem_of_getElem? (i := 16) rfl) | exact w.2 (42, 6, 67) (List.mem_of_getElem? (i := 50) rfl)
theorem q_wrP0_7 {S : QS} {p : Nat} (w : q_Wire S) (hp : q_pok p) : S.2.2.2 p 7 = p + 26 := by rcases hp with rfl | rfl <;> first | exact w.2 (7, 7, 33) (List.mem_of_getElem? (i := 17) rfl) | exact w.2 (42, 7, 68) (List.mem_of_getElem? (i := 51) rfl)
theorem q_wrP0_8 {S : QS} {p : Nat} (w : q_Wire S) (hp : q_pok p) : S.2.2.2 p 8 = p + 27 := by rcases hp with rfl | rfl <;> first | exact w.2 (7, 8, 34) (List.mem_of_getElem? (i := 18) rfl) | exact w.2 (42, 8, 69) (List.mem_of_getElem? (i := 52) rfl)
theorem q_wrP0_9 {S : QS} {p : Nat} (w : q_Wire S) (hp : q_pok p) : S.2.2.2 p 9 = p + 28 := by rcases hp with rfl | rfl <;> first | exact w.2 (7, 9, 35) (List.mem_of_getElem? (i := 19) rfl) | exact w.2 (42, 9, 70) (List.mem_of_getElem? (i := 53) rfl)
theorem q_wrP0_10 {S : QS} {p : Nat} (w : q_Wire S) (hp : q_pok p) : S.2.2.2 p 10 = p + 29 := by rcases hp with rfl | rfl <;> first | exact w.2 (7, 10, 36) (List.mem_of_getElem? (i := 20) rfl) | exact w.2 (42, 10, 71) (List.mem_of_getElem? (i := 54) rfl)
theorem q_wrP0_11 {S : QS} {p : Nat} (w : q_Wire S) (hp : q_pok p) : S.2.2.2 p 11 = p + 30 := by rcases hp with rfl | rfl <;> first | exact w.2 (7, 11, 37) (List.mem_of_getElem? (i := 21) rfl) | exact w.2 (42, 11, 72) (List.mem_of_getElem? (i := 55) rfl)
theorem q_wrP0_12 {S : QS} {p : Nat} (w : q_Wire S) (hp : q_pok p) : S.2.2.2 p 12 = p + 31 := by rcases hp with rfl | rfl <;> first | exact w.2 (7, 12, 38) (List.mem_of_getElem? (i := 22) rfl) | exact w.2 (42, 12, 73) (List.mem_of_getElem? (i := 56) rfl)
theorem q_wrP0_13 {S : QS} {p : Nat} (w : q_Wire S) (hp : q_pok p) : S.2.2.2 p 13 = p + 32 := by rcases hp with rfl | rfl <;> first | exact w.2 (7, 13, 39) (List.mem_of_getElem? (i := 23) rfl) | exact w.2 (42, 13, 74) (List.mem_of_getElem? (i := 57) rfl)
theorem q_wrP0_14 {S : QS} {p : Nat} (w : q_Wire S) (hp : q_pok p) : S.2.2.2 p 14 = p + 33 := by rcases hp with rfl | rfl <;> first | exact w.2 (7, 14, 40) (List.mem_of_getElem? (i := 24) rfl) | exact w.2 (42, 14, 75) (List.mem_of_getElem? (i := 58) rfl)
theorem q_wrP0_15 {S : QS} {p : Nat} (w : q_Wire S) (hp : q_pok p) : S.2.2.2 p 15 = p + 34 := by rcases hp with rfl | rfl <;> first | exact w.2 (7, 15, 41) (List.mem_of_getElem? (i := 25) rfl) | exact w.2 (42, 15, 76) (List.mem_of_getElem? (i := 59) rfl)
theorem q_wrP1_1 {S : QS} {p : Nat} (w : q_Wire S) (hp : q_pok p) : S.2.2.2 (p + 1) 1 = p + 2 := by rcases hp with rfl | rfl <;> first | exact w.2 (8, 1, 9) (List.mem_of_getElem? (i := 26) rfl) | exact w.2 (43, 1, 44) (List.mem_of_getElem? (i := 60) rfl)
theorem q_wrP1_2 {S : QS} {p : Nat} (w : q_Wire S) (hp : q_pok p) : S.2.2.2 (p + 1) 2 = p + 3 := by rcases hp with rfl | rfl <;> first | exact w.2 (8, 2, 10) (List.mem_of_getElem? (i := 27) rfl) | exact w.2 (43, 2, 45) (List.mem_of_getElem? (i := 61) rfl)
theorem q_wrP1_3 {S : QS} {p : Nat} (w : q_Wire S) (hp : q_pok p) : S.2.2.2 (p + 1) 3 = p + 4 := by rcases hp with rfl | rfl <;> first | exact w.2 (8, 3, 11) (List.mem_of_getElem? (i := 28) rfl) | exact w.2 (43, 3, 46) (List.mem_of_getElem? (i := 62) rfl)
theorem q_wrP1_4 {S : QS} {p : Nat} (w : q_Wire S) (hp : q_pok p) : S.2.2.2 (p + 1) 4 = p + 5 := by rcases hp with rfl | rfl <;> first | exact w.2 (8, 4, 12) (List.mem_of_getElem? (i := 29) rfl) | exact w.2 (43, 4, 47) (List.mem_of_getElem? (i := 63) rfl)
theorem q_wrP1_6 {S : QS} {p : Nat} (w : q_Wire S) (hp : q_pok p) : S.2.2.2 (p + 1) 6 = p + 6 := by rcases hp with rfl | rfl <;> first | exact w.2 (8, 6, 13) (List.mem_of_getElem? (i := 30) rfl) | exact w.2 (43, 6, 48) (List.mem_of_getElem? (i := 64) rfl)
theorem q_wrP1_7 {S : QS} {p : Nat} (w : q_Wire S) (hp : q_pok p) : S.2.2.2 (p + 1) 7 = p + 7 := by rcases hp with rfl | rfl <;> first | exact w.2 (8, 7, 14) (List.mem_of_getElem? (i := 31) rfl) | exact w.2 (43, 7, 49) (List.mem_of_getElem? (i := 65) rfl)
theorem q_wrP1_8 {S : QS} {p : Nat} (w : q_Wire S) (hp : q_pok p) : S.2.2.2 (p + 1) 8 = p + 8 := by rcases hp with rfl | rfl <;> first | exact w.2 (8, 8, 15) (List.mem_of_getElem? (i := 32) rfl) | exact w.2 (43, 8, 50) (List.mem_of_getElem? (i := 66) rfl)
theorem q_wrP1_9 {S : QS} {p : Nat} (w : q_Wire S) (hp : q_pok p) : S.2.2.2 (p + 1) 9 = p + 9 := by rcases hp with rfl | rfl <;> first | exact w.2 (8, 9, 16) (List.mem_of_getElem? (i := 33) rfl) | exact w.2 (43, 9, 51) (List.mem_of_getElem? (i := 67) rfl)
theorem q_wrP10_1 {S : QS} {p : Nat} (w : q_Wire S) (hp : q_pok p) : S.2.2.2 (p + 10) 1 = p + 11 := by rcases hp with rfl | rfl <;> first | exact w.2 (17, 1, 18) (List.mem_of_getElem? (i := 34) rfl) | exact w.2 (52, 1, 53) (List.mem_of_getElem? (i := 68) rfl)
theorem q_wrP10_2 {S : QS} {p : Nat} (w : q_Wire S) (hp : q_pok p) : S.2.2.2 (p + 10) 2 = p + 12 := by rcases hp with rfl | rfl <;> first | exact w.2 (17, 2, 19) (List.mem_of_getElem? (i := 35) rfl) | exact w.2 (52, 2, 54) (List.mem_of_getElem? (i := 69) rfl)
theorem q_wrP10_3 {S : QS} {p : Nat} (w : q_Wire S) (hp : q_pok p) : S.2.2.2 (p + 10) 3 = p + 13 := by rcases hp with rfl | rfl <;> first | exact w.2 (17, 3, 20) (List.mem_of_getElem? (i := 36) rfl) | exact w.2 (52, 3, 55) (List.mem_of_getElem? (i := 70) rfl)
theorem q_wrP10_4 {S : QS} {p : Nat} (w : q_Wire S) (hp : q_pok p) : S.2.2.2 (p + 10) 4 = p + 14 := by rcases hp with rfl | rfl <;> first | exact w.2 (17, 4, 21) (List.mem_of_getElem? (i := 37) rfl) | exact w.2 (52, 4, 56) (List.mem_of_getElem? (i := 71) rfl)
theorem q_wrP10_5 {S : QS} {p : Nat} (w : q_Wire S) (hp : q_pok p) : S.2.2.2 (p + 10) 5 = p + 15 := by rcases hp with rfl | rfl <;> first | exact w.2 (17, 5, 22) (List.mem_of_getElem? (i := 38) rfl) | exact w.2 (52, 5, 57) (List.mem_of_getElem? (i := 72) rfl)
theorem q_wrP10_6 {S : QS} {p : Nat} (w : q_Wire S) (hp : q_pok p) : S.2.2.2 (p + 10) 6 = p + 16 := by rcases hp with rfl | rfl <;> first | exact w.2 (17, 6, 23) (List.mem_of_getElem? (i := 39) rfl) | exact w.2 (52, 6, 58) (List.mem_of_getElem? (i := 73) rfl)
theorem q_wrP10_7 {S : QS} {p : Nat} (w : q_Wire S) (hp : q_pok p) : S.2.2.2 (p + 10) 7 = p + 17 := by rcases hp with rfl | rfl <;> first | exact w.2 (17, 7, 24) (List.mem_of_getElem? (i := 40) rfl) | exact w.2 (52, 7, 59) (List.mem_of_getElem? (i := 74) rfl)
theorem q_wrP10_10 {S : QS} {p : Nat} (w : q_Wire S) (hp : q_pok p) : S.2.2.2 (p + 10) 10 = p + 18 := by rcases hp with rfl | rfl <;> first | exact w.2 (17, 10, 25) (List.mem_of_getElem? (i := 41) rfl) | exact w.2 (52, 10, 60) (List.mem_of_getElem? (i := 75) rfl)
theorem q_wrP10_11 {S : QS} {p : Nat} (w : q_Wire S) (hp : q_pok p) : S.2.2.2 (p + 10) 11 = p + 19 := by rcases hp with rfl | rfl <;> first | exact w.2 (17, 11, 26) (List.mem_of_getElem? (i := 42) rfl) | exact w.2 (52, 11, 61) (List.mem_of_getElem? (i := 76) rfl)
theorem q_wrP10_12 {S : QS} {p : Nat} (w : q_Wire S) (hp : q_pok p) : S.2.2.2 (p + 10) 12 = p + 20 := by rcases hp with rfl | rfl <;> first | exact w.2 (17, 12, 27) (List.mem_of_getElem? (i := 43) rfl) | exact w.2 (52, 12, 62) (List.mem_of_getElem? (i := 77) rfl)
theorem q_wrP10_13 {S : QS} {p : Nat} (w : q_Wire S) (hp : q_pok p) : S.2.2.2 (p + 10) 13 = p + 21 := by rcases hp with rfl | rfl <;> first | exact w.2 (17, 13, 28) (List.mem_of_getElem? (i := 44) rfl) | exact w.2 (52, 13, 63) (List.mem_of_getElem? (i := 78) rfl)
theorem q_wr77_0 {S : QS} (w : q_Wire S) : S.2.2.2 77 0 = 2 := w.2 (77, 0, 2) (List.mem_of_getElem? (i := 79) rfl)
theorem q_wr78_0 {S : QS} (w : q_Wire S) : S.2.2.2 78 0 = 2 := w.2 (78, 0, 2) (List.mem_of_getElem? (i := 80) rfl)
theorem q_wr78_4 {S : QS} (w : q_Wire S) : S.2.2.2 78 4 = 79 := w.2 (78, 4, 79) (List.mem_of_getElem? (i := 81) rfl)
theorem q_wr78_5 {S : QS} (w : q_Wire S) : S.2.2.2 78 5 = 80 := w.2 (78, 5, 80) (List.mem_of_getElem? (i := 82) rfl)
theorem q_wr81_2 {S : QS} (w : q_Wire S) : S.2.2.2 81 2 = 82 := w.2 (81, 2, 82) (List.mem_of_getElem? (i := 83) rfl)
theorem q_wr81_3 {S : QS} (w : q_Wire S) : S.2.2.2 81 3 = 83 := w.2 (81, 3, 83) (List.mem_of_getElem? (i := 84) rfl)
theorem q_wr84_3 {S : QS} (w : q_Wire S) : S.2.2.2 84 3 = 85 := w.2 (84, 3, 85) (List.mem_of_getElem? (i := 85) rfl)
theorem q_wr84_4 {S : QS} (w : q_Wire S) : S.2.2.2 84 4 = 86 := w.2 (84, 4, 86) (List.mem_of_getElem? (i := 86) rfl)
theorem q_wr84_5 {S : QS} (w : q_Wire S) : S.2.2.2 84 5 = 87 := w.2 (84, 5, 87) (List.mem_of_getElem? (i := 87) rfl)
theorem q_wr84_7 {S : QS} (w : q_Wire S) : S.2.2.2 84 7 = 88 := w.2 (84, 7, 88) (List.mem_of_getElem? (i := 88) rfl)
theorem q_wr89_2 {S : QS} (w : q_Wire S) : S.2.2.2 89 2 = 90 := w.2 (89, 2, 90) (List.mem_of_getElem? (i := 89) rfl)
theorem q_wr89_3 {S : QS} (w : q_Wire S) : S.2.2.2 89 3 = 96 := w.2 (89, 3, 96) (List.mem_of_getElem? (i := 90) rfl)
theorem q_wr89_4 {S : QS} (w : q_Wire S) : S.2.2.2 89 4 = 97 := w.2 (89, 4, 97) (List.mem_of_getElem? (i := 91) rfl)
theorem q_wr89_5 {S : QS} (w : q_Wire S) : S.2.2.2 89 5 = 98 := w.2 (89, 5, 98) (List.mem_of_getElem? (i := 92) rfl)
theorem q_wr89_6 {S : QS} (w : q_Wire S) : S.2.2.2 89 6 = 99 := w.2 (89, 6, 99) (List.mem_of_getElem? (i := 93) rfl)
theorem q_wr89_10 {S : QS} (w : q_Wire S) : S.2.2.2 89 10 = 100 := w.2 (89, 10, 100) (List.mem_of_getElem? (i := 94) rfl)
theorem q_wr89_13 {S : QS} (w : q_Wire S) : S.2.2.2 89 13 = 101 := w.2 (89, 13, 101) (List.mem_of_getElem? (i := 95) rfl)
theorem q_wr90_0 {S : QS} (w : q_Wire S) : S.2.2.2 90 0 = 91 := w.2 (90, 0, 91) (List.mem_of_getElem? (i := 96) rfl)
theorem q_wr90_1 {S : QS} (w : q_Wire S) : S.2.2.2 90 1 = 92 := w.2 (90, 1, 92) (List.mem_of_getElem? (i := 97) rfl)
theorem q_wr90_2 {S : QS} (w : q_Wire S) : S.2.2.2 90 2 = 93 := w.2 (90, 2, 93) (List.mem_of_getElem? (i := 98) rfl)
theorem q_wr90_3 {S : QS} (w : q_Wire S) : S.2.2.2 90 3 = 94 := w.2 (90, 3, 94) (List.mem_of_getElem? (i := 99) rfl)
theorem q_wr90_4 {S : QS} (w : q_Wire S) : S.2.2.2 90 4 = 95 := w.2 (90, 4, 95) (List.mem_of_getElem? (i := 100) rfl)
theorem q_wr102_3 {S : QS} (w : q_Wire S) : S.2.2.2 102 3 = 159 := w.2 (102, 3, 159) (List.mem_of_getElem? (i := 101) rfl)
theorem q_wr102_6 {S : QS} (w : q_Wire S) : S.2.2.2 102 6 = 160 := w.2 (102, 6, 160) (List.mem_of_getElem? (i := 102) rfl)
theorem q_wr102_8 {S : QS} (w : q_Wire S) : S.2.2.2 102 8 = 161 := w.2 (102, 8, 161) (List.mem_of_getElem? (i := 103) rfl)
theorem q_wr102_9 {S : QS} (w : q_Wire S) : S.2.2.2 102 9 = 162 := w.2 (102, 9, 162) (List.mem_of_getElem? (i := 104) rfl)
theorem q_wr102_13 {S : QS} (w : q_Wire S) : S.2.2.2 102 13 = 163 := w.2 (102, 13, 163) (List.mem_of_getElem? (i := 105) rfl)
theorem q_wr102_14 {S : QS} (w : q_Wire S) : S.2.2.2 102 14 = 164 := w.2 (102, 14, 164) (List.mem_of_getElem? (i := 106) rfl)
theorem q_wr102_15 {S : QS} (w : q_Wire S) : S.2.2.2 102 15 = 165 := w.2 (102, 15, 165) (List.mem_of_getElem? (i := 107) rfl)
theorem q_wr102_16 {S : QS} (w : q_Wire S) : S.2.2.2 102 16 = 166 := w.2 (102, 16, 166) (List.mem_of_getElem? (i := 108) rfl)
theorem q_wr102_17 {S : QS} (w : q_Wire S) : S.2.2.2 102 17 = 167 := w.2 (102, 17, 167) (List.mem_of_getElem? (i := 109) rfl)
theorem q_wr102_18 {S : QS} (w : q_Wire S) : S.2.2.2 102 18 = 168 := w.2 (102, 18, 168) (List.mem_of_getElem? (i := 110) rfl)
theorem q_wr102_20 {S : QS} (w : q_Wire S) : S.2.2.2 102 20 = 169 := w.2 (102, 20, 169) (List.mem_of_getElem? (i := 111) rfl)
theorem q_wr102_21 {S : QS} (w : q_Wire S) : S.2.2.2 102 21 = 170 := w.2 (102, 21, 170) (List.mem_of_getElem? (i := 112) rfl)
theorem q_wr102_22 {S : QS} (w : q_Wire S) : S.2.2.2 102 22 = 171 := w.2 (102, 22, 171) (List.mem_of_getElem? (i := 113) rfl)
theorem q_wr102_24 {S : QS} (w : q_Wire S) : S.2.2.2 102 24 = 172 := w.2 (102, 24, 172) (List.mem_of_getElem? (i := 114) rfl)
theorem q_wr102_25 {S : QS} (w : q_Wire S) : S.2.2.2 102 25 = 173 := w.2 (102, 25, 173) (List.mem_of_getElem? (i := 115) rfl)
theorem q_wr102_26 {S : QS} (w : q_Wire S) : S.2.2.2 102 26 = 174 := w.2 (102, 26, 174) (List.mem_of_getElem? (i := 116) rfl)
theorem q_wr102_27 {S : QS} (w : q_Wire S) : S.2.2.2 102 27 = 175 := w.2 (102, 27, 175) (List.mem_of_getElem? (i := 117) rfl)
theorem q_wr102_28 {S : QS} (w : q_Wire S) : S.2.2.2 102 28 = 176 := w.2 (102, 28, 176) (List.mem_of_getElem? (i := 118) rfl)
theorem q_wr102_29 {S : QS} (w : q_Wire S) : S.2.2.2 102 29 = 177 := w.2 (102, 29, 177) (List.mem_of_getElem? (i := 119) rfl)
theorem q_wr102_30 {S : QS} (w : q_Wire S) : S.2.2.2 102 30 = 178 := w.2 (102, 30, 178) (List.mem_of_getElem? (i := 120) rfl)
theorem q_wr102_31 {S : QS} (w : q_Wire S) : S.2.2.2 102 31 = 179 := w.2 (102, 31, 179) (List.mem_of_getElem? (i := 121) rfl)
theorem q_wr102_32 {S : QS} (w : q_Wire S) : S.2.2.2 102 32 = 180 := w.2 (102, 32, 180) (List.mem_of_getElem? (i := 122) rfl)
theorem q_wr102_33 {S : QS} (w : q_Wire S) : S.2.2.2 102 33 = 181 := w.2 (102, 33, 181) (List.mem_of_getElem? (i := 123) rfl)
theorem q_wr102_34 {S : QS} (w : q_Wire S) : S.2.2.2 102 34 = 182 := w.2 (102, 34, 182) (List.mem_of_getElem? (i := 124) rfl)
theorem q_wrQ0_7 {S : QS} {q : Nat} (w : q_Wire S) (hq : q_qok q) : S.2.2.2 q 7 = q + 1 := by rcases hq with rfl | rfl <;> first | exact w.2 (103, 7, 104) (List.mem_of_getElem? (i := 125) rfl) | exact w.2 (131, 7, 132) (List.mem_of_getElem? (i := 152) rfl)
theorem q_wrQ0_8 {S : QS} {q : Nat} (w : q_Wire S) (hq : q_qok q) : S.2.2.2 q 8 = q + 2 := by rcases hq with rfl | rfl <;> first | exact w.2 (103, 8, 105) (List.mem_of_getElem? (i := 126) rfl) | exact w.2 (131, 8, 133) (List.mem_of_getElem? (i := 153) rfl)
theorem q_wrQ0_9 {S : QS} {q : Nat} (w : q_Wire S) (hq : q_qok q) : S.2.2.2 q 9 = q + 3 := by rcases hq with rfl | rfl <;> first | exact w.2 (103, 9, 106) (List.mem_of_getElem? (i := 127) rfl) | exact w.2 (131, 9, 134) (List.mem_of_getElem? (i := 154) rfl)
theorem q_wrQ0_10 {S : QS} {q : Nat} (w : q_Wire S) (hq : q_qok q) : S.2.2.2 q 10 = q + 4 := by rcases hq with rfl | rfl <;> first | exact w.2 (103, 10, 107) (List.mem_of_getElem? (i := 128) rfl) | exact w.2 (131, 10, 135) (List.mem_of_getElem? (i := 155) rfl)
theorem q_wrQ0_11 {S : QS} {q : Nat} (w : q_Wire S) (hq : q_qok q) : S.2.2.2 q 11 = q + 5 := by rcases hq with rfl | rfl <;> first | exact w.2 (103, 11, 108) (List.mem_of_getElem? (i := 129) rfl) | exact w.2 (131, 11, 136) (List.mem_of_getElem? (i := 156) rfl)
theorem q_wrQ0_12 {S : QS} {q : Nat} (w : q_Wire S) (hq : q_qok q) : S.2.2.2 q 12 = q + 6 := by rcases hq with rfl | rfl <;> first | exact w.2 (103, 12, 109) (List.mem_of_getElem? (i := 130) rfl) | exact w.2 (131, 12, 137) (List.mem_of_getElem? (i := 157) rfl)
theorem q_wrQ0_13 {S : QS} {q : Nat} (w : q_Wire S) (hq : q_qok q) : S.2.2.2 q 13 = q + 7 := by rcases hq with rfl | rfl <;> first | exact w.2 (103, 13, 110) (List.mem_of_getElem? (i := 131) rfl) | exact w.2 (131, 13, 138) (List.mem_of_getElem? (i := 158) rfl)
theorem q_wrQ0_14 {S : QS} {q : Nat} (w : q_Wire S) (hq : q_qok q) : S.2.2.2 q 14 = q + 8 := by rcases hq with rfl | rfl <;> first | exact w.2 (103, 14, 111) (List.mem_of_getElem? (i := 132) rfl) | exact w.2 (131, 14, 139) (List.mem_of_getElem? (i := 159) rfl)
theorem q_wrQ0_15 {S : QS} {q : Nat} (w : q_Wire S) (hq : q_qok q) : S.2.2.2 q 15 = q + 9 := by rcases hq with rfl | rfl <;> first | exact w.2 (103, 15, 112) (List.mem_of_getElem? (i := 133) rfl) | exact w.2 (131, 15, 140) (List.mem_of_getElem? (i := 160) rfl)
theorem q_wrQ0_16 {S : QS} {q : Nat} (w : q_Wire S) (hq : q_qok q) : S.2.2.2 q 16 = q + 10 := by rcases hq with rfl | rfl <;> first | exact w.2 (103, 16, 113) (List.mem_of_getElem? (i := 134) rfl) | exact w.2 (131, 16, 141) (List.mem_of_getElem? (i := 161) rfl)
theorem q_wrQ0_17 {S : QS} {q : Nat} (w : q_Wire S) (hq : q_qok q) : S.2.2.2 q 17 = q + 11 := by rcases hq with rfl | rfl <;> first | exact w.2 (103, 17, 114) (List.mem_of_getElem? (i := 135) rfl) | exact w.2 (131, 17, 142) (List.mem_of_getElem? (i := 162) rfl)
theorem q_wrQ0_18 {S : QS} {q : Nat} (w : q_Wire S) (hq : q_qok q) : S.2.2.2 q 18 = q + 12 := by rcases hq with rfl | rfl <;> first | exact w.2 (103, 18, 115) (List.mem_of_getElem? (i := 136) rfl) | exact w.2 (131, 18, 143) (List.mem_of_getElem? (i := 163) rfl)
theorem q_wrQ0_19 {S : QS} {q : Nat} (w : q_Wire S) (hq : q_qok q) : S.2.2.2 q 19 = q + 13 := by rcases hq with rfl | rfl <;> first | exact w.2 (103, 19, 116) (List.mem_of_getElem? (i := 137) rfl) | exact w.2 (131, 19, 144) (List.mem_of_getElem? (i := 164) rfl)
theorem q_wrQ0_20 {S : QS} {q : Nat} (w : q_Wire S) (hq : q_qok q) : S.2.2.2 q 20 = q + 14 := by rcases hq with rfl | rfl <;> first | exact w.2 (103, 20, 117) (List.mem_of_getElem? (i := 138) rfl) | exact w.2 (131, 20, 145) (List.mem_of_getElem? (i := 165) rfl)
theorem q_wrQ0_21 {S : QS} {q : Nat} (w : q_Wire S) (hq : q_qok q) : S.2.2.2 q 21 = q + 15 := by rcases hq with rfl | rfl <;> first | exact w.2 (103, 21, 118) (List.mem_of_getElem? (i := 139) rfl) | exact w.2 (131, 21, 146) (List.mem_of_getElem? (i := 166) rfl)
theorem q_wrQ0_22 {S : QS} {q : Nat} (w : q_Wire S) (hq : q_qok q) : S.2.2.2 q 22 = q + 16 := by rcases hq with rfl | rfl <;> first | exact w.2 (103, 22, 119) (List.mem_of_getElem? (i := 140) rfl) | exact w.2 (131, 22, 147) (List.mem_of_getElem? (i := 167) rfl)
theorem q_wrQ0_23 {S : QS} {q : Nat} (w : q_Wire S) (hq : q_qok q) : S.2.2.2 q 23 = q + 17 := by rcases hq with rfl | rfl <;> first | exact w.2 (103, 23, 120) (List.mem_of_getElem? (i := 141) rfl) | exact w.2 (131, 23, 148) (List.mem_of_getElem? (i := 168) rfl)
theorem q_wrQ0_24 {S : QS} {q : Nat} (w : q_Wire S) (hq : q_qok q) : S.2.2.2 q 24 = q + 18 := by rcases hq with rfl | rfl <;> first | exact w.2 (103, 24, 121) (List.mem_of_getElem? (i := 142) rfl) | exact w.2 (131, 24, 149) (List.mem_of_getElem? (i := 169) rfl)
theorem q_wrQ0_25 {S : QS} {q : Nat} (w : q_Wire S) (hq : q_qok q) : S.2.2.2 q 25 = q + 19 := by rcases hq with rfl | rfl <;> first | exact w.2 (103, 25, 122) (List.mem_of_getElem? (i := 143) rfl) | exact w.2 (131, 25, 150) (List.mem_of_getElem? (i := 170) rfl)
theorem q_wrQ0_26 {S : QS} {q : Nat} (w : q_Wire S) (hq : q_qok q) : S.2.2.2 q 26 = q + 20 := by rcases hq with rfl | rfl <;> first | exact w.2 (103, 26, 123) (List.mem_of_getElem? (i := 144) rfl) | exact w.2 (131, 26, 151) (List.mem_of_getElem? (i := 171) rfl)
theorem q_wrQ0_27 {S : QS} {q : Nat} (w : q_Wire S) (hq : q_qok q) : S.2.2.2 q 27 = q + 21 := by rcases hq with rfl | rfl <;> first | exact w.2 (103, 27, 124) (List.mem_of_getElem? (i := 145) rfl) | exact w.2 (131, 27, 152) (List.mem_of_getElem? (i := 172) rfl)
theorem q_wrQ0_28 {S : QS} {q : Nat} (w : q_Wire S) (hq : q_qok q) : S.2.2.2 q 28 = q + 22 := by rcases hq with rfl | rfl <;> first | exact w.2 (103, 28, 125) (List.mem_of_getElem? (i := 146) rfl) | exact w.2 (131, 28, 153) (List.mem_of_getElem? (i := 173) rfl)
theorem q_wrQ0_29 {S : QS} {q : Nat} (w : q_Wire S) (hq : q_qok q) : S.2.2.2 q 29 = q + 23 := by rcases hq with rfl | rfl <;> first | exact w.2 (103, 29, 126) (List.mem_of_getElem? (i := 147) rfl) | exact w.2 (131, 29, 154) (List.mem_of_getElem? (i := 174) rfl)
theorem q_wrQ0_30 {S : QS} {q : Nat} (w : q_Wire S) (hq : q_qok q) : S.2.2.2 q 30 = q + 24 := by rcases hq with rfl | rfl <;> first | exact w.2 (103, 30, 127) (List.mem_of_getElem? (i := 148) rfl) | exact w.2 (131, 30, 155) (List.mem_of_getElem? (i := 175) rfl)
theorem q_wrQ0_31 {S : QS} {q : Nat} (w : q_Wire S) (hq : q_qok q) : S.2.2.2 q 31 = q + 25 := by rcases hq with rfl | rfl <;> first | exact w.2 (103, 31, 128) (List.mem_of_getElem? (i := 149) rfl) | exact w.2 (131, 31, 156) (List.mem_of_getElem? (i := 176) rfl)
theorem q_wrQ0_32 {S : QS} {q : Nat} (w : q_Wire S) (hq : q_qok q) : S.2.2.2 q 32 = q + 26 := by rcases hq with rfl | rfl <;> first | exact w.2 (103, 32, 129) (List.mem_of_getElem? (i := 150) rfl) | exact w.2 (131, 32, 157) (List.mem_of_getElem? (i := 177) rfl)
theorem q_wrQ0_33 {S : QS} {q : Nat} (w : q_Wire S) (hq : q_qok q) : S.2.2.2 q 33 = q + 27 := by rcases hq with rfl | rfl <;> first | exact w.2 (103, 33, 130) (List.mem_of_getElem? (i := 151) rfl) | exact w.2 (131, 33, 158) (List.mem_of_getElem? (i := 178) rfl)
def q_aN (S : QS) (p : Nat) : Prop := S.2.2.2 78 1 = p ∧ S.2.2.2 78 2 = p + 1 ∧ S.2.2.2 78 3 = p + 10
theorem q_aN.fx {S S' : QS} {p : Nat} (h : q_aN S p) (hf : q_Fx S S') : q_aN S' p := by have e : ∀ j, S'.2.2.2 78 j = S.2.2.2 78 j := fun j => hf.2 _ j (by omega); simp only [q_aN, e]; exact h
def q_aH (S : QS) (p : Nat) : Prop := S.2.2.2 81 0 = p ∧ S.2.2.2 81 1 = p + 10
theorem q_aH.fx {S S' : QS} {p : Nat} (h : q_aH S p) (hf : q_Fx S S') : q_aH S' p := by have e : ∀ j, S'.2.2.2 81 j = S.2.2.2 81 j := fun j => hf.2 _ j (by omega); simp only [q_aH, e]; exact h
def q_aF (S : QS) (p : Nat) : Prop := S.2.2.2 84 0 = p ∧ S.2.2.2 84 1 = p + 1 ∧ S.2.2.2 84 2 = p + 10
theorem q_aF.fx {S S' : QS} {p : Nat} (h : q_aF S p) (hf : q_Fx S S') : q_aF S' p := by have e : ∀ j, S'.2.2.2 84 j = S.2.2.2 84 j := fun j => hf.2 _ j (by omega); simp only [q_aF, e]; exact h
def q_aR (S : QS) (p : Nat) : Prop := S.2.2.2 89 0 = p ∧ S.2.2.2 89 1 = p + 10
theorem q_aR.fx {S S' : QS} {p : Nat} (h : q_aR S p) (hf : q_Fx S S') : q_aR S' p := by have e : ∀ j, S'.2.2.2 89 j = S.2.2.2 89 j := fun j => hf.2 _ j (by omega); simp only [q_aR, e]; exact h
def q_aO (S : QS) (p s : Nat) : Prop := S.2.2.2 0 9 = p ∧ S.2.2.2 0 10 = s
theorem q_aO.fx {S S' : QS} {p s : Nat} (h : q_aO S p s) (hf : q_Fx S S') : q_aO S' p s := by have e : ∀ j, S'.2.2.2 0 j = S.2.2.2 0 j := fun j => hf.2 _ j (by omega); simp only [q_aO, e]; exact h
def q_aM (S : QS) (p s : Nat) : Prop := S.2.2.2 102 0 = p ∧ S.2.2.2 102 1 = s
theorem q_aM.fx {S S' : QS} {p s : Nat} (h : q_aM S p s) (hf : q_Fx S S') : q_aM S' p s := by have e : ∀ j, S'.2.2.2 102 j = S.2.2.2 102 j := fun j => hf.2 _ j (by omega); simp only [q_aM, e]; exact h
theorem q_aNb_of {S : QS} {p : Nat} (h : q_aNb S p = true) : q_aN S p := by have h := of_decide_eq_true h; exact h
theorem q_aHb_ofM {S : QS} {p : Nat} (h : q_aHb S p = true) : q_aH S p := by have h := of_decide_eq_true h; exact h
theorem q_aFb_of {S : QS} {p : Nat} (h : q_aFb S p = true) : q_aF S p := by have h := of_decide_eq_true h; exact h
def q_aRb (S : QS) (p : Nat) : Bool := decide (S.2.2.2 89 0 = p ∧ S.2.2.2 89 1 = p + 10)
theorem q_aRb_of {S : QS} {p : Nat} (h : q_aRb S p = true) : q_aR S p := by have h := of_decide_eq_true h; exact h
theorem q_okO_of {S : QS} {pp ps : Nat} (h : q_okO S pp ps = true) : q_Wire S ∧ q_aO S pp ps := by have h := of_decide_eq_true h; exact ⟨⟨h.1, h.2.1⟩, h.2.2⟩
theorem q_okL_of {S : QS} {pp ps q qs : Nat} (h : q_okL S pp ps q qs = true) : q_Wire S ∧ q_pok pp ∧ q_pok ps ∧ q_qok q ∧ q_qok qs ∧ q_aO S pp ps ∧ q_aM S q qs := by have h := of_decide_eq_true h; exact ⟨⟨h.1, h.2.1⟩, h.2.2⟩
theorem q_if0 {α : Type} {b : Bool} {x y : α} (h : b = false) : (if b = true then x else y) = y := by rw [h]; rfl
theorem q_if1 {α : Type} {b : Bool} {x y : α} (h : b = true) : (if b = true then x else y) = x := by rw [h]; rfl
section QKK
variable {g : QG} {M : QM} {d K N : Nat} {Q : Option Value → QS → Prop} {k n pc : Nat} {lv : List (Nat × Value)} {st : List Value} {S0 : QS}
theorem q_kI {v : Int32} (h : q_L g M d K N Q k n pc lv (.int v :: st) S0) : ∀ (r : Option Value) (S' : QS), (r = some (.int v) ∧ S' = S0) → q_L g M d K N Q (k + 0) (n + 0) pc lv (r.toList ++ st) S' := by rintro _ _ ⟨rfl, rfl⟩; exact h
theorem q_kJ {v : Int64} (h : q_L g M d K N Q k n pc lv (.long v :: st) S0) : ∀ (r : Option Value) (S' : QS), (r = some (.long v) ∧ S' = S0) → q_L g M d K N Q (k + 0) (n + 0) pc lv (r.toList ++ st) S' := by rintro _ _ ⟨rfl, rfl⟩; exact h
theorem q_kR {v : Nat} (h : q_L g M d K N Q k n pc lv (.ref v :: st) S0) : ∀ (r : Option Value) (S' : QS), (r = some (.ref v) ∧ S' = S0) → q_L g M d K N Q (k + 0) (n + 0) pc lv (r.toList ++ st) S' := by rintro _ _ ⟨rfl, rfl⟩; exact h
theorem q_kV (h : q_L g M d K N Q k n pc lv st S0) : ∀ (r : Option Value) (S' : QS), (r = none ∧ S' = S0) → q_L g M d K N Q (k + 0) (n + 0) pc lv (r.toList ++ st) S' := by rintro _ _ ⟨rfl, rfl⟩; exact h
theorem q_st {S1 : QS} (e : S1 = S0) (h : q_L g M d K N Q k n pc lv st S0) : q_L g M d K N Q k n pc lv st S1 := by rw [e]; exact h
end QKK
