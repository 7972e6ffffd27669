/-! ===== booleans, guards, loops as functions ===== -/
theorem q_b_0 {b : Bool} : q_b b = 0 ↔ b = false := by cases b <;> decide
theorem q_b_n {b : Bool} : ¬ q_b b = 0 ↔ b = true := by cases b <;> decide
theorem q_b_nar (b : Bool) : narrow .boolean (.int (q_b b)) = .int (q_b b) := by cases b <;> rfl
theorem q_b_fit (b : Bool) : narrow .boolean (.int (q_b b)) = .int (q_b b) ∧ fits .boolean (.int (q_b b)) = true := by cases b <;> exact ⟨rfl, rfl⟩
theorem q_inb_in {i : Int32} {n : Nat} (h : q_inb i n = true) : vp_in i n := by
  simp only [q_inb, Bool.and_eq_true, Bool.not_eq_true', decide_eq_false_iff_not, decide_eq_true_eq] at h
  rintro (q | q)
  · exact h.1 q
  · omega
/-! ===== rooms, locals ===== -/
theorem q_room_mono {s : State} {pl : Platform} {r r' : Room} (hf : r.frames ≤ r'.frames) (hl : r.locals ≤ r'.locals) (hc : r.cells ≤ r'.cells) (hs : r.slots ≤ r'.slots) (h : s.hasRoom pl r' = true) : s.hasRoom pl r = true := by
  simp only [State.hasRoom, Bool.and_eq_true, decide_eq_true_eq] at h ⊢
  obtain ⟨⟨⟨⟨h1, h2, h3, h4, h5, h6⟩, h7⟩, h8⟩, h9⟩ := h
  refine ⟨⟨⟨⟨by omega, by omega, by omega, by omega, by omega, h6⟩, by omega⟩, by omega⟩, h9⟩
theorem q_W_room {p : Program} {l : Launch} {e : Env} {R R' : Room} {s : State} {m : MethodId} {args : Array Value} {below : List Frame} {meth : Method} {c : Code} {H : Heap} {locs : List Loc} {k n : Nat} {Qs : State → Prop} {gf : JFrame} (hf : R.frames ≤ R'.frames) (hl : R.locals ≤ R'.locals) (hc : R.cells ≤ R'.cells) (hs : R.slots ≤ R'.slots) (h : W p l e R s m args below meth c H locs k n Qs gf) : W p l e R' s m args below meth c H locs k n Qs gf :=
  fun T hT X => h T hT { X with room := q_room_mono hf hl hc hs X.room }
section QCORE
variable {g : QG} {M : QM} {d K N : Nat} {Q Q' : Option Value → QS → Prop} {k n pc : Nat} {lv lv' : List (Nat × Value)} {st : List Value} {S : QS}
theorem q_L.deep {d' : Nat} (hd : d ≤ d') (h : q_L g M d K N Q k n pc lv st S) : q_L g M d' K N Q k n pc lv st S :=
  fun p e s m args below meth c H locs ls C hP hS hb hl => q_W_room (R := q_room d K N) (R' := q_room d' K N) hd (show 40 * d ≤ 40 * d' by omega) (Nat.le_refl _) (Nat.le_refl _) (h p e s m args below meth c H locs ls C hP hS hb hl)
theorem q_L.mono (h : q_L g M d K N Q k n pc lv st S) (hq : ∀ r S', Q r S' → Q' r S') : q_L g M d K N Q' k n pc lv st S := by
  intro p e s m args below meth c H locs ls C hP hS hb hl T hT X
  obtain ⟨t, a, o, h1, h2, ⟨r, S', h3, h4, h5⟩, h6⟩ := h p e s m args below meth c H locs ls C hP hS hb hl T hT X
  exact ⟨t, a, o, h1, h2, ⟨r, S', h3, hq r S' h4, h5⟩, h6⟩
theorem q_sub (ks : List Nat) (hk : lv_pick lv ks = lv') (h : q_L g M d K N Q k n pc lv' st S) : q_L g M d K N Q k n pc lv st S := by
  intro p e s m args below meth c H locs ls C hP hS hb hl
  refine h p e s m args below meth c H locs ls C hP hS hb (lv_sub hl ks ?_)
  rw [← hk]
  simp only [lv_pick, q_lv, List.map_filterMap, List.getElem?_map]
end QCORE
theorem q_cpok_of {S : QS} {t a la : Nat} {sp dp c : Int32} {b lb : Nat} (h : q_cpok S t a la sp dp c b lb = true) : ¬ sp < 0 ∧ ¬ dp < 0 ∧ ¬ c < 0 ∧ sp.toNatClampNeg + c.toNatClampNeg ≤ la ∧ dp.toNatClampNeg + c.toNatClampNeg ≤ lb ∧ ∀ i, i < c.toNatClampNeg → fits (q_et t) (.int (S.2.1 a (sp.toNatClampNeg + i))) = true := by
  simp only [q_cpok, Bool.and_eq_true, Bool.not_eq_true', decide_eq_false_iff_not, decide_eq_true_eq, List.all_eq_true, List.mem_range] at h
  exact ⟨h.1, h.2.1, h.2.2.1, h.2.2.2.1, h.2.2.2.2.1, h.2.2.2.2.2⟩
theorem q_bdec {e : Int32} (h : e = 0 ∨ e = 1) : q_b (decide (e = 1)) = e := by rcases h with rfl | rfl <;> decide
theorem q_bdec_n {e : Int32} (h : e = 0 ∨ e = 1) : narrow .boolean (.int e) = .int e := by rcases h with rfl | rfl <;> rfl
