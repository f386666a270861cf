theorem nw_psh_s (v : Value) (r : List Value) : nw_psh (some v) r = v :: r := rfl
theorem nw_psh_n (r : List Value) : nw_psh none r = r := rfl
/-! the class Town: what it answers of a corner -/
theorem ni_nlt0 {c : Nat} (h : c < 2 ^ 31) : (nI c < 0) = False := eq_false (nI_pos h)
theorem ni_le_t {a b : Nat} (h : a ≤ b) (hb : b < 2 ^ 31) : (nI a ≤ nI b) = True := eq_true (nI_le h hb)
theorem ni_le_f {a b : Nat} (h : b < a) (ha : a < 2 ^ 31) : (nI a ≤ nI b) = False := eq_false (nI_ge h ha)
theorem ni_lt_t {a b : Nat} (h : a < b) (hb : b < 2 ^ 31) : (nI a < nI b) = True := eq_true (nI_lt h hb)
theorem ni_lt_f {a b : Nat} (h : b ≤ a) (ha : a < 2 ^ 31) : (nI a < nI b) = False := eq_false (nI_nlt h ha)
theorem ni_cl {c : Nat} (h : c < 2 ^ 31) : (nI c).toNatClampNeg = c := nI_clamp h
theorem ni_10 : ((1 : Int32) = 0) = False := eq_false (by decide)
theorem ni_00 : ((0 : Int32) = 0) = True := eq_true rfl
theorem ni_8 : (8 : Int32) = nI 8 := rfl
theorem nx_out {x : Int32} {n : Nat} (hn : n < 2 ^ 31) (h : x < 0 ∨ nI n ≤ x) (h0 : ¬ x < 0) : nI n ≤ x := h.resolve_left h0
theorem x_hasCorner_y {h : Nat} (hh : h = 4 ∨ h = 8) {T : nt_T} (hT : nt_ok T) {mem : nw_M} (hm : nx_T h T mem) (d : Nat) (Q : nw_K) {c : Nat} (hc : c < nt_n T) : nw_Ex (d + 1) nw_shX 13 [.ref h, .int (nI c)] mem Q = Q (some (.int 1)) mem := by
  have h8 := hT.2.1
  have h1 := hm.1
  rcases hh with rfl | rfl <;> simp only [e13, s13_0, s13_1, s13_4, s13_5, s13_6_4, s13_6_8, s13_9, s13_12, s13_13, s13_16, s13_17, h1, ni_nlt0 (show c < 2 ^ 31 by omega), ni_le_f hc (show nt_n T < 2 ^ 31 by omega), false_implies, true_implies, not_false_eq_true, true_and, and_true, or_true]
theorem x_hasCorner_n {h : Nat} (hh : h = 4 ∨ h = 8) {T : nt_T} {mem : nw_M} (hm : nx_T h T mem) (d : Nat) (Q : nw_K) {x : Int32} (hx : x < 0 ∨ nI (nt_n T) ≤ x) : nw_Ex (d + 1) nw_shX 13 [.ref h, .int x] mem Q = Q (some (.int 0)) mem := by
  have h1 := hm.1
  by_cases h0 : x < 0
  · rcases hh with rfl | rfl <;> simp only [e13, s13_0, s13_1, s13_4, s13_5, s13_6_4, s13_6_8, s13_9, s13_12, s13_13, s13_16, s13_17, h1, h0, true_implies, not_true_eq_false, false_implies, true_and, and_true, true_or]
  · have h2 := hx.resolve_left h0
    rcases hh with rfl | rfl <;> simp only [e13, s13_0, s13_1, s13_4, s13_5, s13_6_4, s13_6_8, s13_9, s13_12, s13_13, s13_16, s13_17, h1, h0, h2, true_implies, not_true_eq_false, not_false_eq_true, false_implies, true_and, and_true, true_or]
theorem x_hasWalker_y {T : nt_T} (hT : nt_ok T) {mem : nw_M} (hm : nx_T 4 T mem) (d : Nat) (Q : nw_K) {c : Nat} (hc : c < nt_m T) : nw_Ex (d + 1) nw_shX 15 [.ref 4, .int (nI c)] mem Q = Q (some (.int 1)) mem := by
  have h8 := hT.2.2.1
  have h1 := hm.2.1
  simp only [e15, s15_0, s15_1, s15_4, s15_5, s15_6, s15_9, s15_12, s15_13, s15_16, s15_17, h1, ni_nlt0 (show c < 2 ^ 31 by omega), ni_le_f hc (show nt_m T < 2 ^ 31 by omega), false_implies, true_implies, not_false_eq_true, true_and, and_true, or_true]
theorem x_hasWalker_n {T : nt_T} {mem : nw_M} (hm : nx_T 4 T mem) (d : Nat) (Q : nw_K) {x : Int32} (hx : x < 0 ∨ nI (nt_m T) ≤ x) : nw_Ex (d + 1) nw_shX 15 [.ref 4, .int x] mem Q = Q (some (.int 0)) mem := by
  have h1 := hm.2.1
  by_cases h0 : x < 0
  · simp only [e15, s15_0, s15_1, s15_4, s15_5, s15_6, s15_9, s15_12, s15_13, s15_16, s15_17, h1, h0, true_implies, not_true_eq_false, false_implies, true_and, and_true, true_or]
  · have h2 := hx.resolve_left h0
    simp only [e15, s15_0, s15_1, s15_4, s15_5, s15_6, s15_9, s15_12, s15_13, s15_16, s15_17, h1, h0, h2, true_implies, not_true_eq_false, not_false_eq_true, false_implies, true_and, and_true, true_or]
theorem x_waysOf {h : Nat} (hh : h = 4 ∨ h = 8) {T : nt_T} {mem : nw_M} (hm : nx_T h T mem) (d : Nat) (Q : nw_K) {c : Nat} (hc : c < 8) : nw_Ex (d + 1) nw_shX 17 [.ref h, .int (nI c)] mem Q = Q (some (.int (nI (nt_w T c)))) mem := by
  have h1 := hm.2.2.2.1 c hc
  have hi : vp_in (nI c) 8 := vp_in_nI hc (by decide)
  rcases hh with rfl | rfl <;> simp only [e17, s17_0, s17_1, s17_4, s17_5, s17_7, s17_10, s17_11_4, s17_11_8, s17_14, s17_15_6, s17_15_10, s17_16, s17_19, s17_20, ni_8, ni_nlt0 (show c < 2 ^ 31 by omega), ni_le_f hc (show 8 < 2 ^ 31 by decide), ni_cl (show c < 2 ^ 31 by omega), hi, h1, false_implies, true_implies, not_false_eq_true, true_and, and_true]
theorem x_waysOf_out {h : Nat} (hh : h = 4 ∨ h = 8) {mem : nw_M} (d : Nat) (Q : nw_K) {x : Int32} (hx : x < 0 ∨ nI 8 ≤ x) : nw_Ex (d + 1) nw_shX 17 [.ref h, .int x] mem Q = Q (some (.int 0)) mem := by
  by_cases h0 : x < 0
  · rcases hh with rfl | rfl <;> simp only [e17, s17_0, s17_1, s17_4, s17_5, s17_7, s17_10, s17_11_4, s17_11_8, s17_14, s17_15_6, s17_15_10, s17_16, s17_19, s17_20, h0, true_implies, not_true_eq_false, false_implies, true_and, and_true]
  · have h2 := hx.resolve_left h0
    rcases hh with rfl | rfl <;> simp only [e17, s17_0, s17_1, s17_4, s17_5, s17_7, s17_10, s17_11_4, s17_11_8, s17_14, s17_15_6, s17_15_10, s17_16, s17_19, s17_20, ni_8, h0, h2, true_implies, not_true_eq_false, not_false_eq_true, false_implies, true_and, and_true]
theorem x_kindOf {T : nt_T} {mem : nw_M} (hm : nx_T 4 T mem) (d : Nat) (Q : nw_K) {c : Nat} (hc : c < 8) : nw_Ex (d + 1) nw_shX 16 [.ref 4, .int (nI c)] mem Q = Q (some (.int (nI (nt_k T c)))) mem := by
  have h1 := hm.2.2.1 c hc
  have hi : vp_in (nI c) 8 := vp_in_nI hc (by decide)
  simp only [e16, s16_0, s16_1, s16_4, s16_5, s16_7, s16_10, s16_11, s16_14, s16_15, s16_16, s16_19, s16_20, ni_8, ni_nlt0 (show c < 2 ^ 31 by omega), ni_le_f hc (show 8 < 2 ^ 31 by decide), ni_cl (show c < 2 ^ 31 by omega), hi, h1, false_implies, true_implies, not_false_eq_true, true_and, and_true]
theorem x_hasWay_y {h : Nat} (hh : h = 4 ∨ h = 8) {T : nt_T} (hT : nt_ok T) {mem : nw_M} (hm : nx_T h T mem) (d : Nat) (Q : nw_K) {c j : Nat} (hc : c < 8) (hj : j < nt_w T c) : nw_Ex (d + 2) nw_shX 14 [.ref h, .int (nI c), .int (nI j)] mem Q = Q (some (.int 1)) mem := by
  have h4 := (hT.2.2.2 c).2.1
  have hw := fun Q' => x_waysOf hh hm d Q' hc
  rcases hh with rfl | rfl <;> simp only [e14, s14_0, s14_1, s14_4, s14_5, s14_6, s14_7_4, s14_7_8, s14_10, s14_13, s14_14, s14_17, s14_18, hw, nw_psh_s, ni_nlt0 (show j < 2 ^ 31 by omega), ni_le_f hj (show nt_w T c < 2 ^ 31 by omega), false_implies, true_implies, not_false_eq_true, true_and, and_true, or_true]
theorem x_hasWay_n {h : Nat} (hh : h = 4 ∨ h = 8) {T : nt_T} (hT : nt_ok T) {mem : nw_M} (hm : nx_T h T mem) (d : Nat) (Q : nw_K) {c : Nat} {y : Int32} (hc : c < 8) (hj : y < 0 ∨ nI (nt_w T c) ≤ y) : nw_Ex (d + 2) nw_shX 14 [.ref h, .int (nI c), .int y] mem Q = Q (some (.int 0)) mem := by
  have hw := fun Q' => x_waysOf hh hm d Q' hc
  by_cases h0 : y < 0
  · rcases hh with rfl | rfl <;> simp only [e14, s14_0, s14_1, s14_4, s14_5, s14_6, s14_7_4, s14_7_8, s14_10, s14_13, s14_14, s14_17, s14_18, h0, true_implies, not_true_eq_false, false_implies, true_and, and_true, true_or]
  · have h2 := hj.resolve_left h0
    rcases hh with rfl | rfl <;> simp only [e14, s14_0, s14_1, s14_4, s14_5, s14_6, s14_7_4, s14_7_8, s14_10, s14_13, s14_14, s14_17, s14_18, hw, nw_psh_s, h0, h2, true_implies, not_true_eq_false, not_false_eq_true, false_implies, true_and, and_true, true_or]
theorem fb_le0 {y : Int32} : (0 : Int32) ≤ y ↔ ¬ y < 0 := Int32.not_lt.symm
theorem x_hasWay_out {h : Nat} (hh : h = 4 ∨ h = 8) {mem : nw_M} (d : Nat) (Q : nw_K) {x y : Int32} (hx : x < 0 ∨ nI 8 ≤ x) : nw_Ex (d + 2) nw_shX 14 [.ref h, .int x, .int y] mem Q = Q (some (.int 0)) mem := by
  have hw := fun Q' => x_waysOf_out hh (mem := mem) d Q' hx
  by_cases h0 : y < 0
  · rcases hh with rfl | rfl <;> simp only [e14, s14_0, s14_1, s14_4, s14_5, s14_6, s14_7_4, s14_7_8, s14_10, s14_13, s14_14, s14_17, s14_18, h0, true_implies, not_true_eq_false, false_implies, true_and, and_true, true_or]
  · have h2 : (0 : Int32) ≤ y := by rw [fb_le0]; exact h0
    rcases hh with rfl | rfl <;> simp only [e14, s14_0, s14_1, s14_4, s14_5, s14_6, s14_7_4, s14_7_8, s14_10, s14_13, s14_14, s14_17, s14_18, hw, nw_psh_s, h0, h2, true_implies, not_true_eq_false, not_false_eq_true, false_implies, true_and, and_true, true_or]
theorem x_endOf {T : nt_T} (hT : nt_ok T) {mem : nw_M} (hm : nx_T 4 T mem) (d : Nat) (Q : nw_K) {c j : Nat} (hc : c < 8) (hj : j < nt_w T c) : nw_Ex (d + 3) nw_shX 18 [.ref 4, .int (nI c), .int (nI j)] mem Q = Q (some (.int (nI (nt_e T c j)))) mem := by
  have h4 := (hT.2.2.2 c).2.1
  have hw := fun Q' => x_hasWay_y (Or.inl rfl) hT hm d Q' hc hj
  have h1 := hm.2.2.2.2 c hc j hj
  have hi : vp_in (nI (4 * c + j)) 32 := vp_in_nI (by omega) (by decide)
  have he : nI c * 4 + nI j = nI (4 * c + j) := by rw [ni_4, nI_add, Nat.mul_comm]
  simp only [e18, s18_0, s18_1, s18_2, s18_3, s18_6, s18_9, s18_10, s18_13, s18_14, s18_15, s18_16, s18_17, s18_18, s18_19, s18_22, s18_23, hw, nw_psh_s, he, ni_cl (show 4 * c + j < 2 ^ 31 by omega), hi, h1, false_implies, true_implies, not_true_eq_false, not_false_eq_true, true_and, and_true, true_or, or_true, false_or, or_false, false_and, and_false, implies_true, nw_psh_s, nw_psh_n, ni_10, ni_00]
theorem x_isLeft {T : nt_T} (hT : nt_ok T) {mem : nw_M} (hm : nx_T 4 T mem) (d : Nat) (Q : nw_K) {c : Nat} (hc : c < 8) : nw_Ex (d + 2) nw_shX 20 [.ref 4, .int (nI c)] mem Q = Q (some (.int (if nt_left T c then 1 else 0))) mem := by
  have hw := fun Q' => x_waysOf (Or.inl rfl) hm d Q' hc
  have hk := fun Q' => x_kindOf hm d Q' hc
  have h3 := (hT.2.2.2 c).1
  have h4 := (hT.2.2.2 c).2.1
  unfold nt_left
  by_cases h0 : nt_w T c = 0
  · simp only [e20, s20_0, s20_1, s20_2, s20_5, s20_8, s20_9, s20_10, s20_13, s20_14, s20_17, s20_18, s20_21, s20_22, hw, hk, nw_psh_s, h0, show (nI 0 ≤ 0) = True from eq_true (by decide), Nat.lt_irrefl, and_false, decide_false, not_true_eq_false, false_implies, true_implies, true_and, and_true, true_or]
    rfl
  · have hp : (nI (nt_w T c) ≤ 0) = False := eq_false (nI_nle (by omega) (by omega))
    by_cases h5 : nt_k T c = 3
    · simp only [e20, s20_0, s20_1, s20_2, s20_5, s20_8, s20_9, s20_10, s20_13, s20_14, s20_17, s20_18, s20_21, s20_22, hw, hk, nw_psh_s, hp, h5, show (nI 3 = 3) = True from eq_true rfl, not_true_eq_false, not_false_eq_true, false_implies, true_implies, true_and, and_true, true_or, false_and, decide_false]
      rfl
    · have h6 : (nI (nt_k T c) = 3) = False := eq_false (fun q => h5 ((nI_eq (by omega) (by decide)).mp (q.trans (rfl : (3 : Int32) = nI 3))))
      simp only [e20, s20_0, s20_1, s20_2, s20_5, s20_8, s20_9, s20_10, s20_13, s20_14, s20_17, s20_18, s20_21, s20_22, hw, hk, nw_psh_s, hp, h6, h5, not_false_eq_true, false_implies, true_implies, true_and, and_true, or_true, show (0 < nt_w T c) = True from eq_true (by omega), decide_true, if_true]
