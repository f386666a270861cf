/-! turning a vane, and a walker's step -/
def nj_fm (x y : Int32) : Int32 := if 0 ≤ x ^^^ y then x - x / y * y else if x - x / y * y = 0 then x - x / y * y else x - x / y * y + y
theorem x_floorMod (d : Nat) (sh : nw_Sh) (Q : nw_K) (x y : Int32) (mem : nw_M) (hy : ¬ y = 0) : nw_Ex (d + 1) sh 0 [.int x, .int y] mem Q = Q (some (.int (nj_fm x y))) mem := by
  unfold nj_fm
  by_cases h1 : 0 ≤ x ^^^ y
  · simp only [e0, s0_0, s0_1, s0_2, s0_3, s0_4, s0_5, s0_6, s0_7, s0_10, s0_11, s0_14, s0_15, s0_16, s0_17, s0_18, s0_19, hy, h1, if_true, false_implies, true_implies, not_true_eq_false, not_false_eq_true, true_and, and_true, true_or, or_true, false_or, or_false, false_and, and_false, implies_true, nw_psh_s, nw_psh_n, ni_10, ni_00]
  · by_cases h2 : x - x / y * y = 0
    · simp only [e0, s0_0, s0_1, s0_2, s0_3, s0_4, s0_5, s0_6, s0_7, s0_10, s0_11, s0_14, s0_15, s0_16, s0_17, s0_18, s0_19, hy, h1, h2, if_true, if_false, false_implies, true_implies, not_true_eq_false, not_false_eq_true, true_and, and_true, true_or, or_true, false_or, or_false, false_and, and_false, implies_true, nw_psh_s, nw_psh_n, ni_10, ni_00]
    · simp only [e0, s0_0, s0_1, s0_2, s0_3, s0_4, s0_5, s0_6, s0_7, s0_10, s0_11, s0_14, s0_15, s0_16, s0_17, s0_18, s0_19, hy, h1, h2, if_true, if_false, false_implies, true_implies, not_true_eq_false, not_false_eq_true, true_and, and_true, true_or, or_true, false_or, or_false, false_and, and_false, implies_true, nw_psh_s, nw_psh_n, ni_10, ni_00]
theorem nj_fm_ok : ∀ a, a < 16 → ∀ w, w < 5 → 0 < w → nj_fm (nI a - 8) (nI w) = nI ((a + 8 * w - 8) % w) := by decide +kernel
theorem x_max (d : Nat) (sh : nw_Sh) (Q : nw_K) (x y : Int32) (mem : nw_M) : nw_Ex (d + 1) sh 1 [.int x, .int y] mem Q = Q (some (.int (if x < y then y else x))) mem := by
  by_cases h1 : x < y <;> simp only [e1, s1_0, s1_1, s1_2, s1_5, s1_6, s1_9, s1_10, h1, if_true, if_false, false_implies, true_implies, not_true_eq_false, not_false_eq_true, true_and, and_true, true_or, or_true, false_or, or_false, false_and, and_false, implies_true, nw_psh_s, nw_psh_n, ni_10, ni_00]
/-- by how much a vane is turned, and 8 -/
def nt_st (T : nt_T) (c : Nat) : Nat := if nt_k T c = 1 then 7 else if nt_k T c = 2 then 10 else 9
theorem nls_0 : Op.lookupswitch.offset [((1 : Int), (27 : Int)), (2, 29)] 31 (nI 0).toInt = 31 := by decide +kernel
theorem nls_1 : Op.lookupswitch.offset [((1 : Int), (27 : Int)), (2, 29)] 31 (nI 1).toInt = 27 := by decide +kernel
theorem nls_2 : Op.lookupswitch.offset [((1 : Int), (27 : Int)), (2, 29)] 31 (nI 2).toInt = 29 := by decide +kernel
theorem nls_3 : Op.lookupswitch.offset [((1 : Int), (27 : Int)), (2, 29)] 31 (nI 3).toInt = 31 := by decide +kernel
theorem nls_t31 : nw_t 5 31 = 36 := rfl
theorem nls_t27 : nw_t 5 27 = 32 := rfl
theorem nls_t29 : nw_t 5 29 = 34 := rfl
theorem nls_p31 : (0 ≤ ((5 : Nat) : Int) + 31) = True := eq_true (by decide)
theorem nls_p27 : (0 ≤ ((5 : Nat) : Int) + 27) = True := eq_true (by decide)
theorem nls_p29 : (0 ≤ ((5 : Nat) : Int) + 29) = True := eq_true (by decide)
theorem x_stepOf {T : nt_T} (hT : nt_ok T) {mem : nw_M} (hm : nx_T 4 T mem) (d : Nat) (Q : nw_K) {c : Nat} (hc : c < 8) : nw_Ex (d + 2) nw_shX 30 [.ref 4, .int (nI c)] mem Q = Q (some (.int (nI (nt_st T c) - 8))) mem := by
  have hk := fun Q' => x_kindOf hm d Q' hc
  have h3 := (hT.2.2.2 c).1
  unfold nt_st
  generalize nt_k T c = k at hk h3 ⊢
  match k, h3 with
  | 0, _ =>
    simp only [e30, s30_0, s30_1, s30_2, s30_5, s30_32, s30_33, s30_34, s30_35, s30_36, s30_37, hk, nls_0, nls_t31, nls_p31, false_implies, true_implies, not_true_eq_false, not_false_eq_true, true_and, and_true, true_or, or_true, false_or, or_false, false_and, and_false, implies_true, nw_psh_s, nw_psh_n, ni_10, ni_00]
    rfl
  | 1, _ =>
    simp only [e30, s30_0, s30_1, s30_2, s30_5, s30_32, s30_33, s30_34, s30_35, s30_36, s30_37, hk, nls_1, nls_t27, nls_p27, false_implies, true_implies, not_true_eq_false, not_false_eq_true, true_and, and_true, true_or, or_true, false_or, or_false, false_and, and_false, implies_true, nw_psh_s, nw_psh_n, ni_10, ni_00]
    rfl
  | 2, _ =>
    simp only [e30, s30_0, s30_1, s30_2, s30_5, s30_32, s30_33, s30_34, s30_35, s30_36, s30_37, hk, nls_2, nls_t29, nls_p29, false_implies, true_implies, not_true_eq_false, not_false_eq_true, true_and, and_true, true_or, or_true, false_or, or_false, false_and, and_false, implies_true, nw_psh_s, nw_psh_n, ni_10, ni_00]
    rfl
  | 3, _ =>
    simp only [e30, s30_0, s30_1, s30_2, s30_5, s30_32, s30_33, s30_34, s30_35, s30_36, s30_37, hk, nls_3, nls_t31, nls_p31, false_implies, true_implies, not_true_eq_false, not_false_eq_true, true_and, and_true, true_or, or_true, false_or, or_false, false_and, and_false, implies_true, nw_psh_s, nw_psh_n, ni_10, ni_00]
    rfl
  | k + 4, h => omega
theorem ni_step (v b : Nat) : nI v + (nI b - 8) = nI (v + b) - 8 := by
  rw [← nI_add, Int32.sub_eq_add_neg, Int32.sub_eq_add_neg, Int32.add_assoc]
theorem ni_neg (b : Nat) (hb : b ≤ 16) : -(nI b - 8) = nI (16 - b) - 8 := (by decide +kernel : ∀ b, b < 17 → -(nI b - 8) = nI (16 - b) - 8) b (by omega)
theorem ni_lt1_f {w : Nat} (h : 0 < w) (hw : w < 2 ^ 31) : ((1 : Int32) ≤ nI w) = True := eq_true (nI_le (a := 1) h hw)
theorem ni_ne0 {w : Nat} (h : 0 < w) (hw : w < 2 ^ 31) : ¬ nI w = 0 := nI_ne0 h hw
theorem x_turnedBy {T : nt_T} (hT : nt_ok T) {mem : nw_M} (hm : nx_T 4 T mem) (d : Nat) (Q : nw_K) {s : Int32} {σ : nt_S} (hs : nx_S s σ) {c b : Nat} (hc : c < 8) (hw : 0 < nt_w T c) (hb : b < 12) : nw_Ex (d + 2) nw_shX 31 [.ref 4, .int s, .int (nI c), .int (nI b - 8)] mem Q = Q (some (.int (ns_sv s c ((σ.1 c + b + 8 * nt_w T c - 8) % nt_w T c)))) mem := by
  have h4 := (hT.2.2.2 c).2.1
  have hq := fun Q' => x_waysOf (Or.inl rfl) hm d Q' hc
  obtain ⟨hv1, hv2⟩ := hs.2.1 c hc
  have hf := fun Q' => x_floorMod d nw_shX Q' (nI (σ.1 c + b) - 8) (nI (nt_w T c)) mem (ni_ne0 hw (by omega))
  have hv := fun Q' => x_vaneOf d Q' s c mem
  have hwv := fun Q' x => x_withVane d Q' s c x mem
  simp only [e31, s31_0, s31_1, s31_2, s31_5, s31_7, s31_9, s31_10, s31_13, s31_14, s31_15, s31_16, s31_17, s31_18, s31_19, s31_22, s31_23, s31_24, s31_26, s31_29, s31_32, hq, hv, hv1, ni_step, hf, nj_fm_ok (σ.1 c + b) (by omega) (nt_w T c) (by omega) hw, hwv, ni_lt1_f hw (show nt_w T c < 2 ^ 31 by omega), false_implies, true_implies, not_true_eq_false, not_false_eq_true, true_and, and_true, true_or, or_true, false_or, or_false, false_and, and_false, implies_true, nw_psh_s, nw_psh_n, ni_10, ni_00]
theorem nt_nv_eq {T : nt_T} (hT : nt_ok T) {c x : Nat} (hw : 0 < nt_w T c) : (x + nt_st T c + 8 * nt_w T c - 8) % nt_w T c = nt_nv T c x := by
  have h4 := (hT.2.2.2 c).2.1
  unfold nt_st nt_nv
  generalize nt_w T c = w at hw h4 ⊢
  split
  · rw [show x + 7 + 8 * w - 8 = x + (w - 1) + w * 7 by omega, Nat.add_mul_mod_self_left]
  · split
    · rw [show x + 10 + 8 * w - 8 = x + 2 + w * 8 by omega, Nat.add_mul_mod_self_left]
    · rw [show x + 9 + 8 * w - 8 = x + 1 + w * 8 by omega, Nat.add_mul_mod_self_left]
/-- the vane ahead of a turn -/
def nt_pv (T : nt_T) (c x : Nat) : Nat := (x + 2 * nt_w T c - (if nt_k T c = 1 then nt_w T c - 1 else if nt_k T c = 2 then 2 else 1)) % nt_w T c
theorem nt_pv_eq {T : nt_T} (hT : nt_ok T) {c x : Nat} (hw : 0 < nt_w T c) : (x + (16 - nt_st T c) + 8 * nt_w T c - 8) % nt_w T c = nt_pv T c x := by
  have h4 := (hT.2.2.2 c).2.1
  unfold nt_st nt_pv
  generalize nt_w T c = w at hw h4 ⊢
  split
  · rw [show x + (16 - 7) + 8 * w - 8 = x + 2 * w - (w - 1) + w * 7 by omega, Nat.add_mul_mod_self_left]
  · split
    · rw [show x + (16 - 10) + 8 * w - 8 = x + 2 * w - 2 + w * 6 by omega, Nat.add_mul_mod_self_left]
    · rw [show x + (16 - 9) + 8 * w - 8 = x + 2 * w - 1 + w * 6 by omega, Nat.add_mul_mod_self_left]
theorem x_turned {T : nt_T} (hT : nt_ok T) {mem : nw_M} (hm : nx_T 4 T mem) (d : Nat) (Q : nw_K) {s : Int32} {σ : nt_S} (hs : nx_S s σ) {c : Nat} (hc : c < 8) (hw : 0 < nt_w T c) : nw_Ex (d + 3) nw_shX 32 [.ref 4, .int s, .int (nI c)] mem Q = Q (some (.int (ns_sv s c (nt_nv T c (σ.1 c))))) mem := by
  have h1 := fun Q' => x_stepOf hT hm d Q' hc
  have h2 := fun Q' => x_turnedBy hT hm d Q' hs hc hw (b := nt_st T c) (by unfold nt_st; split <;> (try split) <;> omega)
  simp only [e32, s32_0, s32_1, s32_2, s32_3, s32_4, s32_5, s32_8, s32_11, h1, h2, nt_nv_eq hT hw, false_implies, true_implies, not_true_eq_false, not_false_eq_true, true_and, and_true, true_or, or_true, false_or, or_false, false_and, and_false, implies_true, nw_psh_s, nw_psh_n, ni_10, ni_00]
theorem x_unturned {T : nt_T} (hT : nt_ok T) {mem : nw_M} (hm : nx_T 4 T mem) (d : Nat) (Q : nw_K) {s : Int32} {σ : nt_S} (hs : nx_S s σ) {c : Nat} (hc : c < 8) (hw : 0 < nt_w T c) : nw_Ex (d + 3) nw_shX 33 [.ref 4, .int s, .int (nI c)] mem Q = Q (some (.int (ns_sv s c (nt_pv T c (σ.1 c))))) mem := by
  have h0 : nt_st T c ≤ 10 ∧ 7 ≤ nt_st T c := by unfold nt_st; split <;> (try split) <;> omega
  have h1 := fun Q' => x_stepOf hT hm d Q' hc
  have h2 := fun Q' => x_turnedBy hT hm d Q' hs hc hw (b := 16 - nt_st T c) (by omega)
  simp only [e33, s33_0, s33_1, s33_2, s33_3, s33_4, s33_5, s33_8, s33_9, s33_12, h1, ni_neg (nt_st T c) (by omega), h2, nt_pv_eq hT hw, false_implies, true_implies, not_true_eq_false, not_false_eq_true, true_and, and_true, true_or, or_true, false_or, or_false, false_and, and_false, implies_true, nw_psh_s, nw_psh_n, ni_10, ni_00]
theorem x_shownVane {T : nt_T} (hT : nt_ok T) {mem : nw_M} (hm : nx_T 4 T mem) (d : Nat) (Q : nw_K) {s : Int32} {σ : nt_S} (hs : nx_S s σ) {c : Nat} (hc : c < 8) : nw_Ex (d + 2) nw_shX 27 [.ref 4, .int s, .int (nI c)] mem Q = Q (some (.int (if nt_w T c = 0 then -1 else nI (σ.1 c)))) mem := by
  have h4 := (hT.2.2.2 c).2.1
  have hq := fun Q' => x_waysOf (Or.inl rfl) hm d Q' hc
  have hv := fun Q' => x_vaneOf d Q' s c mem
  obtain ⟨hv1, hv2⟩ := hs.2.1 c hc
  by_cases h0 : nt_w T c = 0
  · simp only [e27, s27_0, s27_1, s27_2, s27_5, s27_8, s27_9, s27_10, s27_13, s27_16, s27_17, hq, hv, h0, show (nI 0 ≤ 0) = True from eq_true (by decide), if_true, false_implies, true_implies, not_true_eq_false, not_false_eq_true, true_and, and_true, true_or, or_true, false_or, or_false, false_and, and_false, implies_true, nw_psh_s, nw_psh_n, ni_10, ni_00]
  · have hp : (nI (nt_w T c) ≤ 0) = False := eq_false (nI_nle (by omega) (by omega))
    simp only [e27, s27_0, s27_1, s27_2, s27_5, s27_8, s27_9, s27_10, s27_13, s27_16, s27_17, hq, hv, hv1, hp, h0, if_false, false_implies, true_implies, not_true_eq_false, not_false_eq_true, true_and, and_true, true_or, or_true, false_or, or_false, false_and, and_false, implies_true, nw_psh_s, nw_psh_n, ni_10, ni_00]
theorem x_shownEnd {T : nt_T} (hT : nt_ok T) {mem : nw_M} (hm : nx_T 4 T mem) (d : Nat) (Q : nw_K) {s : Int32} {σ : nt_S} (hs : nx_S s σ) {c : Nat} (hc : c < 8) (hv : σ.1 c < nt_w T c) : nw_Ex (d + 4) nw_shX 28 [.ref 4, .int s, .int (nI c)] mem Q = Q (some (.int (nI (nt_e T c (σ.1 c))))) mem := by
  have h1 := fun Q' => x_vaneOf (d + 2) Q' s c mem
  have h2 := fun Q' => x_endOf hT hm d Q' hc hv
  simp only [e28, s28_0, s28_1, s28_2, s28_3, s28_4, s28_7, s28_10, h1, (hs.2.1 c hc).1, h2, false_implies, true_implies, not_true_eq_false, not_false_eq_true, true_and, and_true, true_or, or_true, false_or, or_false, false_and, and_false, implies_true, nw_psh_s, nw_psh_n, ni_10, ni_00]
/-- a walker's step -/
def nx_wk (T : nt_T) (s : Int32) (σ : nt_S) (w : Nat) : Int32 := if nt_left T (σ.2 w) then ns_sp (ns_sv s (σ.2 w) (nt_nv T (σ.2 w) (σ.1 (σ.2 w)))) w (nt_e T (σ.2 w) (nt_nv T (σ.2 w) (σ.1 (σ.2 w)))) else s
theorem nx_wk_S {T : nt_T} (hT : nt_ok T) {s : Int32} {σ : nt_S} (hs : nx_S s σ) {w : Nat} (hw : w < 5) : nx_S (nx_wk T s σ w) (nt_wk T σ w) := by
  unfold nx_wk nt_wk nt_lv
  by_cases h : nt_left T (σ.2 w) = true
  · rw [if_pos h, if_pos h]
    have hl := nt_left_w h
    have hn := nt_left_n hT h
    have h4 := (hT.2.2.2 (σ.2 w)).2.1
    have hlt := nt_nv_lt (x := σ.1 (σ.2 w)) hl
    have he := (hT.2.2.2 (σ.2 w)).2.2.2 _ hlt
    have h8 := hT.2.1
    exact nx_S_sp (nx_S_sv hs (by omega) (by omega)) hw (by omega)
  · rw [if_neg h, if_neg h]
    have hf : nf_up σ.2 w (σ.2 w) = σ.2 := by
      funext j
      by_cases hj : j = w
      · simp [nf_up, hj]
      · simp [nf_up, hj]
    rw [hf]
    exact hs
theorem x_walked {T : nt_T} (hT : nt_ok T) {mem : nw_M} (hm : nx_T 4 T mem) (d : Nat) (Q : nw_K) {s : Int32} {σ : nt_S} (hs : nx_S s σ) {w : Nat} (hw : w < 5) : nw_Ex (d + 4) nw_shX 34 [.ref 4, .int s, .int (nI w)] mem Q = Q (some (.int (nx_wk T s σ w))) mem := by
  obtain ⟨hp1, hp2⟩ := hs.2.2 w hw
  have h1 := fun Q' => x_placeOf (d + 2) Q' s w mem
  have h2 := fun Q' => x_isLeft hT hm (d + 1) Q' hp2
  unfold nx_wk
  by_cases h : nt_left T (σ.2 w) = true
  · have hl := nt_left_w h
    have hn := nt_left_n hT h
    have h4 := (hT.2.2.2 (σ.2 w)).2.1
    have hlt := nt_nv_lt (x := σ.1 (σ.2 w)) hl
    have h3 := fun Q' => x_stepOf hT hm (d + 1) Q' hp2
    have h5 := fun Q' => x_turnedBy hT hm (d + 1) Q' hs hp2 hl (b := nt_st T (σ.2 w)) (by unfold nt_st; split <;> (try split) <;> omega)
    have h6 := fun Q' => x_vaneOf (d + 2) Q' (ns_sv s (σ.2 w) (nt_nv T (σ.2 w) (σ.1 (σ.2 w)))) (σ.2 w) mem
    have h7 := ns_v_sv (s := s) (c := σ.2 w) (x := nt_nv T (σ.2 w) (σ.1 (σ.2 w))) (j := σ.2 w) hp2 (by omega) hp2
    have h8 := fun Q' => x_endOf hT hm d Q' hp2 hlt
    have h9 := fun Q' s' x => x_withPlace (d + 2) Q' s' w x mem
    rw [if_pos rfl] at h7
    simp only [e34, s34_0, s34_1, s34_2, s34_5, s34_6, s34_7, s34_8, s34_11, s34_14, s34_15, s34_16, s34_17, s34_18, s34_19, s34_20, s34_21, s34_24, s34_27, s34_29, s34_31, s34_32, s34_33, s34_34, s34_36, s34_37, s34_40, s34_43, s34_46, h1, hp1, h2, h, if_true, h3, h5, nt_nv_eq hT hl, h6, h7, h8, h9, false_implies, true_implies, not_true_eq_false, not_false_eq_true, true_and, and_true, true_or, or_true, false_or, or_false, false_and, and_false, implies_true, nw_psh_s, nw_psh_n, ni_10, ni_00]
  · simp only [e34, s34_0, s34_1, s34_2, s34_5, s34_6, s34_7, s34_8, s34_11, s34_14, s34_15, s34_16, s34_17, s34_18, s34_19, s34_20, s34_21, s34_24, s34_27, s34_29, s34_31, s34_32, s34_33, s34_34, s34_36, s34_37, s34_40, s34_43, s34_46, h1, hp1, h2, h, if_false, false_implies, true_implies, not_true_eq_false, not_false_eq_true, true_and, and_true, true_or, or_true, false_or, or_false, false_and, and_false, implies_true, nw_psh_s, nw_psh_n, ni_10, ni_00]
    simp
