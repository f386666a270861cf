/-! the reference's small methods -/
theorem fa_lt (a b : Int32) : a < b ↔ a.toInt < b.toInt := Int32.lt_iff_toInt_lt
theorem fa_le (a b : Int32) : a ≤ b ↔ a.toInt ≤ b.toInt := Int32.le_iff_toInt_le
theorem fa_wide_lt (a b : Int32) : (a.toInt64 < b.toInt64) = (a < b) := propext (by rw [Int64.lt_iff_toInt_lt, fa_lt, Int32.toInt_toInt64, Int32.toInt_toInt64])
theorem m_in (d : Nat) (Q : nw_K) (x lo hi : Int32) (mem : nw_M) : nw_Ex (d + 1) nw_shM 96 [.long x.toInt64, .long lo.toInt64, .long hi.toInt64] mem Q = Q (some (.int (if x < lo ∨ hi < x then 0 else 1))) mem := by
  by_cases h1 : x < lo
  · simp only [e96, s96_0, s96_1, s96_2, s96_3, s96_6, s96_7, s96_9, s96_10, s96_13, s96_14, s96_17, s96_18, lg_cmp_lt, lg_cmp_gt, fa_wide_lt, h1, if_true, false_implies, true_implies, not_true_eq_false, not_false_eq_true, true_and, and_true, true_or, or_true, false_or, or_false, false_and, and_false, implies_true, nw_psh_s, nw_psh_n, ni_10, ni_00]
  · by_cases h2 : hi < x
    · simp only [e96, s96_0, s96_1, s96_2, s96_3, s96_6, s96_7, s96_9, s96_10, s96_13, s96_14, s96_17, s96_18, lg_cmp_lt, lg_cmp_gt, fa_wide_lt, h1, h2, if_true, false_implies, true_implies, not_true_eq_false, not_false_eq_true, true_and, and_true, true_or, or_true, false_or, or_false, false_and, and_false, implies_true, nw_psh_s, nw_psh_n, ni_10, ni_00]
    · simp only [e96, s96_0, s96_1, s96_2, s96_3, s96_6, s96_7, s96_9, s96_10, s96_13, s96_14, s96_17, s96_18, lg_cmp_lt, lg_cmp_gt, fa_wide_lt, h1, h2, if_false, false_implies, true_implies, not_true_eq_false, not_false_eq_true, true_and, and_true, true_or, or_true, false_or, or_false, false_and, and_false, implies_true, nw_psh_s, nw_psh_n, ni_10, ni_00]
theorem lw_0 : (0 : Int64) = (0 : Int32).toInt64 := by decide
theorem lw_1 : (1 : Int64) = (1 : Int32).toInt64 := by decide
theorem lw_4 : (4 : Int64) = (4 : Int32).toInt64 := by decide
theorem lw_6 : (6 : Int64) = (6 : Int32).toInt64 := by decide
theorem lw_8 : (8 : Int64) = (8 : Int32).toInt64 := by decide
theorem lw_99 : (99 : Int64) = (99 : Int32).toInt64 := by decide
theorem lw_999 : (999 : Int64) = (999 : Int32).toInt64 := by decide
theorem ni_m1 {n : Nat} (h : 0 < n) : nI n - 1 = nI (n - 1) := by
  have := nI_pred (n - 1)
  rwa [show n - 1 + 1 = n by omega] at this
/-- the reference's town -/
def nm_T (T : nt_T) (mem : nw_M) : Prop := mem 0 6 = nI (nt_n T) ∧ mem 0 10 = nI (nt_m T) ∧ (∀ c, c < 8 → mem 5 c = nI (nt_k T c)) ∧ (∀ c, c < 8 → mem 6 c = nI (nt_w T c)) ∧ ∀ c, c < 8 → ∀ j, j < nt_w T c → mem 7 (4 * c + j) = nI (nt_e T c j)
/-- vanes, vanes and walkers, in the row from b on -/
def nm_V (b : Nat) (v : Nat → Nat) (mem : nw_M) : Prop := ∀ c, c < 8 → mem 1 (b + c) = nI (v c)
def nm_S (T : nt_T) (b : Nat) (σ : nt_S) (mem : nw_M) : Prop := nm_V b σ.1 mem ∧ ∀ w, w < nt_m T → mem 1 (b + 8 + w) = nI (σ.2 w)
/-- nothing but the row from b on has changed -/
def nm_fr (b : Nat) (mem mem' : nw_M) : Prop := ∀ c k, ¬ (c = 1 ∧ b ≤ k ∧ k < b + 14) → mem' c k = mem c k
theorem nm_fr_rf (b : Nat) (mem : nw_M) : nm_fr b mem mem := fun _ _ _ => rfl
theorem nm_fr_tr {b : Nat} {m1 m2 m3 : nw_M} (h1 : nm_fr b m1 m2) (h2 : nm_fr b m2 m3) : nm_fr b m1 m3 := fun c k h => (h2 c k h).trans (h1 c k h)
theorem nw_up_at (mem : nw_M) (c k : Nat) (v : Int32) (a j : Nat) : nw_up mem c k v a j = if a = c ∧ j = k then v else mem a j := by
  unfold nw_up nw_row upd
  by_cases h1 : a = c
  · by_cases h2 : j = k
    · simp [h1, h2]
    · simp [h1, h2]
  · simp [h1]
theorem nm_fr_up {b k : Nat} (mem : nw_M) (v : Int32) (h1 : b ≤ k) (h2 : k < b + 14) : nm_fr b mem (nw_up mem 1 k v) := fun c j h => by
  rw [nw_up_at, if_neg]
  rintro ⟨rfl, rfl⟩
  exact h ⟨rfl, h1, h2⟩
theorem nm_T_fr {T : nt_T} {b : Nat} {mem mem' : nw_M} (h : nm_T T mem) (hf : nm_fr b mem mem') : nm_T T mem' := by
  obtain ⟨h1, h2, h3, h4, h5⟩ := h
  refine ⟨?_, ?_, fun c hc => ?_, fun c hc => ?_, fun c hc j hj => ?_⟩
  · rw [hf 0 6 (by omega)]; exact h1
  · rw [hf 0 10 (by omega)]; exact h2
  · rw [hf 5 c (by omega)]; exact h3 c hc
  · rw [hf 6 c (by omega)]; exact h4 c hc
  · rw [hf 7 _ (by omega)]; exact h5 c hc j hj
theorem m_isCorner_y {T : nt_T} (hT : nt_ok T) {mem : nw_M} (hm : nm_T T mem) (d : Nat) (Q : nw_K) {c : Nat} (hc : c < nt_n T) : nw_Ex (d + 2) nw_shM 114 [.ref 0, .int (nI c)] mem Q = Q (some (.int 1)) mem := by
  have h8 := hT.2.1
  have h1 := hm.1
  have hi := fun Q' => m_in d Q' (nI c) 0 (nI (nt_n T - 1)) mem
  have e1 : (nI c < 0 ∨ nI (nt_n T - 1) < nI c) = False := eq_false (fun q => q.elim (nI_pos (by omega)) (nI_nlt (by omega) (by omega)))
  simp only [e114, s114_0, s114_1, s114_2, s114_3, s114_4, s114_7, s114_8, s114_9, s114_10, s114_13, h1, lw_0, ni_m1 (show 0 < nt_n T by omega), hi, e1, if_false, false_implies, true_implies, not_true_eq_false, not_false_eq_true, true_and, and_true, true_or, or_true, false_or, or_false, false_and, and_false, implies_true, nw_psh_s, nw_psh_n, ni_10, ni_00]
theorem m_isCorner_n {T : nt_T} (hT : nt_ok T) {mem : nw_M} (hm : nm_T T mem) (d : Nat) (Q : nw_K) {x : Int32} (hx : x < 0 ∨ nI (nt_n T) ≤ x) : nw_Ex (d + 2) nw_shM 114 [.ref 0, .int x] mem Q = Q (some (.int 0)) mem := by
  have h8 := hT.2.1
  have h9 := hT.1
  have h1 := hm.1
  have hi := fun Q' => m_in d Q' x 0 (nI (nt_n T - 1)) mem
  have e1 : (x < 0 ∨ nI (nt_n T - 1) < x) = True := eq_true (hx.imp id (fun q => by
    have := nI_lt (a := nt_n T - 1) (b := nt_n T) (by omega) (by omega)
    rw [fa_lt] at this ⊢
    rw [fa_le] at q
    omega))
  simp only [e114, s114_0, s114_1, s114_2, s114_3, s114_4, s114_7, s114_8, s114_9, s114_10, s114_13, h1, lw_0, ni_m1 (show 0 < nt_n T by omega), hi, e1, if_true, false_implies, true_implies, not_true_eq_false, not_false_eq_true, true_and, and_true, true_or, or_true, false_or, or_false, false_and, and_false, implies_true, nw_psh_s, nw_psh_n, ni_10, ni_00]
theorem m_isWalker_y {T : nt_T} (hT : nt_ok T) {mem : nw_M} (hm : nm_T T mem) (d : Nat) (Q : nw_K) {c : Nat} (hc : c < nt_m T) : nw_Ex (d + 2) nw_shM 115 [.ref 0, .int (nI c)] mem Q = Q (some (.int 1)) mem := by
  have h8 := hT.2.2.1
  have h1 := hm.2.1
  have hi := fun Q' => m_in d Q' (nI c) 0 (nI (nt_m T - 1)) mem
  have e1 : (nI c < 0 ∨ nI (nt_m T - 1) < nI c) = False := eq_false (fun q => q.elim (nI_pos (by omega)) (nI_nlt (by omega) (by omega)))
  simp only [e115, s115_0, s115_1, s115_2, s115_3, s115_4, s115_7, s115_8, s115_9, s115_10, s115_13, h1, lw_0, ni_m1 (show 0 < nt_m T by omega), hi, e1, if_false, false_implies, true_implies, not_true_eq_false, not_false_eq_true, true_and, and_true, true_or, or_true, false_or, or_false, false_and, and_false, implies_true, nw_psh_s, nw_psh_n, ni_10, ni_00]
theorem m_isWalker_n {T : nt_T} (hT : nt_ok T) {mem : nw_M} (hm : nm_T T mem) (d : Nat) (Q : nw_K) {x : Int32} (hx : x < 0 ∨ nI (nt_m T) ≤ x) : nw_Ex (d + 2) nw_shM 115 [.ref 0, .int x] mem Q = Q (some (.int 0)) mem := by
  have h8 := hT.2.2.1
  have h1 := hm.2.1
  have hi := fun Q' => m_in d Q' x 0 (nI (nt_m T) - 1) mem
  have e1 : (x < 0 ∨ nI (nt_m T) - 1 < x) = True := eq_true (hx.imp id (fun q => by
    have h2 : (nI (nt_m T) - 1).toInt = (nt_m T : Int) - 1 := pk_sub_toInt (b := 1) (by omega) (by decide)
    have h3 := nI_toInt (n := nt_m T) (by omega)
    rw [fa_lt, h2]
    rw [fa_le, h3] at q
    omega))
  simp only [e115, s115_0, s115_1, s115_2, s115_3, s115_4, s115_7, s115_8, s115_9, s115_10, s115_13, h1, lw_0, hi, e1, if_true, false_implies, true_implies, not_true_eq_false, not_false_eq_true, true_and, and_true, true_or, or_true, false_or, or_false, false_and, and_false, implies_true, nw_psh_s, nw_psh_n, ni_10, ni_00]
theorem m_isLeft {T : nt_T} (hT : nt_ok T) {mem : nw_M} (hm : nm_T T mem) (d : Nat) (Q : nw_K) {c : Nat} (hc : c < 8) : nw_Ex (d + 1) nw_shM 116 [.ref 0, .int (nI c)] mem Q = Q (some (.int (if nt_left T c then 1 else 0))) mem := by
  have hi : vp_in (nI c) 8 := vp_in_nI hc (by decide)
  have hk := hm.2.2.1 c hc
  have hw := hm.2.2.2.1 c hc
  have h3 := (hT.2.2.2 c).1
  have h4 := (hT.2.2.2 c).2.1
  unfold nt_left
  by_cases h5 : nt_k T c = 3
  · simp only [e116, s116_0, s116_1, s116_4, s116_5, s116_6, s116_7, s116_10, s116_11, s116_14, s116_15, s116_16, s116_19, s116_20, s116_23, s116_24, hi, ni_cl (show c < 2 ^ 31 by omega), hk, h5, show (nI 3 = 3) = True from eq_true rfl, decide_false, false_implies, true_implies, not_true_eq_false, not_false_eq_true, true_and, and_true, true_or, or_true, false_or, or_false, false_and, and_false, implies_true, nw_psh_s, nw_psh_n, ni_10, ni_00]
    rfl
  · have h6 : (nI (nt_k T c) = 3) = False := eq_false (fun q => h5 ((nI_eq (by omega) (by decide)).mp (q.trans (rfl : (3 : Int32) = nI 3))))
    by_cases h0 : nt_w T c = 0
    · simp only [e116, s116_0, s116_1, s116_4, s116_5, s116_6, s116_7, s116_10, s116_11, s116_14, s116_15, s116_16, s116_19, s116_20, s116_23, s116_24, hi, ni_cl (show c < 2 ^ 31 by omega), hk, hw, h5, h6, h0, show (nI 0 ≤ 0) = True from eq_true (by decide), Nat.lt_irrefl, decide_false, false_implies, true_implies, not_true_eq_false, not_false_eq_true, true_and, and_true, true_or, or_true, false_or, or_false, false_and, and_false, implies_true, nw_psh_s, nw_psh_n, ni_10, ni_00]
      rfl
    · have hp : (nI (nt_w T c) ≤ 0) = False := eq_false (nI_nle (by omega) (by omega))
      simp only [e116, s116_0, s116_1, s116_4, s116_5, s116_6, s116_7, s116_10, s116_11, s116_14, s116_15, s116_16, s116_19, s116_20, s116_23, s116_24, hi, ni_cl (show c < 2 ^ 31 by omega), hk, hw, h5, h6, hp, show (0 < nt_w T c) = True from eq_true (by omega), decide_true, if_true, false_implies, true_implies, not_true_eq_false, not_false_eq_true, true_and, and_true, true_or, or_true, false_or, or_false, false_and, and_false, implies_true, nw_psh_s, nw_psh_n, ni_10, ni_00]
def nt_tn (T : nt_T) (c : Nat) : Nat := if nt_k T c = 1 then nt_w T c - 1 else if nt_k T c = 2 then 2 else 1
theorem ni_eq_t {a b : Nat} (h : a = b) : (nI a = nI b) = True := eq_true (by rw [h])
theorem ni_eq_f {a b : Nat} (h : ¬ a = b) (ha : a < 2 ^ 31) (hb : b < 2 ^ 31) : (nI a = nI b) = False := eq_false (fun q => h ((nI_eq ha hb).mp q))
theorem m_turns {T : nt_T} (hT : nt_ok T) {mem : nw_M} (hm : nm_T T mem) (d : Nat) (Q : nw_K) {c : Nat} (hc : c < 8) (hw0 : 0 < nt_w T c) : nw_Ex (d + 1) nw_shM 117 [.ref 0, .int (nI c)] mem Q = Q (some (.int (nI (nt_tn T c)))) mem := by
  have hi : vp_in (nI c) 8 := vp_in_nI hc (by decide)
  have hk := hm.2.2.1 c hc
  have hw := hm.2.2.2.1 c hc
  have h3 := (hT.2.2.2 c).1
  unfold nt_tn
  by_cases h1 : nt_k T c = 1
  · simp only [e117, s117_0, s117_1, s117_4, s117_5, s117_6, s117_7, s117_10, s117_11, s117_14, s117_15, s117_16, s117_17, s117_18, s117_21, s117_22, s117_25, s117_26, s117_27, s117_28, s117_31, s117_32, s117_35, s117_36, hi, ni_cl (show c < 2 ^ 31 by omega), hk, hw, h1, show (nI 1 = 1) = True from eq_true rfl, ni_m1 hw0, if_true, false_implies, true_implies, not_true_eq_false, not_false_eq_true, true_and, and_true, true_or, or_true, false_or, or_false, false_and, and_false, implies_true, nw_psh_s, nw_psh_n, ni_10, ni_00]
  · have h6 : (nI (nt_k T c) = 1) = False := ni_eq_f (b := 1) h1 (by omega) (by decide)
    by_cases h2 : nt_k T c = 2
    · simp only [e117, s117_0, s117_1, s117_4, s117_5, s117_6, s117_7, s117_10, s117_11, s117_14, s117_15, s117_16, s117_17, s117_18, s117_21, s117_22, s117_25, s117_26, s117_27, s117_28, s117_31, s117_32, s117_35, s117_36, hi, ni_cl (show c < 2 ^ 31 by omega), hk, h1, h6, h2, show (nI 2 = 1) = False from eq_false (by decide), show (nI 2 = 2) = True from eq_true rfl, false_implies, true_implies, not_true_eq_false, not_false_eq_true, true_and, and_true, true_or, or_true, false_or, or_false, false_and, and_false, implies_true, nw_psh_s, nw_psh_n, ni_10, ni_00]
      rfl
    · have h7 : (nI (nt_k T c) = 2) = False := ni_eq_f (b := 2) h2 (by omega) (by decide)
      simp only [e117, s117_0, s117_1, s117_4, s117_5, s117_6, s117_7, s117_10, s117_11, s117_14, s117_15, s117_16, s117_17, s117_18, s117_21, s117_22, s117_25, s117_26, s117_27, s117_28, s117_31, s117_32, s117_35, s117_36, hi, ni_cl (show c < 2 ^ 31 by omega), hk, h1, h2, h6, h7, if_false, false_implies, true_implies, not_true_eq_false, not_false_eq_true, true_and, and_true, true_or, or_true, false_or, or_false, false_and, and_false, implies_true, nw_psh_s, nw_psh_n, ni_10, ni_00]
      rfl
theorem m_nextVane {T : nt_T} (hT : nt_ok T) {mem : nw_M} (hm : nm_T T mem) {b : Nat} {v : Nat → Nat} (hv : nm_V b v mem) (hb : b + 13 < 70) (d : Nat) (Q : nw_K) {c : Nat} (hc : c < 8) (hw0 : 0 < nt_w T c) (hvc : v c < 4) : nw_Ex (d + 2) nw_shM 118 [.ref 0, .int (nI b), .int (nI c)] mem Q = Q (some (.int (nI (nt_nv T c (v c))))) mem := by
  have hi : vp_in (nI c) 8 := vp_in_nI hc (by decide)
  have hi2 : vp_in (nI (b + c)) 70 := vp_in_nI (by omega) (by decide)
  have hw := hm.2.2.2.1 c hc
  have h4 := (hT.2.2.2 c).2.1
  have ht := fun Q' => m_turns hT hm d Q' hc hw0
  have hle : nt_tn T c ≤ 4 := by unfold nt_tn; split <;> (try split) <;> omega
  have hr := pk_rem (a := v c + nt_tn T c) (d := nt_w T c) (by omega) hw0 (by omega)
  simp only [e118, s118_0, s118_1, s118_4, s118_5, s118_6, s118_7, s118_8, s118_9, s118_10, s118_13, s118_14, s118_15, s118_18, s118_19, s118_20, s118_21, nI_add, hi, hi2, ni_cl (show c < 2 ^ 31 by omega), ni_cl (show b + c < 2 ^ 31 by omega), hv c hc, ht, hw, hr, ni_ne0 hw0 (show nt_w T c < 2 ^ 31 by omega), false_implies, true_implies, not_true_eq_false, not_false_eq_true, true_and, and_true, true_or, or_true, false_or, or_false, false_and, and_false, implies_true, nw_psh_s, nw_psh_n, ni_10, ni_00]
  rfl
/-- the reference's row when one has left c -/
def nm_lv (T : nt_T) (v : Nat → Nat) (b c : Nat) (mem : nw_M) : nw_M := if nt_left T c then nw_up mem 1 (b + c) (nI (nt_nv T c (v c))) else mem
theorem nm_lv_fr (T : nt_T) (v : Nat → Nat) {b c : Nat} (hc : c < 8) (mem : nw_M) : nm_fr b mem (nm_lv T v b c mem) := by
  unfold nm_lv
  split
  · exact nm_fr_up mem _ (by omega) (by omega)
  · exact nm_fr_rf b mem
theorem nm_lv_V {T : nt_T} {v : Nat → Nat} {b c : Nat} {mem : nw_M} (h : nm_V b v mem) : nm_V b (nt_lv T v c).1 (nm_lv T v b c mem) := by
  intro j hj
  unfold nm_lv nt_lv
  by_cases hl : nt_left T c = true
  · rw [if_pos hl, if_pos hl, nw_up_at]
    by_cases hjc : j = c
    · simp [nf_up, hjc]
    · rw [if_neg (by omega)]
      simp only [nf_up, if_neg hjc]
      exact h j hj
  · rw [if_neg hl, if_neg hl]
    exact h j hj
theorem nm_lv_hi {T : nt_T} {v : Nat → Nat} {b c k : Nat} {mem : nw_M} (hc : c < 8) (hk : ¬ (b ≤ k ∧ k < b + 8)) : nm_lv T v b c mem 1 k = mem 1 k := by
  unfold nm_lv
  split
  · rw [nw_up_at, if_neg (by omega)]
  · rfl
theorem m_leave {T : nt_T} (hT : nt_ok T) {mem : nw_M} (hm : nm_T T mem) {b : Nat} {v : Nat → Nat} (hv : nm_V b v mem) (hb : b + 13 < 70) (hvo : nt_vok T v) (d : Nat) (Q : nw_K) {c : Nat} (hc : c < 8) : nw_Ex (d + 3) nw_shM 124 [.ref 0, .int (nI b), .int (nI c)] mem Q = Q (some (.int (nI (nt_lv T v c).2))) (nm_lv T v b c mem) := by
  have hl := fun Q' => m_isLeft hT hm (d + 1) Q' hc
  unfold nm_lv nt_lv
  by_cases h : nt_left T c = true
  · have hw0 := nt_left_w h
    have h4 := (hT.2.2.2 c).2.1
    have hvc := (hvo c).1 hw0
    have hn := fun Q' => m_nextVane hT hm hv hb d Q' hc hw0 (by omega)
    have hlt := nt_nv_lt (x := v c) hw0
    have hi2 : vp_in (nI (b + c)) 70 := vp_in_nI (by omega) (by decide)
    have hi3 : vp_in (nI (4 * c + nt_nv T c (v c))) 32 := vp_in_nI (by omega) (by decide)
    have he := hm.2.2.2.2 c hc _ hlt
    have e4 : (4 : Int32) * nI c = nI (4 * c) := pk_mul 4 c
    simp only [e124, s124_0, s124_1, s124_2, s124_5, s124_8, s124_9, s124_10, s124_11, s124_14, s124_15, s124_16, s124_17, s124_18, s124_19, s124_20, s124_23, s124_24, s124_25, s124_28, s124_29, s124_30, s124_31, s124_32, s124_35, s124_36, s124_37, s124_38, s124_39, s124_40, s124_41, hl, h, hn, nI_add, e4, hi2, hi3, ni_cl (show b + c < 2 ^ 31 by omega), ni_cl (show 4 * c + nt_nv T c (v c) < 2 ^ 31 by omega), nw_up_at, he, if_true, if_false, and_self, show ((7 : Nat) = 1) = False from eq_false (by decide), false_implies, true_implies, not_true_eq_false, not_false_eq_true, true_and, and_true, true_or, or_true, false_or, or_false, false_and, and_false, implies_true, nw_psh_s, nw_psh_n, ni_10, ni_00]
  · simp only [e124, s124_0, s124_1, s124_2, s124_5, s124_8, s124_9, s124_10, s124_11, s124_14, s124_15, s124_16, s124_17, s124_18, s124_19, s124_20, s124_23, s124_24, s124_25, s124_28, s124_29, s124_30, s124_31, s124_32, s124_35, s124_36, s124_37, s124_38, s124_39, s124_40, s124_41, hl, h, if_false, false_implies, true_implies, not_true_eq_false, not_false_eq_true, true_and, and_true, true_or, or_true, false_or, or_false, false_and, and_false, implies_true, nw_psh_s, nw_psh_n, ni_10, ni_00]
    simp
