/-! beats, on both sides -/
def nt_bt (T : nt_T) (σ : nt_S) : Nat → nt_S
  | 0 => σ
  | k + 1 => nt_wk T (nt_bt T σ k) k
def nt_b1 (T : nt_T) (σ : nt_S) : nt_S := nt_bt T σ (nt_m T)
def nt_bs (T : nt_T) (σ : nt_S) : Nat → nt_S
  | 0 => σ
  | t + 1 => nt_b1 T (nt_bs T σ t)
def nt_sok (T : nt_T) (σ : nt_S) : Prop := nt_vok T σ.1 ∧ ∀ w, w < nt_m T → σ.2 w < nt_n T
theorem nt_wk_ok {T : nt_T} (hT : nt_ok T) {σ : nt_S} (h : nt_sok T σ) {w : Nat} (hw : w < nt_m T) : nt_sok T (nt_wk T σ w) := by
  obtain ⟨h1, h2⟩ := nt_lv_ok hT h.1 (h.2 w hw)
  refine ⟨h1, fun j hj => ?_⟩
  show nf_up σ.2 w (nt_lv T σ.1 (σ.2 w)).2 j < nt_n T
  by_cases hjw : j = w
  · simp only [nf_up, if_pos hjw]; exact h2
  · simp only [nf_up, if_neg hjw]; exact h.2 j hj
theorem nt_bt_ok {T : nt_T} (hT : nt_ok T) {σ : nt_S} (h : nt_sok T σ) : ∀ k, k ≤ nt_m T → nt_sok T (nt_bt T σ k)
  | 0, _ => h
  | k + 1, hk => nt_wk_ok hT (nt_bt_ok hT h k (by omega)) (by omega)
theorem nt_b1_ok {T : nt_T} (hT : nt_ok T) {σ : nt_S} (h : nt_sok T σ) : nt_sok T (nt_b1 T σ) := nt_bt_ok hT h _ (Nat.le_refl _)
theorem nt_bs_ok {T : nt_T} (hT : nt_ok T) {σ : nt_S} (h : nt_sok T σ) : ∀ t, nt_sok T (nt_bs T σ t)
  | 0 => h
  | t + 1 => nt_b1_ok hT (nt_bs_ok hT h t)
theorem nt_bs_1 (T : nt_T) (σ : nt_S) : ∀ t, nt_bs T (nt_b1 T σ) t = nt_bs T σ (t + 1)
  | 0 => rfl
  | t + 1 => by
    show nt_b1 T (nt_bs T (nt_b1 T σ) t) = nt_b1 T (nt_bs T σ (t + 1))
    rw [nt_bs_1 T σ t]
/-! the class -/
theorem x_behindOne_loop {T : nt_T} (hT : nt_ok T) {mem : nw_M} (hm : nx_T 4 T mem) (d : Nat) (Q : nw_K) {σ : nt_S} (s0 : Int32) (hQ : ∀ s', nx_S s' (nt_b1 T σ) → Q (some (.int s')) mem) :
    ∀ j k (s : Int32), k + j = nt_m T → nx_S s (nt_bt T σ k) → nw_Ev (d + 4) nw_shX 35 Q 4 [some (.ref 4), some (.int s0), some (.int s), some (.int (nI k))] [] mem := by
  have h5 := hT.2.2.1
  intro j
  induction j with
  | zero =>
    intro k s hk hs
    have hk' : k = nt_m T := by omega
    subst hk'
    simp only [e35, s35_0, s35_1, s35_2, s35_3, s35_4, s35_5, s35_6, s35_9, s35_12, s35_13, s35_14, s35_15, s35_18, s35_19, s35_22, s35_25, s35_26, hm.2.1, ni_le_t (Nat.le_refl (nt_m T)) (show nt_m T < 2 ^ 31 by omega), false_implies, true_implies, not_true_eq_false, not_false_eq_true, true_and, and_true, true_or, or_true, false_or, or_false, false_and, and_false, implies_true, nw_psh_s, nw_psh_n, ni_10, ni_00]
    exact hQ s hs
  | succ j ih =>
    intro k s hk hs
    have hw := fun Q' => x_walked hT hm d Q' hs (w := k) (by omega)
    rw [s35_4]
    simp only [e35, s35_0, s35_1, s35_2, s35_3, s35_5, s35_6, s35_9, s35_12, s35_13, s35_14, s35_15, s35_18, s35_19, s35_22, s35_25, s35_26, hm.2.1, ni_le_f (show k < nt_m T by omega) (show nt_m T < 2 ^ 31 by omega), hw, nI_1, false_implies, true_implies, not_true_eq_false, not_false_eq_true, true_and, and_true, true_or, or_true, false_or, or_false, false_and, and_false, implies_true, nw_psh_s, nw_psh_n, ni_10, ni_00]
    exact ih (k + 1) _ (by omega) (nx_wk_S hT hs (by omega))
theorem x_behindOne {T : nt_T} (hT : nt_ok T) {mem : nw_M} (hm : nx_T 4 T mem) (d : Nat) (Q : nw_K) {s : Int32} {σ : nt_S} (hs : nx_S s σ) (hQ : ∀ s', nx_S s' (nt_b1 T σ) → Q (some (.int s')) mem) : nw_Ex (d + 5) nw_shX 35 [.ref 4, .int s] mem Q := by
  simp only [e35, s35_0, s35_1, s35_2, s35_3, s35_5, s35_6, s35_9, s35_12, s35_13, s35_14, s35_15, s35_18, s35_19, s35_22, s35_25, s35_26]
  exact x_behindOne_loop hT hm d Q s hQ (nt_m T) 0 s (by omega) hs
theorem x_behind_loop {T : nt_T} (hT : nt_ok T) {mem : nw_M} (hm : nx_T 4 T mem) (d : Nat) (Q : nw_K) {σ : nt_S} (s0 : Int32) (t : Nat) (ht : t < 2 ^ 31) (hQ : ∀ s', nx_S s' (nt_bs T σ t) → Q (some (.int s')) mem) :
    ∀ j k (s : Int32), k + j = t → nx_S s (nt_bs T σ k) → nw_Ev (d + 5) nw_shX 36 Q 5 [some (.ref 4), some (.int s0), some (.int (nI t)), some (.int s), some (.int (nI k))] [] mem := by
  intro j
  induction j with
  | zero =>
    intro k s hk hs
    have hk' : k = t := by omega
    subst hk'
    simp only [e36, s36_0, s36_1, s36_2, s36_3, s36_5, s36_7, s36_8, s36_11, s36_12, s36_13, s36_16, s36_17, s36_20, s36_23, s36_24, ni_le_t (Nat.le_refl k) ht, false_implies, true_implies, not_true_eq_false, not_false_eq_true, true_and, and_true, true_or, or_true, false_or, or_false, false_and, and_false, implies_true, nw_psh_s, nw_psh_n, ni_10, ni_00]
    exact hQ s hs
  | succ j ih =>
    intro k s hk hs
    rw [s36_5]
    simp only [e36, s36_0, s36_1, s36_2, s36_3, s36_7, s36_8, s36_11, s36_12, s36_13, s36_16, s36_17, s36_20, s36_23, s36_24, ni_le_f (show k < t by omega) ht, false_implies, true_implies, not_true_eq_false, not_false_eq_true, true_and, and_true, true_or, or_true, false_or, or_false, false_and, and_false, implies_true, nw_psh_s, nw_psh_n, ni_10, ni_00]
    refine x_behindOne hT hm d _ hs (fun s' hs' => ?_)
    simp only [e36, s36_0, s36_1, s36_2, s36_3, s36_7, s36_8, s36_11, s36_12, s36_13, s36_16, s36_17, s36_20, s36_23, s36_24, nI_1, false_implies, true_implies, not_true_eq_false, not_false_eq_true, true_and, and_true, true_or, or_true, false_or, or_false, false_and, and_false, implies_true, nw_psh_s, nw_psh_n, ni_10, ni_00]
    exact ih (k + 1) s' (by omega) hs'
theorem x_behind {T : nt_T} (hT : nt_ok T) {mem : nw_M} (hm : nx_T 4 T mem) (d : Nat) (Q : nw_K) {s : Int32} {σ : nt_S} (hs : nx_S s σ) {t : Nat} (ht : t < 2 ^ 31) (hQ : ∀ s', nx_S s' (nt_bs T σ t) → Q (some (.int s')) mem) : nw_Ex (d + 6) nw_shX 36 [.ref 4, .int s, .int (nI t)] mem Q := by
  simp only [e36, s36_0, s36_1, s36_2, s36_3, s36_7, s36_8, s36_11, s36_12, s36_13, s36_16, s36_17, s36_20, s36_23, s36_24]
  exact x_behind_loop hT hm d Q s t ht hQ t 0 s (by omega) hs
/-! the reference -/
theorem nm_S_V {T : nt_T} {b : Nat} {σ : nt_S} {mem : nw_M} (h : nm_S T b σ mem) : nm_V b σ.1 mem := h.1
theorem m_beat_loop {T : nt_T} (hT : nt_ok T) {mem : nw_M} (hm : nm_T T mem) {b : Nat} (hb : b + 13 < 70) {σ : nt_S} (hok : nt_sok T σ) (d : Nat) (Q : nw_K) (hQ : ∀ mem', nm_S T b (nt_b1 T σ) mem' → nm_fr b mem mem' → mem' 1 (b + 13) = mem 1 (b + 13) + 1 → Q none mem') :
    ∀ j k (m1 : nw_M), k + j = nt_m T → nm_S T b (nt_bt T σ k) m1 → nm_fr b mem m1 → m1 1 (b + 13) = mem 1 (b + 13) → nw_Ev (d + 3) nw_shM 125 Q 2 [some (.ref 0), some (.int (nI b)), some (.int (nI k))] [] m1 := by
  have h5 := hT.2.2.1
  have h8 := hT.2.1
  intro j
  induction j with
  | zero =>
    intro k m1 hk hS hf hg
    have hk' : k = nt_m T := by omega
    subst hk'
    have hm1 := nm_T_fr hm hf
    have hi : vp_in (nI (b + 13)) 70 := vp_in_nI (by omega) (by decide)
    have e13 : nI b + 13 = nI (b + 13) := nI_add b 13
    simp only [e125, s125_0, s125_1, s125_2, s125_3, s125_4, s125_7, s125_10, s125_11, s125_14, s125_15, s125_17, s125_18, s125_19, s125_20, s125_21, s125_22, s125_23, s125_26, s125_27, s125_29, s125_30, s125_31, s125_32, s125_33, s125_36, s125_37, s125_40, s125_43, s125_44, s125_47, s125_48, s125_50, s125_51, s125_52, s125_53, s125_54, s125_55, s125_56, hm1.2.1, ni_le_t (Nat.le_refl (nt_m T)) (show nt_m T < 2 ^ 31 by omega), e13, hi, ni_cl (show b + 13 < 2 ^ 31 by omega), false_implies, true_implies, not_true_eq_false, not_false_eq_true, true_and, and_true, true_or, or_true, false_or, or_false, false_and, and_false, implies_true, nw_psh_s, nw_psh_n, ni_10, ni_00]
    refine hQ _ ⟨fun c hc => ?_, fun w hw => ?_⟩ (nm_fr_tr hf (nm_fr_up _ _ (by omega) (by omega))) ?_
    · rw [nw_up_at, if_neg (by omega)]; exact hS.1 c hc
    · rw [nw_up_at, if_neg (by omega)]; exact hS.2 w hw
    · rw [nw_up_at, if_pos ⟨rfl, rfl⟩, hg]
  | succ j ih =>
    intro k m1 hk hS hf hg
    have hm1 := nm_T_fr hm hf
    have hok1 := nt_bt_ok hT hok k (by omega)
    have hkn := hok1.2 k (by omega)
    have hl := fun Q' => m_leave hT hm1 hS.1 hb hok1.1 d Q' (c := (nt_bt T σ k).2 k) (by omega)
    have hi : vp_in (nI (b + 8 + k)) 70 := vp_in_nI (by omega) (by decide)
    have e8 : nI b + 8 = nI (b + 8) := nI_add b 8
    rw [s125_2]
    simp only [e125, s125_0, s125_1, s125_3, s125_4, s125_7, s125_10, s125_11, s125_14, s125_15, s125_17, s125_18, s125_19, s125_20, s125_21, s125_22, s125_23, s125_26, s125_27, s125_29, s125_30, s125_31, s125_32, s125_33, s125_36, s125_37, s125_40, s125_43, s125_44, s125_47, s125_48, s125_50, s125_51, s125_52, s125_53, s125_54, s125_55, s125_56, hm1.2.1, ni_le_f (show k < nt_m T by omega) (show nt_m T < 2 ^ 31 by omega), e8, nI_add, hi, ni_cl (show b + 8 + k < 2 ^ 31 by omega), hS.2 k (by omega), hl, nI_1, false_implies, true_implies, not_true_eq_false, not_false_eq_true, true_and, and_true, true_or, or_true, false_or, or_false, false_and, and_false, implies_true, nw_psh_s, nw_psh_n, ni_10, ni_00]
    refine ih (k + 1) _ (by omega) ⟨fun c hc => ?_, fun w hw => ?_⟩ (nm_fr_tr hf (nm_fr_tr (nm_lv_fr T _ (by omega) m1) (nm_fr_up _ _ (by omega) (by omega)))) ?_
    · rw [nw_up_at, if_neg (by omega)]
      exact nm_lv_V hS.1 c hc
    · rw [nw_up_at]
      show _ = nI (nf_up (nt_bt T σ k).2 k _ w)
      by_cases hwk : w = k
      · rw [if_pos ⟨rfl, by omega⟩]
        simp only [nf_up, if_pos hwk]
      · rw [if_neg (by omega), nm_lv_hi (by omega) (by omega)]
        simp only [nf_up, if_neg hwk]
        exact hS.2 w hw
    · rw [nw_up_at, if_neg (by omega), nm_lv_hi (by omega) (by omega)]
      exact hg
theorem m_beat {T : nt_T} (hT : nt_ok T) {mem : nw_M} (hm : nm_T T mem) {b : Nat} (hb : b + 13 < 70) {σ : nt_S} (hok : nt_sok T σ) (hS : nm_S T b σ mem) (d : Nat) (Q : nw_K) (hQ : ∀ mem', nm_S T b (nt_b1 T σ) mem' → nm_fr b mem mem' → mem' 1 (b + 13) = mem 1 (b + 13) + 1 → Q none mem') : nw_Ex (d + 4) nw_shM 125 [.ref 0, .int (nI b)] mem Q := by
  simp only [e125, s125_0, s125_1, s125_3, s125_4, s125_7, s125_10, s125_11, s125_14, s125_15, s125_17, s125_18, s125_19, s125_20, s125_21, s125_22, s125_23, s125_26, s125_27, s125_29, s125_30, s125_31, s125_32, s125_33, s125_36, s125_37, s125_40, s125_43, s125_44, s125_47, s125_48, s125_50, s125_51, s125_52, s125_53, s125_54, s125_55, s125_56]
  exact m_beat_loop hT hm hb hok d Q hQ (nt_m T) 0 mem (by omega) hS (nm_fr_rf b mem) rfl
/-- the row, copied -/
def nm_cp (a b n : Nat) (mem : nw_M) : nw_M := nw_row mem 1 (fun k => if b ≤ k ∧ k < b + n then mem 1 (a + (k - b)) else mem 1 k)
theorem nm_cp_at (a b n : Nat) (mem : nw_M) (c k : Nat) : nm_cp a b n mem c k = if c = 1 ∧ b ≤ k ∧ k < b + n then mem 1 (a + (k - b)) else mem c k := by
  unfold nm_cp nw_row
  by_cases h : c = 1
  · subst h
    by_cases h2 : b ≤ k ∧ k < b + n
    · simp [h2]
    · simp [h2]
  · simp [h]
theorem nm_cp_s {a b n : Nat} {mem : nw_M} (hd : a + 14 ≤ b ∨ b + 14 ≤ a) (hn : n < 14) : nw_up (nm_cp a b n mem) 1 (b + n) (nm_cp a b n mem 1 (a + n)) = nm_cp a b (n + 1) mem := by
  funext c k
  rw [nw_up_at, nm_cp_at, nm_cp_at, nm_cp_at]
  by_cases h : c = 1 ∧ k = b + n
  · obtain ⟨rfl, rfl⟩ := h
    rw [if_pos ⟨rfl, rfl⟩, if_neg (by omega), if_pos (by omega), Nat.add_sub_cancel_left]
  · rw [if_neg h]
    by_cases h2 : c = 1 ∧ b ≤ k ∧ k < b + n
    · rw [if_pos h2, if_pos (by omega)]
    · rw [if_neg h2, if_neg (by omega)]
theorem m_copy_loop {a b : Nat} (ha : a < 5) (hb : b < 5) (hab : ¬ a = b) {mem : nw_M} (d : Nat) (Q : nw_K) (hQ : Q none (nm_cp (14 * a) (14 * b) 14 mem)) :
    ∀ j k, k + j = 14 → nw_Ev d nw_shM 98 Q 2 [some (.ref 0), some (.int (nI a)), some (.int (nI b)), some (.int (nI k))] [] (nm_cp (14 * a) (14 * b) k mem) := by
  intro j
  induction j with
  | zero =>
    intro k hk
    have hk' : k = 14 := by omega
    subst hk'
    rw [s98_2]
    simp only [e98, s98_0, s98_1, s98_3, s98_5, s98_8, s98_9, s98_12, s98_14, s98_15, s98_16, s98_17, s98_18, s98_19, s98_22, s98_24, s98_25, s98_26, s98_27, s98_28, s98_29, s98_30, s98_33, s98_36, show ((14 : Int32) ≤ nI 14) = True from eq_true (by decide), false_implies, true_implies, not_true_eq_false, not_false_eq_true, true_and, and_true, true_or, or_true, false_or, or_false, false_and, and_false, implies_true, nw_psh_s, nw_psh_n, ni_10, ni_00]
    exact hQ
  | succ j ih =>
    intro k hk
    have e1 : (14 : Int32) * nI a = nI (14 * a) := pk_mul 14 a
    have e2 : (14 : Int32) * nI b = nI (14 * b) := pk_mul 14 b
    have hi1 : vp_in (nI (14 * a + k)) 70 := vp_in_nI (by omega) (by decide)
    have hi2 : vp_in (nI (14 * b + k)) 70 := vp_in_nI (by omega) (by decide)
    rw [s98_2]
    simp only [e98, s98_0, s98_1, s98_3, s98_5, s98_8, s98_9, s98_12, s98_14, s98_15, s98_16, s98_17, s98_18, s98_19, s98_22, s98_24, s98_25, s98_26, s98_27, s98_28, s98_29, s98_30, s98_33, s98_36, show ((14 : Int32) ≤ nI k) = False from ni_le_f (a := 14) (by omega) (by decide), e1, e2, nI_add, hi1, hi2, ni_cl (show 14 * a + k < 2 ^ 31 by omega), ni_cl (show 14 * b + k < 2 ^ 31 by omega), nI_1, nm_cp_s (a := 14 * a) (b := 14 * b) (n := k) (mem := mem) (by omega) (by omega), false_implies, true_implies, not_true_eq_false, not_false_eq_true, true_and, and_true, true_or, or_true, false_or, or_false, false_and, and_false, implies_true, nw_psh_s, nw_psh_n, ni_10, ni_00]
    exact ih (k + 1) (by omega)
theorem nm_cp_0 (a b : Nat) (mem : nw_M) : nm_cp a b 0 mem = mem := by
  funext c k
  rw [nm_cp_at, if_neg (by omega)]
theorem m_copy {a b : Nat} (ha : a < 5) (hb : b < 5) (hab : ¬ a = b) {mem : nw_M} (d : Nat) (Q : nw_K) (hQ : Q none (nm_cp (14 * a) (14 * b) 14 mem)) : nw_Ex (d + 1) nw_shM 98 [.ref 0, .int (nI a), .int (nI b)] mem Q := by
  simp only [e98, s98_0, s98_1, s98_3, s98_5, s98_8, s98_9, s98_12, s98_14, s98_15, s98_16, s98_17, s98_18, s98_19, s98_22, s98_24, s98_25, s98_26, s98_27, s98_28, s98_29, s98_30, s98_33, s98_36]
  have h := m_copy_loop ha hb hab d Q hQ 14 0 (by omega)
  rw [nm_cp_0] at h
  exact h
theorem nm_cp_fr (a b : Nat) (mem : nw_M) : nm_fr b mem (nm_cp a b 14 mem) := fun c k h => by rw [nm_cp_at, if_neg h]
theorem nm_cp_S {T : nt_T} (hT : nt_ok T) {a b : Nat} {σ : nt_S} {mem : nw_M} (h : nm_S T a σ mem) : nm_S T b σ (nm_cp a b 14 mem) := by
  have h5 := hT.2.2.1
  refine ⟨fun c hc => ?_, fun w hw => ?_⟩
  · rw [nm_cp_at, if_pos (by omega), Nat.add_sub_cancel_left]
    exact h.1 c hc
  · rw [nm_cp_at, if_pos (by omega), show a + (b + 8 + w - b) = a + 8 + w by omega]
    exact h.2 w hw
