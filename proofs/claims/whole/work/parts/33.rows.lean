/-! ROWS OF VANES, and their numbers -/
def nk_r (T : nt_T) (c : Nat) : Nat := if 0 < nt_w T c then nt_w T c else 1
def nk_p (T : nt_T) : Nat → Nat
  | 0 => 1
  | c + 1 => nk_p T c * nk_r T c
def nk_n (T : nt_T) (v : Nat → Nat) : Nat → Nat
  | 0 => 0
  | c + 1 => nk_n T v c * nk_r T c + v c
def nk_d (T : nt_T) (N : Nat) : Nat → Nat
  | 0 => N
  | m + 1 => nk_d T N m / nk_r T (nt_n T - 1 - m)
def nk_v (T : nt_T) (N c : Nat) : Nat := if 0 < nt_w T c then nk_d T N (nt_n T - 1 - c) % nt_w T c else 0
theorem nk_r_pos (T : nt_T) (c : Nat) : 0 < nk_r T c := by unfold nk_r; split <;> omega
theorem nk_r_le {T : nt_T} (hT : nt_ok T) (c : Nat) : nk_r T c ≤ 4 := by
  have := (hT.2.2.2 c).2.1
  unfold nk_r; split <;> omega
theorem nk_p_pos (T : nt_T) : ∀ k, 0 < nk_p T k
  | 0 => Nat.one_pos
  | k + 1 => Nat.mul_pos (nk_p_pos T k) (nk_r_pos T k)
theorem nk_p_le {T : nt_T} (hT : nt_ok T) : ∀ k, nk_p T k ≤ 4 ^ k
  | 0 => Nat.le_refl 1
  | k + 1 => by
    rw [Nat.pow_succ]
    exact Nat.mul_le_mul (nk_p_le hT k) (nk_r_le hT k)
theorem nk_p_big {T : nt_T} (hT : nt_ok T) {k : Nat} (hk : k ≤ 8) : nk_p T k ≤ 65536 := by
  have h1 := nk_p_le hT k
  have h2 : 4 ^ k ≤ 4 ^ 8 := Nat.pow_le_pow_right (by decide) hk
  have h3 : (4 : Nat) ^ 8 = 65536 := by decide
  omega
theorem nk_d_le (T : nt_T) (N : Nat) : ∀ m, nk_d T N m ≤ N
  | 0 => Nat.le_refl N
  | m + 1 => Nat.le_trans (Nat.div_le_self _ _) (nk_d_le T N m)
theorem nk_v_ok (T : nt_T) (N : Nat) : nt_vok T (nk_v T N) := by
  intro c
  refine ⟨fun h => ?_, fun h => ?_⟩
  · unfold nk_v; rw [if_pos h]; exact Nat.mod_lt _ h
  · unfold nk_v; rw [if_neg (by omega)]
theorem nk_vr {T : nt_T} {v : Nat → Nat} (hv : nt_vok T v) (c : Nat) : v c < nk_r T c := by
  unfold nk_r
  split
  · rename_i h; exact (hv c).1 h
  · rename_i h; rw [(hv c).2 (by omega)]; exact Nat.one_pos
theorem nk_n_lt {T : nt_T} {v : Nat → Nat} (hv : nt_vok T v) : ∀ k, nk_n T v k < nk_p T k
  | 0 => Nat.one_pos
  | k + 1 => by
    have h1 := nk_n_lt hv k
    have h2 := nk_vr hv k
    show nk_n T v k * nk_r T k + v k < nk_p T k * nk_r T k
    have h3 := Nat.mul_le_mul_right (nk_r T k) h1
    rw [Nat.succ_mul] at h3
    omega
theorem nk_dn {T : nt_T} {v : Nat → Nat} (hv : nt_vok T v) : ∀ m, m ≤ nt_n T → nk_d T (nk_n T v (nt_n T)) m = nk_n T v (nt_n T - m)
  | 0, _ => rfl
  | m + 1, h => by
    show nk_d T (nk_n T v (nt_n T)) m / nk_r T (nt_n T - 1 - m) = _
    rw [nk_dn hv m (by omega), show nt_n T - m = (nt_n T - 1 - m) + 1 by omega]
    show (nk_n T v (nt_n T - 1 - m) * nk_r T (nt_n T - 1 - m) + v (nt_n T - 1 - m)) / nk_r T (nt_n T - 1 - m) = _
    rw [Nat.add_comm, Nat.add_mul_div_right _ _ (nk_r_pos T _), Nat.div_eq_of_lt (nk_vr hv _), Nat.zero_add, show nt_n T - 1 - m = nt_n T - (m + 1) by omega]
theorem nk_vn {T : nt_T} (hT : nt_ok T) {v : Nat → Nat} (hv : nt_vok T v) : nk_v T (nk_n T v (nt_n T)) = v := by
  funext c
  unfold nk_v
  by_cases h : 0 < nt_w T c
  · have hc : c < nt_n T := by
      rcases Nat.lt_or_ge c (nt_n T) with q | q
      · exact q
      · have := (hT.2.2.2 c).2.2.1 q
        omega
    rw [if_pos h, nk_dn hv _ (by omega), show nt_n T - (nt_n T - 1 - c) = c + 1 by omega]
    show (nk_n T v c * nk_r T c + v c) % nt_w T c = v c
    have hr : nk_r T c = nt_w T c := if_pos h
    rw [hr, Nat.add_comm, Nat.add_mul_mod_self_right, Nat.mod_eq_of_lt ((hv c).1 h)]
  · rw [if_neg h, (hv c).2 (by omega)]
theorem nk_d_lt {T : nt_T} {N : Nat} (hN : N < nk_p T (nt_n T)) : ∀ m, m ≤ nt_n T → nk_d T N m < nk_p T (nt_n T - m)
  | 0, _ => hN
  | m + 1, h => by
    have h1 := nk_d_lt hN m (by omega)
    rw [show nt_n T - m = (nt_n T - 1 - m) + 1 by omega] at h1
    have h1' : nk_d T N m < nk_p T (nt_n T - 1 - m) * nk_r T (nt_n T - 1 - m) := h1
    show nk_d T N m / nk_r T (nt_n T - 1 - m) < _
    rw [show nt_n T - (m + 1) = nt_n T - 1 - m by omega]
    exact (Nat.div_lt_iff_lt_mul (nk_r_pos T _)).mpr h1'
theorem nk_nd {T : nt_T} {N : Nat} (hN : N < nk_p T (nt_n T)) : ∀ c, c ≤ nt_n T → nk_n T (nk_v T N) c = nk_d T N (nt_n T - c)
  | 0, _ => by
    have h := nk_d_lt hN (nt_n T) (Nat.le_refl _)
    rw [Nat.sub_self] at h
    have h' : nk_d T N (nt_n T) < 1 := h
    show 0 = _
    rw [Nat.sub_zero]
    omega
  | c + 1, h => by
    show nk_n T (nk_v T N) c * nk_r T c + nk_v T N c = _
    rw [nk_nd hN c (by omega), show nt_n T - c = (nt_n T - 1 - c) + 1 by omega, show nt_n T - (c + 1) = nt_n T - 1 - c by omega]
    show nk_d T N (nt_n T - 1 - c) / nk_r T (nt_n T - 1 - (nt_n T - 1 - c)) * nk_r T c + nk_v T N c = _
    rw [show nt_n T - 1 - (nt_n T - 1 - c) = c by omega]
    unfold nk_v
    by_cases hw : 0 < nt_w T c
    · have hr : nk_r T c = nt_w T c := if_pos hw
      rw [if_pos hw, hr, Nat.mul_comm]
      exact Nat.div_add_mod _ _
    · have hr : nk_r T c = 1 := if_neg hw
      rw [if_neg hw, hr, Nat.div_one, Nat.mul_one, Nat.add_zero]
theorem nk_nv {T : nt_T} {N : Nat} (hN : N < nk_p T (nt_n T)) : nk_n T (nk_v T N) (nt_n T) = N := by
  rw [nk_nd hN _ (Nat.le_refl _), Nat.sub_self]
  rfl
/-! the reference -/
theorem m_rows_loop {T : nt_T} (hT : nt_ok T) {mem : nw_M} (hm : nm_T T mem) (d : Nat) (Q : nw_K) :
    ∀ j k, k + j = nt_n T → nw_Ev d nw_shM 139 Q 4 [some (.ref 0), some (.int (nI (nk_p T k))), some (.int (nI k))] [] mem = Q (some (.int (nI (nk_p T (nt_n T))))) mem := by
  have h8 := hT.2.1
  intro j
  induction j with
  | zero =>
    intro k hk
    have hk' : k = nt_n T := by omega
    subst hk'
    rw [s139_4]
    simp only [e139, s139_0, s139_1, s139_2, s139_3, s139_5, s139_6, s139_9, s139_12, s139_13, s139_14, s139_17, s139_18, s139_19, s139_22, s139_23, s139_26, s139_27, s139_28, s139_31, s139_32, s139_33, s139_34, s139_37, s139_40, s139_41, hm.1, ni_le_t (Nat.le_refl (nt_n T)) (show nt_n T < 2 ^ 31 by omega), false_implies, true_implies, not_true_eq_false, not_false_eq_true, true_and, and_true, true_or, or_true, false_or, or_false, false_and, and_false, implies_true, nw_psh_s, nw_psh_n, ni_10, ni_00]
  | succ j ih =>
    intro k hk
    have hi : vp_in (nI k) 8 := vp_in_nI (by omega) (by decide)
    have h4 := (hT.2.2.2 k).2.1
    have hh := ih (k + 1) (by omega)
    have hp : nI (nk_p T k) * nI (nk_r T k) = nI (nk_p T (k + 1)) := pk_mul _ _
    rw [s139_4]
    by_cases hw : 0 < nt_w T k
    · have hr : nk_r T k = nt_w T k := if_pos hw
      rw [hr] at hp
      simp only [e139, s139_0, s139_1, s139_2, s139_3, s139_5, s139_6, s139_9, s139_12, s139_13, s139_14, s139_17, s139_18, s139_19, s139_22, s139_23, s139_26, s139_27, s139_28, s139_31, s139_32, s139_33, s139_34, s139_37, s139_40, s139_41, hm.1, ni_le_f (show k < nt_n T by omega) (show nt_n T < 2 ^ 31 by omega), hi, ni_cl (show k < 2 ^ 31 by omega), hm.2.2.2.1 k (by omega), show (nI (nt_w T k) ≤ 0) = False from ni_le_f (b := 0) hw (by omega), hp, nI_1, false_implies, true_implies, not_true_eq_false, not_false_eq_true, true_and, and_true, true_or, or_true, false_or, or_false, false_and, and_false, implies_true, nw_psh_s, nw_psh_n, ni_10, ni_00]
      exact hh
    · have hr : nk_r T k = 1 := if_neg hw
      have h0 : nt_w T k = 0 := by omega
      rw [hr] at hp
      simp only [e139, s139_0, s139_1, s139_2, s139_3, s139_5, s139_6, s139_9, s139_12, s139_13, s139_14, s139_17, s139_18, s139_19, s139_22, s139_23, s139_26, s139_27, s139_28, s139_31, s139_32, s139_33, s139_34, s139_37, s139_40, s139_41, hm.1, ni_le_f (show k < nt_n T by omega) (show nt_n T < 2 ^ 31 by omega), hi, ni_cl (show k < 2 ^ 31 by omega), hm.2.2.2.1 k (by omega), h0, show (nI 0 ≤ 0) = True from eq_true (by decide), show (1 : Int32) = nI 1 from rfl, hp, nI_add, false_implies, true_implies, not_true_eq_false, not_false_eq_true, true_and, and_true, true_or, or_true, false_or, or_false, false_and, and_false, implies_true, nw_psh_s, nw_psh_n, ni_10, ni_00]
      exact hh
theorem m_rows {T : nt_T} (hT : nt_ok T) {mem : nw_M} (hm : nm_T T mem) (d : Nat) (Q : nw_K) : nw_Ex (d + 1) nw_shM 139 [.ref 0] mem Q = Q (some (.int (nI (nk_p T (nt_n T))))) mem := by
  simp only [e139, s139_0, s139_1, s139_2, s139_3, s139_5, s139_6, s139_9, s139_12, s139_13, s139_14, s139_17, s139_18, s139_19, s139_22, s139_23, s139_26, s139_27, s139_28, s139_31, s139_32, s139_33, s139_34, s139_37, s139_40, s139_41, false_implies, true_implies, not_true_eq_false, not_false_eq_true, true_and, and_true, true_or, or_true, false_or, or_false, false_and, and_false, implies_true, nw_psh_s, nw_psh_n, ni_10, ni_00]
  exact m_rows_loop hT hm d Q (nt_n T) 0 (by omega)
theorem m_vaneIn_loop {T : nt_T} (hT : nt_ok T) {mem : nw_M} (hm : nm_T T mem) (d : Nat) (Q : nw_K) {N c : Nat} (hN : N < 2 ^ 30) (hc : c < nt_n T) :
    ∀ j m, m + j = nt_n T - 1 - c → nw_Ev d nw_shM 138 Q 10 [some (.ref 0), some (.int (nI N)), some (.int (nI c)), some (.int (nI (nk_d T N m))), some (.int (nI (nt_n T - 1 - m)))] [] mem = Q (some (.int (nI (nk_v T N c)))) mem := by
  have h8 := hT.2.1
  intro j
  induction j with
  | zero =>
    intro m hm0
    have hk : nt_n T - 1 - m = c := by omega
    have hm' : m = nt_n T - 1 - c := by omega
    have hi : vp_in (nI c) 8 := vp_in_nI (by omega) (by decide)
    have h4 := (hT.2.2.2 c).2.1
    have hd := nk_d_le T N m
    unfold nk_v
    rw [hk, s138_10]
    by_cases hw : 0 < nt_w T c
    · have hrm := pk_rem (a := nk_d T N m) (d := nt_w T c) (by omega) hw (by omega)
      rw [if_pos hw, ← hm']
      simp only [e138, s138_0, s138_1, s138_2, s138_3, s138_6, s138_7, s138_8, s138_12, s138_13, s138_16, s138_17, s138_18, s138_21, s138_23, s138_24, s138_27, s138_28, s138_31, s138_33, s138_34, s138_37, s138_38, s138_39, s138_40, s138_43, s138_46, s138_47, s138_50, s138_51, s138_52, s138_55, s138_56, s138_57, s138_60, s138_61, s138_62, s138_63, s138_66, s138_67, ni_le_t (Nat.le_refl c) (show c < 2 ^ 31 by omega), hi, ni_cl (show c < 2 ^ 31 by omega), hm.2.2.2.1 c (by omega), show (nI (nt_w T c) ≤ 0) = False from ni_le_f (b := 0) hw (by omega), ni_ne0 hw (show nt_w T c < 2 ^ 31 by omega), hrm, false_implies, true_implies, not_true_eq_false, not_false_eq_true, true_and, and_true, true_or, or_true, false_or, or_false, false_and, and_false, implies_true, nw_psh_s, nw_psh_n, ni_10, ni_00]
    · have h0 : nt_w T c = 0 := by omega
      rw [if_neg hw]
      simp only [e138, s138_0, s138_1, s138_2, s138_3, s138_6, s138_7, s138_8, s138_12, s138_13, s138_16, s138_17, s138_18, s138_21, s138_23, s138_24, s138_27, s138_28, s138_31, s138_33, s138_34, s138_37, s138_38, s138_39, s138_40, s138_43, s138_46, s138_47, s138_50, s138_51, s138_52, s138_55, s138_56, s138_57, s138_60, s138_61, s138_62, s138_63, s138_66, s138_67, ni_le_t (Nat.le_refl c) (show c < 2 ^ 31 by omega), hi, ni_cl (show c < 2 ^ 31 by omega), hm.2.2.2.1 c (by omega), h0, show (nI 0 ≤ 0) = True from eq_true (by decide), false_implies, true_implies, not_true_eq_false, not_false_eq_true, true_and, and_true, true_or, or_true, false_or, or_false, false_and, and_false, implies_true, nw_psh_s, nw_psh_n, ni_10, ni_00]
      rfl
  | succ j ih =>
    intro m hm0
    have hh := ih (m + 1) (by omega)
    have hi : vp_in (nI (nt_n T - 1 - m)) 8 := vp_in_nI (by omega) (by decide)
    have h4 := (hT.2.2.2 (nt_n T - 1 - m)).2.1
    have hd := nk_d_le T N m
    have hdv := pk_div (a := nk_d T N m) (d := nk_r T (nt_n T - 1 - m)) (by omega) (nk_r_pos T _) (by have := nk_r_le hT (nt_n T - 1 - m); omega)
    have em : nI (nt_n T - 1 - m) + -1 = nI (nt_n T - 1 - (m + 1)) := by
      have := pk_m1 (nt_n T - 1 - (m + 1))
      rwa [show nt_n T - 1 - (m + 1) + 1 = nt_n T - 1 - m by omega] at this
    have hdv' : nI (nk_d T N m) / nI (nk_r T (nt_n T - 1 - m)) = nI (nk_d T N (m + 1)) := hdv
    rw [s138_10]
    by_cases hw : 0 < nt_w T (nt_n T - 1 - m)
    · have hr : nk_r T (nt_n T - 1 - m) = nt_w T (nt_n T - 1 - m) := if_pos hw
      rw [hr] at hdv'
      simp only [e138, s138_0, s138_1, s138_2, s138_3, s138_6, s138_7, s138_8, s138_12, s138_13, s138_16, s138_17, s138_18, s138_21, s138_23, s138_24, s138_27, s138_28, s138_31, s138_33, s138_34, s138_37, s138_38, s138_39, s138_40, s138_43, s138_46, s138_47, s138_50, s138_51, s138_52, s138_55, s138_56, s138_57, s138_60, s138_61, s138_62, s138_63, s138_66, s138_67, ni_le_f (show c < nt_n T - 1 - m by omega) (show nt_n T - 1 - m < 2 ^ 31 by omega), hi, ni_cl (show nt_n T - 1 - m < 2 ^ 31 by omega), hm.2.2.2.1 (nt_n T - 1 - m) (by omega), show (nI (nt_w T (nt_n T - 1 - m)) ≤ 0) = False from ni_le_f (b := 0) hw (by omega), ni_ne0 hw (show nt_w T (nt_n T - 1 - m) < 2 ^ 31 by omega), hdv', em, false_implies, true_implies, not_true_eq_false, not_false_eq_true, true_and, and_true, true_or, or_true, false_or, or_false, false_and, and_false, implies_true, nw_psh_s, nw_psh_n, ni_10, ni_00]
      exact hh
    · have hr : nk_r T (nt_n T - 1 - m) = 1 := if_neg hw
      have h0 : nt_w T (nt_n T - 1 - m) = 0 := by omega
      rw [hr] at hdv'
      have hdv2 : nI (nk_d T N m) / 1 = nI (nk_d T N (m + 1)) := hdv'
      simp only [e138, s138_0, s138_1, s138_2, s138_3, s138_6, s138_7, s138_8, s138_12, s138_13, s138_16, s138_17, s138_18, s138_21, s138_23, s138_24, s138_27, s138_28, s138_31, s138_33, s138_34, s138_37, s138_38, s138_39, s138_40, s138_43, s138_46, s138_47, s138_50, s138_51, s138_52, s138_55, s138_56, s138_57, s138_60, s138_61, s138_62, s138_63, s138_66, s138_67, ni_le_f (show c < nt_n T - 1 - m by omega) (show nt_n T - 1 - m < 2 ^ 31 by omega), hi, ni_cl (show nt_n T - 1 - m < 2 ^ 31 by omega), hm.2.2.2.1 (nt_n T - 1 - m) (by omega), h0, show (nI 0 ≤ 0) = True from eq_true (by decide), show ¬ (1 : Int32) = 0 from by decide, hdv2, em, false_implies, true_implies, not_true_eq_false, not_false_eq_true, true_and, and_true, true_or, or_true, false_or, or_false, false_and, and_false, implies_true, nw_psh_s, nw_psh_n, ni_10, ni_00]
      exact hh
theorem m_vaneIn {T : nt_T} (hT : nt_ok T) {mem : nw_M} (hm : nm_T T mem) (d : Nat) (Q : nw_K) {N c : Nat} (hN : N < 2 ^ 30) (hc : c < nt_n T) : nw_Ex (d + 1) nw_shM 138 [.ref 0, .int (nI N), .int (nI c)] mem Q = Q (some (.int (nI (nk_v T N c)))) mem := by
  simp only [e138, s138_0, s138_1, s138_2, s138_3, s138_6, s138_7, s138_8, s138_12, s138_13, s138_16, s138_17, s138_18, s138_21, s138_23, s138_24, s138_27, s138_28, s138_31, s138_33, s138_34, s138_37, s138_38, s138_39, s138_40, s138_43, s138_46, s138_47, s138_50, s138_51, s138_52, s138_55, s138_56, s138_57, s138_60, s138_61, s138_62, s138_63, s138_66, s138_67, hm.1, ni_m1 (show 0 < nt_n T by omega), false_implies, true_implies, not_true_eq_false, not_false_eq_true, true_and, and_true, true_or, or_true, false_or, or_false, false_and, and_false, implies_true, nw_psh_s, nw_psh_n, ni_10, ni_00]
  exact m_vaneIn_loop hT hm d Q hN hc (nt_n T - 1 - c) 0 (by omega)
/-- vanes of corners that are, in what is tried -/
def nm_tn (T : nt_T) (mm : nw_M) (v : Nat → Nat) (m1 : nw_M) : Prop := nm_sc mm m1 ∧ ∀ c, c < nt_n T → m1 1 (42 + c) = nI (v c)
theorem m_leaveN {T : nt_T} (hT : nt_ok T) {mm : nw_M} (hm : nm_T T mm) {v : Nat → Nat} (hvo : nt_vok T v) {m1 : nw_M} (h : nm_tn T mm v m1) (d : Nat) (Q : nw_K) {c : Nat} (hc : c < nt_n T) (hQ : ∀ m2, nm_tn T mm (nt_lv T v c).1 m2 → Q (some (.int (nI (nt_lv T v c).2))) m2) : nw_Ex (d + 3) nw_shM 124 [.ref 0, .int 42, .int (nI c)] m1 Q := by
  have h8 := hT.2.1
  have hm1 := nm_T_sc hm h.1
  have hl := fun Q' => m_isLeft hT hm1 (d + 1) Q' (c := c) (by omega)
  unfold nt_lv at hQ
  by_cases hlf : nt_left T c = true
  · rw [if_pos hlf] at hQ
    have hw0 := nt_left_w hlf
    have h4 := (hT.2.2.2 c).2.1
    have hvc := (hvo c).1 hw0
    have hi : vp_in (nI c) 8 := vp_in_nI (by omega) (by decide)
    have hi2 : vp_in (nI (42 + c)) 70 := vp_in_nI (by omega) (by decide)
    have hlt := nt_nv_lt (x := v c) hw0
    have hi3 : vp_in (nI (4 * c + nt_nv T c (v c))) 32 := vp_in_nI (by omega) (by decide)
    have he := hm1.2.2.2.2 c (by omega) _ hlt
    have hw := hm1.2.2.2.1 c (by omega)
    have e4 : (4 : Int32) * nI c = nI (4 * c) := pk_mul 4 c
    have e42 : (42 : Int32) + nI c = nI (42 + c) := nI_add 42 c
    have ht := fun Q' => m_turns hT hm1 (d + 0) Q' (c := c) (by omega) hw0
    have hle : nt_tn T c ≤ 4 := by unfold nt_tn; split <;> (try split) <;> omega
    have hr := pk_rem (a := v c + nt_tn T c) (d := nt_w T c) (by omega) hw0 (by omega)
    have hnx : ∀ Q' : nw_K, nw_Ex (d + 2) nw_shM 118 [.ref 0, .int 42, .int (nI c)] m1 Q' = Q' (some (.int (nI (nt_nv T c (v c))))) m1 := by
      intro Q'
      simp only [e118, s118_0, s118_1, s118_4, s118_5, s118_6, s118_7, s118_8, s118_9, s118_10, s118_13, s118_14, s118_15, s118_18, s118_19, s118_20, s118_21, e42, nI_add, hi, hi2, ni_cl (show c < 2 ^ 31 by omega), ni_cl (show 42 + c < 2 ^ 31 by omega), h.2 c hc, ht, hw, hr, ni_ne0 hw0 (show nt_w T c < 2 ^ 31 by omega), false_implies, true_implies, not_true_eq_false, not_false_eq_true, true_and, and_true, true_or, or_true, false_or, or_false, false_and, and_false, implies_true, nw_psh_s, nw_psh_n, ni_10, ni_00]
      rfl
    simp only [e124, s124_0, s124_1, s124_2, s124_5, s124_8, s124_9, s124_10, s124_11, s124_14, s124_15, s124_16, s124_17, s124_18, s124_19, s124_20, s124_23, s124_24, s124_25, s124_28, s124_29, s124_30, s124_31, s124_32, s124_35, s124_36, s124_37, s124_38, s124_39, s124_40, s124_41, hl, hlf, hnx, e42, nI_add, e4, hi2, hi3, ni_cl (show 42 + c < 2 ^ 31 by omega), ni_cl (show 4 * c + nt_nv T c (v c) < 2 ^ 31 by omega), nw_up_at, he, if_true, if_false, and_self, show ((7 : Nat) = 1) = False from eq_false (by decide), false_implies, true_implies, not_true_eq_false, not_false_eq_true, true_and, and_true, true_or, or_true, false_or, or_false, false_and, and_false, implies_true, nw_psh_s, nw_psh_n, ni_10, ni_00]
    refine hQ _ ⟨nm_sc_tr h.1 (nm_sc_fr (nm_fr_up m1 _ (by omega) (by omega))), fun j hj => ?_⟩
    rw [nw_up_at]
    by_cases hjc : j = c
    · simp [nf_up, hjc]
    · rw [if_neg (by omega)]
      simp only [nf_up, if_neg hjc]
      exact h.2 j hj
  · rw [if_neg hlf] at hQ
    simp only [e124, s124_0, s124_1, s124_2, s124_5, s124_8, s124_9, s124_10, s124_11, s124_14, s124_15, s124_16, s124_17, s124_18, s124_19, s124_20, s124_23, s124_24, s124_25, s124_28, s124_29, s124_30, s124_31, s124_32, s124_35, s124_36, s124_37, s124_38, s124_39, s124_40, s124_41, hl, hlf, if_false, Bool.false_eq_true, false_implies, true_implies, not_true_eq_false, not_false_eq_true, true_and, and_true, true_or, or_true, false_or, or_false, false_and, and_false, implies_true, nw_psh_s, nw_psh_n, ni_10, ni_00]
    exact hQ m1 h
def nt_fa (T : nt_T) (to : Nat) : Nat → nq → Nat → Option Nat
  | 0, q, b => if q.2 = to then some b else none
  | j + 1, q, b => if q.2 = to then some b else nt_fa T to j (nt_lv T q.1 q.2) (b + 1)
theorem m_bb_in {T : nt_T} (hT : nt_ok T) {mm : nw_M} (hm : nm_T T mm) (d : Nat) (Q : nw_K) (a1 a2 : Int32) {to : Nat} (hto : to < nt_n T) :
    ∀ j b (q : nq) m1, b + j = 99 → nt_vok T q.1 → q.2 < nt_n T → nm_tn T mm q.1 m1 → (∀ m2, nm_sc mm m2 → Q (some (.int (nz_o (nt_fa T to j q b)))) m2) → nw_Ev (d + 3) nw_shM 140 Q 41 [some (.ref 0), some (.int a1), some (.int a2), some (.int (nI to)), some (.int (nI q.2)), some (.int (nI b))] [] m1 := by
  have h8 := hT.2.1
  intro j
  induction j with
  | zero =>
    intro b q m1 hb hvo hq h hQ
    have hb' : b = 99 := by omega
    subst hb'
    unfold nt_fa at hQ
    rw [s140_41]
    by_cases he : q.2 = to
    · rw [if_pos he] at hQ
      simp only [e140, s140_0, s140_1, s140_5, s140_6, s140_9, s140_12, s140_13, s140_16, s140_18, s140_20, s140_21, s140_22, s140_23, s140_25, s140_28, s140_29, s140_32, s140_35, s140_36, s140_38, s140_39, s140_43, s140_45, s140_48, s140_50, s140_51, s140_54, s140_55, s140_57, s140_59, s140_62, s140_64, s140_67, s140_70, s140_72, s140_73, s140_76, s140_78, s140_81, s140_82, show ((99 : Int32) ≤ nI 99) = True from eq_true (by decide), ni_eq_t he, false_implies, true_implies, not_true_eq_false, not_false_eq_true, true_and, and_true, true_or, or_true, false_or, or_false, false_and, and_false, implies_true, nw_psh_s, nw_psh_n, ni_10, ni_00]
      exact hQ m1 h.1
    · rw [if_neg he] at hQ
      simp only [e140, s140_0, s140_1, s140_5, s140_6, s140_9, s140_12, s140_13, s140_16, s140_18, s140_20, s140_21, s140_22, s140_23, s140_25, s140_28, s140_29, s140_32, s140_35, s140_36, s140_38, s140_39, s140_43, s140_45, s140_48, s140_50, s140_51, s140_54, s140_55, s140_57, s140_59, s140_62, s140_64, s140_67, s140_70, s140_72, s140_73, s140_76, s140_78, s140_81, s140_82, show ((99 : Int32) ≤ nI 99) = True from eq_true (by decide), ni_eq_f he (show q.2 < 2 ^ 31 by omega) (show to < 2 ^ 31 by omega), false_implies, true_implies, not_true_eq_false, not_false_eq_true, true_and, and_true, true_or, or_true, false_or, or_false, false_and, and_false, implies_true, nw_psh_s, nw_psh_n, ni_10, ni_00]
      exact hQ m1 h.1
  | succ j ih =>
    intro b q m1 hb hvo hq h hQ
    have hle : ((99 : Int32) ≤ nI b) = False := ni_le_f (a := 99) (by omega) (by decide)
    unfold nt_fa at hQ
    rw [s140_41]
    by_cases he : q.2 = to
    · rw [if_pos he] at hQ
      simp only [e140, s140_0, s140_1, s140_5, s140_6, s140_9, s140_12, s140_13, s140_16, s140_18, s140_20, s140_21, s140_22, s140_23, s140_25, s140_28, s140_29, s140_32, s140_35, s140_36, s140_38, s140_39, s140_43, s140_45, s140_48, s140_50, s140_51, s140_54, s140_55, s140_57, s140_59, s140_62, s140_64, s140_67, s140_70, s140_72, s140_73, s140_76, s140_78, s140_81, s140_82, hle, ni_eq_t he, false_implies, true_implies, not_true_eq_false, not_false_eq_true, true_and, and_true, true_or, or_true, false_or, or_false, false_and, and_false, implies_true, nw_psh_s, nw_psh_n, ni_10, ni_00]
      exact hQ m1 h.1
    · rw [if_neg he] at hQ
      simp only [e140, s140_0, s140_1, s140_5, s140_6, s140_9, s140_12, s140_13, s140_16, s140_18, s140_20, s140_21, s140_22, s140_23, s140_25, s140_28, s140_29, s140_32, s140_35, s140_36, s140_38, s140_39, s140_43, s140_45, s140_48, s140_50, s140_51, s140_54, s140_55, s140_57, s140_59, s140_62, s140_64, s140_67, s140_70, s140_72, s140_73, s140_76, s140_78, s140_81, s140_82, hle, ni_eq_f he (show q.2 < 2 ^ 31 by omega) (show to < 2 ^ 31 by omega), false_implies, true_implies, not_true_eq_false, not_false_eq_true, true_and, and_true, true_or, or_true, false_or, or_false, false_and, and_false, implies_true, nw_psh_s, nw_psh_n, ni_10, ni_00]
      refine m_leaveN hT hm hvo h d _ hq (fun m2 h2 => ?_)
      simp only [e140, s140_0, s140_1, s140_5, s140_6, s140_9, s140_12, s140_13, s140_16, s140_18, s140_20, s140_21, s140_22, s140_23, s140_25, s140_28, s140_29, s140_32, s140_35, s140_36, s140_38, s140_39, s140_43, s140_45, s140_48, s140_50, s140_51, s140_54, s140_55, s140_57, s140_59, s140_62, s140_64, s140_67, s140_70, s140_72, s140_73, s140_76, s140_78, s140_81, s140_82, nI_1, false_implies, true_implies, not_true_eq_false, not_false_eq_true, true_and, and_true, true_or, or_true, false_or, or_false, false_and, and_false, implies_true, nw_psh_s, nw_psh_n, ni_10, ni_00]
      obtain ⟨g1, g2⟩ := nt_lv_ok hT hvo hq
      exact ih (b + 1) _ m2 (by omega) g1 g2 h2 hQ
theorem m_beatsBy {T : nt_T} (hT : nt_ok T) {mm : nw_M} (hm : nm_T T mm) (d : Nat) (Q : nw_K) {N fr to : Nat} (hN : N < 2 ^ 30) (hfr : fr < nt_n T) (hto : to < nt_n T) {m1 : nw_M} (hs : nm_sc mm m1) (hQ : ∀ m2, nm_sc mm m2 → Q (some (.int (nz_o (nt_fa T to 99 (nk_v T N, fr) 0)))) m2) : nw_Ex (d + 4) nw_shM 140 [.ref 0, .int (nI N), .int (nI fr), .int (nI to)] m1 Q := by
  have h8 := hT.2.1
  have hlp : ∀ j k m1, k + j = nt_n T → nm_sc mm m1 → (∀ c, c < k → m1 1 (42 + c) = nI (nk_v T N c)) → nw_Ev (d + 3) nw_shM 140 Q 3 [some (.ref 0), some (.int (nI N)), some (.int (nI fr)), some (.int (nI to)), some (.int (nI k)), none] [] m1 := by
    intro j
    induction j with
    | zero =>
      intro k m1 hk hs hv
      have hk' : k = nt_n T := by omega
      subst hk'
      have hm1 := nm_T_sc hm hs
      rw [s140_3]
      simp only [e140, s140_0, s140_1, s140_5, s140_6, s140_9, s140_12, s140_13, s140_16, s140_18, s140_20, s140_21, s140_22, s140_23, s140_25, s140_28, s140_29, s140_32, s140_35, s140_36, s140_38, s140_39, s140_43, s140_45, s140_48, s140_50, s140_51, s140_54, s140_55, s140_57, s140_59, s140_62, s140_64, s140_67, s140_70, s140_72, s140_73, s140_76, s140_78, s140_81, s140_82, hm1.1, ni_le_t (Nat.le_refl (nt_n T)) (show nt_n T < 2 ^ 31 by omega), false_implies, true_implies, not_true_eq_false, not_false_eq_true, true_and, and_true, true_or, or_true, false_or, or_false, false_and, and_false, implies_true, nw_psh_s, nw_psh_n, ni_10, ni_00]
      exact m_bb_in hT hm d Q _ _ hto 99 0 (nk_v T N, fr) m1 (by omega) (nk_v_ok T N) hfr ⟨hs, hv⟩ hQ
    | succ j ih =>
      intro k m1 hk hs hv
      have hm1 := nm_T_sc hm hs
      have e42 : (42 : Int32) + nI k = nI (42 + k) := nI_add 42 k
      have hi2 : vp_in (nI (42 + k)) 70 := vp_in_nI (by omega) (by decide)
      have hvi := fun Q' => m_vaneIn hT hm1 (d + 2) Q' hN (c := k) (by omega)
      rw [s140_3]
      simp only [e140, s140_0, s140_1, s140_5, s140_6, s140_9, s140_12, s140_13, s140_16, s140_18, s140_20, s140_21, s140_22, s140_23, s140_25, s140_28, s140_29, s140_32, s140_35, s140_36, s140_38, s140_39, s140_43, s140_45, s140_48, s140_50, s140_51, s140_54, s140_55, s140_57, s140_59, s140_62, s140_64, s140_67, s140_70, s140_72, s140_73, s140_76, s140_78, s140_81, s140_82, hm1.1, ni_le_f (show k < nt_n T by omega) (show nt_n T < 2 ^ 31 by omega), e42, hi2, hvi, ni_cl (show 42 + k < 2 ^ 31 by omega), nI_1, false_implies, true_implies, not_true_eq_false, not_false_eq_true, true_and, and_true, true_or, or_true, false_or, or_false, false_and, and_false, implies_true, nw_psh_s, nw_psh_n, ni_10, ni_00]
      refine ih (k + 1) _ (by omega) (nm_sc_tr hs (nm_sc_fr (nm_fr_up m1 _ (by omega) (by omega)))) (fun c hc => ?_)
      rw [nw_up_at]
      by_cases q : c = k
      · rw [if_pos ⟨rfl, by omega⟩, q]
      · rw [if_neg (by omega)]
        exact hv c (by omega)
  simp only [e140, s140_0, s140_1, s140_5, s140_6, s140_9, s140_12, s140_13, s140_16, s140_18, s140_20, s140_21, s140_22, s140_23, s140_25, s140_28, s140_29, s140_32, s140_35, s140_36, s140_38, s140_39, s140_43, s140_45, s140_48, s140_50, s140_51, s140_54, s140_55, s140_57, s140_59, s140_62, s140_64, s140_67, s140_70, s140_72, s140_73, s140_76, s140_78, s140_81, s140_82, false_implies, true_implies, not_true_eq_false, not_false_eq_true, true_and, and_true, true_or, or_true, false_or, or_false, false_and, and_false, implies_true, nw_psh_s, nw_psh_n, ni_10, ni_00]
  exact hlp (nt_n T) 0 m1 (by omega) hs (fun c hc => by omega)
