/-! COUNT, WRITE -/
def nt_sum (T : nt_T) : Nat → Nat
  | 0 => 0
  | k + 1 => nt_sum T k + nt_w T k
def nt_stay (T : nt_T) : Nat → Int32
  | 0 => 0
  | k + 1 => if nt_left T k then nt_stay T k else nt_stay T k ||| ((1 : Int32) <<< (nI k &&& 31))
theorem x_allWays_loop {T : nt_T} (hT : nt_ok T) {mem : nw_M} (hm : nx_T 4 T mem) (d : Nat) (Q : nw_K) (hQ : Q (some (.int (nI (nt_sum T (nt_n T))))) mem) :
    ∀ j k, k + j = nt_n T → nw_Ev (d + 1) nw_shX 19 Q 4 [some (.ref 4), some (.int (nI (nt_sum T k))), some (.int (nI k))] [] mem := by
  have h8 := hT.2.1
  intro j
  induction j with
  | zero =>
    intro k hk
    have hk' : k = nt_n T := by omega
    subst hk'
    rw [s19_4]
    simp only [e19, s19_0, s19_1, s19_2, s19_3, s19_5, s19_6, s19_9, s19_12, s19_13, s19_14, s19_15, s19_18, s19_19, s19_20, s19_23, s19_26, s19_27, hm.1, ni_le_t (Nat.le_refl (nt_n T)) (show nt_n T < 2 ^ 31 by omega), false_implies, true_implies, not_true_eq_false, not_false_eq_true, true_and, and_true, true_or, or_true, false_or, or_false, false_and, and_false, implies_true, nw_psh_s, nw_psh_n, ni_10, ni_00]
    exact hQ
  | succ j ih =>
    intro k hk
    rw [s19_4]
    simp only [e19, s19_0, s19_1, s19_2, s19_3, s19_5, s19_6, s19_9, s19_12, s19_13, s19_14, s19_15, s19_18, s19_19, s19_20, s19_23, s19_26, s19_27, hm.1, ni_le_f (show k < nt_n T by omega) (show nt_n T < 2 ^ 31 by omega), x_waysOf (Or.inl rfl) hm d _ (show k < 8 by omega), nI_1, nI_add, false_implies, true_implies, not_true_eq_false, not_false_eq_true, true_and, and_true, true_or, or_true, false_or, or_false, false_and, and_false, implies_true, nw_psh_s, nw_psh_n, ni_10, ni_00]
    exact ih (k + 1) (by omega)
theorem x_never_loop {T : nt_T} (hT : nt_ok T) {mem : nw_M} (hm : nx_T 4 T mem) (d : Nat) (Q : nw_K) (hQ : Q (some (.int (nt_stay T (nt_n T)))) mem) :
    ∀ j k, k + j = nt_n T → nw_Ev (d + 2) nw_shX 21 Q 4 [some (.ref 4), some (.int (nt_stay T k)), some (.int (nI k))] [] mem := by
  have h8 := hT.2.1
  intro j
  induction j with
  | zero =>
    intro k hk
    have hk' : k = nt_n T := by omega
    subst hk'
    rw [s21_4]
    simp only [e21, s21_0, s21_1, s21_2, s21_3, s21_5, s21_6, s21_9, s21_12, s21_13, s21_14, s21_17, s21_20, s21_21, s21_22, s21_23, s21_24, s21_25, s21_26, s21_29, s21_32, s21_33, hm.1, ni_le_t (Nat.le_refl (nt_n T)) (show nt_n T < 2 ^ 31 by omega), false_implies, true_implies, not_true_eq_false, not_false_eq_true, true_and, and_true, true_or, or_true, false_or, or_false, false_and, and_false, implies_true, nw_psh_s, nw_psh_n, ni_10, ni_00]
    exact hQ
  | succ j ih =>
    intro k hk
    have h := ih (k + 1) (by omega)
    unfold nt_stay at h
    rw [s21_4]
    by_cases hl : nt_left T k = true
    · rw [if_pos hl] at h
      simp only [e21, s21_0, s21_1, s21_2, s21_3, s21_5, s21_6, s21_9, s21_12, s21_13, s21_14, s21_17, s21_20, s21_21, s21_22, s21_23, s21_24, s21_25, s21_26, s21_29, s21_32, s21_33, hm.1, ni_le_f (show k < nt_n T by omega) (show nt_n T < 2 ^ 31 by omega), x_isLeft hT hm d _ (show k < 8 by omega), hl, if_true, nI_1, false_implies, true_implies, not_true_eq_false, not_false_eq_true, true_and, and_true, true_or, or_true, false_or, or_false, false_and, and_false, implies_true, nw_psh_s, nw_psh_n, ni_10, ni_00]
      exact h
    · rw [if_neg hl] at h
      simp only [e21, s21_0, s21_1, s21_2, s21_3, s21_5, s21_6, s21_9, s21_12, s21_13, s21_14, s21_17, s21_20, s21_21, s21_22, s21_23, s21_24, s21_25, s21_26, s21_29, s21_32, s21_33, hm.1, ni_le_f (show k < nt_n T by omega) (show nt_n T < 2 ^ 31 by omega), x_isLeft hT hm d _ (show k < 8 by omega), hl, if_false, nI_1, Bool.false_eq_true, false_implies, true_implies, not_true_eq_false, not_false_eq_true, true_and, and_true, true_or, or_true, false_or, or_false, false_and, and_false, implies_true, nw_psh_s, nw_psh_n, ni_10, ni_00]
      exact h
theorem m_count_loop {T : nt_T} (hT : nt_ok T) {mem : nw_M} (hm : nm_T T mem) (d : Nat) (Q : nw_K) (y : Int32) (hQ : nw_Ev (d + 1) nw_shM 152 Q 52 [some (.ref 0), some (.int y), some (.int (nI (nt_sum T (nt_n T)))), some (.int (nt_stay T (nt_n T))), some (.int (nI (nt_n T)))] [] mem) :
    ∀ j k, k + j = nt_n T → nw_Ev (d + 1) nw_shM 152 Q 7 [some (.ref 0), some (.int y), some (.int (nI (nt_sum T k))), some (.int (nt_stay T k)), some (.int (nI k))] [] mem := by
  have h8 := hT.2.1
  intro j
  induction j with
  | zero =>
    intro k hk
    have hk' : k = nt_n T := by omega
    subst hk'
    rw [s152_7]
    simp only [e152, s152_0, s152_1, s152_2, s152_3, s152_4, s152_5, s152_9, s152_10, s152_13, s152_16, s152_17, s152_18, s152_21, s152_23, s152_24, s152_25, s152_26, s152_27, s152_28, s152_30, s152_33, s152_36, s152_37, s152_40, s152_41, s152_43, s152_44, s152_45, s152_46, s152_49, s152_53, s152_92, s152_93, s152_96, s152_97, s152_98, s152_99, s152_100, s152_103, s152_104, s152_105, s152_108, s152_110, s152_111, s152_112, s152_113, s152_114, s152_115, s152_118, s152_119, s152_121, hm.1, ni_le_t (Nat.le_refl (nt_n T)) (show nt_n T < 2 ^ 31 by omega), false_implies, true_implies, not_true_eq_false, not_false_eq_true, true_and, and_true, true_or, or_true, false_or, or_false, false_and, and_false, implies_true, nw_psh_s, nw_psh_n, ni_10, ni_00]
    exact hQ
  | succ j ih =>
    intro k hk
    have h := ih (k + 1) (by omega)
    have hi : vp_in (nI k) 8 := vp_in_nI (by omega) (by decide)
    have hw := hm.2.2.2.1 k (by omega)
    unfold nt_stay at h
    rw [s152_7]
    by_cases hl : nt_left T k = true
    · rw [if_pos hl] at h
      simp only [e152, s152_0, s152_1, s152_2, s152_3, s152_4, s152_5, s152_9, s152_10, s152_13, s152_16, s152_17, s152_18, s152_21, s152_23, s152_24, s152_25, s152_26, s152_27, s152_28, s152_30, s152_33, s152_36, s152_37, s152_40, s152_41, s152_43, s152_44, s152_45, s152_46, s152_49, s152_53, s152_92, s152_93, s152_96, s152_97, s152_98, s152_99, s152_100, s152_103, s152_104, s152_105, s152_108, s152_110, s152_111, s152_112, s152_113, s152_114, s152_115, s152_118, s152_119, s152_121, hm.1, ni_le_f (show k < nt_n T by omega) (show nt_n T < 2 ^ 31 by omega), hi, ni_cl (show k < 2 ^ 31 by omega), hw, m_isLeft hT hm d _ (show k < 8 by omega), hl, if_true, nI_1, nI_add, Int32.or_zero, false_implies, true_implies, not_true_eq_false, not_false_eq_true, true_and, and_true, true_or, or_true, false_or, or_false, false_and, and_false, implies_true, nw_psh_s, nw_psh_n, ni_10, ni_00]
      exact h
    · rw [if_neg hl] at h
      simp only [e152, s152_0, s152_1, s152_2, s152_3, s152_4, s152_5, s152_9, s152_10, s152_13, s152_16, s152_17, s152_18, s152_21, s152_23, s152_24, s152_25, s152_26, s152_27, s152_28, s152_30, s152_33, s152_36, s152_37, s152_40, s152_41, s152_43, s152_44, s152_45, s152_46, s152_49, s152_53, s152_92, s152_93, s152_96, s152_97, s152_98, s152_99, s152_100, s152_103, s152_104, s152_105, s152_108, s152_110, s152_111, s152_112, s152_113, s152_114, s152_115, s152_118, s152_119, s152_121, hm.1, ni_le_f (show k < nt_n T by omega) (show nt_n T < 2 ^ 31 by omega), hi, ni_cl (show k < 2 ^ 31 by omega), hw, m_isLeft hT hm d _ (show k < 8 by omega), hl, if_false, nI_1, nI_add, Bool.false_eq_true, false_implies, true_implies, not_true_eq_false, not_false_eq_true, true_and, and_true, true_or, or_true, false_or, or_false, false_and, and_false, implies_true, nw_psh_s, nw_psh_n, ni_10, ni_00]
      exact h
theorem p_count (A : nA) (y : Int32) : nP2 A 94 152 [.int y] := by
  intro mx mm hX hM
  obtain ⟨T, τ, σ, g, kp, L, tx⟩ := A
  have hX0 := hX
  have hM0 := hM
  obtain ⟨h1, h2, h3, ⟨h5, h6⟩, ⟨h8, h9⟩, -, h11, -⟩ := hX
  obtain ⟨-, k2, -, ⟨-, k4⟩, ⟨kg, kg9⟩, -, k11, -⟩ := hM
  have hMr : ∀ Q : nw_K, nw_Ev 39 nw_shM 152 Q (nw_ts 53 66 0 5 #[39, 44, 46, 51, 59, 61] y) [some (.ref 0), some (.int y), some (.int (nI (nt_sum T (nt_n T)))), some (.int (nt_stay T (nt_n T))), some (.int (nI (nt_n T)))] [] mm → nw_Ex 40 nw_shM 152 [.ref 0, .int y] mm Q := by
    intro Q hQ
    simp only [e152, s152_0, s152_1, s152_2, s152_3, s152_4, s152_5, s152_9, s152_10, s152_13, s152_16, s152_17, s152_18, s152_21, s152_23, s152_24, s152_25, s152_26, s152_27, s152_28, s152_30, s152_33, s152_36, s152_37, s152_40, s152_41, s152_43, s152_44, s152_45, s152_46, s152_49, s152_52, s152_53, s152_92, s152_93, s152_96, s152_97, s152_98, s152_99, s152_100, s152_103, s152_104, s152_105, s152_108, s152_110, s152_111, s152_112, s152_113, s152_114, s152_115, s152_118, s152_119, s152_121]
    refine m_count_loop h1 k2 38 Q y ?_ (nt_n T) 0 (by omega)
    simp only [e152, s152_0, s152_1, s152_2, s152_3, s152_4, s152_5, s152_9, s152_10, s152_13, s152_16, s152_17, s152_18, s152_21, s152_23, s152_24, s152_25, s152_26, s152_27, s152_28, s152_30, s152_33, s152_36, s152_37, s152_40, s152_41, s152_43, s152_44, s152_45, s152_46, s152_49, s152_52, s152_53, s152_92, s152_93, s152_96, s152_97, s152_98, s152_99, s152_100, s152_103, s152_104, s152_105, s152_108, s152_110, s152_111, s152_112, s152_113, s152_114, s152_115, s152_118, s152_119, s152_121]
    exact hQ
  have hXr : ∀ Q : nw_K, nw_Ev 39 nw_shX 94 Q (nw_ts 1 84 0 5 #[39, 47, 55, 63, 68, 76] y) [some (.ref 0), some (.int y)] [] mx → nw_Ex 40 nw_shX 94 [.ref 0, .int y] mx Q := by
    intro Q hQ
    simp only [e94, s94_0, s94_1, s94_40, s94_41, s94_44, s94_47, s94_48, s94_49, s94_52, s94_55, s94_56, s94_57, s94_60, s94_63, s94_64, s94_65, s94_68, s94_69, s94_70, s94_73, s94_76, s94_77, s94_78, s94_81, s94_84, s94_85, s94_87]
    exact hQ
  rcases ix3 y (n := 6) (by decide) with hy | ⟨a, ha, rfl⟩
  · refine nP_same (r := -3) hX0 hM0 (fun Q hQ => hXr Q ?_) (fun Q hQ => hMr Q ?_)
    · rw [nts_out (by have := out_int (by decide) hy; omega)]
      show nw_Ev 39 nw_shX 94 Q 85 _ _ _
      simp only [e94, s94_0, s94_1, s94_40, s94_41, s94_44, s94_47, s94_48, s94_49, s94_52, s94_55, s94_56, s94_57, s94_60, s94_63, s94_64, s94_65, s94_68, s94_69, s94_70, s94_73, s94_76, s94_77, s94_78, s94_81, s94_84, s94_85, s94_87]
      exact hQ
    · rw [nts_out (by have := out_int (by decide) hy; omega)]
      show nw_Ev 39 nw_shM 152 Q 119 _ _ _
      simp only [e152, s152_0, s152_1, s152_2, s152_3, s152_4, s152_5, s152_9, s152_10, s152_13, s152_16, s152_17, s152_18, s152_21, s152_23, s152_24, s152_25, s152_26, s152_27, s152_28, s152_30, s152_33, s152_36, s152_37, s152_40, s152_41, s152_43, s152_44, s152_45, s152_46, s152_49, s152_52, s152_53, s152_92, s152_93, s152_96, s152_97, s152_98, s152_99, s152_100, s152_103, s152_104, s152_105, s152_108, s152_110, s152_111, s152_112, s152_113, s152_114, s152_115, s152_118, s152_119, s152_121]
      exact hQ mm (nm_sc_rf mm)
  · have ha6 : a = 0 ∨ a = 1 ∨ a = 2 ∨ a = 3 ∨ a = 4 ∨ a = 5 := by omega
    rcases ha6 with rfl | rfl | rfl | rfl | rfl | rfl
    · refine nP_same (r := nI (nt_n T)) hX0 hM0 (fun Q hQ => hXr Q ?_) (fun Q hQ => hMr Q ?_)
      · show nw_Ev 39 nw_shX 94 Q 40 _ _ _
        simp only [e94, s94_0, s94_1, s94_40, s94_41, s94_44, s94_47, s94_48, s94_49, s94_52, s94_55, s94_56, s94_57, s94_60, s94_63, s94_64, s94_65, s94_68, s94_69, s94_70, s94_73, s94_76, s94_77, s94_78, s94_81, s94_84, s94_85, s94_87, h2.1]
        exact hQ
      · show nw_Ev 39 nw_shM 152 Q 92 _ _ _
        simp only [e152, s152_0, s152_1, s152_2, s152_3, s152_4, s152_5, s152_9, s152_10, s152_13, s152_16, s152_17, s152_18, s152_21, s152_23, s152_24, s152_25, s152_26, s152_27, s152_28, s152_30, s152_33, s152_36, s152_37, s152_40, s152_41, s152_43, s152_44, s152_45, s152_46, s152_49, s152_52, s152_53, s152_92, s152_93, s152_96, s152_97, s152_98, s152_99, s152_100, s152_103, s152_104, s152_105, s152_108, s152_110, s152_111, s152_112, s152_113, s152_114, s152_115, s152_118, s152_119, s152_121, k2.1]
        exact hQ mm (nm_sc_rf mm)
    · refine nP_same (r := nI (nt_sum T (nt_n T))) hX0 hM0 (fun Q hQ => hXr Q ?_) (fun Q hQ => hMr Q ?_)
      · show nw_Ev 39 nw_shX 94 Q 48 _ _ _
        simp only [e94, s94_0, s94_1, s94_40, s94_41, s94_44, s94_47, s94_48, s94_49, s94_52, s94_55, s94_56, s94_57, s94_60, s94_63, s94_64, s94_65, s94_68, s94_69, s94_70, s94_73, s94_76, s94_77, s94_78, s94_81, s94_84, s94_85, s94_87, e19, s19_0, s19_1, s19_2, s19_3, s19_5, s19_6, s19_9, s19_12, s19_13, s19_14, s19_15, s19_18, s19_19, s19_20, s19_23, s19_26, s19_27]
        refine x_allWays_loop h1 h2 37 _ ?_ (nt_n T) 0 (by omega)
        simp only [e94, s94_0, s94_1, s94_40, s94_41, s94_44, s94_47, s94_48, s94_49, s94_52, s94_55, s94_56, s94_57, s94_60, s94_63, s94_64, s94_65, s94_68, s94_69, s94_70, s94_73, s94_76, s94_77, s94_78, s94_81, s94_84, s94_85, s94_87, false_implies, true_implies, not_true_eq_false, not_false_eq_true, true_and, and_true, true_or, or_true, false_or, or_false, false_and, and_false, implies_true, nw_psh_s, nw_psh_n, ni_10, ni_00]
        exact hQ
      · show nw_Ev 39 nw_shM 152 Q 97 _ _ _
        simp only [e152, s152_0, s152_1, s152_2, s152_3, s152_4, s152_5, s152_9, s152_10, s152_13, s152_16, s152_17, s152_18, s152_21, s152_23, s152_24, s152_25, s152_26, s152_27, s152_28, s152_30, s152_33, s152_36, s152_37, s152_40, s152_41, s152_43, s152_44, s152_45, s152_46, s152_49, s152_52, s152_53, s152_92, s152_93, s152_96, s152_97, s152_98, s152_99, s152_100, s152_103, s152_104, s152_105, s152_108, s152_110, s152_111, s152_112, s152_113, s152_114, s152_115, s152_118, s152_119, s152_121]
        exact hQ mm (nm_sc_rf mm)
    · refine nP_same (r := nI (nt_m T)) hX0 hM0 (fun Q hQ => hXr Q ?_) (fun Q hQ => hMr Q ?_)
      · show nw_Ev 39 nw_shX 94 Q 56 _ _ _
        simp only [e94, s94_0, s94_1, s94_40, s94_41, s94_44, s94_47, s94_48, s94_49, s94_52, s94_55, s94_56, s94_57, s94_60, s94_63, s94_64, s94_65, s94_68, s94_69, s94_70, s94_73, s94_76, s94_77, s94_78, s94_81, s94_84, s94_85, s94_87, h2.2.1]
        exact hQ
      · show nw_Ev 39 nw_shM 152 Q 99 _ _ _
        simp only [e152, s152_0, s152_1, s152_2, s152_3, s152_4, s152_5, s152_9, s152_10, s152_13, s152_16, s152_17, s152_18, s152_21, s152_23, s152_24, s152_25, s152_26, s152_27, s152_28, s152_30, s152_33, s152_36, s152_37, s152_40, s152_41, s152_43, s152_44, s152_45, s152_46, s152_49, s152_52, s152_53, s152_92, s152_93, s152_96, s152_97, s152_98, s152_99, s152_100, s152_103, s152_104, s152_105, s152_108, s152_110, s152_111, s152_112, s152_113, s152_114, s152_115, s152_118, s152_119, s152_121, k2.2.1]
        exact hQ mm (nm_sc_rf mm)
    · refine nP_same (r := nI g) hX0 hM0 (fun Q hQ => hXr Q ?_) (fun Q hQ => hMr Q ?_)
      · show nw_Ev 39 nw_shX 94 Q 64 _ _ _
        simp only [e94, s94_0, s94_1, s94_40, s94_41, s94_44, s94_47, s94_48, s94_49, s94_52, s94_55, s94_56, s94_57, s94_60, s94_63, s94_64, s94_65, s94_68, s94_69, s94_70, s94_73, s94_76, s94_77, s94_78, s94_81, s94_84, s94_85, s94_87, h8]
        exact hQ
      · show nw_Ev 39 nw_shM 152 Q 104 _ _ _
        have h13i : vp_in (13 : Int32) 70 := vp_in_nI (n := 13) (by decide) (by decide)
        simp only [e152, s152_0, s152_1, s152_2, s152_3, s152_4, s152_5, s152_9, s152_10, s152_13, s152_16, s152_17, s152_18, s152_21, s152_23, s152_24, s152_25, s152_26, s152_27, s152_28, s152_30, s152_33, s152_36, s152_37, s152_40, s152_41, s152_43, s152_44, s152_45, s152_46, s152_49, s152_52, s152_53, s152_92, s152_93, s152_96, s152_97, s152_98, s152_99, s152_100, s152_103, s152_104, s152_105, s152_108, s152_110, s152_111, s152_112, s152_113, s152_114, s152_115, s152_118, s152_119, s152_121, h13i, show (13 : Int32).toNatClampNeg = 13 from rfl, kg, false_implies, true_implies, not_true_eq_false, not_false_eq_true, true_and, and_true, true_or, or_true, false_or, or_false, false_and, and_false, implies_true, nw_psh_s, nw_psh_n, ni_10, ni_00]
        exact hQ mm (nm_sc_rf mm)
    · refine nP_same (r := nt_stay T (nt_n T)) hX0 hM0 (fun Q hQ => hXr Q ?_) (fun Q hQ => hMr Q ?_)
      · show nw_Ev 39 nw_shX 94 Q 69 _ _ _
        simp only [e94, s94_0, s94_1, s94_40, s94_41, s94_44, s94_47, s94_48, s94_49, s94_52, s94_55, s94_56, s94_57, s94_60, s94_63, s94_64, s94_65, s94_68, s94_69, s94_70, s94_73, s94_76, s94_77, s94_78, s94_81, s94_84, s94_85, s94_87, e21, s21_0, s21_1, s21_2, s21_3, s21_5, s21_6, s21_9, s21_12, s21_13, s21_14, s21_17, s21_20, s21_21, s21_22, s21_23, s21_24, s21_25, s21_26, s21_29, s21_32, s21_33]
        refine x_never_loop h1 h2 36 _ ?_ (nt_n T) 0 (by omega)
        simp only [e94, s94_0, s94_1, s94_40, s94_41, s94_44, s94_47, s94_48, s94_49, s94_52, s94_55, s94_56, s94_57, s94_60, s94_63, s94_64, s94_65, s94_68, s94_69, s94_70, s94_73, s94_76, s94_77, s94_78, s94_81, s94_84, s94_85, s94_87, false_implies, true_implies, not_true_eq_false, not_false_eq_true, true_and, and_true, true_or, or_true, false_or, or_false, false_and, and_false, implies_true, nw_psh_s, nw_psh_n, ni_10, ni_00]
        exact hQ
      · show nw_Ev 39 nw_shM 152 Q 112 _ _ _
        simp only [e152, s152_0, s152_1, s152_2, s152_3, s152_4, s152_5, s152_9, s152_10, s152_13, s152_16, s152_17, s152_18, s152_21, s152_23, s152_24, s152_25, s152_26, s152_27, s152_28, s152_30, s152_33, s152_36, s152_37, s152_40, s152_41, s152_43, s152_44, s152_45, s152_46, s152_49, s152_52, s152_53, s152_92, s152_93, s152_96, s152_97, s152_98, s152_99, s152_100, s152_103, s152_104, s152_105, s152_108, s152_110, s152_111, s152_112, s152_113, s152_114, s152_115, s152_118, s152_119, s152_121]
        exact hQ mm (nm_sc_rf mm)
    · refine nP_same (r := nI L) hX0 hM0 (fun Q hQ => hXr Q ?_) (fun Q hQ => hMr Q ?_)
      · show nw_Ev 39 nw_shX 94 Q 77 _ _ _
        simp only [e94, s94_0, s94_1, s94_40, s94_41, s94_44, s94_47, s94_48, s94_49, s94_52, s94_55, s94_56, s94_57, s94_60, s94_63, s94_64, s94_65, s94_68, s94_69, s94_70, s94_73, s94_76, s94_77, s94_78, s94_81, s94_84, s94_85, s94_87, h11]
        exact hQ
      · show nw_Ev 39 nw_shM 152 Q 114 _ _ _
        simp only [e152, s152_0, s152_1, s152_2, s152_3, s152_4, s152_5, s152_9, s152_10, s152_13, s152_16, s152_17, s152_18, s152_21, s152_23, s152_24, s152_25, s152_26, s152_27, s152_28, s152_30, s152_33, s152_36, s152_37, s152_40, s152_41, s152_43, s152_44, s152_45, s152_46, s152_49, s152_52, s152_53, s152_92, s152_93, s152_96, s152_97, s152_98, s152_99, s152_100, s152_103, s152_104, s152_105, s152_108, s152_110, s152_111, s152_112, s152_113, s152_114, s152_115, s152_118, s152_119, s152_121, k11]
        exact hQ mm (nm_sc_rf mm)
/-! write -/
def nb_byte (z : Int64) (i : Nat) : Nat := (z >>> ((nI (8 * i)).toInt64 &&& 63)).toBitVec.toNat % 256
theorem nb_255 (z : Int64) : (z &&& 255).toInt32 = nI (z.toBitVec.toNat % 256) := by
  apply Int32.toBitVec_inj.1
  apply BitVec.eq_of_getLsbD_eq
  intro i hi
  rw [Int64.toBitVec_toInt32, BitVec.getLsbD_signExtend, Int64.toBitVec_and, decide_eq_true hi, if_pos (by omega), BitVec.getLsbD_and, Bool.true_and]
  show _ = (BitVec.ofNat 32 (z.toBitVec.toNat % 2 ^ 8)).getLsbD i
  rw [BitVec.getLsbD_ofNat, decide_eq_true hi, Bool.true_and, Nat.testBit_mod_two_pow, (by decide +kernel : ∀ i, i < 32 → (255 : Int64).toBitVec.getLsbD i = decide (i < 8)) i hi, Bool.and_comm]
  rfl
theorem nb_byte_eq (z : Int64) (i : Nat) : ((z >>> (((8 : Int32) * nI i).toInt64 &&& 63)) &&& 255).toInt32 = nI (nb_byte z i) := by
  rw [show (8 : Int32) * nI i = nI (8 * i) from pk_mul 8 i, nb_255]
  rfl
theorem nb_byte_lt (z : Int64) (i : Nat) : nb_byte z i < 256 := Nat.mod_lt _ (by decide)
theorem nX_app {T : nt_T} {τ σ : nt_S} {g : Nat} {kp : Nat → Option (nt_S × Nat)} {L : Nat} {tx : Nat → Nat} {mx : nw_M} (h : nX (T, τ, σ, g, kp, L, tx) mx) (hL : L < 200) (hb : tx L < 256) : nX (T, τ, σ, g, kp, L + 1, tx) (nw_up (nw_up mx 2 L (nI (tx L))) 1 1 (nI (L + 1))) := by
  obtain ⟨h1, ⟨a1, a2, a3, a4, a5⟩, h3, h5, h8, h10, h11, h12, h13⟩ := h
  refine ⟨h1, ⟨a1, a2, a3, a4, a5⟩, h3, h5, h8, h10, by rw [nw_up_at, if_pos ⟨rfl, rfl⟩], by omega, fun i hi => ?_⟩
  rw [nw_up_at, if_neg (by omega), nw_up_at]
  by_cases hiL : i = L
  · rw [if_pos ⟨rfl, hiL⟩, hiL]; exact ⟨rfl, hb⟩
  · rw [if_neg (by omega)]; exact h13 i (by omega)
theorem nM_app {T : nt_T} {τ σ : nt_S} {g : Nat} {kp : Nat → Option (nt_S × Nat)} {L : Nat} {tx : Nat → Nat} {mm : nw_M} (h : nM (T, τ, σ, g, kp, L, tx) mm) (hL : L < 200) (hb : tx L < 256) : nM (T, τ, σ, g, kp, L + 1, tx) (nw_up (nw_up mm 3 L (nI (tx L))) 0 3 (nI (L + 1))) := by
  obtain ⟨h1, ⟨a1, a2, a3, a4, a5⟩, h3, h5, h8, h10, h11, h12, h13⟩ := h
  refine ⟨h1, ⟨a1, a2, a3, a4, a5⟩, h3, h5, h8, h10, by rw [nw_up_at, if_pos ⟨rfl, rfl⟩], by omega, fun i hi => ?_⟩
  rw [nw_up_at, if_neg (by omega), nw_up_at]
  by_cases hiL : i = L
  · rw [if_pos ⟨rfl, hiL⟩, hiL]; exact ⟨rfl, hb⟩
  · rw [if_neg (by omega)]; exact h13 i (by omega)
theorem x_append_loop {T : nt_T} {τ σ : nt_S} {g : Nat} {kp : Nat → Option (nt_S × Nat)} {L : Nat} {tx : Nat → Nat} (z : Int64) {n : Nat} (hn : n ≤ 8) (hL : L + n ≤ 200) (htx : ∀ i, tx (L + i) = nb_byte z i) (d : Nat) (Q : nw_K) (hQ : ∀ mx', nX (T, τ, σ, g, kp, L + n, tx) mx' → Q (some (.int 1)) mx') :
    ∀ j k m1, k + j = n → nX (T, τ, σ, g, kp, L + k, tx) m1 → nw_Ev d nw_shX 2 Q 27 [some (.ref 1), some (.long z), none, some (.int (nI n)), some (.int (nI k))] [] m1 := by
  intro j
  induction j with
  | zero =>
    intro k m1 hk h
    have hk' : k = n := by omega
    subst hk'
    have hq := hQ m1 h
    rw [s2_27]
    simp only [e2, s2_0, s2_1, s2_4, s2_5, s2_7, s2_10, s2_11, s2_14, s2_15, s2_16, s2_19, s2_22, s2_23, s2_24, s2_25, s2_29, s2_30, s2_33, s2_34, s2_37, s2_38, s2_41, s2_42, s2_44, s2_46, s2_47, s2_48, s2_51, s2_52, s2_53, s2_54, s2_55, s2_56, s2_59, s2_60, s2_61, s2_64, s2_67, s2_70, s2_71, ni_le_t (Nat.le_refl k) (show k < 2 ^ 31 by omega), false_implies, true_implies, not_true_eq_false, not_false_eq_true, true_and, and_true, true_or, or_true, false_or, or_false, false_and, and_false, implies_true, nw_psh_s, nw_psh_n, ni_10, ni_00]
    exact hq
  | succ j ih =>
    intro k m1 hk h
    have h0 := h
    obtain ⟨-, -, -, -, -, -, h11, -⟩ := h
    have hi : vp_in (nI (L + k)) 200 := vp_in_nI (by omega) (by decide)
    rw [s2_27]
    simp only [e2, s2_0, s2_1, s2_4, s2_5, s2_7, s2_10, s2_11, s2_14, s2_15, s2_16, s2_19, s2_22, s2_23, s2_24, s2_25, s2_29, s2_30, s2_33, s2_34, s2_37, s2_38, s2_41, s2_42, s2_44, s2_46, s2_47, s2_48, s2_51, s2_52, s2_53, s2_54, s2_55, s2_56, s2_59, s2_60, s2_61, s2_64, s2_67, s2_70, s2_71, ni_le_f (show k < n by omega) (show n < 2 ^ 31 by omega), h11, hi, ni_cl (show L + k < 2 ^ 31 by omega), nb_byte_eq, nw_up_at, show ((1 : Nat) = 2) = False from eq_false (by decide), if_false, nI_1, false_implies, true_implies, not_true_eq_false, not_false_eq_true, true_and, and_true, true_or, or_true, false_or, or_false, false_and, and_false, implies_true, nw_psh_s, nw_psh_n, ni_10, ni_00]
    have := nX_app h0 (by omega) (by rw [htx k]; exact nb_byte_lt z k)
    rw [htx k] at this
    exact ih (k + 1) _ (by omega) this
theorem m_write_loop {T : nt_T} {τ σ : nt_S} {g : Nat} {kp : Nat → Option (nt_S × Nat)} {L : Nat} {tx : Nat → Nat} (z : Int64) {n : Nat} (hn : n ≤ 8) (hL : L + n ≤ 200) (htx : ∀ i, tx (L + i) = nb_byte z i) (d : Nat) (Q : nw_K) (hQ : ∀ mm', nM (T, τ, σ, g, kp, L + n, tx) mm' → Q (some (.int (nI (L + n)))) mm') :
    ∀ j k m1, k + j = n → nM (T, τ, σ, g, kp, L + k, tx) m1 → nw_Ev d nw_shM 99 Q 33 [some (.ref 0), some (.long z), none, some (.int (nI n)), some (.int (nI k))] [] m1 := by
  intro j
  induction j with
  | zero =>
    intro k m1 hk h
    have hk' : k = n := by omega
    subst hk'
    have hq := hQ m1 h
    obtain ⟨-, -, -, -, -, -, h11, -⟩ := h
    rw [s99_33]
    simp only [e99, s99_0, s99_1, s99_2, s99_3, s99_6, s99_9, s99_12, s99_14, s99_15, s99_16, s99_19, s99_20, s99_21, s99_24, s99_27, s99_29, s99_30, s99_31, s99_35, s99_36, s99_39, s99_40, s99_43, s99_44, s99_47, s99_48, s99_50, s99_52, s99_53, s99_54, s99_57, s99_58, s99_59, s99_60, s99_61, s99_62, s99_65, s99_66, s99_67, s99_70, s99_73, s99_76, s99_77, s99_80, ni_le_t (Nat.le_refl k) (show k < 2 ^ 31 by omega), h11, false_implies, true_implies, not_true_eq_false, not_false_eq_true, true_and, and_true, true_or, or_true, false_or, or_false, false_and, and_false, implies_true, nw_psh_s, nw_psh_n, ni_10, ni_00]
    exact hq
  | succ j ih =>
    intro k m1 hk h
    have h0 := h
    obtain ⟨-, -, -, -, -, -, h11, -⟩ := h
    have hi : vp_in (nI (L + k)) 200 := vp_in_nI (by omega) (by decide)
    rw [s99_33]
    simp only [e99, s99_0, s99_1, s99_2, s99_3, s99_6, s99_9, s99_12, s99_14, s99_15, s99_16, s99_19, s99_20, s99_21, s99_24, s99_27, s99_29, s99_30, s99_31, s99_35, s99_36, s99_39, s99_40, s99_43, s99_44, s99_47, s99_48, s99_50, s99_52, s99_53, s99_54, s99_57, s99_58, s99_59, s99_60, s99_61, s99_62, s99_65, s99_66, s99_67, s99_70, s99_73, s99_76, s99_77, s99_80, ni_le_f (show k < n by omega) (show n < 2 ^ 31 by omega), h11, hi, ni_cl (show L + k < 2 ^ 31 by omega), nb_byte_eq, nw_up_at, show ((0 : Nat) = 3) = False from eq_false (by decide), if_false, nI_1, false_implies, true_implies, not_true_eq_false, not_false_eq_true, true_and, and_true, true_or, or_true, false_or, or_false, false_and, and_false, implies_true, nw_psh_s, nw_psh_n, ni_10, ni_00]
    have := nM_app h0 (by omega) (by rw [htx k]; exact nb_byte_lt z k)
    rw [htx k] at this
    exact ih (k + 1) _ (by omega) this
theorem nX_tx {T : nt_T} {τ σ : nt_S} {g : Nat} {kp : Nat → Option (nt_S × Nat)} {L : Nat} {tx tx' : Nat → Nat} {mx : nw_M} (h : nX (T, τ, σ, g, kp, L, tx) mx) (ht : ∀ i, i < L → tx' i = tx i) : nX (T, τ, σ, g, kp, L, tx') mx := by
  obtain ⟨h1, h2, h3, h5, h8, h10, h11, h12, h13⟩ := h
  exact ⟨h1, h2, h3, h5, h8, h10, h11, h12, fun i hi => by rw [ht i hi]; exact h13 i hi⟩
theorem nM_tx {T : nt_T} {τ σ : nt_S} {g : Nat} {kp : Nat → Option (nt_S × Nat)} {L : Nat} {tx tx' : Nat → Nat} {mm : nw_M} (h : nM (T, τ, σ, g, kp, L, tx) mm) (ht : ∀ i, i < L → tx' i = tx i) : nM (T, τ, σ, g, kp, L, tx') mm := by
  obtain ⟨h1, h2, h3, h5, h8, h10, h11, h12, h13⟩ := h
  exact ⟨h1, h2, h3, h5, h8, h10, h11, h12, fun i hi => by rw [ht i hi]; exact h13 i hi⟩
theorem gt8_out {x : Int32} (h : ¬ x < 1) (h2 : x < 1 ∨ nI 9 ≤ x) : ((8 : Int32) < x) = True := eq_true (gt_lit_out (n := 8) (by decide) (h2.resolve_left h))
theorem p_write (A : nA) (z : Int64) (x : Int32) : nP2 A 70 99 [.long z, .int x] := by
  intro mx mm hX hM
  obtain ⟨T, τ, σ, g, kp, L, tx⟩ := A
  have hX0 := hX
  have hM0 := hM
  obtain ⟨h1, h2, h3, ⟨h5, h6⟩, ⟨h8, h9⟩, -, h11, h12, -⟩ := hX
  obtain ⟨-, k2, -, ⟨-, k4⟩, ⟨kg, kg9⟩, -, k11, -⟩ := hM
  have hin := fun Q' => m_in 38 Q' x 1 8 mm
  rcases ix1 x (n := 9) (by decide) with hx | ⟨n, hn1, hn, rfl⟩
  · refine nP_same (r := -3) hX0 hM0 (fun Q hQ => ?_) (fun Q hQ => ?_)
    · by_cases q : x < 1
      · simp only [e70, s70_0, s70_1, s70_2, s70_5, s70_6, s70_8, s70_11, s70_13, s70_14, s70_15, s70_18, s70_19, s70_20, s70_23, s70_26, s70_27, s70_30, s70_33, s70_36, s70_38, q, false_implies, true_implies, not_true_eq_false, not_false_eq_true, true_and, and_true, true_or, or_true, false_or, or_false, false_and, and_false, implies_true, nw_psh_s, nw_psh_n, ni_10, ni_00]
        exact hQ
      · have q2 : (x ≤ 8) = False := eq_false (fun y => by
          have := of_eq_true (gt8_out q hx)
          rw [fa_lt] at this
          rw [fa_le] at y
          omega)
        simp only [e70, s70_0, s70_1, s70_2, s70_5, s70_6, s70_8, s70_11, s70_13, s70_14, s70_15, s70_18, s70_19, s70_20, s70_23, s70_26, s70_27, s70_30, s70_33, s70_36, s70_38, q, q2, false_implies, true_implies, not_true_eq_false, not_false_eq_true, true_and, and_true, true_or, or_true, false_or, or_false, false_and, and_false, implies_true, nw_psh_s, nw_psh_n, ni_10, ni_00]
        exact hQ
    · simp only [e99, s99_0, s99_1, s99_2, s99_3, s99_6, s99_9, s99_12, s99_14, s99_15, s99_16, s99_19, s99_20, s99_21, s99_24, s99_27, s99_29, s99_30, s99_31, s99_35, s99_36, s99_39, s99_40, s99_43, s99_44, s99_47, s99_48, s99_50, s99_52, s99_53, s99_54, s99_57, s99_58, s99_59, s99_60, s99_61, s99_62, s99_65, s99_66, s99_67, s99_70, s99_73, s99_76, s99_77, s99_80, lw_1, lw_8, hin, show (x < 1 ∨ (8 : Int32) < x) = True from in1_out (n := 8) (by decide) hx, if_true, false_implies, true_implies, not_true_eq_false, not_false_eq_true, true_and, and_true, true_or, or_true, false_or, or_false, false_and, and_false, implies_true, nw_psh_s, nw_psh_n, ni_10, ni_00]
      exact hQ mm (nm_sc_rf mm)
  · have z1 : (nI n < 1) = False := ni_lt_f (b := 1) hn1 (by omega)
    have z2 : (nI n ≤ 8) = True := ni_le_t (b := 8) (by omega) (by decide)
    have z2b : ((8 : Int32) < nI n) = False := ni_lt_f (a := 8) (by omega) (by decide)
    have z3 : (nI n < 1 ∨ (8 : Int32) < nI n) = False := in1_in (n := 8) hn1 (by omega) (by decide)
    by_cases hL : L + n ≤ 200
    · have z4 : (nI (L + n) ≤ 200) = True := ni_le_t (b := 200) hL (by decide)
      let tx' : Nat → Nat := fun j => if j < L then tx j else nb_byte z (j - L)
      have ht1 : ∀ i, i < L → tx' i = tx i := fun i hi => if_pos hi
      have ht2 : ∀ i, tx' (L + i) = nb_byte z i := fun i => by
        show (if L + i < L then _ else _) = _
        rw [if_neg (by omega), Nat.add_sub_cancel_left]
      refine ⟨(T, τ, σ, g, kp, L + n, tx'), nI (L + n), fun Q hQ => ?_, fun Q hQ => ?_⟩
      · simp only [e70, s70_0, s70_1, s70_2, s70_5, s70_6, s70_8, s70_11, s70_13, s70_14, s70_15, s70_18, s70_19, s70_20, s70_23, s70_26, s70_27, s70_30, s70_33, s70_36, s70_38, z1, z2, e2, s2_0, s2_1, s2_4, s2_5, s2_7, s2_10, s2_11, s2_14, s2_15, s2_16, s2_19, s2_22, s2_23, s2_24, s2_25, s2_29, s2_30, s2_33, s2_34, s2_37, s2_38, s2_41, s2_42, s2_44, s2_46, s2_47, s2_48, s2_51, s2_52, s2_53, s2_54, s2_55, s2_56, s2_59, s2_60, s2_61, s2_64, s2_67, s2_70, s2_71, ni_nlt0 (show n < 2 ^ 31 by omega), z2b, h11, nI_add, z4, false_implies, true_implies, not_true_eq_false, not_false_eq_true, true_and, and_true, true_or, or_true, false_or, or_false, false_and, and_false, implies_true, nw_psh_s, nw_psh_n, ni_10, ni_00]
        refine x_append_loop z (by omega) hL ht2 38 _ (fun mx' hx' => ?_) n 0 mx (by omega) (nX_tx hX0 ht1)
        have hq := hQ mx' hx'
        obtain ⟨-, -, -, -, -, -, g11, -⟩ := hx'
        simp only [e70, s70_0, s70_1, s70_2, s70_5, s70_6, s70_8, s70_11, s70_13, s70_14, s70_15, s70_18, s70_19, s70_20, s70_23, s70_26, s70_27, s70_30, s70_33, s70_36, s70_38, g11, false_implies, true_implies, not_true_eq_false, not_false_eq_true, true_and, and_true, true_or, or_true, false_or, or_false, false_and, and_false, implies_true, nw_psh_s, nw_psh_n, ni_10, ni_00]
        exact hq
      · simp only [e99, s99_0, s99_1, s99_2, s99_3, s99_6, s99_9, s99_12, s99_14, s99_15, s99_16, s99_19, s99_20, s99_21, s99_24, s99_27, s99_29, s99_30, s99_31, s99_35, s99_36, s99_39, s99_40, s99_43, s99_44, s99_47, s99_48, s99_50, s99_52, s99_53, s99_54, s99_57, s99_58, s99_59, s99_60, s99_61, s99_62, s99_65, s99_66, s99_67, s99_70, s99_73, s99_76, s99_77, s99_80, lw_1, lw_8, hin, z3, if_false, k11, nI_add, z4, false_implies, true_implies, not_true_eq_false, not_false_eq_true, true_and, and_true, true_or, or_true, false_or, or_false, false_and, and_false, implies_true, nw_psh_s, nw_psh_n, ni_10, ni_00]
        exact m_write_loop z (by omega) hL ht2 39 Q hQ n 0 mm (by omega) (nM_tx hM0 ht1)
    · have z4 : (nI (L + n) ≤ 200) = False := ni_le_f (b := 200) (by omega) (by omega)
      refine nP_same (r := -5) hX0 hM0 (fun Q hQ => ?_) (fun Q hQ => ?_)
      · simp only [e70, s70_0, s70_1, s70_2, s70_5, s70_6, s70_8, s70_11, s70_13, s70_14, s70_15, s70_18, s70_19, s70_20, s70_23, s70_26, s70_27, s70_30, s70_33, s70_36, s70_38, z1, z2, e2, s2_0, s2_1, s2_4, s2_5, s2_7, s2_10, s2_11, s2_14, s2_15, s2_16, s2_19, s2_22, s2_23, s2_24, s2_25, s2_29, s2_30, s2_33, s2_34, s2_37, s2_38, s2_41, s2_42, s2_44, s2_46, s2_47, s2_48, s2_51, s2_52, s2_53, s2_54, s2_55, s2_56, s2_59, s2_60, s2_61, s2_64, s2_67, s2_70, s2_71, ni_nlt0 (show n < 2 ^ 31 by omega), z2b, h11, nI_add, z4, false_implies, true_implies, not_true_eq_false, not_false_eq_true, true_and, and_true, true_or, or_true, false_or, or_false, false_and, and_false, implies_true, nw_psh_s, nw_psh_n, ni_10, ni_00]
        exact hQ
      · simp only [e99, s99_0, s99_1, s99_2, s99_3, s99_6, s99_9, s99_12, s99_14, s99_15, s99_16, s99_19, s99_20, s99_21, s99_24, s99_27, s99_29, s99_30, s99_31, s99_35, s99_36, s99_39, s99_40, s99_43, s99_44, s99_47, s99_48, s99_50, s99_52, s99_53, s99_54, s99_57, s99_58, s99_59, s99_60, s99_61, s99_62, s99_65, s99_66, s99_67, s99_70, s99_73, s99_76, s99_77, s99_80, lw_1, lw_8, hin, z3, if_false, k11, nI_add, z4, false_implies, true_implies, not_true_eq_false, not_false_eq_true, true_and, and_true, true_or, or_true, false_or, or_false, false_and, and_false, implies_true, nw_psh_s, nw_psh_n, ni_10, ni_00]
        exact hQ mm (nm_sc_rf mm)
