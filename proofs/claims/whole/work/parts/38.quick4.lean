/-! QUICK -/
theorem nx_S_0 : nx_S (0 : Int32) (fun _ => 0, fun _ => 0) := by
  refine ⟨by decide, fun j hj => ⟨?_, by show 0 < 4; decide⟩, fun w hw => ⟨?_, by show 0 < 8; decide⟩⟩
  · exact (by decide +kernel : ∀ j, j < 8 → ns_v 0 j = nI 0) j hj
  · exact (by decide +kernel : ∀ j, j < 5 → ns_p 0 j = nI 0) w hw
/-- what the reference finds, and the fewest by first turns -/
theorem nQ_none {T : nt_T} (hT : nt_ok T) {fr to : Nat} (hfr : fr < nt_n T) (h : nQs T (fun v => nt_fa T to 99 (v, fr) 0) (nk_p T (nt_n T)) none) (b : Nat) : ¬ nW T 0 (fun _ => 0) fr b to := by
  have hz : nt_vok T (fun _ => 0) := fun c => ⟨fun h => h, fun _ => rfl⟩
  intro hw
  obtain ⟨f, hf, hn⟩ := pk_least (fun b => nW T 0 (fun _ => 0) fr b to) ⟨b, hw⟩
  have h7 := nW_7 hT hfr hf hn
  obtain ⟨v, hv, hF⟩ := nW_B2 hT hz (u0 := fun _ => 0) hfr (by omega) hf hn
  have := h (nk_n T v (nt_n T)) (nk_n_lt hv.1 _)
  rw [nk_vn hT hv.1] at this
  have h2 : nt_fa T to 99 (v, fr) 0 = none := this
  rw [hF] at h2
  cases h2
theorem nQ_some {T : nt_T} (hT : nt_ok T) {fr to i0 m : Nat} (hfr : fr < nt_n T) (h : nQs T (fun v => nt_fa T to 99 (v, fr) 0) (nk_p T (nt_n T)) (some (i0, m))) : nDs T 0 (fun _ => 0) fr to (some m) ∧ ∀ c, c < nt_n T → ∀ v, nt_vok T v → (∀ c', c' < c → v c' = nk_v T i0 c') → nt_fa T to 99 (v, fr) 0 = some m → nk_v T i0 c ≤ v c := by
  have hz : nt_vok T (fun _ => 0) := fun c => ⟨fun h => h, fun _ => rfl⟩
  obtain ⟨h1, h2, h3, h4⟩ := h
  have hA := nW_A hT (u0 := fun _ => 0) (nk_v_ok T i0) hfr h2
  obtain ⟨f, hf, hn⟩ := pk_least (fun b => nW T 0 (fun _ => 0) fr b to) ⟨m, hA⟩
  have h7 := nW_7 hT hfr hf hn
  obtain ⟨v, hv, hF⟩ := nW_B2 hT hz (u0 := fun _ => 0) hfr (by omega) hf hn
  have hge := h3 (nk_n T v (nt_n T)) (nk_n_lt hv.1 _) f (by
    show nt_fa T to 99 (nk_v T (nk_n T v (nt_n T)), fr) 0 = some f
    rw [nk_vn hT hv.1]; exact hF)
  have hle : f ≤ m := by
    rcases Nat.lt_or_ge m f with q | q
    · exact absurd hA (hn m q)
    · exact q
  have hfm : f = m := by omega
  subst hfm
  refine ⟨⟨by omega, hf, hn⟩, fun c hc v hv he hF2 => ?_⟩
  refine Classical.byContradiction (fun hlt => ?_)
  have hl := nk_lex hv he (by omega) (nt_n T - (c + 1))
  rw [show c + 1 + (nt_n T - (c + 1)) = nt_n T by omega, nk_nv h1] at hl
  have := h4 (nk_n T v (nt_n T)) hl f (by
    show nt_fa T to 99 (nk_v T (nk_n T v (nt_n T)), fr) 0 = some f
    rw [nk_vn hT hv]; exact hF2)
  omega
theorem p_quick (A : nA) (x y i : Int32) : nP2 A 88 141 [.int x, .int y, .int i] := by
  intro mx mm hX hM
  obtain ⟨T, τ, σ, g, kp, L, tx⟩ := A
  have hX0 := hX
  have hM0 := hM
  obtain ⟨h1, h2, h3, ⟨h5, h6⟩, -⟩ := hX
  obtain ⟨-, k2, -, ⟨-, k4⟩, -⟩ := hM
  have h8 := h1.2.1
  have hz : nt_vok T (fun _ => 0) := fun c => ⟨fun h => h, fun _ => rfl⟩
  rcases ix3 x (n := nt_n T) (by omega) with hx | ⟨c, hc, rfl⟩
  · refine nP_same (r := -2) hX0 hM0 (fun Q hQ => ?_) (fun Q hQ => ?_)
    · simp only [e88, s88_0, s88_1, s88_4, s88_5, s88_8, s88_11, s88_12, s88_15, s88_16, s88_19, s88_22, s88_23, s88_24, s88_27, s88_30, s88_33, s88_35, s88_36, s88_37, s88_38, s88_41, s88_43, s88_44, s88_45, s88_48, s88_49, s88_50, s88_51, s88_52, s88_55, s88_57, s88_58, s88_59, s88_62, s88_64, s88_65, s88_68, s88_70, s88_71, s88_72, s88_75, s88_76, s88_79, s88_80, s88_81, s88_83, s88_86, s88_87, s88_90, x_hasCorner_n (Or.inl rfl) h2 38 _ hx, false_implies, true_implies, not_true_eq_false, not_false_eq_true, true_and, and_true, true_or, or_true, false_or, or_false, false_and, and_false, implies_true, nw_psh_s, nw_psh_n, ni_10, ni_00]
      exact hQ
    · simp only [e141, s141_0, s141_1, s141_2, s141_5, s141_8, s141_9, s141_10, s141_13, s141_16, s141_17, s141_20, s141_21, s141_22, s141_25, s141_28, s141_30, s141_31, s141_32, s141_33, s141_36, s141_38, s141_39, s141_40, s141_42, s141_45, s141_47, s141_48, s141_52, s141_53, s141_56, s141_59, s141_61, s141_64, s141_65, s141_67, s141_68, s141_69, s141_72, s141_74, s141_76, s141_77, s141_80, s141_82, s141_84, s141_87, s141_89, s141_91, s141_93, s141_95, s141_98, s141_101, s141_103, s141_104, s141_107, s141_108, s141_111, s141_112, s141_113, s141_116, s141_118, s141_121, s141_122, s141_125, s141_126, s141_127, s141_130, s141_131, s141_134, s141_135, s141_137, s141_138, s141_141, m_isCorner_n h1 k2 37 _ hx, false_implies, true_implies, not_true_eq_false, not_false_eq_true, true_and, and_true, true_or, or_true, false_or, or_false, false_and, and_false, implies_true, nw_psh_s, nw_psh_n, ni_10, ni_00]
      exact hQ mm (nm_sc_rf mm)
  rcases ix3 y (n := nt_n T) (by omega) with hy | ⟨a, ha, rfl⟩
  · refine nP_same (r := -2) hX0 hM0 (fun Q hQ => ?_) (fun Q hQ => ?_)
    · simp only [e88, s88_0, s88_1, s88_4, s88_5, s88_8, s88_11, s88_12, s88_15, s88_16, s88_19, s88_22, s88_23, s88_24, s88_27, s88_30, s88_33, s88_35, s88_36, s88_37, s88_38, s88_41, s88_43, s88_44, s88_45, s88_48, s88_49, s88_50, s88_51, s88_52, s88_55, s88_57, s88_58, s88_59, s88_62, s88_64, s88_65, s88_68, s88_70, s88_71, s88_72, s88_75, s88_76, s88_79, s88_80, s88_81, s88_83, s88_86, s88_87, s88_90, x_hasCorner_y (Or.inl rfl) h1 h2 38 _ hc, x_hasCorner_n (Or.inl rfl) h2 38 _ hy, false_implies, true_implies, not_true_eq_false, not_false_eq_true, true_and, and_true, true_or, or_true, false_or, or_false, false_and, and_false, implies_true, nw_psh_s, nw_psh_n, ni_10, ni_00]
      exact hQ
    · simp only [e141, s141_0, s141_1, s141_2, s141_5, s141_8, s141_9, s141_10, s141_13, s141_16, s141_17, s141_20, s141_21, s141_22, s141_25, s141_28, s141_30, s141_31, s141_32, s141_33, s141_36, s141_38, s141_39, s141_40, s141_42, s141_45, s141_47, s141_48, s141_52, s141_53, s141_56, s141_59, s141_61, s141_64, s141_65, s141_67, s141_68, s141_69, s141_72, s141_74, s141_76, s141_77, s141_80, s141_82, s141_84, s141_87, s141_89, s141_91, s141_93, s141_95, s141_98, s141_101, s141_103, s141_104, s141_107, s141_108, s141_111, s141_112, s141_113, s141_116, s141_118, s141_121, s141_122, s141_125, s141_126, s141_127, s141_130, s141_131, s141_134, s141_135, s141_137, s141_138, s141_141, m_isCorner_y h1 k2 37 _ hc, m_isCorner_n h1 k2 37 _ hy, false_implies, true_implies, not_true_eq_false, not_false_eq_true, true_and, and_true, true_or, or_true, false_or, or_false, false_and, and_false, implies_true, nw_psh_s, nw_psh_n, ni_10, ni_00]
      exact hQ mm (nm_sc_rf mm)
  have hcn := h2.1
  by_cases hin1 : nI (nt_n T) ≤ i
  · have hi0 : (i < 0) = False := eq_false (fun q => by
      rw [fa_lt] at q
      rw [fa_le, nI_toInt (by omega)] at hin1
      have : (0 : Int32).toInt = 0 := rfl
      omega)
    have hilt : (i < nI (nt_n T)) = False := eq_false (fun q => by
      rw [fa_lt] at q
      rw [fa_le] at hin1
      omega)
    refine nP_same (r := -2) hX0 hM0 (fun Q hQ => ?_) (fun Q hQ => ?_)
    · simp only [e88, s88_0, s88_1, s88_4, s88_5, s88_8, s88_11, s88_12, s88_15, s88_16, s88_19, s88_22, s88_23, s88_24, s88_27, s88_30, s88_33, s88_35, s88_36, s88_37, s88_38, s88_41, s88_43, s88_44, s88_45, s88_48, s88_49, s88_50, s88_51, s88_52, s88_55, s88_57, s88_58, s88_59, s88_62, s88_64, s88_65, s88_68, s88_70, s88_71, s88_72, s88_75, s88_76, s88_79, s88_80, s88_81, s88_83, s88_86, s88_87, s88_90, x_hasCorner_y (Or.inl rfl) h1 h2 38 _ hc, x_hasCorner_y (Or.inl rfl) h1 h2 38 _ ha, hcn, hilt, false_implies, true_implies, not_true_eq_false, not_false_eq_true, true_and, and_true, true_or, or_true, false_or, or_false, false_and, and_false, implies_true, nw_psh_s, nw_psh_n, ni_10, ni_00]
      exact hQ
    · simp only [e141, s141_0, s141_1, s141_2, s141_5, s141_8, s141_9, s141_10, s141_13, s141_16, s141_17, s141_20, s141_21, s141_22, s141_25, s141_28, s141_30, s141_31, s141_32, s141_33, s141_36, s141_38, s141_39, s141_40, s141_42, s141_45, s141_47, s141_48, s141_52, s141_53, s141_56, s141_59, s141_61, s141_64, s141_65, s141_67, s141_68, s141_69, s141_72, s141_74, s141_76, s141_77, s141_80, s141_82, s141_84, s141_87, s141_89, s141_91, s141_93, s141_95, s141_98, s141_101, s141_103, s141_104, s141_107, s141_108, s141_111, s141_112, s141_113, s141_116, s141_118, s141_121, s141_122, s141_125, s141_126, s141_127, s141_130, s141_131, s141_134, s141_135, s141_137, s141_138, s141_141, m_isCorner_y h1 k2 37 _ hc, m_isCorner_y h1 k2 37 _ ha, hi0, m_isCorner_n h1 k2 37 _ (Or.inr hin1), false_implies, true_implies, not_true_eq_false, not_false_eq_true, true_and, and_true, true_or, or_true, false_or, or_false, false_and, and_false, implies_true, nw_psh_s, nw_psh_n, ni_10, ni_00]
      exact hQ mm (nm_sc_rf mm)
  have hilt : (i < nI (nt_n T)) = True := eq_true (by
    rw [fa_lt]
    rw [fa_le] at hin1
    omega)
  have hMi : ∀ Q : nw_K, nw_Ev 39 nw_shM 141 Q 31 [some (.ref 0), some (.int (nI c)), some (.int (nI a)), some (.int i), none, none, none, none] [] mm → nw_Ex 40 nw_shM 141 [.ref 0, .int (nI c), .int (nI a), .int i] mm Q := by
    intro Q hQ
    by_cases hi0 : i < 0
    · simp only [e141, s141_0, s141_1, s141_2, s141_5, s141_8, s141_9, s141_10, s141_13, s141_16, s141_17, s141_20, s141_21, s141_22, s141_25, s141_28, s141_30, s141_32, s141_33, s141_36, s141_38, s141_39, s141_40, s141_42, s141_45, s141_47, s141_48, s141_52, s141_53, s141_56, s141_59, s141_61, s141_64, s141_65, s141_67, s141_68, s141_69, s141_72, s141_74, s141_76, s141_77, s141_80, s141_82, s141_84, s141_87, s141_89, s141_91, s141_93, s141_95, s141_98, s141_101, s141_103, s141_104, s141_107, s141_108, s141_111, s141_112, s141_113, s141_116, s141_118, s141_121, s141_122, s141_125, s141_126, s141_127, s141_130, s141_131, s141_134, s141_135, s141_137, s141_138, s141_141, m_isCorner_y h1 k2 37 _ hc, m_isCorner_y h1 k2 37 _ ha, hi0, false_implies, true_implies, not_true_eq_false, not_false_eq_true, true_and, and_true, true_or, or_true, false_or, or_false, false_and, and_false, implies_true, nw_psh_s, nw_psh_n, ni_10, ni_00]
      exact hQ
    · rcases ix3 i (n := nt_n T) (by omega) with hq | ⟨i0, hi0', rfl⟩
      · exact absurd hq (fun q => q.elim hi0 hin1)
      · simp only [e141, s141_0, s141_1, s141_2, s141_5, s141_8, s141_9, s141_10, s141_13, s141_16, s141_17, s141_20, s141_21, s141_22, s141_25, s141_28, s141_30, s141_32, s141_33, s141_36, s141_38, s141_39, s141_40, s141_42, s141_45, s141_47, s141_48, s141_52, s141_53, s141_56, s141_59, s141_61, s141_64, s141_65, s141_67, s141_68, s141_69, s141_72, s141_74, s141_76, s141_77, s141_80, s141_82, s141_84, s141_87, s141_89, s141_91, s141_93, s141_95, s141_98, s141_101, s141_103, s141_104, s141_107, s141_108, s141_111, s141_112, s141_113, s141_116, s141_118, s141_121, s141_122, s141_125, s141_126, s141_127, s141_130, s141_131, s141_134, s141_135, s141_137, s141_138, s141_141, m_isCorner_y h1 k2 37 _ hc, m_isCorner_y h1 k2 37 _ ha, hi0, m_isCorner_y h1 k2 37 _ hi0', false_implies, true_implies, not_true_eq_false, not_false_eq_true, true_and, and_true, true_or, or_true, false_or, or_false, false_and, and_false, implies_true, nw_psh_s, nw_psh_n, ni_10, ni_00]
        exact hQ
  have hXi : ∀ Q : nw_K, nw_Ev 39 nw_shX 88 Q 36 [some (.ref 0), some (.int (nI c)), some (.int (nI a)), some (.int i), none] [] mx → nw_Ex 40 nw_shX 88 [.ref 0, .int (nI c), .int (nI a), .int i] mx Q := by
    intro Q hQ
    simp only [e88, s88_0, s88_1, s88_4, s88_5, s88_8, s88_11, s88_12, s88_15, s88_16, s88_19, s88_22, s88_23, s88_24, s88_27, s88_30, s88_33, s88_35, s88_37, s88_38, s88_41, s88_43, s88_44, s88_45, s88_48, s88_49, s88_50, s88_51, s88_52, s88_55, s88_57, s88_58, s88_59, s88_62, s88_64, s88_65, s88_68, s88_70, s88_71, s88_72, s88_75, s88_76, s88_79, s88_80, s88_81, s88_83, s88_86, s88_87, s88_90, x_hasCorner_y (Or.inl rfl) h1 h2 38 _ hc, x_hasCorner_y (Or.inl rfl) h1 h2 38 _ ha, hcn, hilt, false_implies, true_implies, not_true_eq_false, not_false_eq_true, true_and, and_true, true_or, or_true, false_or, or_false, false_and, and_false, implies_true, nw_psh_s, nw_psh_n, ni_10, ni_00]
    exact hQ
  by_cases him : (-1 : Int32) ≤ i
  · have hcase : i = -1 ∨ ∃ i0, i0 < nt_n T ∧ i = nI i0 := by
      rcases ix3 i (n := nt_n T) (by omega) with hq | ⟨i0, hi0', rfl⟩
      · refine Or.inl ?_
        have q := hq.resolve_right hin1
        rw [fa_lt] at q
        rw [fa_le] at him
        have e0 : (0 : Int32).toInt = 0 := rfl
        have e1 : (-1 : Int32).toInt = -1 := rfl
        exact Int32.toInt_inj.mp (by omega)
      · exact Or.inr ⟨i0, hi0', rfl⟩
    have hM1 : ∀ Q : nw_K, (∀ m2, nm_sc mm m2 → ∀ z l7, nw_Ev 39 nw_shM 141 Q 101 [some (.ref 0), some (.int (nI c)), some (.int (nI a)), some (.int i), some (.int (nq_b (nQe T (fun v => nt_fa T a 99 (v, c) 0) (nk_p T (nt_n T))))), some (.int (nq_l (nQe T (fun v => nt_fa T a 99 (v, c) 0) (nk_p T (nt_n T))))), some (.int z), l7] [] m2) → nw_Ex 40 nw_shM 141 [.ref 0, .int (nI c), .int (nI a), .int i] mm Q := by
      intro Q hQ
      refine hMi Q ?_
      simp only [e141, s141_0, s141_1, s141_2, s141_5, s141_8, s141_9, s141_10, s141_13, s141_16, s141_17, s141_20, s141_21, s141_22, s141_25, s141_28, s141_30, s141_31, s141_32, s141_33, s141_36, s141_38, s141_39, s141_40, s141_42, s141_45, s141_47, s141_48, s141_52, s141_53, s141_56, s141_59, s141_61, s141_64, s141_65, s141_67, s141_68, s141_69, s141_72, s141_74, s141_76, s141_77, s141_80, s141_82, s141_84, s141_87, s141_89, s141_91, s141_93, s141_95, s141_98, s141_101, s141_103, s141_104, s141_107, s141_108, s141_111, s141_112, s141_113, s141_116, s141_118, s141_121, s141_122, s141_125, s141_126, s141_127, s141_130, s141_131, s141_134, s141_135, s141_137, s141_138, s141_141, him, false_implies, true_implies, not_true_eq_false, not_false_eq_true, true_and, and_true, true_or, or_true, false_or, or_false, false_and, and_false, implies_true, nw_psh_s, nw_psh_n, ni_10, ni_00]
      refine m_quick_loop h1 k2 35 Q hc ha i (fun r hr m2 hs2 z l7 => ?_) (nk_p T (nt_n T)) 0 none mm none (by omega) (nm_sc_rf mm) (fun i hi => by omega) (Or.inl rfl)
      rw [nQs_uniq hr (nQe_ok T _ _)]
      exact hQ m2 hs2 z l7
    have hq := nQe_ok T (fun v => nt_fa T a 99 (v, c) 0) (nk_p T (nt_n T))
    cases hr : nQe T (fun v => nt_fa T a 99 (v, c) 0) (nk_p T (nt_n T)) with
    | none =>
      rw [hr] at hq hM1
      have hno := nQ_none h1 hc hq
      refine nP_same (r := -1) hX0 hM0 (fun Q hQ => hXi Q ?_) (fun Q hQ => hM1 Q (fun m2 hs2 z l7 => ?_))
      · simp only [e88, s88_0, s88_1, s88_4, s88_5, s88_8, s88_11, s88_12, s88_15, s88_16, s88_19, s88_22, s88_23, s88_24, s88_27, s88_30, s88_33, s88_35, s88_36, s88_37, s88_38, s88_41, s88_43, s88_44, s88_45, s88_48, s88_49, s88_50, s88_51, s88_52, s88_55, s88_57, s88_58, s88_59, s88_62, s88_64, s88_65, s88_68, s88_70, s88_71, s88_72, s88_75, s88_76, s88_79, s88_80, s88_81, s88_83, s88_86, s88_87, s88_90, him, false_implies, true_implies, not_true_eq_false, not_false_eq_true, true_and, and_true, true_or, or_true, false_or, or_false, false_and, and_false, implies_true, nw_psh_s, nw_psh_n, ni_10, ni_00]
        refine x_dist h1 h2 33 _ nx_S_0 (K := 0) (by decide) (by omega) (by omega) (fun r' hr' => ?_)
        cases r' with
        | some b => exact absurd hr'.2.1 (hno b)
        | none =>
          by_cases hi1 : i = -1
          · simp only [e88, s88_0, s88_1, s88_4, s88_5, s88_8, s88_11, s88_12, s88_15, s88_16, s88_19, s88_22, s88_23, s88_24, s88_27, s88_30, s88_33, s88_35, s88_36, s88_37, s88_38, s88_41, s88_43, s88_44, s88_45, s88_48, s88_49, s88_50, s88_51, s88_52, s88_55, s88_57, s88_58, s88_59, s88_62, s88_64, s88_65, s88_68, s88_70, s88_71, s88_72, s88_75, s88_76, s88_79, s88_80, s88_81, s88_83, s88_86, s88_87, s88_90, nz_o, eq_true hi1, false_implies, true_implies, not_true_eq_false, not_false_eq_true, true_and, and_true, true_or, or_true, false_or, or_false, false_and, and_false, implies_true, nw_psh_s, nw_psh_n, ni_10, ni_00]
            exact hQ
          · simp only [e88, s88_0, s88_1, s88_4, s88_5, s88_8, s88_11, s88_12, s88_15, s88_16, s88_19, s88_22, s88_23, s88_24, s88_27, s88_30, s88_33, s88_35, s88_36, s88_37, s88_38, s88_41, s88_43, s88_44, s88_45, s88_48, s88_49, s88_50, s88_51, s88_52, s88_55, s88_57, s88_58, s88_59, s88_62, s88_64, s88_65, s88_68, s88_70, s88_71, s88_72, s88_75, s88_76, s88_79, s88_80, s88_81, s88_83, s88_86, s88_87, s88_90, nz_o, eq_false hi1, false_implies, true_implies, not_true_eq_false, not_false_eq_true, true_and, and_true, true_or, or_true, false_or, or_false, false_and, and_false, implies_true, nw_psh_s, nw_psh_n, ni_10, ni_00]
            exact hQ
      · simp only [e141, s141_0, s141_1, s141_2, s141_5, s141_8, s141_9, s141_10, s141_13, s141_16, s141_17, s141_20, s141_21, s141_22, s141_25, s141_28, s141_30, s141_31, s141_32, s141_33, s141_36, s141_38, s141_39, s141_40, s141_42, s141_45, s141_47, s141_48, s141_52, s141_53, s141_56, s141_59, s141_61, s141_64, s141_65, s141_67, s141_68, s141_69, s141_72, s141_74, s141_76, s141_77, s141_80, s141_82, s141_84, s141_87, s141_89, s141_91, s141_93, s141_95, s141_98, s141_101, s141_103, s141_104, s141_107, s141_108, s141_111, s141_112, s141_113, s141_116, s141_118, s141_121, s141_122, s141_125, s141_126, s141_127, s141_130, s141_131, s141_134, s141_135, s141_137, s141_138, s141_141, show nq_b none = -1 from rfl, false_implies, true_implies, not_true_eq_false, not_false_eq_true, true_and, and_true, true_or, or_true, false_or, or_false, false_and, and_false, implies_true, nw_psh_s, nw_psh_n, ni_10, ni_00]
        exact hQ m2 hs2
    | some q =>
      obtain ⟨j0, m⟩ := q
      rw [hr] at hq hM1
      obtain ⟨hD, hlex⟩ := nQ_some h1 hc hq
      have hm8 := hD.1
      have hP := nk_p_big h1 (k := nt_n T) h8
      have hj0 := hq.1
      have hb1 := ni_ne_m1 (show j0 < 2 ^ 31 by omega)
      have hb2 := ni_ne_m1 (show m < 2 ^ 31 by omega)
      rcases hcase with hi1 | ⟨i0, hi0, rfl⟩
      · refine nP_same (r := nI m) hX0 hM0 (fun Q hQ => hXi Q ?_) (fun Q hQ => hM1 Q (fun m2 hs2 z l7 => ?_))
        · simp only [e88, s88_0, s88_1, s88_4, s88_5, s88_8, s88_11, s88_12, s88_15, s88_16, s88_19, s88_22, s88_23, s88_24, s88_27, s88_30, s88_33, s88_35, s88_36, s88_37, s88_38, s88_41, s88_43, s88_44, s88_45, s88_48, s88_49, s88_50, s88_51, s88_52, s88_55, s88_57, s88_58, s88_59, s88_62, s88_64, s88_65, s88_68, s88_70, s88_71, s88_72, s88_75, s88_76, s88_79, s88_80, s88_81, s88_83, s88_86, s88_87, s88_90, him, false_implies, true_implies, not_true_eq_false, not_false_eq_true, true_and, and_true, true_or, or_true, false_or, or_false, false_and, and_false, implies_true, nw_psh_s, nw_psh_n, ni_10, ni_00]
          refine x_dist h1 h2 33 _ nx_S_0 (K := 0) (by decide) (by omega) (by omega) (fun r' hr' => ?_)
          rw [nDs_uniq hr' hD]
          simp only [e88, s88_0, s88_1, s88_4, s88_5, s88_8, s88_11, s88_12, s88_15, s88_16, s88_19, s88_22, s88_23, s88_24, s88_27, s88_30, s88_33, s88_35, s88_36, s88_37, s88_38, s88_41, s88_43, s88_44, s88_45, s88_48, s88_49, s88_50, s88_51, s88_52, s88_55, s88_57, s88_58, s88_59, s88_62, s88_64, s88_65, s88_68, s88_70, s88_71, s88_72, s88_75, s88_76, s88_79, s88_80, s88_81, s88_83, s88_86, s88_87, s88_90, nz_o, eq_true hi1, hb2, false_implies, true_implies, not_true_eq_false, not_false_eq_true, true_and, and_true, true_or, or_true, false_or, or_false, false_and, and_false, implies_true, nw_psh_s, nw_psh_n, ni_10, ni_00]
          exact hQ
        · simp only [e141, s141_0, s141_1, s141_2, s141_5, s141_8, s141_9, s141_10, s141_13, s141_16, s141_17, s141_20, s141_21, s141_22, s141_25, s141_28, s141_30, s141_31, s141_32, s141_33, s141_36, s141_38, s141_39, s141_40, s141_42, s141_45, s141_47, s141_48, s141_52, s141_53, s141_56, s141_59, s141_61, s141_64, s141_65, s141_67, s141_68, s141_69, s141_72, s141_74, s141_76, s141_77, s141_80, s141_82, s141_84, s141_87, s141_89, s141_91, s141_93, s141_95, s141_98, s141_101, s141_103, s141_104, s141_107, s141_108, s141_111, s141_112, s141_113, s141_116, s141_118, s141_121, s141_122, s141_125, s141_126, s141_127, s141_130, s141_131, s141_134, s141_135, s141_137, s141_138, s141_141, show nq_b (some (j0, m)) = nI j0 from rfl, show nq_l (some (j0, m)) = nI m from rfl, hb1, eq_true hi1, false_implies, true_implies, not_true_eq_false, not_false_eq_true, true_and, and_true, true_or, or_true, false_or, or_false, false_and, and_false, implies_true, nw_psh_s, nw_psh_n, ni_10, ni_00]
          exact hQ m2 hs2
      · have hi1 := ni_ne_m1 (show i0 < 2 ^ 31 by omega)
        have h4 := (h1.2.2.2 i0).2.1
        refine nP_same (r := if nt_w T i0 = 0 then -1 else nI (nk_v T j0 i0)) hX0 hM0 (fun Q hQ => hXi Q ?_) (fun Q hQ => hM1 Q (fun m2 hs2 z l7 => ?_))
        · simp only [e88, s88_0, s88_1, s88_4, s88_5, s88_8, s88_11, s88_12, s88_15, s88_16, s88_19, s88_22, s88_23, s88_24, s88_27, s88_30, s88_33, s88_35, s88_36, s88_37, s88_38, s88_41, s88_43, s88_44, s88_45, s88_48, s88_49, s88_50, s88_51, s88_52, s88_55, s88_57, s88_58, s88_59, s88_62, s88_64, s88_65, s88_68, s88_70, s88_71, s88_72, s88_75, s88_76, s88_79, s88_80, s88_81, s88_83, s88_86, s88_87, s88_90, him, false_implies, true_implies, not_true_eq_false, not_false_eq_true, true_and, and_true, true_or, or_true, false_or, or_false, false_and, and_false, implies_true, nw_psh_s, nw_psh_n, ni_10, ni_00]
          refine x_dist h1 h2 33 _ nx_S_0 (K := 0) (by decide) (by omega) (by omega) (fun r' hr' => ?_)
          rw [nDs_uniq hr' hD]
          simp only [e88, s88_0, s88_1, s88_4, s88_5, s88_8, s88_11, s88_12, s88_15, s88_16, s88_19, s88_22, s88_23, s88_24, s88_27, s88_30, s88_33, s88_35, s88_36, s88_37, s88_38, s88_41, s88_43, s88_44, s88_45, s88_48, s88_49, s88_50, s88_51, s88_52, s88_55, s88_57, s88_58, s88_59, s88_62, s88_64, s88_65, s88_68, s88_70, s88_71, s88_72, s88_75, s88_76, s88_79, s88_80, s88_81, s88_83, s88_86, s88_87, s88_90, nz_o, hi1, hb2, e51, s51_0, s51_1, s51_3, s51_4, s51_6, s51_7, s51_11, s51_12, s51_15, s51_18, s51_20, s51_21, s51_23, s51_24, s51_25, s51_27, s51_28, s51_32, s51_33, s51_35, s51_38, s51_41, s51_43, s51_45, s51_47, s51_50, s51_52, s51_53, s51_55, s51_57, s51_58, s51_59, s51_62, s51_63, s51_66, s51_69, s51_72, s51_75, s51_78, s51_81, s51_83, false_implies, true_implies, not_true_eq_false, not_false_eq_true, true_and, and_true, true_or, or_true, false_or, or_false, false_and, and_false, implies_true, nw_psh_s, nw_psh_n, ni_10, ni_00]
          refine x_qv h1 h2 32 _ hc ha hm8 (nk_v_ok T j0) hq.2.1 hlex hD.2.2 (fun _ => 0) (fun s' u' hs' he' => ?_) (nt_n T) 0 0 (fun _ => 0) none (by omega) nx_S_0 hz (fun c' hc' => by omega) (Or.inl rfl)
          have hsv := fun Q' => x_shownVane h1 h2 37 Q' hs' (c := i0) (by omega)
          rw [show (u', (fun _ => 0 : Nat → Nat)).1 i0 = nk_v T j0 i0 from he' i0 hi0] at hsv
          simp only [e88, s88_0, s88_1, s88_4, s88_5, s88_8, s88_11, s88_12, s88_15, s88_16, s88_19, s88_22, s88_23, s88_24, s88_27, s88_30, s88_33, s88_35, s88_36, s88_37, s88_38, s88_41, s88_43, s88_44, s88_45, s88_48, s88_49, s88_50, s88_51, s88_52, s88_55, s88_57, s88_58, s88_59, s88_62, s88_64, s88_65, s88_68, s88_70, s88_71, s88_72, s88_75, s88_76, s88_79, s88_80, s88_81, s88_83, s88_86, s88_87, s88_90, hsv, false_implies, true_implies, not_true_eq_false, not_false_eq_true, true_and, and_true, true_or, or_true, false_or, or_false, false_and, and_false, implies_true, nw_psh_s, nw_psh_n, ni_10, ni_00]
          exact hQ
        · have hm2 := nm_T_sc k2 hs2
          have hii : vp_in (nI i0) 8 := vp_in_nI (by omega) (by decide)
          by_cases hw : nt_w T i0 = 0
          · rw [if_pos hw] at hQ
            simp only [e141, s141_0, s141_1, s141_2, s141_5, s141_8, s141_9, s141_10, s141_13, s141_16, s141_17, s141_20, s141_21, s141_22, s141_25, s141_28, s141_30, s141_31, s141_32, s141_33, s141_36, s141_38, s141_39, s141_40, s141_42, s141_45, s141_47, s141_48, s141_52, s141_53, s141_56, s141_59, s141_61, s141_64, s141_65, s141_67, s141_68, s141_69, s141_72, s141_74, s141_76, s141_77, s141_80, s141_82, s141_84, s141_87, s141_89, s141_91, s141_93, s141_95, s141_98, s141_101, s141_103, s141_104, s141_107, s141_108, s141_111, s141_112, s141_113, s141_116, s141_118, s141_121, s141_122, s141_125, s141_126, s141_127, s141_130, s141_131, s141_134, s141_135, s141_137, s141_138, s141_141, show nq_b (some (j0, m)) = nI j0 from rfl, show nq_l (some (j0, m)) = nI m from rfl, hb1, hi1, hii, ni_cl (show i0 < 2 ^ 31 by omega), hm2.2.2.2.1 i0 (by omega), hw, show (nI 0 = 0) = True from eq_true rfl, false_implies, true_implies, not_true_eq_false, not_false_eq_true, true_and, and_true, true_or, or_true, false_or, or_false, false_and, and_false, implies_true, nw_psh_s, nw_psh_n, ni_10, ni_00]
            exact hQ m2 hs2
          · rw [if_neg hw] at hQ
            have hvi := fun Q' => m_vaneIn h1 hm2 38 Q' (N := j0) (c := i0) (by omega) hi0
            simp only [e141, s141_0, s141_1, s141_2, s141_5, s141_8, s141_9, s141_10, s141_13, s141_16, s141_17, s141_20, s141_21, s141_22, s141_25, s141_28, s141_30, s141_31, s141_32, s141_33, s141_36, s141_38, s141_39, s141_40, s141_42, s141_45, s141_47, s141_48, s141_52, s141_53, s141_56, s141_59, s141_61, s141_64, s141_65, s141_67, s141_68, s141_69, s141_72, s141_74, s141_76, s141_77, s141_80, s141_82, s141_84, s141_87, s141_89, s141_91, s141_93, s141_95, s141_98, s141_101, s141_103, s141_104, s141_107, s141_108, s141_111, s141_112, s141_113, s141_116, s141_118, s141_121, s141_122, s141_125, s141_126, s141_127, s141_130, s141_131, s141_134, s141_135, s141_137, s141_138, s141_141, show nq_b (some (j0, m)) = nI j0 from rfl, show nq_l (some (j0, m)) = nI m from rfl, hb1, hi1, hii, ni_cl (show i0 < 2 ^ 31 by omega), hm2.2.2.2.1 i0 (by omega), show (nI (nt_w T i0) = 0) = False from eq_false (ni_ne0 (by omega) (by omega)), hvi, false_implies, true_implies, not_true_eq_false, not_false_eq_true, true_and, and_true, true_or, or_true, false_or, or_false, false_and, and_false, implies_true, nw_psh_s, nw_psh_n, ni_10, ni_00]
            exact hQ m2 hs2
  · refine nP_same (r := -3) hX0 hM0 (fun Q hQ => hXi Q ?_) (fun Q hQ => hMi Q ?_)
    · simp only [e88, s88_0, s88_1, s88_4, s88_5, s88_8, s88_11, s88_12, s88_15, s88_16, s88_19, s88_22, s88_23, s88_24, s88_27, s88_30, s88_33, s88_35, s88_36, s88_37, s88_38, s88_41, s88_43, s88_44, s88_45, s88_48, s88_49, s88_50, s88_51, s88_52, s88_55, s88_57, s88_58, s88_59, s88_62, s88_64, s88_65, s88_68, s88_70, s88_71, s88_72, s88_75, s88_76, s88_79, s88_80, s88_81, s88_83, s88_86, s88_87, s88_90, him, false_implies, true_implies, not_true_eq_false, not_false_eq_true, true_and, and_true, true_or, or_true, false_or, or_false, false_and, and_false, implies_true, nw_psh_s, nw_psh_n, ni_10, ni_00]
      exact hQ
    · simp only [e141, s141_0, s141_1, s141_2, s141_5, s141_8, s141_9, s141_10, s141_13, s141_16, s141_17, s141_20, s141_21, s141_22, s141_25, s141_28, s141_30, s141_31, s141_32, s141_33, s141_36, s141_38, s141_39, s141_40, s141_42, s141_45, s141_47, s141_48, s141_52, s141_53, s141_56, s141_59, s141_61, s141_64, s141_65, s141_67, s141_68, s141_69, s141_72, s141_74, s141_76, s141_77, s141_80, s141_82, s141_84, s141_87, s141_89, s141_91, s141_93, s141_95, s141_98, s141_101, s141_103, s141_104, s141_107, s141_108, s141_111, s141_112, s141_113, s141_116, s141_118, s141_121, s141_122, s141_125, s141_126, s141_127, s141_130, s141_131, s141_134, s141_135, s141_137, s141_138, s141_141, him, false_implies, true_implies, not_true_eq_false, not_false_eq_true, true_and, and_true, true_or, or_true, false_or, or_false, false_and, and_false, implies_true, nw_psh_s, nw_psh_n, ni_10, ni_00]
      exact hQ mm (nm_sc_rf mm)
