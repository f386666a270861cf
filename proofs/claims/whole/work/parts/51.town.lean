/-! TOWN -/
theorem m_town_loop {D' : nD} {ls : List nLn} (hls : ls.length ≤ 12) {m0 : nw_M} (d : Nat) (Q : nw_K) (hfin : ∀ m1 v, nmt m0 m1 → nm_D D' m1 → nmr ls m1 → m1 0 5 = nI ls.length → nw_Ev (d + 2) nw_shM 113 Q 34 [some (.ref 0), some (.int v)] [] m1) :
    ∀ t k D m1, k + t.length = ls.length → (∀ i, t[i]? = ls[k + i]?) → nd_ok D → ndv D t D' → nmt m0 m1 → nm_D D m1 → nmr ls m1 → m1 0 5 = nI ls.length → nw_Ev (d + 2) nw_shM 113 Q 13 [some (.ref 0), some (.int (nI k))] [] m1 := by
  intro t
  induction t with
  | nil =>
    intro k D m1 hk hi hok hv hf hD hr h5
    have hv' : D' = D := hv
    have hk' : k = ls.length := by simpa using hk
    rw [s113_13]
    simp only [e113, s113_0, s113_1, s113_4, s113_5, s113_8, s113_10, s113_11, s113_12, s113_14, s113_15, s113_18, s113_21, s113_22, s113_23, s113_24, s113_25, s113_28, s113_31, s113_35, s113_36, s113_37, s113_40, s113_41, s113_44, s113_45, s113_46, s113_47, s113_48, s113_51, s113_52, s113_53, s113_54, s113_55, s113_56, s113_59, s113_60, s113_63, h5, show (nI ls.length ≤ nI k) = True from ni_le_t (by omega) (by omega), false_implies, true_implies, not_true_eq_false, not_false_eq_true, true_and, and_true, true_or, or_true, false_or, or_false, false_and, and_false, implies_true, nw_psh_s, nw_psh_n, ni_10, ni_00]
    exact hfin m1 _ hf (by rw [hv']; exact hD) hr h5
  | cons l t ih =>
    intro k D m1 hk hi hok hv hf hD hr h5
    obtain ⟨w, a, b⟩ := l
    have hk2 : k < ls.length := by rw [List.length_cons] at hk; omega
    have hl0 : ls[k]? = some (w, a, b) := by rw [← Nat.add_zero k, ← hi 0]; rfl
    obtain ⟨r0, r1, r2⟩ := hr k _ hl0
    have e3 : (3 : Int32) * nI k = nI (3 * k) := pk_mul 3 k
    rw [s113_13]
    simp only [e113, s113_0, s113_1, s113_4, s113_5, s113_8, s113_10, s113_11, s113_12, s113_14, s113_15, s113_18, s113_21, s113_22, s113_23, s113_24, s113_25, s113_28, s113_31, s113_35, s113_36, s113_37, s113_40, s113_41, s113_44, s113_45, s113_46, s113_47, s113_48, s113_51, s113_52, s113_53, s113_54, s113_55, s113_56, s113_59, s113_60, s113_63, h5, show (nI ls.length ≤ nI k) = False from ni_le_f (by omega) (by omega), e3, false_implies, true_implies, not_true_eq_false, not_false_eq_true, true_and, and_true, true_or, or_true, false_or, or_false, false_and, and_false, implies_true, nw_psh_s, nw_psh_n, ni_10, ni_00]
    refine m_tell hok hD hv.1 (by omega) r0 r1 r2 d _ (fun m2 hf2 hD2 => ?_)
    simp only [e113, s113_0, s113_1, s113_4, s113_5, s113_8, s113_10, s113_11, s113_12, s113_14, s113_15, s113_18, s113_21, s113_22, s113_23, s113_24, s113_25, s113_28, s113_31, s113_35, s113_36, s113_37, s113_40, s113_41, s113_44, s113_45, s113_46, s113_47, s113_48, s113_51, s113_52, s113_53, s113_54, s113_55, s113_56, s113_59, s113_60, s113_63, nI_1, false_implies, true_implies, not_true_eq_false, not_false_eq_true, true_and, and_true, true_or, or_true, false_or, or_false, false_and, and_false, implies_true, nw_psh_s, nw_psh_n, ni_10, ni_00]
    refine ih (k + 1) (ndo (w, a, b) D) m2 (by rw [List.length_cons] at hk; omega) (fun i => ?_) (ndo_ok hok hv.1) hv.2 (nmt_tr hf hf2) hD2 (nmr_same hr (fun k => hf2 4 k (by omega) (by omega) (by omega))) (by rw [hf2 0 5 (by omega) (by omega) (by omega)]; exact h5)
    rw [show k + 1 + i = k + (i + 1) by omega, ← hi (i + 1)]
    rfl
theorem x_copy48 {D : nD} {m : nw_M} (hok : nd_ok D) (h : nx_D D m) (d : Nat) (Q : nw_K) (hQ : ∀ m', (∀ c k, ¬ (4 ≤ c ∧ c ≤ 7) → m' c k = m c k) → nx_T 4 D.1 m' → nx_S (m' 4 5) D.2 → Q none m') : nw_Ex (d + 1) nw_shX 6 [.ref 4, .ref 8] m Q := by
  have z8 : ((8 : Int32) < 0) = False := eq_false (by decide)
  have z32 : ((32 : Int32) < 0) = False := eq_false (by decide)
  have z0 : ((0 : Int32) < 0) = False := eq_false (by decide)
  have c8 : (8 : Int32).toNatClampNeg = 8 := by decide
  have c32 : (32 : Int32).toNatClampNeg = 32 := by decide
  have c0 : (0 : Int32).toNatClampNeg = 0 := by decide
  simp only [e6, s6_0, s6_1_4, s6_1_8, s6_4, s6_5, s6_6_4, s6_6_8, s6_9, s6_10, s6_12, s6_15, s6_16_4, s6_16_8, s6_19, s6_20, s6_21_4, s6_21_8, s6_24, s6_25, s6_27, s6_30, s6_31_4, s6_31_8, s6_34, s6_35, s6_36_4, s6_36_8, s6_39, s6_40, s6_42, s6_45, s6_46, s6_47_4, s6_47_8, s6_50_4, s6_50_8, s6_53, s6_54, s6_55_4, s6_55_8, s6_58_4, s6_58_8, s6_61, s6_62, s6_63_4, s6_63_8, s6_66_4, s6_66_8, s6_69, Nat.reduceAdd, nw_cp, show nw_al nw_shX false 5 = some 8 from rfl, show nw_al nw_shX false 6 = some 8 from rfl, show nw_al nw_shX false 7 = some 32 from rfl, show nw_al nw_shX false 9 = some 8 from rfl, show nw_al nw_shX false 10 = some 8 from rfl, show nw_al nw_shX false 11 = some 32 from rfl, z8, z32, z0, c8, c32, c0, Nat.zero_add, Nat.le_refl, not_false_eq_true, and_self, false_implies, true_implies, not_true_eq_false, not_false_eq_true, true_and, and_true, true_or, or_true, false_or, or_false, false_and, and_false, implies_true, nw_psh_s, nw_psh_n, ni_10, ni_00]
  obtain ⟨⟨a1, a2, a3, a4, a5⟩, hS⟩ := h
  refine hQ _ (fun c k hc => ?_) ⟨?_, ?_, fun j hj => ?_, fun j hj => ?_, fun j hj i hi => ?_⟩ ?_
  · rw [nw_up_at, if_neg (by omega), nw_up_at, if_neg (by omega), nw_up_at, if_neg (by omega), nw_cp_ne _ _ _ _ _ (by omega), nw_cp_ne _ _ _ _ _ (by omega), nw_cp_ne _ _ _ _ _ (by omega)]
  · simp only [nw_up_at, nw_row_at, Nat.reduceEqDiff, and_self, and_false, false_and, if_true, if_false]; exact a1
  · simp only [nw_up_at, nw_row_at, Nat.reduceEqDiff, and_self, and_false, false_and, if_true, if_false]; exact a2
  · simp only [nw_up_at, nw_row_at, Nat.reduceEqDiff, Nat.reduceAdd, and_self, and_false, false_and, if_true, if_false]
    rw [pk_cpy_in (Nat.zero_le j) (by omega), Nat.sub_zero, Nat.zero_add]; exact a3 j hj
  · simp only [nw_up_at, nw_row_at, Nat.reduceEqDiff, Nat.reduceAdd, and_self, and_false, false_and, if_true, if_false]
    rw [pk_cpy_in (Nat.zero_le j) (by omega), Nat.sub_zero, Nat.zero_add, nw_cp_ne _ _ _ _ _ (by decide)]; exact a4 j hj
  · have h4 := (hok.1.2.2.2 j).2.1
    simp only [nw_up_at, nw_row_at, Nat.reduceEqDiff, Nat.reduceAdd, and_self, and_false, false_and, if_true, if_false]
    rw [pk_cpy_in (Nat.zero_le _) (by omega), Nat.sub_zero, Nat.zero_add, nw_cp_ne _ _ _ _ _ (by decide), nw_cp_ne _ _ _ _ _ (by decide)]; exact a5 j hj i hi
  · simp only [nw_up_at, nw_row_at, Nat.reduceEqDiff, and_self, and_false, false_and, if_true, if_false]; exact hS
theorem p_town (A : nA) : nP2 A 73 113 [] := by
  intro mx mm hX hM
  obtain ⟨T, τ, σ, g, kp, L, tx⟩ := A
  have hX0 := hX
  have hM0 := hM
  obtain ⟨h1, h2, ⟨h3, h4⟩, -, -, -, h11, h12, h13⟩ := hX
  obtain ⟨-, k2, ⟨-, k3, k3b⟩, -, -, -, k11, k12, k13⟩ := hM
  have hok : nd_ok (T, τ) := ⟨h1, h3⟩
  have hx := fun Q => x_read (D := (T, τ)) hok (m0 := mx) ⟨h11, h12, h13⟩ h2 h4 33 Q
  have hm := fun Q => m_fault (D := (T, τ)) hok (m0 := mm) ⟨k11, k12, k13⟩ k2 33 Q
  cases hr : nrl L tx 12 (T, τ) (ntk L tx 0) [] with
  | inl p =>
    have hp := nrl_le 12 _ _ _ p hok (ntk_le tx (Nat.zero_le L)).2 hr
    have hne := ni_ne_m1 (show p < 2 ^ 31 by omega)
    rw [hr] at hx hm
    refine ⟨(T, τ, σ, g, kp, L, tx), -4, fun Q hQ => ?_, fun Q hQ => ?_⟩
    · simp only [e73, s73_0, s73_1, s73_4, s73_5, s73_8, s73_9, s73_12, s73_15, s73_16, s73_19, s73_21, s73_22, s73_23, s73_26, s73_27, s73_30, s73_33, s73_36, s73_37, s73_38, s73_41, s73_44, s73_47, s73_48, s73_49, s73_52, s73_53, s73_55, s73_56, s73_59, s73_60, s73_63, s73_64, s73_65, s73_66, s73_69, s73_72, s73_73, s73_76, s73_79, s73_80, s73_81, s73_84, s73_87, false_implies, true_implies, not_true_eq_false, not_false_eq_true, true_and, and_true, true_or, or_true, false_or, or_false, false_and, and_false, implies_true, nw_psh_s, nw_psh_n, ni_10, ni_00]
      refine hx _ (fun m' hf => ?_)
      simp only [e73, s73_0, s73_1, s73_4, s73_5, s73_8, s73_9, s73_12, s73_15, s73_16, s73_19, s73_21, s73_22, s73_23, s73_26, s73_27, s73_30, s73_33, s73_36, s73_37, s73_38, s73_41, s73_44, s73_47, s73_48, s73_49, s73_52, s73_53, s73_55, s73_56, s73_59, s73_60, s73_63, s73_64, s73_65, s73_66, s73_69, s73_72, s73_73, s73_76, s73_79, s73_80, s73_81, s73_84, s73_87, hne, false_implies, true_implies, not_true_eq_false, not_false_eq_true, true_and, and_true, true_or, or_true, false_or, or_false, false_and, and_false, implies_true, nw_psh_s, nw_psh_n, ni_10, ni_00]
      exact hQ m' (nX_h hX0 hf)
    · simp only [e113, s113_0, s113_1, s113_4, s113_5, s113_8, s113_10, s113_11, s113_12, s113_14, s113_15, s113_18, s113_21, s113_22, s113_23, s113_24, s113_25, s113_28, s113_31, s113_34, s113_35, s113_36, s113_37, s113_40, s113_41, s113_44, s113_45, s113_46, s113_47, s113_48, s113_51, s113_52, s113_53, s113_54, s113_55, s113_56, s113_59, s113_60, s113_63, false_implies, true_implies, not_true_eq_false, not_false_eq_true, true_and, and_true, true_or, or_true, false_or, or_false, false_and, and_false, implies_true, nw_psh_s, nw_psh_n, ni_10, ni_00]
      refine hm _ (fun m' hf => ?_)
      simp only [e113, s113_0, s113_1, s113_4, s113_5, s113_8, s113_10, s113_11, s113_12, s113_14, s113_15, s113_18, s113_21, s113_22, s113_23, s113_24, s113_25, s113_28, s113_31, s113_34, s113_35, s113_36, s113_37, s113_40, s113_41, s113_44, s113_45, s113_46, s113_47, s113_48, s113_51, s113_52, s113_53, s113_54, s113_55, s113_56, s113_59, s113_60, s113_63, hne, false_implies, true_implies, not_true_eq_false, not_false_eq_true, true_and, and_true, true_or, or_true, false_or, or_false, false_and, and_false, implies_true, nw_psh_s, nw_psh_n, ni_10, ni_00]
      exact hQ m' (nM_sc hM0 (nmh_sc hf))
  | inr z =>
    obtain ⟨D', ls⟩ := z
    obtain ⟨t, e1, e2, hv⟩ := nrl_dv 12 _ _ _ _ _ hr
    rw [List.nil_append] at e1
    subst e1
    have hok' := ndv_ok ls _ _ hok hv
    rw [hr] at hx hm
    refine ⟨(D'.1, D'.2, D'.2, 0, fun _ => none, 0, tx), nI ls.length, fun Q hQ => ?_, fun Q hQ => ?_⟩
    · simp only [e73, s73_0, s73_1, s73_4, s73_5, s73_8, s73_9, s73_12, s73_15, s73_16, s73_19, s73_21, s73_22, s73_23, s73_26, s73_27, s73_30, s73_33, s73_36, s73_37, s73_38, s73_41, s73_44, s73_47, s73_48, s73_49, s73_52, s73_53, s73_55, s73_56, s73_59, s73_60, s73_63, s73_64, s73_65, s73_66, s73_69, s73_72, s73_73, s73_76, s73_79, s73_80, s73_81, s73_84, s73_87, false_implies, true_implies, not_true_eq_false, not_false_eq_true, true_and, and_true, true_or, or_true, false_or, or_false, false_and, and_false, implies_true, nw_psh_s, nw_psh_n, ni_10, ni_00]
      refine hx _ (fun m1 hf1 hD1 g1 => ?_)
      simp only [e73, s73_0, s73_1, s73_4, s73_5, s73_8, s73_9, s73_12, s73_15, s73_16, s73_19, s73_21, s73_22, s73_23, s73_26, s73_27, s73_30, s73_33, s73_36, s73_37, s73_38, s73_41, s73_44, s73_47, s73_48, s73_49, s73_52, s73_53, s73_55, s73_56, s73_59, s73_60, s73_63, s73_64, s73_65, s73_66, s73_69, s73_72, s73_73, s73_76, s73_79, s73_80, s73_81, s73_84, s73_87, false_implies, true_implies, not_true_eq_false, not_false_eq_true, true_and, and_true, true_or, or_true, false_or, or_false, false_and, and_false, implies_true, nw_psh_s, nw_psh_n, ni_10, ni_00]
      refine x_copy48 hok' hD1 38 _ (fun m2 hf2 hT2 hS2 => ?_)
      have g2 : m2 3 1 = nI ls.length := by rw [hf2 3 1 (by omega)]; exact g1
      simp only [e73, s73_0, s73_1, s73_4, s73_5, s73_8, s73_9, s73_12, s73_15, s73_16, s73_19, s73_21, s73_22, s73_23, s73_26, s73_27, s73_30, s73_33, s73_36, s73_37, s73_38, s73_41, s73_44, s73_47, s73_48, s73_49, s73_52, s73_53, s73_55, s73_56, s73_59, s73_60, s73_63, s73_64, s73_65, s73_66, s73_69, s73_72, s73_73, s73_76, s73_79, s73_80, s73_81, s73_84, s73_87, false_implies, true_implies, not_true_eq_false, not_false_eq_true, true_and, and_true, true_or, or_true, false_or, or_false, false_and, and_false, implies_true, nw_psh_s, nw_psh_n, ni_10, ni_00]
      rw [s73_54]
      simp only [e73, s73_0, s73_1, s73_4, s73_5, s73_8, s73_9, s73_12, s73_15, s73_16, s73_19, s73_21, s73_22, s73_23, s73_26, s73_27, s73_30, s73_33, s73_36, s73_37, s73_38, s73_41, s73_44, s73_47, s73_48, s73_49, s73_52, s73_53, s73_55, s73_56, s73_59, s73_60, s73_63, s73_64, s73_65, s73_66, s73_69, s73_72, s73_73, s73_76, s73_79, s73_80, s73_81, s73_84, s73_87, show ((2 : Int32) ≤ 0) = False from eq_false (by decide), show vp_in (0 : Int32) 2 from ni_in (c := 0) (by decide) (by decide), show (0 : Int32).toNatClampNeg = 0 from by decide, show (0 : Int32) + 1 = 1 from by decide, false_implies, true_implies, not_true_eq_false, not_false_eq_true, true_and, and_true, true_or, or_true, false_or, or_false, false_and, and_false, implies_true, nw_psh_s, nw_psh_n, ni_10, ni_00]
      rw [s73_54]
      simp only [e73, s73_0, s73_1, s73_4, s73_5, s73_8, s73_9, s73_12, s73_15, s73_16, s73_19, s73_21, s73_22, s73_23, s73_26, s73_27, s73_30, s73_33, s73_36, s73_37, s73_38, s73_41, s73_44, s73_47, s73_48, s73_49, s73_52, s73_53, s73_55, s73_56, s73_59, s73_60, s73_63, s73_64, s73_65, s73_66, s73_69, s73_72, s73_73, s73_76, s73_79, s73_80, s73_81, s73_84, s73_87, show ((2 : Int32) ≤ 1) = False from eq_false (by decide), show vp_in (1 : Int32) 2 from ni_in (c := 1) (by decide) (by decide), show (1 : Int32).toNatClampNeg = 1 from by decide, show (1 : Int32) + 1 = 2 from by decide, false_implies, true_implies, not_true_eq_false, not_false_eq_true, true_and, and_true, true_or, or_true, false_or, or_false, false_and, and_false, implies_true, nw_psh_s, nw_psh_n, ni_10, ni_00]
      rw [s73_54]
      simp only [e73, s73_0, s73_1, s73_4, s73_5, s73_8, s73_9, s73_12, s73_15, s73_16, s73_19, s73_21, s73_22, s73_23, s73_26, s73_27, s73_30, s73_33, s73_36, s73_37, s73_38, s73_41, s73_44, s73_47, s73_48, s73_49, s73_52, s73_53, s73_55, s73_56, s73_59, s73_60, s73_63, s73_64, s73_65, s73_66, s73_69, s73_72, s73_73, s73_76, s73_79, s73_80, s73_81, s73_84, s73_87, show ((2 : Int32) ≤ 2) = True from eq_true (by decide), x_clear, nw_up_at, Nat.reduceEqDiff, false_and, if_false, g2, false_implies, true_implies, not_true_eq_false, not_false_eq_true, true_and, and_true, true_or, or_true, false_or, or_false, false_and, and_false, implies_true, nw_psh_s, nw_psh_n, ni_10, ni_00]
      refine hQ _ ⟨hok'.1, ⟨?_, ?_, fun c hc => ?_, fun c hc => ?_, fun c hc j hj => ?_⟩, ⟨hok'.2, ?_⟩, ⟨hok'.2, ?_⟩, ⟨?_, Nat.zero_le _⟩, fun k hk => ?_, ?_, Nat.zero_le _, fun i hi => absurd hi (Nat.not_lt_zero i)⟩
      · simp only [nw_up_at, Nat.reduceEqDiff, false_and, if_false]; exact hT2.1
      · simp only [nw_up_at, Nat.reduceEqDiff, false_and, if_false]; exact hT2.2.1
      · simp only [nw_up_at, Nat.reduceAdd, Nat.reduceEqDiff, false_and, if_false]; exact hT2.2.2.1 c hc
      · simp only [nw_up_at, Nat.reduceAdd, Nat.reduceEqDiff, false_and, if_false]; exact hT2.2.2.2.1 c hc
      · simp only [nw_up_at, Nat.reduceAdd, Nat.reduceEqDiff, false_and, if_false]; exact hT2.2.2.2.2 c hc j hj
      · simp only [nw_up_at, Nat.reduceEqDiff, false_and, if_false]; exact hS2
      · simp only [nw_up_at, Nat.reduceEqDiff, false_and, and_false, and_self, if_false, if_true]; exact hS2
      · simp only [nw_up_at, Nat.reduceEqDiff, false_and, and_false, and_self, if_false, if_true]; rfl
      · show _ = (-1 : Int32)
        simp only [nw_up_at, Nat.reduceEqDiff, false_and, true_and, if_false]
        rcases (show k = 0 ∨ k = 1 by omega) with rfl | rfl
        · rfl
        · rfl
      · simp only [nw_up_at, and_self, if_true]; rfl
    · simp only [e113, s113_0, s113_1, s113_4, s113_5, s113_8, s113_10, s113_11, s113_12, s113_14, s113_15, s113_18, s113_21, s113_22, s113_23, s113_24, s113_25, s113_28, s113_31, s113_34, s113_35, s113_36, s113_37, s113_40, s113_41, s113_44, s113_45, s113_46, s113_47, s113_48, s113_51, s113_52, s113_53, s113_54, s113_55, s113_56, s113_59, s113_60, s113_63, false_implies, true_implies, not_true_eq_false, not_false_eq_true, true_and, and_true, true_or, or_true, false_or, or_false, false_and, and_false, implies_true, nw_psh_s, nw_psh_n, ni_10, ni_00]
      refine hm _ (fun m1 hf1 hr1 g1 => ?_)
      simp only [e113, s113_0, s113_1, s113_4, s113_5, s113_8, s113_10, s113_11, s113_12, s113_14, s113_15, s113_18, s113_21, s113_22, s113_23, s113_24, s113_25, s113_28, s113_31, s113_34, s113_35, s113_36, s113_37, s113_40, s113_41, s113_44, s113_45, s113_46, s113_47, s113_48, s113_51, s113_52, s113_53, s113_54, s113_55, s113_56, s113_59, s113_60, s113_63, false_implies, true_implies, not_true_eq_false, not_false_eq_true, true_and, and_true, true_or, or_true, false_or, or_false, false_and, and_false, implies_true, nw_psh_s, nw_psh_n, ni_10, ni_00]
      have hD1 : nm_D (T, τ) m1 := ⟨nm_T_sc k2 (nmh_sc hf1), nm_S_sc h1 k3 (nmh_sc hf1) (by omega)⟩
      refine m_town_loop (D' := D') (ls := ls) e2 (m0 := m1) 37 Q (fun m2 v hf2 hD2 hr2 g2 => ?_) ls 0 (T, τ) m1 (Nat.zero_add _) (fun i => by rw [Nat.zero_add]) hok hv (nmt_rf m1) hD1 hr1 g1
      simp only [e113, s113_0, s113_1, s113_4, s113_5, s113_8, s113_10, s113_11, s113_12, s113_14, s113_15, s113_18, s113_21, s113_22, s113_23, s113_24, s113_25, s113_28, s113_31, s113_34, s113_35, s113_36, s113_37, s113_40, s113_41, s113_44, s113_45, s113_46, s113_47, s113_48, s113_51, s113_52, s113_53, s113_54, s113_55, s113_56, s113_59, s113_60, s113_63, false_implies, true_implies, not_true_eq_false, not_false_eq_true, true_and, and_true, true_or, or_true, false_or, or_false, false_and, and_false, implies_true, nw_psh_s, nw_psh_n, ni_10, ni_00]
      refine m_copy (a := 4) (b := 0) (by decide) (by decide) (by decide) 38 _ ?_
      have hcp := nm_cp_S hok'.1 (a := 14 * 4) (b := 14 * 0) hD2.2
      have hcf := nm_cp_fr (14 * 4) (14 * 0) m2
      have h69 : m2 1 69 = nI 0 := by rw [hf2 1 69 (by omega) (by omega) (by omega), hf1 1 69 (by omega) (by omega) (by omega)]; exact k3b
      have g3 : nm_cp (14 * 4) (14 * 0) 14 m2 0 5 = nI ls.length := by rw [hcf 0 5 (by omega)]; exact g2
      simp only [e113, s113_0, s113_1, s113_4, s113_5, s113_8, s113_10, s113_11, s113_12, s113_14, s113_15, s113_18, s113_21, s113_22, s113_23, s113_24, s113_25, s113_28, s113_31, s113_34, s113_35, s113_36, s113_37, s113_40, s113_41, s113_44, s113_45, s113_46, s113_47, s113_48, s113_51, s113_52, s113_53, s113_54, s113_55, s113_56, s113_59, s113_60, s113_63, show vp_in (0 : Int32) 2 from ni_in (c := 0) (by decide) (by decide), show vp_in (1 : Int32) 2 from ni_in (c := 1) (by decide) (by decide), show (0 : Int32).toNatClampNeg = 0 from by decide, show (1 : Int32).toNatClampNeg = 1 from by decide, nw_up_at, Nat.reduceEqDiff, false_and, and_false, if_false, g3, false_implies, true_implies, not_true_eq_false, not_false_eq_true, true_and, and_true, true_or, or_true, false_or, or_false, false_and, and_false, implies_true, nw_psh_s, nw_psh_n, ni_10, ni_00]
      refine hQ _ ⟨hok'.1, ⟨?_, ?_, fun c hc => ?_, fun c hc => ?_, fun c hc j hj => ?_⟩, ⟨hok'.2, ⟨fun c hc => ?_, fun w hw => ?_⟩, ?_⟩, ⟨hok'.2, fun c hc => ?_, fun w hw => ?_⟩, ⟨?_, Nat.zero_le _⟩, fun k hk => ?_, ?_, Nat.zero_le _, fun i hi => absurd hi (Nat.not_lt_zero i)⟩
      · simp only [nw_up_at, Nat.reduceEqDiff, false_and, and_false, if_false]; rw [hcf 0 6 (by omega)]; exact hD2.1.1
      · simp only [nw_up_at, Nat.reduceEqDiff, false_and, and_false, if_false]; rw [hcf 0 10 (by omega)]; exact hD2.1.2.1
      · simp only [nw_up_at, Nat.reduceEqDiff, false_and, if_false]; rw [hcf 5 c (by omega)]; exact hD2.1.2.2.1 c hc
      · simp only [nw_up_at, Nat.reduceEqDiff, false_and, if_false]; rw [hcf 6 c (by omega)]; exact hD2.1.2.2.2.1 c hc
      · simp only [nw_up_at, Nat.reduceEqDiff, false_and, if_false]; rw [hcf 7 _ (by omega)]; exact hD2.1.2.2.2.2 c hc j hj
      · simp only [nw_up_at, Nat.reduceEqDiff, false_and, if_false]; rw [hcf 1 _ (by omega)]; exact hD2.2.1 c hc
      · have := hok'.1.2.2.1
        simp only [nw_up_at, Nat.reduceEqDiff, false_and, if_false]; rw [hcf 1 _ (by omega)]; exact hD2.2.2 w hw
      · simp only [nw_up_at, Nat.reduceEqDiff, false_and, if_false]; rw [hcf 1 69 (by omega)]; exact h69
      · simp only [nw_up_at, Nat.reduceEqDiff, false_and, if_false]; exact hcp.1 c hc
      · simp only [nw_up_at, Nat.reduceEqDiff, false_and, if_false]; exact hcp.2 w hw
      · simp only [nw_up_at, Nat.reduceEqDiff, false_and, if_false]
        rw [nm_cp_at, if_pos (by omega)]; exact h69
      · show _ = (0 : Int32)
        simp only [nw_up_at, Nat.reduceEqDiff, false_and, true_and, if_false]
        rcases (show k = 0 ∨ k = 1 by omega) with rfl | rfl
        · rfl
        · rfl
      · simp only [nw_up_at, and_self, if_true]; rfl
