/-! WAY, AS, TURN, PUT, KEEP, BACK, ERASE -/
theorem in_out {y : Int32} {w : Nat} (hw : w < 2 ^ 30) (h : y < 0 ∨ nI w ≤ y) : (y < 0 ∨ nI w - 1 < y) = True := eq_true (h.imp id (fun q => by
  have h2 : (nI w - 1).toInt = (w : Int) - 1 := pk_sub_toInt (b := 1) hw (by decide)
  have h3 := nI_toInt (n := w) (by omega)
  rw [fa_lt, h2]
  rw [fa_le, h3] at q
  omega))
theorem in_in {j w : Nat} (h : j < w) (hw : w < 2 ^ 30) : (nI j < 0 ∨ nI w - 1 < nI j) = False := eq_false (fun q => q.elim (nI_pos (by omega)) (fun q => by
  rw [ni_m1 (by omega)] at q
  exact nI_nlt (by omega) (by omega) q))
theorem in_lit {j n : Nat} (h : j ≤ n) (hn : n < 2 ^ 31) : (nI j < 0 ∨ nI n < nI j) = False := eq_false (fun q => q.elim (nI_pos (by omega)) (nI_nlt h hn))
theorem in_lit_out {x : Int32} {n : Nat} (hn : n + 1 < 2 ^ 31) (h : x < 0 ∨ nI (n + 1) ≤ x) : (x < 0 ∨ nI n < x) = True := eq_true (h.imp id (fun q => by
  have h2 := nI_toInt (n := n) (by omega)
  have h3 := nI_toInt (n := n + 1) (by omega)
  rw [fa_lt, h2]
  rw [fa_le, h3] at q
  omega))
theorem gt_lit_out {x : Int32} {n : Nat} (hn : n + 1 < 2 ^ 31) (h : nI (n + 1) ≤ x) : nI n < x := by
  have h2 := nI_toInt (n := n) (by omega)
  have h3 := nI_toInt (n := n + 1) (by omega)
  rw [fa_lt, h2]
  rw [fa_le, h3] at h
  omega
theorem p_way (A : nA) (x y : Int32) : nP2 A 75 121 [.int x, .int y] := by
  intro mx mm hX hM
  obtain ⟨T, τ, σ, g, kp, L, tx⟩ := A
  have hX0 := hX
  have hM0 := hM
  obtain ⟨h1, h2, -, ⟨h3, h4⟩, -⟩ := hX
  obtain ⟨-, k2, -, ⟨-, k4⟩, -⟩ := hM
  have h8 := h1.2.1
  rcases ix3 x (n := nt_n T) (by omega) with hx | ⟨c, hc, rfl⟩
  · refine nP_same (r := -2) hX0 hM0 (fun Q hQ => ?_) (fun Q hQ => ?_)
    · rcases ix3 x (n := 8) (by decide) with hx8 | ⟨c, hc, rfl⟩
      · simp only [e75, s75_0, s75_1, s75_4, s75_5, s75_6, s75_9, s75_12, s75_13, s75_16, s75_17, s75_18, s75_21, s75_24, s75_26, x_hasWay_out (Or.inl rfl) 37 _ hx8, false_implies, true_implies, not_true_eq_false, not_false_eq_true, true_and, and_true, true_or, or_true, false_or, or_false, false_and, and_false, implies_true, nw_psh_s, nw_psh_n, ni_10, ni_00]
        exact hQ
      · have hn : nt_n T ≤ c := by
          rcases hx with q | q
          · exact absurd q (nI_pos (by omega))
          · exact (nI_leI (by omega) (by omega)).mp q
        have hw0 := (h1.2.2.2 c).2.2.1 hn
        have hy : y < 0 ∨ nI (nt_w T c) ≤ y := by
          rw [hw0]
          by_cases q : y < 0
          · exact Or.inl q
          · exact Or.inr (fb_le0.mpr q)
        simp only [e75, s75_0, s75_1, s75_4, s75_5, s75_6, s75_9, s75_12, s75_13, s75_16, s75_17, s75_18, s75_21, s75_24, s75_26, x_hasWay_n (Or.inl rfl) h1 h2 37 _ hc hy, false_implies, true_implies, not_true_eq_false, not_false_eq_true, true_and, and_true, true_or, or_true, false_or, or_false, false_and, and_false, implies_true, nw_psh_s, nw_psh_n, ni_10, ni_00]
        exact hQ
    · simp only [e121, s121_0, s121_1, s121_2, s121_5, s121_8, s121_9, s121_10, s121_11, s121_12, s121_15, s121_16, s121_17, s121_18, s121_19, s121_20, s121_23, s121_26, s121_27, s121_30, s121_31, s121_32, s121_33, s121_34, s121_35, s121_36, s121_39, s121_41, m_isCorner_n h1 k2 37 _ hx, false_implies, true_implies, not_true_eq_false, not_false_eq_true, true_and, and_true, true_or, or_true, false_or, or_false, false_and, and_false, implies_true, nw_psh_s, nw_psh_n, ni_10, ni_00]
      exact hQ mm (nm_sc_rf mm)
  · have h4w := (h1.2.2.2 c).2.1
    have hi : vp_in (nI c) 8 := vp_in_nI (by omega) (by decide)
    have hkw := k2.2.2.2.1 c (by omega)
    rcases ix3 y (n := nt_w T c) (by omega) with hy | ⟨j, hj, rfl⟩
    · refine nP_same (r := -2) hX0 hM0 (fun Q hQ => ?_) (fun Q hQ => ?_)
      · simp only [e75, s75_0, s75_1, s75_4, s75_5, s75_6, s75_9, s75_12, s75_13, s75_16, s75_17, s75_18, s75_21, s75_24, s75_26, x_hasWay_n (Or.inl rfl) h1 h2 37 _ (show c < 8 by omega) hy, false_implies, true_implies, not_true_eq_false, not_false_eq_true, true_and, and_true, true_or, or_true, false_or, or_false, false_and, and_false, implies_true, nw_psh_s, nw_psh_n, ni_10, ni_00]
        exact hQ
      · have hin := fun Q' => m_in 38 Q' y 0 (nI (nt_w T c) - 1) mm
        simp only [e121, s121_0, s121_1, s121_2, s121_5, s121_8, s121_9, s121_10, s121_11, s121_12, s121_15, s121_16, s121_17, s121_18, s121_19, s121_20, s121_23, s121_26, s121_27, s121_30, s121_31, s121_32, s121_33, s121_34, s121_35, s121_36, s121_39, s121_41, m_isCorner_y h1 k2 37 _ hc, hi, ni_cl (show c < 2 ^ 31 by omega), hkw, lw_0, hin, in_out (show nt_w T c < 2 ^ 30 by omega) hy, if_true, false_implies, true_implies, not_true_eq_false, not_false_eq_true, true_and, and_true, true_or, or_true, false_or, or_false, false_and, and_false, implies_true, nw_psh_s, nw_psh_n, ni_10, ni_00]
        exact hQ mm (nm_sc_rf mm)
    · refine nP_same (r := nI (nt_e T c j)) hX0 hM0 (fun Q hQ => ?_) (fun Q hQ => ?_)
      · simp only [e75, s75_0, s75_1, s75_4, s75_5, s75_6, s75_9, s75_12, s75_13, s75_16, s75_17, s75_18, s75_21, s75_24, s75_26, x_hasWay_y (Or.inl rfl) h1 h2 37 _ (show c < 8 by omega) hj, x_endOf h1 h2 36 _ (show c < 8 by omega) hj, false_implies, true_implies, not_true_eq_false, not_false_eq_true, true_and, and_true, true_or, or_true, false_or, or_false, false_and, and_false, implies_true, nw_psh_s, nw_psh_n, ni_10, ni_00]
        exact hQ
      · have hin := fun Q' => m_in 38 Q' (nI j) 0 (nI (nt_w T c) - 1) mm
        have hi2 : vp_in (nI (4 * c + j)) 32 := vp_in_nI (by omega) (by decide)
        have e4 : (4 : Int32) * nI c = nI (4 * c) := pk_mul 4 c
        simp only [e121, s121_0, s121_1, s121_2, s121_5, s121_8, s121_9, s121_10, s121_11, s121_12, s121_15, s121_16, s121_17, s121_18, s121_19, s121_20, s121_23, s121_26, s121_27, s121_30, s121_31, s121_32, s121_33, s121_34, s121_35, s121_36, s121_39, s121_41, m_isCorner_y h1 k2 37 _ hc, hi, hi2, ni_cl (show c < 2 ^ 31 by omega), ni_cl (show 4 * c + j < 2 ^ 31 by omega), hkw, lw_0, hin, in_in hj (show nt_w T c < 2 ^ 30 by omega), e4, nI_add, k2.2.2.2.2 c (by omega) j hj, if_false, false_implies, true_implies, not_true_eq_false, not_false_eq_true, true_and, and_true, true_or, or_true, false_or, or_false, false_and, and_false, implies_true, nw_psh_s, nw_psh_n, ni_10, ni_00]
        exact hQ mm (nm_sc_rf mm)
/-- a corner of kind k, taken as the kind a -/
def nt_such (k a : Nat) : Bool := decide (a = 0 ∨ a = k + 1 ∨ a = 1 ∧ ¬ k = 3)
theorem x_isSuch {T : nt_T} (hT : nt_ok T) {mem : nw_M} (hm : nx_T 4 T mem) (d : Nat) (Q : nw_K) {c a : Nat} (hc : c < 8) (ha : a < 5) : nw_Ex (d + 2) nw_shX 22 [.ref 4, .int (nI c), .int (nI a)] mem Q = Q (some (.int (if nt_such (nt_k T c) a then 1 else 0))) mem := by
  have hk := fun Q' => x_kindOf hm d Q' hc
  have h3 := (hT.2.2.2 c).1
  unfold nt_such
  have e0 : (nI a = 0) = (a = 0) := propext (nI_eq (b := 0) (by omega) (by decide))
  have e1 : (nI a = 1) = (a = 1) := propext (nI_eq (b := 1) (by omega) (by decide))
  have e2 : (nI a = nI (nt_k T c) + 1) = (a = nt_k T c + 1) := by rw [nI_1]; exact propext (nI_eq (by omega) (by omega))
  have e3 : (nI (nt_k T c) = 3) = (nt_k T c = 3) := propext (nI_eq (b := 3) (by omega) (by decide))
  simp only [e22, s22_0, s22_1, s22_2, s22_5, s22_6, s22_7, s22_10, s22_11, s22_12, s22_13, s22_14, s22_17, s22_18, s22_19, s22_22, s22_23, s22_24, s22_27, s22_28, s22_31, s22_32, hk, nw_psh_s, e0, e1, e2, e3]
  by_cases q0 : a = 0
  · simp [q0]
  · by_cases q2 : a = nt_k T c + 1
    · simp [q2]
    · by_cases q1 : a = 1
      · by_cases q3 : nt_k T c = 3
        · simp [q0, q1, q2, q3]
        · subst q1
          simp [q2, q3]
      · simp [q0, q1, q2]
theorem p_as (A : nA) (x y : Int32) : nP2 A 76 122 [.int x, .int y] := by
  intro mx mm hX hM
  obtain ⟨T, τ, σ, g, kp, L, tx⟩ := A
  have hX0 := hX
  have hM0 := hM
  obtain ⟨h1, h2, -, ⟨h3, h4⟩, -⟩ := hX
  obtain ⟨-, k2, -, ⟨-, k4⟩, -⟩ := hM
  have h8 := h1.2.1
  rcases ix3 x (n := nt_n T) (by omega) with hx | ⟨c, hc, rfl⟩
  · refine nP_same (r := -2) hX0 hM0 (fun Q hQ => ?_) (fun Q hQ => ?_)
    · simp only [e76, s76_0, s76_1, s76_4, s76_5, s76_8, s76_11, s76_13, s76_14, s76_15, s76_18, s76_19, s76_20, s76_23, s76_25, s76_26, s76_27, s76_30, s76_31, s76_32, s76_35, s76_38, s76_40, s76_41, s76_42, s76_45, s76_46, s76_49, s76_52, s76_53, s76_56, s76_57, s76_60, s76_61, s76_64, s76_65, s76_68, s76_69, s76_72, s76_75, s76_76, x_hasCorner_n (Or.inl rfl) h2 38 _ hx, false_implies, true_implies, not_true_eq_false, not_false_eq_true, true_and, and_true, true_or, or_true, false_or, or_false, false_and, and_false, implies_true, nw_psh_s, nw_psh_n, ni_10, ni_00]
      exact hQ
    · simp only [e122, s122_0, s122_1, s122_2, s122_5, s122_8, s122_10, s122_11, s122_12, s122_13, s122_14, s122_17, s122_20, s122_23, s122_25, s122_26, s122_27, s122_30, s122_31, s122_32, s122_33, s122_34, s122_37, s122_38, s122_39, s122_42, s122_43, s122_44, s122_47, s122_48, s122_49, s122_52, s122_53, s122_54, s122_57, s122_58, s122_59, s122_62, s122_63, s122_64, s122_67, s122_68, s122_69, s122_72, s122_73, s122_74, s122_77, s122_78, s122_81, s122_82, s122_84, s122_86, s122_89, s122_91, s122_94, s122_95, s122_96, s122_99, s122_102, s122_103, s122_106, s122_107, s122_108, s122_109, s122_110, s122_111, s122_112, s122_115, s122_116, s122_117, s122_120, s122_121, m_isCorner_n h1 k2 37 _ hx, false_implies, true_implies, not_true_eq_false, not_false_eq_true, true_and, and_true, true_or, or_true, false_or, or_false, false_and, and_false, implies_true, nw_psh_s, nw_psh_n, ni_10, ni_00]
      exact hQ mm (nm_sc_rf mm)
  · have hin := fun Q' => m_in 38 Q' y 0 4 mm
    rcases ix3 y (n := 5) (by decide) with hy | ⟨a, ha, rfl⟩
    · refine nP_same (r := -3) hX0 hM0 (fun Q hQ => ?_) (fun Q hQ => ?_)
      · by_cases q : y < 0
        · simp only [e76, s76_0, s76_1, s76_4, s76_5, s76_8, s76_11, s76_13, s76_14, s76_15, s76_18, s76_19, s76_20, s76_23, s76_25, s76_26, s76_27, s76_30, s76_31, s76_32, s76_35, s76_38, s76_40, s76_41, s76_42, s76_45, s76_46, s76_49, s76_52, s76_53, s76_56, s76_57, s76_60, s76_61, s76_64, s76_65, s76_68, s76_69, s76_72, s76_75, s76_76, x_hasCorner_y (Or.inl rfl) h1 h2 38 _ hc, q, false_implies, true_implies, not_true_eq_false, not_false_eq_true, true_and, and_true, true_or, or_true, false_or, or_false, false_and, and_false, implies_true, nw_psh_s, nw_psh_n, ni_10, ni_00]
          exact hQ
        · have q2 : (y ≤ 4) = False := eq_false (fun z => by
            have := gt_lit_out (n := 4) (by decide) (hy.resolve_left q)
            rw [fa_lt] at this
            rw [fa_le] at z
            have h4 : (4 : Int32) = nI 4 := rfl
            rw [h4] at z
            omega)
          simp only [e76, s76_0, s76_1, s76_4, s76_5, s76_8, s76_11, s76_13, s76_14, s76_15, s76_18, s76_19, s76_20, s76_23, s76_25, s76_26, s76_27, s76_30, s76_31, s76_32, s76_35, s76_38, s76_40, s76_41, s76_42, s76_45, s76_46, s76_49, s76_52, s76_53, s76_56, s76_57, s76_60, s76_61, s76_64, s76_65, s76_68, s76_69, s76_72, s76_75, s76_76, x_hasCorner_y (Or.inl rfl) h1 h2 38 _ hc, q, q2, false_implies, true_implies, not_true_eq_false, not_false_eq_true, true_and, and_true, true_or, or_true, false_or, or_false, false_and, and_false, implies_true, nw_psh_s, nw_psh_n, ni_10, ni_00]
          exact hQ
      · simp only [e122, s122_0, s122_1, s122_2, s122_5, s122_8, s122_10, s122_11, s122_12, s122_13, s122_14, s122_17, s122_20, s122_23, s122_25, s122_26, s122_27, s122_30, s122_31, s122_32, s122_33, s122_34, s122_37, s122_38, s122_39, s122_42, s122_43, s122_44, s122_47, s122_48, s122_49, s122_52, s122_53, s122_54, s122_57, s122_58, s122_59, s122_62, s122_63, s122_64, s122_67, s122_68, s122_69, s122_72, s122_73, s122_74, s122_77, s122_78, s122_81, s122_82, s122_84, s122_86, s122_89, s122_91, s122_94, s122_95, s122_96, s122_99, s122_102, s122_103, s122_106, s122_107, s122_108, s122_109, s122_110, s122_111, s122_112, s122_115, s122_116, s122_117, s122_120, s122_121, m_isCorner_y h1 k2 37 _ hc, lw_0, lw_4, hin, show (y < 0 ∨ (4 : Int32) < y) = True from in_lit_out (n := 4) (by decide) hy, if_true, false_implies, true_implies, not_true_eq_false, not_false_eq_true, true_and, and_true, true_or, or_true, false_or, or_false, false_and, and_false, implies_true, nw_psh_s, nw_psh_n, ni_10, ni_00]
        exact hQ mm (nm_sc_rf mm)
    · have hc8 : c < 8 := by omega
      have hi : vp_in (nI c) 8 := vp_in_nI (by omega) (by decide)
      have hk := k2.2.2.1 c hc8
      have h3k := (h1.2.2.2 c).1
      have hna : (nI a ≤ 4) = True := ni_le_t (b := 4) (by omega) (by decide)
      have hin2 : (nI a < 0 ∨ (4 : Int32) < nI a) = False := in_lit (n := 4) (by omega) (by decide)
      -- both ends
      have hXe : ∀ Q : nw_K, Q (some (.int (if nt_such (nt_k T c) a then (if nt_left T c then nI (nt_e T c (nt_nv T c (σ.1 c))) else -1) else -4))) mx → nw_Ex 40 nw_shX 76 [.ref 0, .int (nI c), .int (nI a)] mx Q := by
        intro Q hQ
        by_cases hs : nt_such (nt_k T c) a = true
        · by_cases hl : nt_left T c = true
          · have hw0 := nt_left_w hl
            have hlt := nt_nv_lt (x := σ.1 c) hw0
            have h4w := (h1.2.2.2 c).2.1
            have hsv : nx_S (ns_sv (mx 0 5) c (nt_nv T c (σ.1 c))) (nf_up σ.1 c (nt_nv T c (σ.1 c)), σ.2) := nx_S_sv h4 hc8 (by omega)
            have hse := fun Q' => x_shownEnd h1 h2 35 Q' hsv hc8 (by simp only [nf_up, if_true]; exact hlt)
            simp only [nf_up, if_true] at hse
            simp only [hs, hl, if_true] at hQ
            simp only [e76, s76_0, s76_1, s76_4, s76_5, s76_8, s76_11, s76_13, s76_14, s76_15, s76_18, s76_19, s76_20, s76_23, s76_25, s76_26, s76_27, s76_30, s76_31, s76_32, s76_35, s76_38, s76_40, s76_41, s76_42, s76_45, s76_46, s76_49, s76_52, s76_53, s76_56, s76_57, s76_60, s76_61, s76_64, s76_65, s76_68, s76_69, s76_72, s76_75, s76_76, x_hasCorner_y (Or.inl rfl) h1 h2 38 _ hc, ni_nlt0 (show a < 2 ^ 31 by omega), hna, x_isSuch h1 h2 37 _ hc8 ha, hs, x_isLeft h1 h2 37 _ hc8, hl, x_turned h1 h2 36 _ h4 hc8 hw0, hse, if_true, false_implies, true_implies, not_true_eq_false, not_false_eq_true, true_and, and_true, true_or, or_true, false_or, or_false, false_and, and_false, implies_true, nw_psh_s, nw_psh_n, ni_10, ni_00]
            exact hQ
          · simp only [hs, hl, if_true, if_false] at hQ
            simp only [e76, s76_0, s76_1, s76_4, s76_5, s76_8, s76_11, s76_13, s76_14, s76_15, s76_18, s76_19, s76_20, s76_23, s76_25, s76_26, s76_27, s76_30, s76_31, s76_32, s76_35, s76_38, s76_40, s76_41, s76_42, s76_45, s76_46, s76_49, s76_52, s76_53, s76_56, s76_57, s76_60, s76_61, s76_64, s76_65, s76_68, s76_69, s76_72, s76_75, s76_76, x_hasCorner_y (Or.inl rfl) h1 h2 38 _ hc, ni_nlt0 (show a < 2 ^ 31 by omega), hna, x_isSuch h1 h2 37 _ hc8 ha, hs, x_isLeft h1 h2 37 _ hc8, hl, if_true, if_false, false_implies, true_implies, not_true_eq_false, not_false_eq_true, true_and, and_true, true_or, or_true, false_or, or_false, false_and, and_false, implies_true, nw_psh_s, nw_psh_n, ni_10, ni_00]
            simpa using hQ
        · simp only [hs, if_false] at hQ
          simp only [e76, s76_0, s76_1, s76_4, s76_5, s76_8, s76_11, s76_13, s76_14, s76_15, s76_18, s76_19, s76_20, s76_23, s76_25, s76_26, s76_27, s76_30, s76_31, s76_32, s76_35, s76_38, s76_40, s76_41, s76_42, s76_45, s76_46, s76_49, s76_52, s76_53, s76_56, s76_57, s76_60, s76_61, s76_64, s76_65, s76_68, s76_69, s76_72, s76_75, s76_76, x_hasCorner_y (Or.inl rfl) h1 h2 38 _ hc, ni_nlt0 (show a < 2 ^ 31 by omega), hna, x_isSuch h1 h2 37 _ hc8 ha, hs, if_false, false_implies, true_implies, not_true_eq_false, not_false_eq_true, true_and, and_true, true_or, or_true, false_or, or_false, false_and, and_false, implies_true, nw_psh_s, nw_psh_n, ni_10, ni_00]
          simpa using hQ
      refine nP_same hX0 hM0 hXe (fun Q hQ => ?_)
      have e0 : (nI a = 0) = (a = 0) := propext (nI_eq (b := 0) (by omega) (by decide))
      have e1 : (nI a = 1) = (a = 1) := propext (nI_eq (b := 1) (by omega) (by decide))
      have e2 : (nI a = 2) = (a = 2) := propext (nI_eq (b := 2) (by omega) (by decide))
      have e3 : (nI a = 3) = (a = 3) := propext (nI_eq (b := 3) (by omega) (by decide))
      have e4 : (nI a = 4) = (a = 4) := propext (nI_eq (b := 4) (by omega) (by decide))
      have f1 : (nI (nt_k T c) = 1) = (nt_k T c = 1) := propext (nI_eq (b := 1) (by omega) (by decide))
      have f2 : (nI (nt_k T c) = 2) = (nt_k T c = 2) := propext (nI_eq (b := 2) (by omega) (by decide))
      have f3 : (nI (nt_k T c) = 3) = (nt_k T c = 3) := propext (nI_eq (b := 3) (by omega) (by decide))
      have hQ := hQ mm (nm_sc_rf mm)
      -- behind the test
      have hend1 : nt_such (nt_k T c) a = true → nw_Ev 39 nw_shM 122 Q 84 [some (.ref 0), some (.int (nI c)), some (.int (nI a)), some (.int (nI (nt_k T c))), some (.int 1)] [] mm := by
        intro hs
        simp only [hs, if_true] at hQ
        by_cases hl : nt_left T c = true
        · have hw0 := nt_left_w hl
          have hlt := nt_nv_lt (x := σ.1 c) hw0
          have h4w := (h1.2.2.2 c).2.1
          have hvc := (h3.1 c).1 hw0
          have hv0 : nm_V 0 σ.1 mm := k4.1
          have hnv := fun Q' => m_nextVane h1 k2 hv0 (by decide) 37 Q' hc8 hw0 (by omega)
          have hi2 : vp_in (nI (4 * c + nt_nv T c (σ.1 c))) 32 := vp_in_nI (by omega) (by decide)
          have g4 : (4 : Int32) * nI c = nI (4 * c) := pk_mul 4 c
          simp only [hl, if_true] at hQ
          simp only [e122, s122_0, s122_1, s122_2, s122_5, s122_8, s122_10, s122_11, s122_12, s122_13, s122_14, s122_17, s122_20, s122_23, s122_25, s122_26, s122_27, s122_30, s122_31, s122_32, s122_33, s122_34, s122_37, s122_38, s122_39, s122_42, s122_43, s122_44, s122_47, s122_48, s122_49, s122_52, s122_53, s122_54, s122_57, s122_58, s122_59, s122_62, s122_63, s122_64, s122_67, s122_68, s122_69, s122_72, s122_73, s122_74, s122_77, s122_78, s122_81, s122_82, s122_84, s122_86, s122_89, s122_91, s122_94, s122_95, s122_96, s122_99, s122_102, s122_103, s122_106, s122_107, s122_108, s122_109, s122_110, s122_111, s122_112, s122_115, s122_116, s122_117, s122_120, s122_121, m_isLeft h1 k2 38 _ hc8, hl, show (0 : Int32) = nI 0 from rfl, hnv, g4, nI_add, hi2, ni_cl (show 4 * c + nt_nv T c (σ.1 c) < 2 ^ 31 by omega), k2.2.2.2.2 c hc8 _ hlt, if_true, show ((1 : Int32) = nI 0) = False from eq_false (by decide), false_implies, true_implies, not_true_eq_false, not_false_eq_true, true_and, and_true, true_or, or_true, false_or, or_false, false_and, and_false, implies_true, nw_psh_s, nw_psh_n, ni_10, ni_00]
          exact hQ
        · simp only [hl, if_false] at hQ
          simp only [e122, s122_0, s122_1, s122_2, s122_5, s122_8, s122_10, s122_11, s122_12, s122_13, s122_14, s122_17, s122_20, s122_23, s122_25, s122_26, s122_27, s122_30, s122_31, s122_32, s122_33, s122_34, s122_37, s122_38, s122_39, s122_42, s122_43, s122_44, s122_47, s122_48, s122_49, s122_52, s122_53, s122_54, s122_57, s122_58, s122_59, s122_62, s122_63, s122_64, s122_67, s122_68, s122_69, s122_72, s122_73, s122_74, s122_77, s122_78, s122_81, s122_82, s122_84, s122_86, s122_89, s122_91, s122_94, s122_95, s122_96, s122_99, s122_102, s122_103, s122_106, s122_107, s122_108, s122_109, s122_110, s122_111, s122_112, s122_115, s122_116, s122_117, s122_120, s122_121, m_isLeft h1 k2 38 _ hc8, hl, if_false, false_implies, true_implies, not_true_eq_false, not_false_eq_true, true_and, and_true, true_or, or_true, false_or, or_false, false_and, and_false, implies_true, nw_psh_s, nw_psh_n, ni_10, ni_00]
          simpa using hQ
      have hend0 : nt_such (nt_k T c) a = false → nw_Ev 39 nw_shM 122 Q 84 [some (.ref 0), some (.int (nI c)), some (.int (nI a)), some (.int (nI (nt_k T c))), some (.int 0)] [] mm := by
        intro hs
        simp only [hs, if_false] at hQ
        simp only [e122, s122_0, s122_1, s122_2, s122_5, s122_8, s122_10, s122_11, s122_12, s122_13, s122_14, s122_17, s122_20, s122_23, s122_25, s122_26, s122_27, s122_30, s122_31, s122_32, s122_33, s122_34, s122_37, s122_38, s122_39, s122_42, s122_43, s122_44, s122_47, s122_48, s122_49, s122_52, s122_53, s122_54, s122_57, s122_58, s122_59, s122_62, s122_63, s122_64, s122_67, s122_68, s122_69, s122_72, s122_73, s122_74, s122_77, s122_78, s122_81, s122_82, s122_84, s122_86, s122_89, s122_91, s122_94, s122_95, s122_96, s122_99, s122_102, s122_103, s122_106, s122_107, s122_108, s122_109, s122_110, s122_111, s122_112, s122_115, s122_116, s122_117, s122_120, s122_121, false_implies, true_implies, not_true_eq_false, not_false_eq_true, true_and, and_true, true_or, or_true, false_or, or_false, false_and, and_false, implies_true, nw_psh_s, nw_psh_n, ni_10, ni_00]
        simpa using hQ
      simp only [e122, s122_0, s122_1, s122_2, s122_5, s122_8, s122_10, s122_11, s122_12, s122_13, s122_14, s122_17, s122_20, s122_23, s122_25, s122_26, s122_27, s122_30, s122_31, s122_32, s122_33, s122_34, s122_37, s122_38, s122_39, s122_42, s122_43, s122_44, s122_47, s122_48, s122_49, s122_52, s122_53, s122_54, s122_57, s122_58, s122_59, s122_62, s122_63, s122_64, s122_67, s122_68, s122_69, s122_72, s122_73, s122_74, s122_77, s122_78, s122_81, s122_82, s122_86, s122_89, s122_91, s122_94, s122_95, s122_96, s122_99, s122_102, s122_103, s122_106, s122_107, s122_108, s122_109, s122_110, s122_111, s122_112, s122_115, s122_116, s122_117, s122_120, s122_121, m_isCorner_y h1 k2 37 _ hc, lw_0, lw_4, hin, hin2, if_false, hi, ni_cl (show c < 2 ^ 31 by omega), hk, e0, e1, e2, e3, e4, f1, f2, f3, false_implies, true_implies, not_true_eq_false, not_false_eq_true, true_and, and_true, true_or, or_true, false_or, or_false, false_and, and_false, implies_true, nw_psh_s, nw_psh_n, ni_10, ni_00]
      repeat' first | exact hend1 (by unfold nt_such; exact decide_eq_true (by omega)) | exact hend0 (by unfold nt_such; exact decide_eq_false (by omega)) | refine ⟨fun _ => ?_, fun _ => ?_⟩
