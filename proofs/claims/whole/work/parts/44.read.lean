/-! THE READER -/
theorem x_doLine {L : Nat} {tx : Nat → Nat} {D : nD} (hok : nd_ok D) {s : Nat} {m : nw_M} (h : nxr L tx D s m) (d : Nat) (Q : nw_K) (hQ : nxo L tx D s m Q) : nw_Ex (d + 5) nw_shX 61 [.ref 3, .ref 1] m Q := by
  have w0 := fun d Q' => x_wd h d Q' (a := 100) (i := 0) (by decide)
  have w5 := fun d Q' => x_wd h d Q' (a := 101) (i := 5) (by decide)
  have w6 := fun d Q' => x_wd h d Q' (a := 102) (i := 6) (by decide)
  have w7 := fun d Q' => x_wd h d Q' (a := 103) (i := 7) (by decide)
  have w8 := fun d Q' => x_wd h d Q' (a := 104) (i := 8) (by decide)
  have w1 := fun d Q' => x_wd h d Q' (a := 105) (i := 1) (by decide)
  have w2 := fun d Q' => x_wd h d Q' (a := 106) (i := 2) (by decide)
  have w3 := fun d Q' => x_wd h d Q' (a := 107) (i := 3) (by decide)
  have w4 := fun d Q' => x_wd h d Q' (a := 108) (i := 4) (by decide)
  have g4 := h.2.2.2.2.2
  cases hw : nwo L tx s with
  | none =>
    have hQ' := hQ
    unfold nxo nln at hQ'
    simp only [hw] at hQ'
    rw [hw] at w0 w1 w2 w3 w4 w5 w6 w7 w8
    simp only [reduceCtorEq, if_false] at w0 w1 w2 w3 w4 w5 w6 w7 w8
    by_cases h1 : nsp L tx s = 1
    · rw [h1] at g4
      simp only [e61, s61_0, s61_1, s61_4, s61_5, s61_8, s61_9, s61_10, s61_11, s61_12, s61_14, s61_17, s61_20, s61_21, s61_22, s61_25, s61_26, s61_27, s61_28, s61_30, s61_33, s61_36, s61_37, s61_38, s61_41, s61_42, s61_43, s61_44, s61_46, s61_49, s61_52, s61_53, s61_54, s61_57, s61_58, s61_59, s61_60, s61_62, s61_65, s61_68, s61_69, s61_70, s61_73, s61_74, s61_75, s61_76, s61_78, s61_81, s61_84, s61_85, s61_88, s61_91, s61_92, s61_93, s61_96, s61_97, s61_98, s61_99, s61_100, s61_103, s61_104, s61_105, s61_106, s61_109, s61_110, s61_111, s61_112, s61_115, s61_118, s61_119, s61_122, s61_123, e62, s62_0, s62_1, s62_2, s62_4, s62_7, s62_10, s62_11, s62_12, s62_13, s62_14, s62_16, s62_19, s62_22, s62_23, s62_24, s62_25, s62_26, s62_28, s62_31, s62_34, s62_35, s62_36, s62_37, s62_38, s62_40, s62_43, s62_46, s62_47, s62_50, s62_51, g4, show (nI 1 = 1) = True from eq_true rfl, w0, w1, w2, w3, w4, w5, w6, w7, w8, false_implies, true_implies, not_true_eq_false, not_false_eq_true, true_and, and_true, true_or, or_true, false_or, or_false, false_and, and_false, implies_true, nw_psh_s, nw_psh_n, ni_10, ni_00]
      exact hQ' m (nxg_rf m) h.2.2.2.1
    · have := nsp_le L tx s
      have q : (nI (nsp L tx s) = 1) = False := ni_eq_f (b := 1) h1 (by omega) (by decide)
      simp only [e61, s61_0, s61_1, s61_4, s61_5, s61_8, s61_9, s61_10, s61_11, s61_12, s61_14, s61_17, s61_20, s61_21, s61_22, s61_25, s61_26, s61_27, s61_28, s61_30, s61_33, s61_36, s61_37, s61_38, s61_41, s61_42, s61_43, s61_44, s61_46, s61_49, s61_52, s61_53, s61_54, s61_57, s61_58, s61_59, s61_60, s61_62, s61_65, s61_68, s61_69, s61_70, s61_73, s61_74, s61_75, s61_76, s61_78, s61_81, s61_84, s61_85, s61_88, s61_91, s61_92, s61_93, s61_96, s61_97, s61_98, s61_99, s61_100, s61_103, s61_104, s61_105, s61_106, s61_109, s61_110, s61_111, s61_112, s61_115, s61_118, s61_119, s61_122, s61_123, g4, q, false_implies, true_implies, not_true_eq_false, not_false_eq_true, true_and, and_true, true_or, or_true, false_or, or_false, false_and, and_false, implies_true, nw_psh_s, nw_psh_n, ni_10, ni_00]
      exact hQ' m (nxg_rf m) h.2.2.2.1
  | some i =>
    have hi := nwo_lt hw
    rw [nwo_sp hw] at g4
    rw [hw] at w0 w1 w2 w3 w4 w5 w6 w7 w8
    have e1 : (nI 1 = 1) = True := eq_true rfl
    have hkind : ∀ w, i = w → 1 ≤ w → w ≤ 4 → nw_Ex (d + 4) nw_shX 65 [.ref 3, .ref 1, .int (nI (w - 1))] m (fun v m' => nw_Ev (d + 4) nw_shX 61 Q 115 [some (.ref 3), some (.ref 1), some (.int (nI (w - 1)))] (nw_psh v []) m') := by
      intro w hiw h1 h4
      subst hiw
      refine x_doKind hok h d _ hw h1 h4 ?_
      unfold nxo at hQ ⊢
      split
      · rename_i p hp
        rw [hp] at hQ
        intro m' a b
        have := hQ m' a b
        simp only [e61, s61_0, s61_1, s61_4, s61_5, s61_8, s61_9, s61_10, s61_11, s61_12, s61_14, s61_17, s61_20, s61_21, s61_22, s61_25, s61_26, s61_27, s61_28, s61_30, s61_33, s61_36, s61_37, s61_38, s61_41, s61_42, s61_43, s61_44, s61_46, s61_49, s61_52, s61_53, s61_54, s61_57, s61_58, s61_59, s61_60, s61_62, s61_65, s61_68, s61_69, s61_70, s61_73, s61_74, s61_75, s61_76, s61_78, s61_81, s61_84, s61_85, s61_88, s61_91, s61_92, s61_93, s61_96, s61_97, s61_98, s61_99, s61_100, s61_103, s61_104, s61_105, s61_106, s61_109, s61_110, s61_111, s61_112, s61_115, s61_118, s61_119, s61_122, s61_123, false_implies, true_implies, not_true_eq_false, not_false_eq_true, true_and, and_true, true_or, or_true, false_or, or_false, false_and, and_false, implies_true, nw_psh_s, nw_psh_n, ni_10, ni_00]
        exact this
      · rename_i D' s' l hp
        rw [hp] at hQ
        intro m' a b
        have := hQ m' a b
        simp only [e61, s61_0, s61_1, s61_4, s61_5, s61_8, s61_9, s61_10, s61_11, s61_12, s61_14, s61_17, s61_20, s61_21, s61_22, s61_25, s61_26, s61_27, s61_28, s61_30, s61_33, s61_36, s61_37, s61_38, s61_41, s61_42, s61_43, s61_44, s61_46, s61_49, s61_52, s61_53, s61_54, s61_57, s61_58, s61_59, s61_60, s61_62, s61_65, s61_68, s61_69, s61_70, s61_73, s61_74, s61_75, s61_76, s61_78, s61_81, s61_84, s61_85, s61_88, s61_91, s61_92, s61_93, s61_96, s61_97, s61_98, s61_99, s61_100, s61_103, s61_104, s61_105, s61_106, s61_109, s61_110, s61_111, s61_112, s61_115, s61_118, s61_119, s61_122, s61_123, false_implies, true_implies, not_true_eq_false, not_false_eq_true, true_and, and_true, true_or, or_true, false_or, or_false, false_and, and_false, implies_true, nw_psh_s, nw_psh_n, ni_10, ni_00]
        exact this
    have hsame : ∀ (pc : Nat), (∀ v m', nw_Ev (d + 4) nw_shX 61 Q pc [some (.ref 3), some (.ref 1), none] [.int v] m' = ((v = 0 ∨ v = 1) ∧ Q (some (.int v)) m')) → nxo L tx D s m (fun v m' => nw_Ev (d + 4) nw_shX 61 Q pc [some (.ref 3), some (.ref 1), none] (nw_psh v []) m') := by
      intro pc hpc
      unfold nxo at hQ ⊢
      split
      · rename_i p hp
        rw [hp] at hQ
        intro m' a b
        simp only [nw_psh_s, hpc]
        exact ⟨Or.inl trivial, hQ m' a b⟩
      · rename_i D' s' l hp
        rw [hp] at hQ
        intro m' a b
        simp only [nw_psh_s, hpc]
        exact ⟨Or.inr trivial, hQ m' a b⟩
    match i, hi with
    | 0, _ =>
      simp only [Option.some.injEq, reduceCtorEq, Nat.reduceEqDiff, if_false, if_true] at w0
      simp only [e61, s61_0, s61_1, s61_4, s61_5, s61_8, s61_9, s61_10, s61_11, s61_12, s61_14, s61_17, s61_20, s61_21, s61_22, s61_25, s61_26, s61_27, s61_28, s61_30, s61_33, s61_36, s61_37, s61_38, s61_41, s61_42, s61_43, s61_44, s61_46, s61_49, s61_52, s61_53, s61_54, s61_57, s61_58, s61_59, s61_60, s61_62, s61_65, s61_68, s61_69, s61_70, s61_73, s61_74, s61_75, s61_76, s61_78, s61_81, s61_84, s61_85, s61_88, s61_91, s61_92, s61_93, s61_96, s61_97, s61_98, s61_99, s61_100, s61_103, s61_104, s61_105, s61_106, s61_109, s61_110, s61_111, s61_112, s61_115, s61_118, s61_119, s61_122, s61_123, g4, e1, w0, false_implies, true_implies, not_true_eq_false, not_false_eq_true, true_and, and_true, true_or, or_true, false_or, or_false, false_and, and_false, implies_true, nw_psh_s, nw_psh_n, ni_10, ni_00]
      exact x_doTown h d _ hw (hsame 25 (fun v m' => by simp only [e61, s61_0, s61_1, s61_4, s61_5, s61_8, s61_9, s61_10, s61_11, s61_12, s61_14, s61_17, s61_20, s61_21, s61_22, s61_25, s61_26, s61_27, s61_28, s61_30, s61_33, s61_36, s61_37, s61_38, s61_41, s61_42, s61_43, s61_44, s61_46, s61_49, s61_52, s61_53, s61_54, s61_57, s61_58, s61_59, s61_60, s61_62, s61_65, s61_68, s61_69, s61_70, s61_73, s61_74, s61_75, s61_76, s61_78, s61_81, s61_84, s61_85, s61_88, s61_91, s61_92, s61_93, s61_96, s61_97, s61_98, s61_99, s61_100, s61_103, s61_104, s61_105, s61_106, s61_109, s61_110, s61_111, s61_112, s61_115, s61_118, s61_119, s61_122, s61_123, false_implies, true_implies, not_true_eq_false, not_false_eq_true, true_and, and_true, true_or, or_true, false_or, or_false, false_and, and_false, implies_true, nw_psh_s, nw_psh_n, ni_10, ni_00]))
    | 1, _ =>
      simp only [Option.some.injEq, reduceCtorEq, Nat.reduceEqDiff, if_false, if_true] at w0 w5 w6 w7 w8 w1
      simp only [e61, s61_0, s61_1, s61_4, s61_5, s61_8, s61_9, s61_10, s61_11, s61_12, s61_14, s61_17, s61_20, s61_21, s61_22, s61_25, s61_26, s61_27, s61_28, s61_30, s61_33, s61_36, s61_37, s61_38, s61_41, s61_42, s61_43, s61_44, s61_46, s61_49, s61_52, s61_53, s61_54, s61_57, s61_58, s61_59, s61_60, s61_62, s61_65, s61_68, s61_69, s61_70, s61_73, s61_74, s61_75, s61_76, s61_78, s61_81, s61_84, s61_85, s61_88, s61_91, s61_92, s61_93, s61_96, s61_97, s61_98, s61_99, s61_100, s61_103, s61_104, s61_105, s61_106, s61_109, s61_110, s61_111, s61_112, s61_118, s61_119, s61_122, s61_123, e62, s62_0, s62_1, s62_2, s62_4, s62_7, s62_10, s62_11, s62_12, s62_13, s62_14, s62_16, s62_19, s62_22, s62_23, s62_24, s62_25, s62_26, s62_28, s62_31, s62_34, s62_35, s62_36, s62_37, s62_38, s62_40, s62_43, s62_46, s62_47, s62_50, s62_51, g4, e1, w0, w5, w6, w7, w8, w1, show ((0 : Int32) = -1) = False from eq_false (by decide), false_implies, true_implies, not_true_eq_false, not_false_eq_true, true_and, and_true, true_or, or_true, false_or, or_false, false_and, and_false, implies_true, nw_psh_s, nw_psh_n, ni_10, ni_00]
      exact hkind 1 rfl (by omega) (by omega)
    | 2, _ =>
      simp only [Option.some.injEq, reduceCtorEq, Nat.reduceEqDiff, if_false, if_true] at w0 w5 w6 w7 w8 w1 w2
      simp only [e61, s61_0, s61_1, s61_4, s61_5, s61_8, s61_9, s61_10, s61_11, s61_12, s61_14, s61_17, s61_20, s61_21, s61_22, s61_25, s61_26, s61_27, s61_28, s61_30, s61_33, s61_36, s61_37, s61_38, s61_41, s61_42, s61_43, s61_44, s61_46, s61_49, s61_52, s61_53, s61_54, s61_57, s61_58, s61_59, s61_60, s61_62, s61_65, s61_68, s61_69, s61_70, s61_73, s61_74, s61_75, s61_76, s61_78, s61_81, s61_84, s61_85, s61_88, s61_91, s61_92, s61_93, s61_96, s61_97, s61_98, s61_99, s61_100, s61_103, s61_104, s61_105, s61_106, s61_109, s61_110, s61_111, s61_112, s61_118, s61_119, s61_122, s61_123, e62, s62_0, s62_1, s62_2, s62_4, s62_7, s62_10, s62_11, s62_12, s62_13, s62_14, s62_16, s62_19, s62_22, s62_23, s62_24, s62_25, s62_26, s62_28, s62_31, s62_34, s62_35, s62_36, s62_37, s62_38, s62_40, s62_43, s62_46, s62_47, s62_50, s62_51, g4, e1, w0, w5, w6, w7, w8, w1, w2, show ((1 : Int32) = -1) = False from eq_false (by decide), false_implies, true_implies, not_true_eq_false, not_false_eq_true, true_and, and_true, true_or, or_true, false_or, or_false, false_and, and_false, implies_true, nw_psh_s, nw_psh_n, ni_10, ni_00]
      exact hkind 2 rfl (by omega) (by omega)
    | 3, _ =>
      simp only [Option.some.injEq, reduceCtorEq, Nat.reduceEqDiff, if_false, if_true] at w0 w5 w6 w7 w8 w1 w2 w3
      simp only [e61, s61_0, s61_1, s61_4, s61_5, s61_8, s61_9, s61_10, s61_11, s61_12, s61_14, s61_17, s61_20, s61_21, s61_22, s61_25, s61_26, s61_27, s61_28, s61_30, s61_33, s61_36, s61_37, s61_38, s61_41, s61_42, s61_43, s61_44, s61_46, s61_49, s61_52, s61_53, s61_54, s61_57, s61_58, s61_59, s61_60, s61_62, s61_65, s61_68, s61_69, s61_70, s61_73, s61_74, s61_75, s61_76, s61_78, s61_81, s61_84, s61_85, s61_88, s61_91, s61_92, s61_93, s61_96, s61_97, s61_98, s61_99, s61_100, s61_103, s61_104, s61_105, s61_106, s61_109, s61_110, s61_111, s61_112, s61_118, s61_119, s61_122, s61_123, e62, s62_0, s62_1, s62_2, s62_4, s62_7, s62_10, s62_11, s62_12, s62_13, s62_14, s62_16, s62_19, s62_22, s62_23, s62_24, s62_25, s62_26, s62_28, s62_31, s62_34, s62_35, s62_36, s62_37, s62_38, s62_40, s62_43, s62_46, s62_47, s62_50, s62_51, g4, e1, w0, w5, w6, w7, w8, w1, w2, w3, show ((2 : Int32) = -1) = False from eq_false (by decide), false_implies, true_implies, not_true_eq_false, not_false_eq_true, true_and, and_true, true_or, or_true, false_or, or_false, false_and, and_false, implies_true, nw_psh_s, nw_psh_n, ni_10, ni_00]
      exact hkind 3 rfl (by omega) (by omega)
    | 4, _ =>
      simp only [Option.some.injEq, reduceCtorEq, Nat.reduceEqDiff, if_false, if_true] at w0 w5 w6 w7 w8 w1 w2 w3 w4
      simp only [e61, s61_0, s61_1, s61_4, s61_5, s61_8, s61_9, s61_10, s61_11, s61_12, s61_14, s61_17, s61_20, s61_21, s61_22, s61_25, s61_26, s61_27, s61_28, s61_30, s61_33, s61_36, s61_37, s61_38, s61_41, s61_42, s61_43, s61_44, s61_46, s61_49, s61_52, s61_53, s61_54, s61_57, s61_58, s61_59, s61_60, s61_62, s61_65, s61_68, s61_69, s61_70, s61_73, s61_74, s61_75, s61_76, s61_78, s61_81, s61_84, s61_85, s61_88, s61_91, s61_92, s61_93, s61_96, s61_97, s61_98, s61_99, s61_100, s61_103, s61_104, s61_105, s61_106, s61_109, s61_110, s61_111, s61_112, s61_118, s61_119, s61_122, s61_123, e62, s62_0, s62_1, s62_2, s62_4, s62_7, s62_10, s62_11, s62_12, s62_13, s62_14, s62_16, s62_19, s62_22, s62_23, s62_24, s62_25, s62_26, s62_28, s62_31, s62_34, s62_35, s62_36, s62_37, s62_38, s62_40, s62_43, s62_46, s62_47, s62_50, s62_51, g4, e1, w0, w5, w6, w7, w8, w1, w2, w3, w4, show ((3 : Int32) = -1) = False from eq_false (by decide), false_implies, true_implies, not_true_eq_false, not_false_eq_true, true_and, and_true, true_or, or_true, false_or, or_false, false_and, and_false, implies_true, nw_psh_s, nw_psh_n, ni_10, ni_00]
      exact hkind 4 rfl (by omega) (by omega)
    | 5, _ =>
      simp only [Option.some.injEq, reduceCtorEq, Nat.reduceEqDiff, if_false, if_true] at w0 w5
      simp only [e61, s61_0, s61_1, s61_4, s61_5, s61_8, s61_9, s61_10, s61_11, s61_12, s61_14, s61_17, s61_20, s61_21, s61_22, s61_25, s61_26, s61_27, s61_28, s61_30, s61_33, s61_36, s61_37, s61_38, s61_41, s61_42, s61_43, s61_44, s61_46, s61_49, s61_52, s61_53, s61_54, s61_57, s61_58, s61_59, s61_60, s61_62, s61_65, s61_68, s61_69, s61_70, s61_73, s61_74, s61_75, s61_76, s61_78, s61_81, s61_84, s61_85, s61_88, s61_91, s61_92, s61_93, s61_96, s61_97, s61_98, s61_99, s61_100, s61_103, s61_104, s61_105, s61_106, s61_109, s61_110, s61_111, s61_112, s61_115, s61_118, s61_119, s61_122, s61_123, g4, e1, w0, w5, false_implies, true_implies, not_true_eq_false, not_false_eq_true, true_and, and_true, true_or, or_true, false_or, or_false, false_and, and_false, implies_true, nw_psh_s, nw_psh_n, ni_10, ni_00]
      exact x_doWay hok h d _ hw (hsame 41 (fun v m' => by simp only [e61, s61_0, s61_1, s61_4, s61_5, s61_8, s61_9, s61_10, s61_11, s61_12, s61_14, s61_17, s61_20, s61_21, s61_22, s61_25, s61_26, s61_27, s61_28, s61_30, s61_33, s61_36, s61_37, s61_38, s61_41, s61_42, s61_43, s61_44, s61_46, s61_49, s61_52, s61_53, s61_54, s61_57, s61_58, s61_59, s61_60, s61_62, s61_65, s61_68, s61_69, s61_70, s61_73, s61_74, s61_75, s61_76, s61_78, s61_81, s61_84, s61_85, s61_88, s61_91, s61_92, s61_93, s61_96, s61_97, s61_98, s61_99, s61_100, s61_103, s61_104, s61_105, s61_106, s61_109, s61_110, s61_111, s61_112, s61_115, s61_118, s61_119, s61_122, s61_123, false_implies, true_implies, not_true_eq_false, not_false_eq_true, true_and, and_true, true_or, or_true, false_or, or_false, false_and, and_false, implies_true, nw_psh_s, nw_psh_n, ni_10, ni_00]))
    | 6, _ =>
      simp only [Option.some.injEq, reduceCtorEq, Nat.reduceEqDiff, if_false, if_true] at w0 w5 w6
      simp only [e61, s61_0, s61_1, s61_4, s61_5, s61_8, s61_9, s61_10, s61_11, s61_12, s61_14, s61_17, s61_20, s61_21, s61_22, s61_25, s61_26, s61_27, s61_28, s61_30, s61_33, s61_36, s61_37, s61_38, s61_41, s61_42, s61_43, s61_44, s61_46, s61_49, s61_52, s61_53, s61_54, s61_57, s61_58, s61_59, s61_60, s61_62, s61_65, s61_68, s61_69, s61_70, s61_73, s61_74, s61_75, s61_76, s61_78, s61_81, s61_84, s61_85, s61_88, s61_91, s61_92, s61_93, s61_96, s61_97, s61_98, s61_99, s61_100, s61_103, s61_104, s61_105, s61_106, s61_109, s61_110, s61_111, s61_112, s61_115, s61_118, s61_119, s61_122, s61_123, g4, e1, w0, w5, w6, false_implies, true_implies, not_true_eq_false, not_false_eq_true, true_and, and_true, true_or, or_true, false_or, or_false, false_and, and_false, implies_true, nw_psh_s, nw_psh_n, ni_10, ni_00]
      exact x_doVane hok h d _ hw (hsame 57 (fun v m' => by simp only [e61, s61_0, s61_1, s61_4, s61_5, s61_8, s61_9, s61_10, s61_11, s61_12, s61_14, s61_17, s61_20, s61_21, s61_22, s61_25, s61_26, s61_27, s61_28, s61_30, s61_33, s61_36, s61_37, s61_38, s61_41, s61_42, s61_43, s61_44, s61_46, s61_49, s61_52, s61_53, s61_54, s61_57, s61_58, s61_59, s61_60, s61_62, s61_65, s61_68, s61_69, s61_70, s61_73, s61_74, s61_75, s61_76, s61_78, s61_81, s61_84, s61_85, s61_88, s61_91, s61_92, s61_93, s61_96, s61_97, s61_98, s61_99, s61_100, s61_103, s61_104, s61_105, s61_106, s61_109, s61_110, s61_111, s61_112, s61_115, s61_118, s61_119, s61_122, s61_123, false_implies, true_implies, not_true_eq_false, not_false_eq_true, true_and, and_true, true_or, or_true, false_or, or_false, false_and, and_false, implies_true, nw_psh_s, nw_psh_n, ni_10, ni_00]))
    | 7, _ =>
      simp only [Option.some.injEq, reduceCtorEq, Nat.reduceEqDiff, if_false, if_true] at w0 w5 w6 w7
      simp only [e61, s61_0, s61_1, s61_4, s61_5, s61_8, s61_9, s61_10, s61_11, s61_12, s61_14, s61_17, s61_20, s61_21, s61_22, s61_25, s61_26, s61_27, s61_28, s61_30, s61_33, s61_36, s61_37, s61_38, s61_41, s61_42, s61_43, s61_44, s61_46, s61_49, s61_52, s61_53, s61_54, s61_57, s61_58, s61_59, s61_60, s61_62, s61_65, s61_68, s61_69, s61_70, s61_73, s61_74, s61_75, s61_76, s61_78, s61_81, s61_84, s61_85, s61_88, s61_91, s61_92, s61_93, s61_96, s61_97, s61_98, s61_99, s61_100, s61_103, s61_104, s61_105, s61_106, s61_109, s61_110, s61_111, s61_112, s61_115, s61_118, s61_119, s61_122, s61_123, g4, e1, w0, w5, w6, w7, false_implies, true_implies, not_true_eq_false, not_false_eq_true, true_and, and_true, true_or, or_true, false_or, or_false, false_and, and_false, implies_true, nw_psh_s, nw_psh_n, ni_10, ni_00]
      exact x_doWalker hok h d _ hw (hsame 73 (fun v m' => by simp only [e61, s61_0, s61_1, s61_4, s61_5, s61_8, s61_9, s61_10, s61_11, s61_12, s61_14, s61_17, s61_20, s61_21, s61_22, s61_25, s61_26, s61_27, s61_28, s61_30, s61_33, s61_36, s61_37, s61_38, s61_41, s61_42, s61_43, s61_44, s61_46, s61_49, s61_52, s61_53, s61_54, s61_57, s61_58, s61_59, s61_60, s61_62, s61_65, s61_68, s61_69, s61_70, s61_73, s61_74, s61_75, s61_76, s61_78, s61_81, s61_84, s61_85, s61_88, s61_91, s61_92, s61_93, s61_96, s61_97, s61_98, s61_99, s61_100, s61_103, s61_104, s61_105, s61_106, s61_109, s61_110, s61_111, s61_112, s61_115, s61_118, s61_119, s61_122, s61_123, false_implies, true_implies, not_true_eq_false, not_false_eq_true, true_and, and_true, true_or, or_true, false_or, or_false, false_and, and_false, implies_true, nw_psh_s, nw_psh_n, ni_10, ni_00]))
    | 8, _ =>
      simp only [Option.some.injEq, reduceCtorEq, Nat.reduceEqDiff, if_false, if_true] at w0 w5 w6 w7 w8
      unfold nxo nln at hQ
      simp only [hw, show ((8 : Nat) = 7) = False from eq_false (by decide), false_and, if_false, if_true] at hQ
      simp only [e61, s61_0, s61_1, s61_4, s61_5, s61_8, s61_9, s61_10, s61_11, s61_12, s61_14, s61_17, s61_20, s61_21, s61_22, s61_25, s61_26, s61_27, s61_28, s61_30, s61_33, s61_36, s61_37, s61_38, s61_41, s61_42, s61_43, s61_44, s61_46, s61_49, s61_52, s61_53, s61_54, s61_57, s61_58, s61_59, s61_60, s61_62, s61_65, s61_68, s61_69, s61_70, s61_73, s61_74, s61_75, s61_76, s61_78, s61_81, s61_84, s61_85, s61_88, s61_91, s61_92, s61_93, s61_96, s61_97, s61_98, s61_99, s61_100, s61_103, s61_104, s61_105, s61_106, s61_109, s61_110, s61_111, s61_112, s61_115, s61_118, s61_119, s61_122, s61_123, g4, e1, w0, w5, w6, w7, w8, false_implies, true_implies, not_true_eq_false, not_false_eq_true, true_and, and_true, true_or, or_true, false_or, or_false, false_and, and_false, implies_true, nw_psh_s, nw_psh_n, ni_10, ni_00]
      refine x_sendAway h.2.1 (d + 3) _ (fun m1 hf1 hD1 => ?_)
      simp only [e61, s61_0, s61_1, s61_4, s61_5, s61_8, s61_9, s61_10, s61_11, s61_12, s61_14, s61_17, s61_20, s61_21, s61_22, s61_25, s61_26, s61_27, s61_28, s61_30, s61_33, s61_36, s61_37, s61_38, s61_41, s61_42, s61_43, s61_44, s61_46, s61_49, s61_52, s61_53, s61_54, s61_57, s61_58, s61_59, s61_60, s61_62, s61_65, s61_68, s61_69, s61_70, s61_73, s61_74, s61_75, s61_76, s61_78, s61_81, s61_84, s61_85, s61_88, s61_91, s61_92, s61_93, s61_96, s61_97, s61_98, s61_99, s61_100, s61_103, s61_104, s61_105, s61_106, s61_109, s61_110, s61_111, s61_112, s61_115, s61_118, s61_119, s61_122, s61_123, false_implies, true_implies, not_true_eq_false, not_false_eq_true, true_and, and_true, true_or, or_true, false_or, or_false, false_and, and_false, implies_true, nw_psh_s, nw_psh_n, ni_10, ni_00]
      refine x_go (nxr_D h hf1 hD1) (d + 2) _ (fun m2 hf2 h2 => ?_)
      simp only [e61, s61_0, s61_1, s61_4, s61_5, s61_8, s61_9, s61_10, s61_11, s61_12, s61_14, s61_17, s61_20, s61_21, s61_22, s61_25, s61_26, s61_27, s61_28, s61_30, s61_33, s61_36, s61_37, s61_38, s61_41, s61_42, s61_43, s61_44, s61_46, s61_49, s61_52, s61_53, s61_54, s61_57, s61_58, s61_59, s61_60, s61_62, s61_65, s61_68, s61_69, s61_70, s61_73, s61_74, s61_75, s61_76, s61_78, s61_81, s61_84, s61_85, s61_88, s61_91, s61_92, s61_93, s61_96, s61_97, s61_98, s61_99, s61_100, s61_103, s61_104, s61_105, s61_106, s61_109, s61_110, s61_111, s61_112, s61_115, s61_118, s61_119, s61_122, s61_123, false_implies, true_implies, not_true_eq_false, not_false_eq_true, true_and, and_true, true_or, or_true, false_or, or_false, false_and, and_false, implies_true, nw_psh_s, nw_psh_n, ni_10, ni_00]
      exact hQ m2 (nxg_tr (nxg_f hf1) (nxg_r hf2)) h2
    | i + 9, h => exact absurd h (by omega)
/-! copies of a town -/
theorem nw_cp_at (m : nw_M) (s d n a j : Nat) (h : a = d → j < n) : nw_row m d (va_cpy (m s) (m d) 0 0 n) a j = if a = d then m s j else m a j := by
  rw [nw_row_at]
  by_cases q : a = d
  · rw [if_pos q, if_pos q, pk_cpy_in (Nat.zero_le j) (by have := h q; omega), Nat.sub_zero, Nat.zero_add]
  · rw [if_neg q, if_neg q]
theorem nw_cp_ne (m : nw_M) (f : Nat → Int32) (d a j : Nat) (h : ¬ a = d) : nw_row m d f a j = m a j := by rw [nw_row_at, if_neg h]
theorem x_copy84 {D : nD} {m : nw_M} (hok : nd_ok D) (h : nx_T 4 D.1 m) (hS : nx_S (m 4 5) D.2) (d : Nat) (Q : nw_K) (hQ : ∀ m', nxf m m' → nx_D D m' → Q none m') : nw_Ex (d + 1) nw_shX 6 [.ref 8, .ref 4] m Q := by
  have z8 : ((8 : Int32) < 0) = False := eq_false (by decide)
  have z32 : ((32 : Int32) < 0) = False := eq_false (by decide)
  have z0 : ((0 : Int32) < 0) = False := eq_false (by decide)
  have c8 : (8 : Int32).toNatClampNeg = 8 := by decide
  have c32 : (32 : Int32).toNatClampNeg = 32 := by decide
  have c0 : (0 : Int32).toNatClampNeg = 0 := by decide
  simp only [e6, s6_0, s6_1_4, s6_1_8, s6_4, s6_5, s6_6_4, s6_6_8, s6_9, s6_10, s6_12, s6_15, s6_16_4, s6_16_8, s6_19, s6_20, s6_21_4, s6_21_8, s6_24, s6_25, s6_27, s6_30, s6_31_4, s6_31_8, s6_34, s6_35, s6_36_4, s6_36_8, s6_39, s6_40, s6_42, s6_45, s6_46, s6_47_4, s6_47_8, s6_50_4, s6_50_8, s6_53, s6_54, s6_55_4, s6_55_8, s6_58_4, s6_58_8, s6_61, s6_62, s6_63_4, s6_63_8, s6_66_4, s6_66_8, s6_69, Nat.reduceAdd, nw_cp, show nw_al nw_shX false 5 = some 8 from rfl, show nw_al nw_shX false 6 = some 8 from rfl, show nw_al nw_shX false 7 = some 32 from rfl, show nw_al nw_shX false 9 = some 8 from rfl, show nw_al nw_shX false 10 = some 8 from rfl, show nw_al nw_shX false 11 = some 32 from rfl, z8, z32, z0, c8, c32, c0, Nat.zero_add, Nat.le_refl, not_false_eq_true, and_self, false_implies, true_implies, not_true_eq_false, not_false_eq_true, true_and, and_true, true_or, or_true, false_or, or_false, false_and, and_false, implies_true, nw_psh_s, nw_psh_n, ni_10, ni_00]
  obtain ⟨a1, a2, a3, a4, a5⟩ := h
  have hf0 : ∀ (m : nw_M) (f : Nat → Int32) (r : Nat), 8 ≤ r ∧ r ≤ 11 → nxf m (nw_row m r f) := fun m f r hr c k q => nw_cp_ne m f r c k (fun z => q (by omega))
  refine hQ _ (nxf_tr (nxf_tr (nxf_tr (nxf_tr (nxf_tr (hf0 m _ 9 (by omega)) (hf0 _ _ 10 (by omega))) (hf0 _ _ 11 (by omega))) (nxf_up (a := 8) _ (by omega))) (nxf_up (a := 8) _ (by omega))) (nxf_up (a := 8) _ (by omega))) ⟨⟨?_, ?_, fun j hj => ?_, fun j hj => ?_, fun j hj i hi => ?_⟩, ?_⟩
  · simp only [nw_up_at, nw_row_at, Nat.reduceEqDiff, and_self, and_false, false_and, if_true, if_false]; exact a1
  · simp only [nw_up_at, nw_row_at, Nat.reduceEqDiff, and_self, and_false, false_and, if_true, if_false]; exact a2
  · simp only [nw_up_at, nw_row_at, Nat.reduceEqDiff, Nat.reduceAdd, and_self, and_false, false_and, if_true, if_false]
    rw [pk_cpy_in (Nat.zero_le j) (by omega), Nat.sub_zero, Nat.zero_add]; exact a3 j hj
  · simp only [nw_up_at, nw_row_at, Nat.reduceEqDiff, Nat.reduceAdd, and_self, and_false, false_and, if_true, if_false]
    rw [pk_cpy_in (Nat.zero_le j) (by omega), Nat.sub_zero, Nat.zero_add, nw_cp_ne _ _ _ _ _ (by decide)]; exact a4 j hj
  · have h4 := (hok.1.2.2.2 j).2.1
    simp only [nw_up_at, nw_row_at, Nat.reduceEqDiff, Nat.reduceAdd, and_self, and_false, false_and, if_true, if_false]
    rw [pk_cpy_in (Nat.zero_le _) (by omega), Nat.sub_zero, Nat.zero_add, nw_cp_ne _ _ _ _ _ (by decide), nw_cp_ne _ _ _ _ _ (by decide)]; exact a5 j hj i hi
  · simp only [nw_up_at, nw_row_at, Nat.reduceEqDiff, and_self, and_false, false_and, if_true, if_false]; exact hS
