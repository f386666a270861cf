theorem m_line {L : Nat} {tx : Nat → Nat} {D : nD} {s N : Nat} {m : nw_M} (hok : nd_ok D) (h : nmk L tx s m) (hc : nmc D m) (h5 : m 0 5 = nI N) (hN : N < 12) (d : Nat) (Q : nw_K) (hQ : nmq L tx D s N m Q) : nw_Ex (d + 5) nw_shM 109 [.ref 0] m Q := by
  have hm5 := hok.1.2.2.1
  have h8 := hok.1.2.1
  have e3 : (3 : Int32) * nI N = nI (3 * N) := pk_mul 3 N
  have hi0 : vp_in (nI (3 * N)) 36 := vp_in_nI (by omega) (by decide)
  have hwo := fun Q' => m_wordOf h.1 d Q' h.2.1 h.2.2.2.1 h.2.2.2.2
  unfold nmq at hQ
  rw [nln_rs] at hQ
  cases hw : nwo L tx s with
  | none =>
    rw [hw] at hQ hwo
    simp only [e109, s109_0, s109_1, s109_4, s109_5, s109_6, s109_7, s109_10, s109_11, s109_13, s109_16, s109_17, s109_20, s109_21, s109_24, s109_25, s109_26, s109_27, s109_30, s109_31, s109_34, s109_35, s109_36, s109_39, s109_40, s109_41, s109_42, s109_43, s109_44, s109_47, s109_50, s109_51, s109_52, s109_53, s109_56, s109_57, s109_58, s109_61, s109_62, s109_63, s109_64, s109_65, s109_66, s109_67, s109_69, s109_71, s109_74, s109_75, s109_78, s109_79, s109_82, s109_83, s109_84, s109_85, s109_88, s109_91, s109_92, s109_93, s109_96, s109_97, s109_100, s109_101, s109_104, s109_107, s109_108, s109_109, s109_112, s109_113, s109_115, s109_118, s109_119, s109_122, s109_123, s109_125, s109_128, s109_129, s109_132, s109_133, s109_134, s109_137, s109_138, s109_141, s109_144, s109_145, s109_146, s109_149, s109_150, s109_153, s109_154, s109_155, s109_156, s109_157, s109_158, s109_159, s109_160, s109_161, s109_164, s109_165, s109_166, s109_169, s109_170, hwo, nz_o, false_implies, true_implies, not_true_eq_false, not_false_eq_true, true_and, and_true, true_or, or_true, false_or, or_false, false_and, and_false, implies_true, nw_psh_s, nw_psh_n, ni_10, ni_00]
    exact hQ m (nml_rf N m) h.2.2.2.1
  | some w =>
    have hw9 := nwo_lt hw
    rw [hw] at hQ hwo
    dsimp only at hQ
    have hwm := ni_ne_m1 (show w < 2 ^ 31 by omega)
    by_cases q7 : w = 7 ∧ ¬ nt_m D.1 < 5
    · rw [if_pos q7] at hQ
      have hm : nt_m D.1 = 5 := by omega
      simp only [e109, s109_0, s109_1, s109_4, s109_5, s109_6, s109_7, s109_10, s109_11, s109_13, s109_16, s109_17, s109_20, s109_21, s109_24, s109_25, s109_26, s109_27, s109_30, s109_31, s109_34, s109_35, s109_36, s109_39, s109_40, s109_41, s109_42, s109_43, s109_44, s109_47, s109_50, s109_51, s109_52, s109_53, s109_56, s109_57, s109_58, s109_61, s109_62, s109_63, s109_64, s109_65, s109_66, s109_67, s109_69, s109_71, s109_74, s109_75, s109_78, s109_79, s109_82, s109_83, s109_84, s109_85, s109_88, s109_91, s109_92, s109_93, s109_96, s109_97, s109_100, s109_101, s109_104, s109_107, s109_108, s109_109, s109_112, s109_113, s109_115, s109_118, s109_119, s109_122, s109_123, s109_125, s109_128, s109_129, s109_132, s109_133, s109_134, s109_137, s109_138, s109_141, s109_144, s109_145, s109_146, s109_149, s109_150, s109_153, s109_154, s109_155, s109_156, s109_157, s109_158, s109_159, s109_160, s109_161, s109_164, s109_165, s109_166, s109_169, s109_170, hwo, nz_o, hwm, show (nI w = 7) = True from eq_true (by rw [q7.1]; rfl), hc.2.1, show (nI (nt_m D.1) = 5) = True from eq_true (by rw [hm]; rfl), false_implies, true_implies, not_true_eq_false, not_false_eq_true, true_and, and_true, true_or, or_true, false_or, or_false, false_and, and_false, implies_true, nw_psh_s, nw_psh_n, ni_10, ni_00]
      exact hQ m (nml_rf N m) h.2.2.2.1
    · rw [if_neg q7] at hQ
      have hgo : nw_Ev (d + 4) nw_shM 109 Q 26 [some (.ref 0), some (.int (nI w)), none, none] [] m := by
        simp only [e109, s109_0, s109_1, s109_4, s109_5, s109_6, s109_7, s109_10, s109_11, s109_13, s109_16, s109_17, s109_20, s109_21, s109_24, s109_25, s109_26, s109_27, s109_30, s109_31, s109_34, s109_35, s109_36, s109_39, s109_40, s109_41, s109_42, s109_43, s109_44, s109_47, s109_50, s109_51, s109_52, s109_53, s109_56, s109_57, s109_58, s109_61, s109_62, s109_63, s109_64, s109_65, s109_66, s109_67, s109_69, s109_71, s109_74, s109_75, s109_78, s109_79, s109_82, s109_83, s109_84, s109_85, s109_88, s109_91, s109_92, s109_93, s109_96, s109_97, s109_100, s109_101, s109_104, s109_107, s109_108, s109_109, s109_112, s109_113, s109_115, s109_118, s109_119, s109_122, s109_123, s109_125, s109_128, s109_129, s109_132, s109_133, s109_134, s109_137, s109_138, s109_141, s109_144, s109_145, s109_146, s109_149, s109_150, s109_153, s109_154, s109_155, s109_156, s109_157, s109_158, s109_159, s109_160, s109_161, s109_164, s109_165, s109_166, s109_169, s109_170, false_implies, true_implies, not_true_eq_false, not_false_eq_true, true_and, and_true, true_or, or_true, false_or, or_false, false_and, and_false, implies_true, nw_psh_s, nw_psh_n, ni_10, ni_00]
        refine m_go h (d + 2) _ (fun m1 hf1 h1 => ?_)
        have h51 : m1 0 5 = nI N := by rw [hf1 0 5 (by omega)]; exact h5
        simp only [e109, s109_0, s109_1, s109_4, s109_5, s109_6, s109_7, s109_10, s109_11, s109_13, s109_16, s109_17, s109_20, s109_21, s109_24, s109_25, s109_26, s109_27, s109_30, s109_31, s109_34, s109_35, s109_36, s109_39, s109_40, s109_41, s109_42, s109_43, s109_44, s109_47, s109_50, s109_51, s109_52, s109_53, s109_56, s109_57, s109_58, s109_61, s109_62, s109_63, s109_64, s109_65, s109_66, s109_67, s109_69, s109_71, s109_74, s109_75, s109_78, s109_79, s109_82, s109_83, s109_84, s109_85, s109_88, s109_91, s109_92, s109_93, s109_96, s109_97, s109_100, s109_101, s109_104, s109_107, s109_108, s109_109, s109_112, s109_113, s109_115, s109_118, s109_119, s109_122, s109_123, s109_125, s109_128, s109_129, s109_132, s109_133, s109_134, s109_137, s109_138, s109_141, s109_144, s109_145, s109_146, s109_149, s109_150, s109_153, s109_154, s109_155, s109_156, s109_157, s109_158, s109_159, s109_160, s109_161, s109_164, s109_165, s109_166, s109_169, s109_170, h51, e3, hi0, ni_cl (show 3 * N < 2 ^ 31 by omega), false_implies, true_implies, not_true_eq_false, not_false_eq_true, true_and, and_true, true_or, or_true, false_or, or_false, false_and, and_false, implies_true, nw_psh_s, nw_psh_n, ni_10, ni_00]
        have hc2 : nmc D (nw_up m1 4 (3 * N) (nI w)) := by
          refine ⟨?_, ?_, fun c hc8 => ?_⟩
          · rw [nw_up_at, if_neg (by omega), hf1 0 14 (by omega)]; exact hc.1
          · rw [nw_up_at, if_neg (by omega), hf1 0 16 (by omega)]; exact hc.2.1
          · rw [nw_up_at, if_neg (by omega), hf1 8 c (by omega)]; exact hc.2.2 c hc8
        have hfr : nml N m (nw_up m1 4 (3 * N) (nI w)) := nml_tr (nml_f hf1) (nml_up (by omega))
        refine m_rest hok hw9 (nmk_up h1 (Or.inl rfl)) hc2 (N := N) (by rw [nw_up_at, if_neg (by omega)]; exact h51) hN d _ ?_
        unfold nmo
        cases hrs : nrs L tx D w (nnt L tx s) with
        | inl p =>
          rw [hrs] at hQ
          intro m2 hg2 hp
          simp only [e109, s109_0, s109_1, s109_4, s109_5, s109_6, s109_7, s109_10, s109_11, s109_13, s109_16, s109_17, s109_20, s109_21, s109_24, s109_25, s109_26, s109_27, s109_30, s109_31, s109_34, s109_35, s109_36, s109_39, s109_40, s109_41, s109_42, s109_43, s109_44, s109_47, s109_50, s109_51, s109_52, s109_53, s109_56, s109_57, s109_58, s109_61, s109_62, s109_63, s109_64, s109_65, s109_66, s109_67, s109_69, s109_71, s109_74, s109_75, s109_78, s109_79, s109_82, s109_83, s109_84, s109_85, s109_88, s109_91, s109_92, s109_93, s109_96, s109_97, s109_100, s109_101, s109_104, s109_107, s109_108, s109_109, s109_112, s109_113, s109_115, s109_118, s109_119, s109_122, s109_123, s109_125, s109_128, s109_129, s109_132, s109_133, s109_134, s109_137, s109_138, s109_141, s109_144, s109_145, s109_146, s109_149, s109_150, s109_153, s109_154, s109_155, s109_156, s109_157, s109_158, s109_159, s109_160, s109_161, s109_164, s109_165, s109_166, s109_169, s109_170, false_implies, true_implies, not_true_eq_false, not_false_eq_true, true_and, and_true, true_or, or_true, false_or, or_false, false_and, and_false, implies_true, nw_psh_s, nw_psh_n, ni_10, ni_00]
          exact hQ m2 (nml_tr hfr (nml_g hg2)) hp
        | inr z =>
          obtain ⟨D', s', w', a, b⟩ := z
          rw [hrs] at hQ
          obtain ⟨r1, r2, r3, r4, r5⟩ := nrs_w hok hw9 hrs
          subst r1
          intro m2 hg2 h2 ha hb
          have hc3 := nmc_g hc2 hg2
          have h52 : m2 0 5 = nI N := by rw [hg2 0 5 (by omega) (by omega), nw_up_at, if_neg (by omega)]; exact h51
          have h30 : m2 4 (3 * N) = nI w' := by rw [hg2 4 _ (by omega) (by omega), nw_up_at, if_pos ⟨rfl, rfl⟩]
          simp only [e109, s109_0, s109_1, s109_4, s109_5, s109_6, s109_7, s109_10, s109_11, s109_13, s109_16, s109_17, s109_20, s109_21, s109_24, s109_25, s109_26, s109_27, s109_30, s109_31, s109_34, s109_35, s109_36, s109_39, s109_40, s109_41, s109_42, s109_43, s109_44, s109_47, s109_50, s109_51, s109_53, s109_56, s109_57, s109_58, s109_61, s109_62, s109_63, s109_64, s109_65, s109_66, s109_67, s109_69, s109_71, s109_74, s109_75, s109_78, s109_79, s109_82, s109_83, s109_84, s109_85, s109_88, s109_91, s109_92, s109_93, s109_96, s109_97, s109_100, s109_101, s109_104, s109_107, s109_108, s109_109, s109_112, s109_113, s109_115, s109_118, s109_119, s109_122, s109_123, s109_125, s109_128, s109_129, s109_132, s109_133, s109_134, s109_137, s109_138, s109_141, s109_144, s109_145, s109_146, s109_149, s109_150, s109_153, s109_154, s109_155, s109_156, s109_157, s109_158, s109_159, s109_160, s109_161, s109_164, s109_165, s109_166, s109_169, s109_170, false_implies, true_implies, not_true_eq_false, not_false_eq_true, true_and, and_true, true_or, or_true, false_or, or_false, false_and, and_false, implies_true, nw_psh_s, nw_psh_n, ni_10, ni_00]
          refine m_cnt (D' := D') hw9 (d + 4) Q (nml_tr hfr (nml_g hg2)) h2 h52 hN h30 (m2 4 (3 * N + 1)) rfl _ _ rfl rfl (fun m3 f1 f2 f3 f4 f5 f6 f7 => ?_) (fun q5 => ⟨a, r2 q5, ha (by omega)⟩)
          refine hQ m3 f1 f2 ⟨?_, ?_, fun c hc8 => ?_⟩ f4 (by rw [f3]; exact h30) (fun q => by rw [f3]; exact ha q) (fun q => by rw [f3]; exact hb q)
          · rw [f5, r3]
            by_cases q0 : w' = 0
            · rw [if_pos q0, if_pos q0]; exact ha (by omega)
            · rw [if_neg q0, if_neg q0]; exact hc3.1
          · rw [f6, r4]
            by_cases q0 : w' = 0 ∨ w' = 8
            · rw [if_pos q0, if_pos q0]; rfl
            · rw [if_neg q0, if_neg q0]
              by_cases q : w' = 7
              · rw [if_pos q, if_pos q, hc3.2.1]; exact nI_add _ 1
              · rw [if_neg q, if_neg q]; exact hc3.2.1
          · rw [f7 c hc8, r5 c]
            by_cases q0 : w' = 0
            · rw [if_pos q0, if_pos q0]; rfl
            · rw [if_neg q0, if_neg q0]
              by_cases q5 : w' = 5
              · have ha' := ha (by omega)
                rw [ha']
                have ha8 := r2 q5
                by_cases qc : c = a
                · rw [if_pos ⟨q5, by rw [qc]⟩, if_pos ⟨q5, qc⟩, hc3.2.2 c hc8]; exact nI_add _ 1
                · rw [if_neg (fun z => qc ((nI_eq (by omega) (by omega)).mp z.2)), if_neg (fun z => qc z.2)]; exact hc3.2.2 c hc8
              · rw [if_neg (fun z => q5 z.1), if_neg (fun z => q5 z.1)]; exact hc3.2.2 c hc8
      by_cases q : w = 7
      · have hm : ¬ nt_m D.1 = 5 := fun z => q7 ⟨q, by omega⟩
        simp only [e109, s109_0, s109_1, s109_4, s109_5, s109_6, s109_7, s109_10, s109_11, s109_13, s109_16, s109_17, s109_20, s109_21, s109_24, s109_25, s109_27, s109_30, s109_31, s109_34, s109_35, s109_36, s109_39, s109_40, s109_41, s109_42, s109_43, s109_44, s109_47, s109_50, s109_51, s109_52, s109_53, s109_56, s109_57, s109_58, s109_61, s109_62, s109_63, s109_64, s109_65, s109_66, s109_67, s109_69, s109_71, s109_74, s109_75, s109_78, s109_79, s109_82, s109_83, s109_84, s109_85, s109_88, s109_91, s109_92, s109_93, s109_96, s109_97, s109_100, s109_101, s109_104, s109_107, s109_108, s109_109, s109_112, s109_113, s109_115, s109_118, s109_119, s109_122, s109_123, s109_125, s109_128, s109_129, s109_132, s109_133, s109_134, s109_137, s109_138, s109_141, s109_144, s109_145, s109_146, s109_149, s109_150, s109_153, s109_154, s109_155, s109_156, s109_157, s109_158, s109_159, s109_160, s109_161, s109_164, s109_165, s109_166, s109_169, s109_170, hwo, nz_o, hwm, show (nI w = 7) = True from eq_true (by rw [q]; rfl), hc.2.1, show (nI (nt_m D.1) = 5) = False from ni_eq_f (b := 5) hm (by omega) (by decide), false_implies, true_implies, not_true_eq_false, not_false_eq_true, true_and, and_true, true_or, or_true, false_or, or_false, false_and, and_false, implies_true, nw_psh_s, nw_psh_n, ni_10, ni_00]
        exact hgo
      · simp only [e109, s109_0, s109_1, s109_4, s109_5, s109_6, s109_7, s109_10, s109_11, s109_13, s109_16, s109_17, s109_20, s109_21, s109_24, s109_25, s109_27, s109_30, s109_31, s109_34, s109_35, s109_36, s109_39, s109_40, s109_41, s109_42, s109_43, s109_44, s109_47, s109_50, s109_51, s109_52, s109_53, s109_56, s109_57, s109_58, s109_61, s109_62, s109_63, s109_64, s109_65, s109_66, s109_67, s109_69, s109_71, s109_74, s109_75, s109_78, s109_79, s109_82, s109_83, s109_84, s109_85, s109_88, s109_91, s109_92, s109_93, s109_96, s109_97, s109_100, s109_101, s109_104, s109_107, s109_108, s109_109, s109_112, s109_113, s109_115, s109_118, s109_119, s109_122, s109_123, s109_125, s109_128, s109_129, s109_132, s109_133, s109_134, s109_137, s109_138, s109_141, s109_144, s109_145, s109_146, s109_149, s109_150, s109_153, s109_154, s109_155, s109_156, s109_157, s109_158, s109_159, s109_160, s109_161, s109_164, s109_165, s109_166, s109_169, s109_170, hwo, nz_o, hwm, show (nI w = 7) = False from ni_eq_f (b := 7) q (by omega) (by decide), false_implies, true_implies, not_true_eq_false, not_false_eq_true, true_and, and_true, true_or, or_true, false_or, or_false, false_and, and_false, implies_true, nw_psh_s, nw_psh_n, ni_10, ni_00]
        exact hgo
