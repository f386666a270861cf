/-! THE REFERENCE READS A LINE -/
def nml (N : Nat) (m m' : nw_M) : Prop := ∀ c k, ¬ (c = 0 ∧ (k = 5 ∨ k = 11 ∨ k = 12 ∨ k = 13 ∨ k = 14 ∨ k = 16)) → ¬ (c = 4 ∧ 3 * N ≤ k ∧ k ≤ 3 * N + 2) → ¬ c = 8 → m' c k = m c k
theorem nml_tr {N : Nat} {m1 m2 m3 : nw_M} (h1 : nml N m1 m2) (h2 : nml N m2 m3) : nml N m1 m3 := fun c k a b e => (h2 c k a b e).trans (h1 c k a b e)
theorem nml_rf (N : Nat) (m : nw_M) : nml N m m := fun _ _ _ _ _ => rfl
theorem nml_g {N : Nat} {m m' : nw_M} (h : nmg N m m') : nml N m m' := fun c k a b _ => h c k (by omega) (by omega)
theorem nml_f {N : Nat} {m m' : nw_M} (h : nmf m m') : nml N m m' := fun c k a _ _ => h c k (by omega)
theorem nml_up {N : Nat} {m : nw_M} {c k : Nat} {v : Int32} (h : c = 8 ∨ (c = 4 ∧ k = 3 * N) ∨ (c = 0 ∧ (k = 5 ∨ k = 14 ∨ k = 16))) : nml N m (nw_up m c k v) := fun a j p q r => by
  rw [nw_up_at, if_neg (by omega)]
/-- behind the words and numbers: what it counts -/
theorem m_cnt {L : Nat} {tx : Nat → Nat} {D' : nD} {s' N w : Nat} (hw : w < 9) {m0 m : nw_M} (d : Nat) (Q : nw_K) (hfr : nml N m0 m) (h : nmk L tx s' m) (h5 : m 0 5 = nI N) (hN : N < 12) (h3 : m 4 (3 * N) = nI w) (x : Int32) (hx : m 4 (3 * N + 1) = x) (v14 v16 : Int32) (h14 : v14 = if w = 0 then x else m 0 14) (h16 : v16 = if w = 0 ∨ w = 8 then 0 else if w = 7 then m 0 16 + 1 else m 0 16)
    (hQ : ∀ m', nml N m0 m' → nmk L tx s' m' → (∀ k, m' 4 k = m 4 k) → m' 0 5 = nI (N + 1) → m' 0 14 = v14 → m' 0 16 = v16 → (∀ c, c < 8 → m' 8 c = if w = 0 then 0 else if w = 5 ∧ nI c = x then m 8 c + 1 else m 8 c) → Q (some (.int 1)) m') (hx5 : w = 5 → ∃ a, a < 8 ∧ x = nI a) :
    nw_Ev d nw_shM 109 Q 52 [some (.ref 0), some (.int (nI w)), none, none] [] m := by
  have e3 : (3 : Int32) * nI N = nI (3 * N) := pk_mul 3 N
  have hi1 : vp_in (nI (3 * N + 1)) 36 := vp_in_nI (by omega) (by decide)
  have hlast : ∀ (m1 : nw_M) (c : Int32), nml N m0 m1 → nmk L tx s' m1 → (∀ k, m1 4 k = m 4 k) → m1 0 5 = nI N → m1 0 14 = m 0 14 → m1 0 16 = m 0 16 → (∀ c, c < 8 → m1 8 c = if w = 0 then 0 else m 8 c) → nw_Ev d nw_shM 109 Q 91 [some (.ref 0), some (.int (nI w)), some (.int x), some (.int c)] [] m1 := by
    intro m1 c f1 f2 f3 f4 f5 f6 f7
    have h144 : nw_Ev d nw_shM 109 Q 144 [some (.ref 0), some (.int (nI w)), some (.int x), some (.int c)] [] (nw_up (nw_up m1 0 14 v14) 0 16 v16) := by
      by_cases q5 : w = 5
      · obtain ⟨a, ha, rfl⟩ := hx5 q5
        have hi : vp_in (nI a) 8 := vp_in_nI ha (by decide)
        simp only [e109, s109_0, s109_1, s109_4, s109_5, s109_6, s109_7, s109_10, s109_11, s109_13, s109_16, s109_17, s109_20, s109_21, s109_24, s109_25, s109_26, s109_27, s109_30, s109_31, s109_34, s109_35, s109_36, s109_39, s109_40, s109_41, s109_42, s109_43, s109_44, s109_47, s109_50, s109_51, s109_52, s109_53, s109_56, s109_57, s109_58, s109_61, s109_62, s109_63, s109_64, s109_65, s109_66, s109_67, s109_69, s109_71, s109_74, s109_75, s109_78, s109_79, s109_82, s109_83, s109_84, s109_85, s109_88, s109_91, s109_92, s109_93, s109_96, s109_97, s109_100, s109_101, s109_104, s109_107, s109_108, s109_109, s109_112, s109_113, s109_115, s109_118, s109_119, s109_122, s109_123, s109_125, s109_128, s109_129, s109_132, s109_133, s109_134, s109_137, s109_138, s109_141, s109_144, s109_145, s109_146, s109_149, s109_150, s109_153, s109_154, s109_155, s109_156, s109_157, s109_158, s109_159, s109_160, s109_161, s109_164, s109_165, s109_166, s109_169, s109_170, show (nI w = 5) = True from eq_true (by rw [q5]; rfl), hi, ni_cl (show a < 2 ^ 31 by omega), nw_up_at, Nat.reduceEqDiff, and_false, false_and, if_false, f4, nI_1, false_implies, true_implies, not_true_eq_false, not_false_eq_true, true_and, and_true, true_or, or_true, false_or, or_false, false_and, and_false, implies_true, nw_psh_s, nw_psh_n, ni_10, ni_00]
        refine hQ _ (nml_tr f1 (nml_tr (nml_tr (nml_tr (nml_up (c := 0) (k := 14) (by omega)) (nml_up (c := 0) (k := 16) (by omega))) (nml_up (c := 8) (by omega))) (nml_up (by omega)))) (nmk_up (nmk_up (nmk_up (nmk_up f2 (by omega)) (by omega)) (by omega)) (by omega)) (fun k => ?_) ?_ ?_ ?_ (fun j hj => ?_)
        · simp only [nw_up_at, Nat.reduceEqDiff, false_and, if_false]; exact f3 k
        · simp only [nw_up_at, and_self, if_true]
        · simp only [nw_up_at, Nat.reduceEqDiff, and_self, and_false, false_and, if_true, if_false]
        · simp only [nw_up_at, Nat.reduceEqDiff, and_self, and_false, false_and, if_true, if_false]
        · have hw0 : ¬ w = 0 := by omega
          have f7a := f7 a ha
          have f7j := f7 j hj
          rw [if_neg hw0] at f7a f7j
          rw [if_neg hw0]
          by_cases qj : j = a
          · simp only [nw_up_at, Nat.reduceEqDiff, false_and, if_false, qj, and_self, if_true, q5, f7a]
          · have : (nI j = nI a) = False := ni_eq_f qj (by omega) (by omega)
            simp only [nw_up_at, Nat.reduceEqDiff, false_and, if_false, qj, and_false, this, f7j]
      · have q5' : (nI w = 5) = False := ni_eq_f (b := 5) q5 (by omega) (by decide)
        simp only [e109, s109_0, s109_1, s109_4, s109_5, s109_6, s109_7, s109_10, s109_11, s109_13, s109_16, s109_17, s109_20, s109_21, s109_24, s109_25, s109_26, s109_27, s109_30, s109_31, s109_34, s109_35, s109_36, s109_39, s109_40, s109_41, s109_42, s109_43, s109_44, s109_47, s109_50, s109_51, s109_52, s109_53, s109_56, s109_57, s109_58, s109_61, s109_62, s109_63, s109_64, s109_65, s109_66, s109_67, s109_69, s109_71, s109_74, s109_75, s109_78, s109_79, s109_82, s109_83, s109_84, s109_85, s109_88, s109_91, s109_92, s109_93, s109_96, s109_97, s109_100, s109_101, s109_104, s109_107, s109_108, s109_109, s109_112, s109_113, s109_115, s109_118, s109_119, s109_122, s109_123, s109_125, s109_128, s109_129, s109_132, s109_133, s109_134, s109_137, s109_138, s109_141, s109_144, s109_145, s109_146, s109_149, s109_150, s109_153, s109_154, s109_155, s109_156, s109_157, s109_158, s109_159, s109_160, s109_161, s109_164, s109_165, s109_166, s109_169, s109_170, q5', nw_up_at, Nat.reduceEqDiff, and_false, false_and, if_false, f4, nI_1, false_implies, true_implies, not_true_eq_false, not_false_eq_true, true_and, and_true, true_or, or_true, false_or, or_false, false_and, and_false, implies_true, nw_psh_s, nw_psh_n, ni_10, ni_00]
        refine hQ _ (nml_tr f1 (nml_tr (nml_tr (nml_up (c := 0) (k := 14) (by omega)) (nml_up (c := 0) (k := 16) (by omega))) (nml_up (by omega)))) (nmk_up (nmk_up (nmk_up f2 (by omega)) (by omega)) (by omega)) (fun k => ?_) ?_ ?_ ?_ (fun j hj => ?_)
        · simp only [nw_up_at, Nat.reduceEqDiff, false_and, if_false]; exact f3 k
        · simp only [nw_up_at, and_self, if_true]
        · simp only [nw_up_at, Nat.reduceEqDiff, and_self, and_false, false_and, if_true, if_false]
        · simp only [nw_up_at, Nat.reduceEqDiff, and_self, and_false, false_and, if_true, if_false]
        · simp only [nw_up_at, Nat.reduceEqDiff, false_and, if_false, q5, f7 j hj]
    by_cases q0 : w = 0
    · rw [if_pos q0] at h14
      rw [if_pos (Or.inl q0)] at h16
      subst h14 h16
      simp only [e109, s109_0, s109_1, s109_4, s109_5, s109_6, s109_7, s109_10, s109_11, s109_13, s109_16, s109_17, s109_20, s109_21, s109_24, s109_25, s109_26, s109_27, s109_30, s109_31, s109_34, s109_35, s109_36, s109_39, s109_40, s109_41, s109_42, s109_43, s109_44, s109_47, s109_50, s109_51, s109_52, s109_53, s109_56, s109_57, s109_58, s109_61, s109_62, s109_63, s109_64, s109_65, s109_66, s109_67, s109_69, s109_71, s109_74, s109_75, s109_78, s109_79, s109_82, s109_83, s109_84, s109_85, s109_88, s109_91, s109_92, s109_93, s109_96, s109_97, s109_100, s109_101, s109_104, s109_107, s109_108, s109_109, s109_112, s109_113, s109_115, s109_118, s109_119, s109_122, s109_123, s109_125, s109_128, s109_129, s109_132, s109_133, s109_134, s109_137, s109_138, s109_141, s109_145, s109_146, s109_149, s109_150, s109_153, s109_154, s109_155, s109_156, s109_157, s109_158, s109_159, s109_160, s109_161, s109_164, s109_165, s109_166, s109_169, s109_170, show (nI w = 0) = True from eq_true (by rw [q0]; rfl), false_implies, true_implies, not_true_eq_false, not_false_eq_true, true_and, and_true, true_or, or_true, false_or, or_false, false_and, and_false, implies_true, nw_psh_s, nw_psh_n, ni_10, ni_00]
      exact h144
    · have q0' : (nI w = 0) = False := eq_false (ni_ne0 (by omega) (by omega))
      rw [if_neg q0, ← f5] at h14
      by_cases q8 : w = 8
      · rw [if_pos (Or.inr q8)] at h16
        subst h14 h16
        simp only [e109, s109_0, s109_1, s109_4, s109_5, s109_6, s109_7, s109_10, s109_11, s109_13, s109_16, s109_17, s109_20, s109_21, s109_24, s109_25, s109_26, s109_27, s109_30, s109_31, s109_34, s109_35, s109_36, s109_39, s109_40, s109_41, s109_42, s109_43, s109_44, s109_47, s109_50, s109_51, s109_52, s109_53, s109_56, s109_57, s109_58, s109_61, s109_62, s109_63, s109_64, s109_65, s109_66, s109_67, s109_69, s109_71, s109_74, s109_75, s109_78, s109_79, s109_82, s109_83, s109_84, s109_85, s109_88, s109_91, s109_92, s109_93, s109_96, s109_97, s109_100, s109_101, s109_104, s109_107, s109_108, s109_109, s109_112, s109_113, s109_115, s109_118, s109_119, s109_122, s109_123, s109_125, s109_128, s109_129, s109_132, s109_133, s109_134, s109_137, s109_138, s109_141, s109_145, s109_146, s109_149, s109_150, s109_153, s109_154, s109_155, s109_156, s109_157, s109_158, s109_159, s109_160, s109_161, s109_164, s109_165, s109_166, s109_169, s109_170, q0', show (nI w = 8) = True from eq_true (by rw [q8]; rfl), false_implies, true_implies, not_true_eq_false, not_false_eq_true, true_and, and_true, true_or, or_true, false_or, or_false, false_and, and_false, implies_true, nw_psh_s, nw_psh_n, ni_10, ni_00]
        exact h144
      · have q8' : (nI w = 8) = False := ni_eq_f (b := 8) q8 (by omega) (by decide)
        rw [if_neg (fun z => z.elim q0 q8), ← f6] at h16
        by_cases q7 : w = 7
        · rw [if_pos q7] at h16
          subst h14 h16
          simp only [e109, s109_0, s109_1, s109_4, s109_5, s109_6, s109_7, s109_10, s109_11, s109_13, s109_16, s109_17, s109_20, s109_21, s109_24, s109_25, s109_26, s109_27, s109_30, s109_31, s109_34, s109_35, s109_36, s109_39, s109_40, s109_41, s109_42, s109_43, s109_44, s109_47, s109_50, s109_51, s109_52, s109_53, s109_56, s109_57, s109_58, s109_61, s109_62, s109_63, s109_64, s109_65, s109_66, s109_67, s109_69, s109_71, s109_74, s109_75, s109_78, s109_79, s109_82, s109_83, s109_84, s109_85, s109_88, s109_91, s109_92, s109_93, s109_96, s109_97, s109_100, s109_101, s109_104, s109_107, s109_108, s109_109, s109_112, s109_113, s109_115, s109_118, s109_119, s109_122, s109_123, s109_125, s109_128, s109_129, s109_132, s109_133, s109_134, s109_137, s109_138, s109_141, s109_145, s109_146, s109_149, s109_150, s109_153, s109_154, s109_155, s109_156, s109_157, s109_158, s109_159, s109_160, s109_161, s109_164, s109_165, s109_166, s109_169, s109_170, q0', q8', show (nI w = 7) = True from eq_true (by rw [q7]; rfl), nw_up_at, Nat.reduceEqDiff, and_false, if_false, false_implies, true_implies, not_true_eq_false, not_false_eq_true, true_and, and_true, true_or, or_true, false_or, or_false, false_and, and_false, implies_true, nw_psh_s, nw_psh_n, ni_10, ni_00]
          exact h144
        · have q7' : (nI w = 7) = False := ni_eq_f (b := 7) q7 (by omega) (by decide)
          rw [if_neg q7] at h16
          subst h14 h16
          simp only [e109, s109_0, s109_1, s109_4, s109_5, s109_6, s109_7, s109_10, s109_11, s109_13, s109_16, s109_17, s109_20, s109_21, s109_24, s109_25, s109_26, s109_27, s109_30, s109_31, s109_34, s109_35, s109_36, s109_39, s109_40, s109_41, s109_42, s109_43, s109_44, s109_47, s109_50, s109_51, s109_52, s109_53, s109_56, s109_57, s109_58, s109_61, s109_62, s109_63, s109_64, s109_65, s109_66, s109_67, s109_69, s109_71, s109_74, s109_75, s109_78, s109_79, s109_82, s109_83, s109_84, s109_85, s109_88, s109_91, s109_92, s109_93, s109_96, s109_97, s109_100, s109_101, s109_104, s109_107, s109_108, s109_109, s109_112, s109_113, s109_115, s109_118, s109_119, s109_122, s109_123, s109_125, s109_128, s109_129, s109_132, s109_133, s109_134, s109_137, s109_138, s109_141, s109_145, s109_146, s109_149, s109_150, s109_153, s109_154, s109_155, s109_156, s109_157, s109_158, s109_159, s109_160, s109_161, s109_164, s109_165, s109_166, s109_169, s109_170, q0', q8', q7', nw_up_at, Nat.reduceEqDiff, and_false, if_false, false_implies, true_implies, not_true_eq_false, not_false_eq_true, true_and, and_true, true_or, or_true, false_or, or_false, false_and, and_false, implies_true, nw_psh_s, nw_psh_n, ni_10, ni_00]
          exact h144
  have hlp : ∀ j k m1, k + j = 8 → nml N m0 m1 → nmk L tx s' m1 → (∀ k, m1 4 k = m 4 k) → m1 0 5 = nI N → m1 0 14 = m 0 14 → m1 0 16 = m 0 16 → (∀ c, c < k → m1 8 c = if w = 0 then 0 else m 8 c) → (∀ c, k ≤ c → m1 8 c = m 8 c) → nw_Ev d nw_shM 109 Q 68 [some (.ref 0), some (.int (nI w)), some (.int x), some (.int (nI k))] [] m1 := by
    intro j
    induction j with
    | zero =>
      intro k m1 hk f1 f2 f3 f4 f5 f6 f7 f8
      have hk' : k = 8 := by omega
      subst hk'
      rw [s109_68]
      simp only [e109, s109_0, s109_1, s109_4, s109_5, s109_6, s109_7, s109_10, s109_11, s109_13, s109_16, s109_17, s109_20, s109_21, s109_24, s109_25, s109_26, s109_27, s109_30, s109_31, s109_34, s109_35, s109_36, s109_39, s109_40, s109_41, s109_42, s109_43, s109_44, s109_47, s109_50, s109_51, s109_52, s109_53, s109_56, s109_57, s109_58, s109_61, s109_62, s109_63, s109_64, s109_65, s109_66, s109_67, s109_69, s109_71, s109_74, s109_75, s109_78, s109_79, s109_82, s109_83, s109_84, s109_85, s109_88, s109_92, s109_93, s109_96, s109_97, s109_100, s109_101, s109_104, s109_107, s109_108, s109_109, s109_112, s109_113, s109_115, s109_118, s109_119, s109_122, s109_123, s109_125, s109_128, s109_129, s109_132, s109_133, s109_134, s109_137, s109_138, s109_141, s109_144, s109_145, s109_146, s109_149, s109_150, s109_153, s109_154, s109_155, s109_156, s109_157, s109_158, s109_159, s109_160, s109_161, s109_164, s109_165, s109_166, s109_169, s109_170, show ((8 : Int32) ≤ nI 8) = True from eq_true (by decide), false_implies, true_implies, not_true_eq_false, not_false_eq_true, true_and, and_true, true_or, or_true, false_or, or_false, false_and, and_false, implies_true, nw_psh_s, nw_psh_n, ni_10, ni_00]
      exact hlast m1 _ f1 f2 f3 f4 f5 f6 f7
    | succ j ih =>
      intro k m1 hk f1 f2 f3 f4 f5 f6 f7 f8
      have hle : ((8 : Int32) ≤ nI k) = False := ni_le_f (a := 8) (by omega) (by decide)
      have hi : vp_in (nI k) 8 := vp_in_nI (by omega) (by decide)
      rw [s109_68]
      by_cases q0 : w = 0
      · simp only [e109, s109_0, s109_1, s109_4, s109_5, s109_6, s109_7, s109_10, s109_11, s109_13, s109_16, s109_17, s109_20, s109_21, s109_24, s109_25, s109_26, s109_27, s109_30, s109_31, s109_34, s109_35, s109_36, s109_39, s109_40, s109_41, s109_42, s109_43, s109_44, s109_47, s109_50, s109_51, s109_52, s109_53, s109_56, s109_57, s109_58, s109_61, s109_62, s109_63, s109_64, s109_65, s109_66, s109_67, s109_69, s109_71, s109_74, s109_75, s109_78, s109_79, s109_82, s109_83, s109_84, s109_85, s109_88, s109_92, s109_93, s109_96, s109_97, s109_100, s109_101, s109_104, s109_107, s109_108, s109_109, s109_112, s109_113, s109_115, s109_118, s109_119, s109_122, s109_123, s109_125, s109_128, s109_129, s109_132, s109_133, s109_134, s109_137, s109_138, s109_141, s109_144, s109_145, s109_146, s109_149, s109_150, s109_153, s109_154, s109_155, s109_156, s109_157, s109_158, s109_159, s109_160, s109_161, s109_164, s109_165, s109_166, s109_169, s109_170, hle, show (nI w = 0) = True from eq_true (by rw [q0]; rfl), hi, ni_cl (show k < 2 ^ 31 by omega), nI_1, false_implies, true_implies, not_true_eq_false, not_false_eq_true, true_and, and_true, true_or, or_true, false_or, or_false, false_and, and_false, implies_true, nw_psh_s, nw_psh_n, ni_10, ni_00]
        refine ih (k + 1) _ (by omega) (nml_tr f1 (nml_up (by omega))) (nmk_up f2 (by omega)) (fun i => ?_) ?_ ?_ ?_ (fun c hc => ?_) (fun c hc => ?_)
        · rw [nw_up_at, if_neg (by omega)]; exact f3 i
        · rw [nw_up_at, if_neg (by omega)]; exact f4
        · rw [nw_up_at, if_neg (by omega)]; exact f5
        · rw [nw_up_at, if_neg (by omega)]; exact f6
        · rw [nw_up_at, if_pos q0]
          by_cases q : c = k
          · rw [if_pos ⟨rfl, q⟩]
          · rw [if_neg (by omega), f7 c (by omega), if_pos q0]
        · rw [nw_up_at, if_neg (by omega)]; exact f8 c (by omega)
      · have q0' : (nI w = 0) = False := eq_false (ni_ne0 (by omega) (by omega))
        simp only [e109, s109_0, s109_1, s109_4, s109_5, s109_6, s109_7, s109_10, s109_11, s109_13, s109_16, s109_17, s109_20, s109_21, s109_24, s109_25, s109_26, s109_27, s109_30, s109_31, s109_34, s109_35, s109_36, s109_39, s109_40, s109_41, s109_42, s109_43, s109_44, s109_47, s109_50, s109_51, s109_52, s109_53, s109_56, s109_57, s109_58, s109_61, s109_62, s109_63, s109_64, s109_65, s109_66, s109_67, s109_69, s109_71, s109_74, s109_75, s109_78, s109_79, s109_82, s109_83, s109_84, s109_85, s109_88, s109_92, s109_93, s109_96, s109_97, s109_100, s109_101, s109_104, s109_107, s109_108, s109_109, s109_112, s109_113, s109_115, s109_118, s109_119, s109_122, s109_123, s109_125, s109_128, s109_129, s109_132, s109_133, s109_134, s109_137, s109_138, s109_141, s109_144, s109_145, s109_146, s109_149, s109_150, s109_153, s109_154, s109_155, s109_156, s109_157, s109_158, s109_159, s109_160, s109_161, s109_164, s109_165, s109_166, s109_169, s109_170, hle, q0', false_implies, true_implies, not_true_eq_false, not_false_eq_true, true_and, and_true, true_or, or_true, false_or, or_false, false_and, and_false, implies_true, nw_psh_s, nw_psh_n, ni_10, ni_00]
        refine hlast m1 _ f1 f2 f3 f4 f5 f6 (fun c hc => ?_)
        rcases Nat.lt_or_ge c k with q | q
        · exact f7 c q
        · rw [if_neg q0]; exact f8 c q
  have hfin := hlp 8 0 m (by omega) hfr h (fun _ => rfl) h5 rfl rfl (fun c hc => by omega) (fun _ _ => rfl)
  simp only [e109, s109_0, s109_1, s109_4, s109_5, s109_6, s109_7, s109_10, s109_11, s109_13, s109_16, s109_17, s109_20, s109_21, s109_24, s109_25, s109_26, s109_27, s109_30, s109_31, s109_34, s109_35, s109_36, s109_39, s109_40, s109_41, s109_42, s109_43, s109_44, s109_47, s109_50, s109_51, s109_52, s109_53, s109_56, s109_57, s109_58, s109_61, s109_62, s109_63, s109_64, s109_65, s109_66, s109_67, s109_69, s109_71, s109_74, s109_75, s109_78, s109_79, s109_82, s109_83, s109_84, s109_85, s109_88, s109_91, s109_92, s109_93, s109_96, s109_97, s109_100, s109_101, s109_104, s109_107, s109_108, s109_109, s109_112, s109_113, s109_115, s109_118, s109_119, s109_122, s109_123, s109_125, s109_128, s109_129, s109_132, s109_133, s109_134, s109_137, s109_138, s109_141, s109_144, s109_145, s109_146, s109_149, s109_150, s109_153, s109_154, s109_155, s109_156, s109_157, s109_158, s109_159, s109_160, s109_161, s109_164, s109_165, s109_166, s109_169, s109_170, h5, e3, nI_1, hi1, ni_cl (show 3 * N + 1 < 2 ^ 31 by omega), hx, false_implies, true_implies, not_true_eq_false, not_false_eq_true, true_and, and_true, true_or, or_true, false_or, or_false, false_and, and_false, implies_true, nw_psh_s, nw_psh_n, ni_10, ni_00]
  exact hfin
/-- what a LINE does to the reference -/
def nmq (L : Nat) (tx : Nat → Nat) (D : nD) (s N : Nat) (m : nw_M) (Q : nw_K) : Prop := match nln L tx D s with
  | .inl p => ∀ m', nml N m m' → m' 0 12 = nI p → Q (some (.int 0)) m'
  | .inr (D', s', w, a, b) => ∀ m', nml N m m' → nmk L tx s' m' → nmc D' m' → m' 0 5 = nI (N + 1) → m' 4 (3 * N) = nI w → (¬ w = 8 → m' 4 (3 * N + 1) = nI a) → (w = 5 ∨ w = 6 → m' 4 (3 * N + 2) = nI b) → Q (some (.int 1)) m'
/-- what a LINE reads is its word; and what it does to what is counted -/
theorem nrs_w {L : Nat} {tx : Nat → Nat} {D D' : nD} {w s s' w' a b : Nat} (hok : nd_ok D) (hw : w < 9) (h : nrs L tx D w s = .inr (D', s', w', a, b)) : w' = w ∧ (w = 5 → a < 8) ∧ nt_n D'.1 = (if w = 0 then a else nt_n D.1) ∧ nt_m D'.1 = (if w = 0 ∨ w = 8 then 0 else if w = 7 then nt_m D.1 + 1 else nt_m D.1) ∧ ∀ c, nt_w D'.1 c = if w = 0 then 0 else if w = 5 ∧ c = a then nt_w D.1 c + 1 else nt_w D.1 c := by
  have h8 := hok.1.2.1
  unfold nrs at h
  by_cases q8 : w = 8
  · rw [if_pos q8] at h
    cases h
    subst q8
    exact ⟨rfl, fun z => by omega, rfl, rfl, fun c => rfl⟩
  · rw [if_neg q8] at h
    cases hd : ndg L tx s with
    | none => rw [hd] at h; cases h
    | some a0 =>
      rw [hd] at h
      dsimp only at h
      by_cases q0 : w = 0
      · rw [if_pos q0] at h
        split at h
        · cases h
          subst q0
          exact ⟨rfl, fun z => by omega, rfl, rfl, fun c => rfl⟩
        · cases h
      · rw [if_neg q0] at h
        split at h
        · cases h
        · rename_i hn
          by_cases q7 : w = 7
          · rw [if_pos q7] at h
            cases h
            subst q7
            exact ⟨rfl, fun z => by omega, rfl, rfl, fun c => rfl⟩
          · rw [if_neg q7] at h
            by_cases q5 : w < 5
            · rw [if_pos q5] at h
              cases h
              refine ⟨rfl, fun z => by omega, by rw [if_neg q0]; rfl, by rw [if_neg (fun z => z.elim q0 q8), if_neg q7]; rfl, fun c => ?_⟩
              rw [if_neg q0, if_neg (fun z => by omega)]
              rfl
            · rw [if_neg q5] at h
              split at h
              · cases h
              · cases hd2 : ndg L tx (nnt L tx s) with
                | none => rw [hd2] at h; cases h
                | some b0 =>
                  rw [hd2] at h
                  dsimp only at h
                  by_cases q : w = 5
                  · rw [if_pos q] at h
                    split at h
                    · cases h
                      subst q
                      refine ⟨rfl, fun _ => by omega, rfl, rfl, fun c => ?_⟩
                      show nf_up (nt_w D.1) a (nt_w D.1 a + 1) c = if (5 : Nat) = 0 then 0 else if (5 : Nat) = 5 ∧ c = a then nt_w D.1 c + 1 else nt_w D.1 c
                      by_cases qc : c = a
                      · simp [nf_up, qc]
                      · simp [nf_up, qc]
                    · cases h
                  · rw [if_neg q] at h
                    split at h
                    · cases h
                      have : w = 6 := by omega
                      subst this
                      exact ⟨rfl, fun z => by omega, rfl, rfl, fun c => rfl⟩
                    · cases h
