/-! THE REFERENCE READS -/
/-- the token at s at hand -/
def nmk (L : Nat) (tx : Nat → Nat) (s : Nat) (m : nw_M) : Prop := nm_tx L tx m ∧ s ≤ L ∧ m 0 11 = nI (nen L tx s) ∧ m 0 12 = nI s ∧ m 0 13 = nI (nen L tx s)
theorem m_go {L : Nat} {tx : Nat → Nat} {s : Nat} {m : nw_M} (h : nmk L tx s m) (d : Nat) (Q : nw_K) (hQ : ∀ m', nmf m m' → nmk L tx (nnt L tx s) m' → Q none m') : nw_Ex (d + 2) nw_shM 102 [.ref 0] m Q := by
  obtain ⟨h1, h2, h3, h4, h5⟩ := h
  exact m_tok h1 d Q (nen_le tx h2).2 h3 (fun m' hf g1 g2 g3 => hQ m' hf ⟨nmf_tx h1 hf, nnt_le tx h2, g1, g2, g3⟩)
theorem nmk_up {L : Nat} {tx : Nat → Nat} {s : Nat} {m : nw_M} (h : nmk L tx s m) {c k : Nat} {v : Int32} (hc : c = 4 ∨ c = 8 ∨ c = 0 ∧ (k = 5 ∨ k = 14 ∨ k = 16)) : nmk L tx s (nw_up m c k v) := by
  obtain ⟨h1, h2, h3, h4, h5⟩ := h
  refine ⟨⟨?_, h1.2.1, fun i hi => ?_⟩, h2, ?_, ?_, ?_⟩
  · rw [nw_up_at, if_neg (by omega)]; exact h1.1
  · rw [nw_up_at, if_neg (by omega)]; exact h1.2.2 i hi
  · rw [nw_up_at, if_neg (by omega)]; exact h3
  · rw [nw_up_at, if_neg (by omega)]; exact h4
  · rw [nw_up_at, if_neg (by omega)]; exact h5
theorem m_reads_n {L : Nat} {tx : Nat → Nat} {s : Nat} {m : nw_M} (h : nmk L tx s m) (d : Nat) (Q : nw_K) {k lo hi : Int32} (hv : nz_o (ndg L tx s) < lo ∨ hi < nz_o (ndg L tx s)) : nw_Ex (d + 3) nw_shM 107 [.ref 0, .int k, .int lo, .int hi] m Q = Q (some (.int 0)) m := by
  have hnum := fun Q' => m_num h.1 d Q' h.2.1 h.2.2.2.1 h.2.2.2.2
  have hin := fun Q' => m_in (d + 1) Q' (nz_o (ndg L tx s)) lo hi m
  simp only [e107, s107_0, s107_1, s107_4, s107_6, s107_8, s107_9, s107_10, s107_11, s107_12, s107_13, s107_16, s107_19, s107_20, s107_21, s107_22, s107_25, s107_26, s107_27, s107_30, s107_31, s107_32, s107_33, s107_34, s107_35, s107_37, s107_38, s107_39, s107_42, s107_43, hnum, hin, eq_true hv, if_true, false_implies, true_implies, not_true_eq_false, not_false_eq_true, true_and, and_true, true_or, or_true, false_or, or_false, false_and, and_false, implies_true, nw_psh_s, nw_psh_n, ni_10, ni_00]
theorem m_reads_y {L : Nat} {tx : Nat → Nat} {s : Nat} {m : nw_M} (h : nmk L tx s m) (d : Nat) (Q : nw_K) {k N a : Nat} {lo hi : Int32} (hk : k < 2) (hN : N < 12) (h5 : m 0 5 = nI N) (ha : ndg L tx s = some a) (hv : ¬ (nI a < lo ∨ hi < nI a)) (hQ : ∀ m', nmf (nw_up m 4 (3 * N + 1 + k) (nI a)) m' → nmk L tx (nnt L tx s) m' → Q (some (.int 1)) m') : nw_Ex (d + 3) nw_shM 107 [.ref 0, .int (nI k), .int lo, .int hi] m Q := by
  have hnum := fun Q' => m_num h.1 d Q' h.2.1 h.2.2.2.1 h.2.2.2.2
  rw [ha] at hnum
  have hin := fun Q' => m_in (d + 1) Q' (nI a) lo hi m
  have e3 : (3 : Int32) * nI N = nI (3 * N) := pk_mul 3 N
  have hi1 : vp_in (nI (3 * N + 1 + k)) 36 := vp_in_nI (by omega) (by decide)
  simp only [e107, s107_0, s107_1, s107_4, s107_6, s107_8, s107_9, s107_10, s107_11, s107_12, s107_13, s107_16, s107_19, s107_20, s107_21, s107_22, s107_25, s107_26, s107_27, s107_30, s107_31, s107_32, s107_33, s107_34, s107_35, s107_37, s107_38, s107_39, s107_42, s107_43, hnum, nz_o, hin, eq_false hv, if_false, h5, e3, nI_1, nI_add, hi1, ni_cl (show 3 * N + 1 + k < 2 ^ 31 by omega), false_implies, true_implies, not_true_eq_false, not_false_eq_true, true_and, and_true, true_or, or_true, false_or, or_false, false_and, and_false, implies_true, nw_psh_s, nw_psh_n, ni_10, ni_00]
  refine m_go (nmk_up h (Or.inl rfl)) d _ (fun m' hf h' => ?_)
  simp only [e107, s107_0, s107_1, s107_4, s107_6, s107_8, s107_9, s107_10, s107_11, s107_12, s107_13, s107_16, s107_19, s107_20, s107_21, s107_22, s107_25, s107_26, s107_27, s107_30, s107_31, s107_32, s107_33, s107_34, s107_35, s107_37, s107_38, s107_39, s107_42, s107_43, false_implies, true_implies, not_true_eq_false, not_false_eq_true, true_and, and_true, true_or, or_true, false_or, or_false, false_and, and_false, implies_true, nw_psh_s, nw_psh_n, ni_10, ni_00]
  exact hQ m' hf h'
def nmc (D : nD) (m : nw_M) : Prop := m 0 14 = nI (nt_n D.1) ∧ m 0 16 = nI (nt_m D.1) ∧ ∀ c, c < 8 → m 8 c = nI (nt_w D.1 c)
def nmg (N : Nat) (m m' : nw_M) : Prop := ∀ c k, ¬ (c = 0 ∧ (k = 11 ∨ k = 12 ∨ k = 13)) → ¬ (c = 4 ∧ 3 * N + 1 ≤ k ∧ k ≤ 3 * N + 2) → m' c k = m c k
theorem nmg_rf (N : Nat) (m : nw_M) : nmg N m m := fun _ _ _ _ => rfl
theorem nmg_tr {N : Nat} {m1 m2 m3 : nw_M} (h1 : nmg N m1 m2) (h2 : nmg N m2 m3) : nmg N m1 m3 := fun c k h h' => (h2 c k h h').trans (h1 c k h h')
theorem nmg_f {N : Nat} {m m' : nw_M} (h : nmf m m') : nmg N m m' := fun c k h1 _ => h c k h1
theorem nmg_up {N k : Nat} {m m' : nw_M} {v : Int32} (hk : k < 2) (h : nmf (nw_up m 4 (3 * N + 1 + k) v) m') : nmg N m m' := fun c j h1 h2 => by
  rw [h c j h1, nw_up_at, if_neg (by omega)]
theorem nmc_g {D : nD} {N : Nat} {m m' : nw_M} (h : nmc D m) (hg : nmg N m m') : nmc D m' := by
  refine ⟨?_, ?_, fun c hc => ?_⟩
  · rw [hg 0 14 (by omega) (by omega)]; exact h.1
  · rw [hg 0 16 (by omega) (by omega)]; exact h.2.1
  · rw [hg 8 c (by omega) (by omega)]; exact h.2.2 c hc
/-- the rest of a LINE whose word was w, from the token at s on -/
def nrs (L : Nat) (tx : Nat → Nat) (D : nD) (w s : Nat) : Nat ⊕ (nD × Nat × Nat × Nat × Nat) :=
    if w = 8 then .inr (nd_nobody D, s, 8, 0, 0)
    else match ndg L tx s with
      | none => .inl s
      | some a =>
        if w = 0 then (if 2 ≤ a ∧ a ≤ 8 then .inr (nd_town a D, nnt L tx s, 0, a, 0) else .inl s)
        else if ¬ a < nt_n D.1 then .inl s
        else if w = 7 then .inr (nd_walker a D, nnt L tx s, 7, a, 0)
        else if w < 5 then .inr (nd_kind a (w - 1) D, nnt L tx s, w, a, 0)
        else if w = 5 ∧ ¬ nt_w D.1 a < 4 then .inl s
        else match ndg L tx (nnt L tx s) with
          | none => .inl (nnt L tx s)
          | some b =>
            if w = 5 then (if b < nt_n D.1 then .inr (nd_way a b D, nnt L tx (nnt L tx s), 5, a, b) else .inl (nnt L tx s))
            else (if b < nt_w D.1 a then .inr (nd_vane a b D, nnt L tx (nnt L tx s), 6, a, b) else .inl (nnt L tx s))
theorem nln_rs (L : Nat) (tx : Nat → Nat) (D : nD) (s : Nat) : nln L tx D s = match nwo L tx s with
  | none => .inl s
  | some w => if w = 7 ∧ ¬ nt_m D.1 < 5 then .inl s else nrs L tx D w (nnt L tx s) := rfl
/-- what the reference answers for it -/
def nmo (L : Nat) (tx : Nat → Nat) (D : nD) (w s N : Nat) (m : nw_M) (Q : nw_K) : Prop := match nrs L tx D w s with
  | .inl p => ∀ m', nmg N m m' → m' 0 12 = nI p → Q (some (.int 0)) m'
  | .inr (_, s', _, a, b) => ∀ m', nmg N m m' → nmk L tx s' m' → (¬ w = 8 → m' 4 (3 * N + 1) = nI a) → (w = 5 ∨ w = 6 → m' 4 (3 * N + 2) = nI b) → Q (some (.int 1)) m'
theorem m_rest_1 {L : Nat} {tx : Nat → Nat} {D : nD} (hok : nd_ok D) {w s N : Nat} {m : nw_M} (h : nmk L tx s m) (hc : nmc D m) (h5 : m 0 5 = nI N) (hN : N < 12) (d : Nat) (Q : nw_K) (hw : 1 ≤ w ∧ w ≤ 4 ∨ w = 7) (hQ : nmo L tx D w s N m Q) : nw_Ex (d + 4) nw_shM 108 [.ref 0, .int (nI w)] m Q := by
  have h2 := hok.1.1
  have h8 := hok.1.2.1
  have hnum := fun Q' => m_num h.1 (d + 1) Q' h.2.1 h.2.2.2.1 h.2.2.2.2
  have hts : nw_ts 13 142 0 8 #[51, 142, 142, 142, 142, 60, 107, 142, 140] (nI w) = 155 := (by decide +kernel : ∀ w, w < 8 → (1 ≤ w ∧ w ≤ 4 ∨ w = 7) → nw_ts 13 142 0 8 #[51, 142, 142, 142, 142, 60, 107, 142, 140] (nI w) = 155) w (by omega) hw
  unfold nmo nrs at hQ
  rw [if_neg (show ¬ w = 8 by omega)] at hQ
  simp only [e108, s108_0, s108_1, s108_4, s108_5, s108_6, s108_9, s108_10, s108_11, s108_12, s108_13, s108_64, s108_65, s108_66, s108_67, s108_69, s108_72, s108_73, s108_74, s108_75, s108_76, s108_77, s108_78, s108_81, s108_84, s108_85, s108_88, s108_89, s108_90, s108_91, s108_94, s108_95, s108_96, s108_97, s108_98, s108_101, s108_104, s108_105, s108_106, s108_107, s108_108, s108_111, s108_114, s108_115, s108_118, s108_119, s108_120, s108_121, s108_122, s108_123, s108_124, s108_127, s108_130, s108_131, s108_132, s108_133, s108_134, s108_137, s108_138, s108_139, s108_140, s108_141, s108_144, s108_147, s108_148, s108_151, s108_152, s108_153, s108_154, s108_155, s108_156, s108_157, s108_158, s108_159, s108_162, hnum, hc.1, hts, false_implies, true_implies, not_true_eq_false, not_false_eq_true, true_and, and_true, true_or, or_true, false_or, or_false, false_and, and_false, implies_true, nw_psh_s, nw_psh_n, ni_10, ni_00]
  cases hd : ndg L tx s with
  | none =>
    rw [hd] at hQ
    have hr := fun Q' => m_reads_n h d Q' (k := 0) (lo := 0) (hi := nI (nt_n D.1) - 1) (by rw [hd]; exact Or.inl (by decide))
    simp only [e108, s108_0, s108_1, s108_4, s108_5, s108_6, s108_9, s108_10, s108_11, s108_12, s108_13, s108_64, s108_65, s108_66, s108_67, s108_69, s108_72, s108_73, s108_74, s108_75, s108_76, s108_77, s108_78, s108_81, s108_84, s108_85, s108_88, s108_89, s108_90, s108_91, s108_94, s108_95, s108_96, s108_97, s108_98, s108_101, s108_104, s108_105, s108_106, s108_107, s108_108, s108_111, s108_114, s108_115, s108_118, s108_119, s108_120, s108_121, s108_122, s108_123, s108_124, s108_127, s108_130, s108_131, s108_132, s108_133, s108_134, s108_137, s108_138, s108_139, s108_140, s108_141, s108_144, s108_147, s108_148, s108_151, s108_152, s108_153, s108_154, s108_155, s108_156, s108_157, s108_158, s108_159, s108_162, hr, false_implies, true_implies, not_true_eq_false, not_false_eq_true, true_and, and_true, true_or, or_true, false_or, or_false, false_and, and_false, implies_true, nw_psh_s, nw_psh_n, ni_10, ni_00]
    exact hQ m (nmg_rf N m) h.2.2.2.1
  | some a =>
    have ha := ndg_lt hd
    rw [hd] at hQ
    simp only [show (w = 0) = False from eq_false (by omega), if_false] at hQ
    by_cases hn : a < nt_n D.1
    · simp only [hn, not_true_eq_false, if_false] at hQ
      refine m_reads_y h d _ (k := 0) (by decide) hN h5 hd (of_eq_false (in_in hn (by omega))) (fun m' hf h' => ?_)
      simp only [e108, s108_0, s108_1, s108_4, s108_5, s108_6, s108_9, s108_10, s108_11, s108_12, s108_13, s108_64, s108_65, s108_66, s108_67, s108_69, s108_72, s108_73, s108_74, s108_75, s108_76, s108_77, s108_78, s108_81, s108_84, s108_85, s108_88, s108_89, s108_90, s108_91, s108_94, s108_95, s108_96, s108_97, s108_98, s108_101, s108_104, s108_105, s108_106, s108_107, s108_108, s108_111, s108_114, s108_115, s108_118, s108_119, s108_120, s108_121, s108_122, s108_123, s108_124, s108_127, s108_130, s108_131, s108_132, s108_133, s108_134, s108_137, s108_138, s108_139, s108_140, s108_141, s108_144, s108_147, s108_148, s108_151, s108_152, s108_153, s108_154, s108_155, s108_156, s108_157, s108_158, s108_159, s108_162, false_implies, true_implies, not_true_eq_false, not_false_eq_true, true_and, and_true, true_or, or_true, false_or, or_false, false_and, and_false, implies_true, nw_psh_s, nw_psh_n, ni_10, ni_00]
      have hrec : m' 4 (3 * N + 1) = nI a := by rw [hf 4 _ (by omega), nw_up_at, if_pos ⟨rfl, rfl⟩]
      by_cases q7 : w = 7
      · simp only [q7, if_true] at hQ
        exact hQ m' (nmg_up (by decide) hf) h' (fun _ => hrec) (fun z => by omega)
      · simp only [q7, show (w < 5) = True from eq_true (by omega), if_true, if_false] at hQ
        exact hQ m' (nmg_up (by decide) hf) h' (fun _ => hrec) (fun z => by omega)
    · simp only [hn, not_false_eq_true, if_true] at hQ
      have hr := fun Q' => m_reads_n h d Q' (k := 0) (lo := 0) (hi := nI (nt_n D.1) - 1) (by
        rw [hd]
        exact of_eq_true (in_out (by omega) (Or.inr (nI_le (show nt_n D.1 ≤ a by omega) (by omega)))))
      simp only [e108, s108_0, s108_1, s108_4, s108_5, s108_6, s108_9, s108_10, s108_11, s108_12, s108_13, s108_64, s108_65, s108_66, s108_67, s108_69, s108_72, s108_73, s108_74, s108_75, s108_76, s108_77, s108_78, s108_81, s108_84, s108_85, s108_88, s108_89, s108_90, s108_91, s108_94, s108_95, s108_96, s108_97, s108_98, s108_101, s108_104, s108_105, s108_106, s108_107, s108_108, s108_111, s108_114, s108_115, s108_118, s108_119, s108_120, s108_121, s108_122, s108_123, s108_124, s108_127, s108_130, s108_131, s108_132, s108_133, s108_134, s108_137, s108_138, s108_139, s108_140, s108_141, s108_144, s108_147, s108_148, s108_151, s108_152, s108_153, s108_154, s108_155, s108_156, s108_157, s108_158, s108_159, s108_162, hr, false_implies, true_implies, not_true_eq_false, not_false_eq_true, true_and, and_true, true_or, or_true, false_or, or_false, false_and, and_false, implies_true, nw_psh_s, nw_psh_n, ni_10, ni_00]
      exact hQ m (nmg_rf N m) h.2.2.2.1
theorem m_rest_8 {L : Nat} {tx : Nat → Nat} {D : nD} {s N : Nat} {m : nw_M} (h : nmk L tx s m) (d : Nat) (Q : nw_K) (hQ : nmo L tx D 8 s N m Q) : nw_Ex (d + 4) nw_shM 108 [.ref 0, .int (nI 8)] m Q := by
  have hnum := fun Q' => m_num h.1 (d + 1) Q' h.2.1 h.2.2.2.1 h.2.2.2.2
  have hts : nw_ts 13 142 0 8 #[51, 142, 142, 142, 142, 60, 107, 142, 140] (nI 8) = 153 := by decide +kernel
  unfold nmo nrs at hQ
  rw [if_pos rfl] at hQ
  simp only [e108, s108_0, s108_1, s108_4, s108_5, s108_6, s108_9, s108_10, s108_11, s108_12, s108_13, s108_64, s108_65, s108_66, s108_67, s108_69, s108_72, s108_73, s108_74, s108_75, s108_76, s108_77, s108_78, s108_81, s108_84, s108_85, s108_88, s108_89, s108_90, s108_91, s108_94, s108_95, s108_96, s108_97, s108_98, s108_101, s108_104, s108_105, s108_106, s108_107, s108_108, s108_111, s108_114, s108_115, s108_118, s108_119, s108_120, s108_121, s108_122, s108_123, s108_124, s108_127, s108_130, s108_131, s108_132, s108_133, s108_134, s108_137, s108_138, s108_139, s108_140, s108_141, s108_144, s108_147, s108_148, s108_151, s108_152, s108_153, s108_154, s108_155, s108_156, s108_157, s108_158, s108_159, s108_162, hnum, hts, false_implies, true_implies, not_true_eq_false, not_false_eq_true, true_and, and_true, true_or, or_true, false_or, or_false, false_and, and_false, implies_true, nw_psh_s, nw_psh_n, ni_10, ni_00]
  exact hQ m (nmg_rf N m) h (fun z => absurd rfl z) (fun z => by omega)
theorem m_rest_0 {L : Nat} {tx : Nat → Nat} {D : nD} {s N : Nat} {m : nw_M} (h : nmk L tx s m) (h5 : m 0 5 = nI N) (hN : N < 12) (d : Nat) (Q : nw_K) (hQ : nmo L tx D 0 s N m Q) : nw_Ex (d + 4) nw_shM 108 [.ref 0, .int (nI 0)] m Q := by
  have hnum := fun Q' => m_num h.1 (d + 1) Q' h.2.1 h.2.2.2.1 h.2.2.2.2
  have hts : nw_ts 13 142 0 8 #[51, 142, 142, 142, 142, 60, 107, 142, 140] (nI 0) = 64 := by decide +kernel
  unfold nmo nrs at hQ
  rw [if_neg (by decide)] at hQ
  simp only [e108, s108_0, s108_1, s108_4, s108_5, s108_6, s108_9, s108_10, s108_11, s108_12, s108_13, s108_64, s108_65, s108_66, s108_67, s108_69, s108_72, s108_73, s108_74, s108_75, s108_76, s108_77, s108_78, s108_81, s108_84, s108_85, s108_88, s108_89, s108_90, s108_91, s108_94, s108_95, s108_96, s108_97, s108_98, s108_101, s108_104, s108_105, s108_106, s108_107, s108_108, s108_111, s108_114, s108_115, s108_118, s108_119, s108_120, s108_121, s108_122, s108_123, s108_124, s108_127, s108_130, s108_131, s108_132, s108_133, s108_134, s108_137, s108_138, s108_139, s108_140, s108_141, s108_144, s108_147, s108_148, s108_151, s108_152, s108_153, s108_154, s108_155, s108_156, s108_157, s108_158, s108_159, s108_162, hnum, hts, false_implies, true_implies, not_true_eq_false, not_false_eq_true, true_and, and_true, true_or, or_true, false_or, or_false, false_and, and_false, implies_true, nw_psh_s, nw_psh_n, ni_10, ni_00]
  cases hd : ndg L tx s with
  | none =>
    rw [hd] at hQ
    have hr := fun Q' => m_reads_n h d Q' (k := 0) (lo := 2) (hi := 8) (by rw [hd]; exact Or.inl (by decide))
    simp only [e108, s108_0, s108_1, s108_4, s108_5, s108_6, s108_9, s108_10, s108_11, s108_12, s108_13, s108_64, s108_65, s108_66, s108_67, s108_69, s108_72, s108_73, s108_74, s108_75, s108_76, s108_77, s108_78, s108_81, s108_84, s108_85, s108_88, s108_89, s108_90, s108_91, s108_94, s108_95, s108_96, s108_97, s108_98, s108_101, s108_104, s108_105, s108_106, s108_107, s108_108, s108_111, s108_114, s108_115, s108_118, s108_119, s108_120, s108_121, s108_122, s108_123, s108_124, s108_127, s108_130, s108_131, s108_132, s108_133, s108_134, s108_137, s108_138, s108_139, s108_140, s108_141, s108_144, s108_147, s108_148, s108_151, s108_152, s108_153, s108_154, s108_155, s108_156, s108_157, s108_158, s108_159, s108_162, hr, false_implies, true_implies, not_true_eq_false, not_false_eq_true, true_and, and_true, true_or, or_true, false_or, or_false, false_and, and_false, implies_true, nw_psh_s, nw_psh_n, ni_10, ni_00]
    exact hQ m (nmg_rf N m) h.2.2.2.1
  | some a =>
    have ha := ndg_lt hd
    rw [hd] at hQ
    simp only [if_true] at hQ
    by_cases hn : 2 ≤ a ∧ a ≤ 8
    · rw [if_pos hn] at hQ
      have hv : ¬ (nI a < 2 ∨ (8 : Int32) < nI a) := fun q => q.elim (nI_nlt (b := 2) hn.1 (by omega)) (nI_nlt (a := 8) hn.2 (by decide))
      refine m_reads_y h d _ (k := 0) (by decide) hN h5 hd hv (fun m' hf h' => ?_)
      simp only [e108, s108_0, s108_1, s108_4, s108_5, s108_6, s108_9, s108_10, s108_11, s108_12, s108_13, s108_64, s108_65, s108_66, s108_67, s108_69, s108_72, s108_73, s108_74, s108_75, s108_76, s108_77, s108_78, s108_81, s108_84, s108_85, s108_88, s108_89, s108_90, s108_91, s108_94, s108_95, s108_96, s108_97, s108_98, s108_101, s108_104, s108_105, s108_106, s108_107, s108_108, s108_111, s108_114, s108_115, s108_118, s108_119, s108_120, s108_121, s108_122, s108_123, s108_124, s108_127, s108_130, s108_131, s108_132, s108_133, s108_134, s108_137, s108_138, s108_139, s108_140, s108_141, s108_144, s108_147, s108_148, s108_151, s108_152, s108_153, s108_154, s108_155, s108_156, s108_157, s108_158, s108_159, s108_162, false_implies, true_implies, not_true_eq_false, not_false_eq_true, true_and, and_true, true_or, or_true, false_or, or_false, false_and, and_false, implies_true, nw_psh_s, nw_psh_n, ni_10, ni_00]
      have hrec : m' 4 (3 * N + 1) = nI a := by rw [hf 4 _ (by omega), nw_up_at, if_pos ⟨rfl, rfl⟩]
      exact hQ m' (nmg_up (by decide) hf) h' (fun _ => hrec) (fun z => by omega)
    · rw [if_neg hn] at hQ
      have hr := fun Q' => m_reads_n h d Q' (k := 0) (lo := 2) (hi := 8) (by
        rw [hd]
        rcases Nat.lt_or_ge a 2 with q | q
        · exact Or.inl (nI_lt (b := 2) q (by decide))
        · exact Or.inr (nI_lt (a := 8) (by omega) (by omega)))
      simp only [e108, s108_0, s108_1, s108_4, s108_5, s108_6, s108_9, s108_10, s108_11, s108_12, s108_13, s108_64, s108_65, s108_66, s108_67, s108_69, s108_72, s108_73, s108_74, s108_75, s108_76, s108_77, s108_78, s108_81, s108_84, s108_85, s108_88, s108_89, s108_90, s108_91, s108_94, s108_95, s108_96, s108_97, s108_98, s108_101, s108_104, s108_105, s108_106, s108_107, s108_108, s108_111, s108_114, s108_115, s108_118, s108_119, s108_120, s108_121, s108_122, s108_123, s108_124, s108_127, s108_130, s108_131, s108_132, s108_133, s108_134, s108_137, s108_138, s108_139, s108_140, s108_141, s108_144, s108_147, s108_148, s108_151, s108_152, s108_153, s108_154, s108_155, s108_156, s108_157, s108_158, s108_159, s108_162, hr, false_implies, true_implies, not_true_eq_false, not_false_eq_true, true_and, and_true, true_or, or_true, false_or, or_false, false_and, and_false, implies_true, nw_psh_s, nw_psh_n, ni_10, ni_00]
      exact hQ m (nmg_rf N m) h.2.2.2.1
theorem m_rest_5 {L : Nat} {tx : Nat → Nat} {D : nD} (hok : nd_ok D) {s N : Nat} {m : nw_M} (h : nmk L tx s m) (hc : nmc D m) (h5 : m 0 5 = nI N) (hN : N < 12) (d : Nat) (Q : nw_K) (hQ : nmo L tx D 5 s N m Q) : nw_Ex (d + 4) nw_shM 108 [.ref 0, .int (nI 5)] m Q := by
  have h2 := hok.1.1
  have h8 := hok.1.2.1
  have hnum := fun Q' => m_num h.1 (d + 1) Q' h.2.1 h.2.2.2.1 h.2.2.2.2
  have hts : nw_ts 13 142 0 8 #[51, 142, 142, 142, 142, 60, 107, 142, 140] (nI 5) = 73 := by decide +kernel
  unfold nmo nrs at hQ
  rw [if_neg (by decide)] at hQ
  cases hd : ndg L tx s with
  | none =>
    rw [hd] at hQ hnum
    have hin := fun Q' => m_in (d + 2) Q' (-1) 0 (nI (nt_n D.1) - 1) m
    have hv : ((-1 : Int32) < 0 ∨ nI (nt_n D.1) - 1 < -1) = True := eq_true (Or.inl (by decide))
    simp only [e108, s108_0, s108_1, s108_4, s108_5, s108_6, s108_9, s108_10, s108_11, s108_12, s108_13, s108_64, s108_65, s108_66, s108_67, s108_69, s108_72, s108_73, s108_74, s108_75, s108_76, s108_77, s108_78, s108_81, s108_84, s108_85, s108_88, s108_89, s108_90, s108_91, s108_94, s108_95, s108_96, s108_97, s108_98, s108_101, s108_104, s108_105, s108_106, s108_107, s108_108, s108_111, s108_114, s108_115, s108_118, s108_119, s108_120, s108_121, s108_122, s108_123, s108_124, s108_127, s108_130, s108_131, s108_132, s108_133, s108_134, s108_137, s108_138, s108_139, s108_140, s108_141, s108_144, s108_147, s108_148, s108_151, s108_152, s108_153, s108_154, s108_155, s108_156, s108_157, s108_158, s108_159, s108_162, hnum, nz_o, hc.1, hts, lw_0, hin, hv, if_true, false_implies, true_implies, not_true_eq_false, not_false_eq_true, true_and, and_true, true_or, or_true, false_or, or_false, false_and, and_false, implies_true, nw_psh_s, nw_psh_n, ni_10, ni_00]
    exact hQ m (nmg_rf N m) h.2.2.2.1
  | some a =>
    have ha := ndg_lt hd
    rw [hd] at hQ hnum
    have hin := fun Q' => m_in (d + 2) Q' (nI a) 0 (nI (nt_n D.1) - 1) m
    simp only [show ((5 : Nat) = 0) = False from eq_false (by decide), show ((5 : Nat) = 7) = False from eq_false (by decide), show ((5 : Nat) < 5) = False from eq_false (by decide), true_and, if_false, if_true] at hQ
    by_cases hn : a < nt_n D.1
    · simp only [hn, not_true_eq_false, if_false] at hQ
      have h4 := (hok.1.2.2.2 a).2.1
      have hi : vp_in (nI a) 8 := vp_in_nI (by omega) (by decide)
      have hw := hc.2.2 a (by omega)
      by_cases hw4 : nt_w D.1 a < 4
      · simp only [hw4, not_true_eq_false, if_false] at hQ
        have q1 : ((4 : Int32) ≤ nI (nt_w D.1 a)) = False := ni_le_f (a := 4) hw4 (by decide)
        simp only [e108, s108_0, s108_1, s108_4, s108_5, s108_6, s108_9, s108_10, s108_11, s108_12, s108_13, s108_64, s108_65, s108_66, s108_67, s108_69, s108_72, s108_73, s108_74, s108_75, s108_76, s108_77, s108_78, s108_81, s108_84, s108_85, s108_88, s108_89, s108_90, s108_91, s108_94, s108_95, s108_96, s108_97, s108_98, s108_101, s108_104, s108_105, s108_106, s108_107, s108_108, s108_111, s108_114, s108_115, s108_118, s108_119, s108_120, s108_121, s108_122, s108_123, s108_124, s108_127, s108_130, s108_131, s108_132, s108_133, s108_134, s108_137, s108_138, s108_139, s108_140, s108_141, s108_144, s108_147, s108_148, s108_151, s108_152, s108_153, s108_154, s108_155, s108_156, s108_157, s108_158, s108_159, s108_162, hnum, nz_o, hc.1, hts, lw_0, hin, in_in hn (show nt_n D.1 < 2 ^ 30 by omega), if_false, hi, ni_cl (show a < 2 ^ 31 by omega), hw, q1, false_implies, true_implies, not_true_eq_false, not_false_eq_true, true_and, and_true, true_or, or_true, false_or, or_false, false_and, and_false, implies_true, nw_psh_s, nw_psh_n, ni_10, ni_00]
        refine m_reads_y h d _ (k := 0) (by decide) hN h5 hd (of_eq_false (in_in hn (by omega))) (fun m1 hf1 h1 => ?_)
        have hrec : m1 4 (3 * N + 1) = nI a := by rw [hf1 4 _ (by omega), nw_up_at, if_pos ⟨rfl, rfl⟩]
        have hg1 : nmg N m m1 := nmg_up (by decide) hf1
        have h51 : m1 0 5 = nI N := by rw [hg1 0 5 (by omega) (by omega)]; exact h5
        simp only [e108, s108_0, s108_1, s108_4, s108_5, s108_6, s108_9, s108_10, s108_11, s108_12, s108_13, s108_64, s108_65, s108_66, s108_67, s108_69, s108_72, s108_73, s108_74, s108_75, s108_76, s108_77, s108_78, s108_81, s108_84, s108_85, s108_88, s108_89, s108_90, s108_91, s108_94, s108_95, s108_96, s108_97, s108_98, s108_101, s108_104, s108_105, s108_106, s108_107, s108_108, s108_111, s108_114, s108_115, s108_118, s108_119, s108_120, s108_121, s108_122, s108_123, s108_124, s108_127, s108_130, s108_131, s108_132, s108_133, s108_134, s108_137, s108_138, s108_139, s108_140, s108_141, s108_144, s108_147, s108_148, s108_151, s108_152, s108_153, s108_154, s108_155, s108_156, s108_157, s108_158, s108_159, s108_162, false_implies, true_implies, not_true_eq_false, not_false_eq_true, true_and, and_true, true_or, or_true, false_or, or_false, false_and, and_false, implies_true, nw_psh_s, nw_psh_n, ni_10, ni_00]
        cases hd2 : ndg L tx (nnt L tx s) with
        | none =>
          rw [hd2] at hQ
          have hr := fun Q' => m_reads_n h1 d Q' (k := 1) (lo := 0) (hi := nI (nt_n D.1) - 1) (by rw [hd2]; exact Or.inl (by decide))
          simp only [e108, s108_0, s108_1, s108_4, s108_5, s108_6, s108_9, s108_10, s108_11, s108_12, s108_13, s108_64, s108_65, s108_66, s108_67, s108_69, s108_72, s108_73, s108_74, s108_75, s108_76, s108_77, s108_78, s108_81, s108_84, s108_85, s108_88, s108_89, s108_90, s108_91, s108_94, s108_95, s108_96, s108_97, s108_98, s108_101, s108_104, s108_105, s108_106, s108_107, s108_108, s108_111, s108_114, s108_115, s108_118, s108_119, s108_120, s108_121, s108_122, s108_123, s108_124, s108_127, s108_130, s108_131, s108_132, s108_133, s108_134, s108_137, s108_138, s108_139, s108_140, s108_141, s108_144, s108_147, s108_148, s108_151, s108_152, s108_153, s108_154, s108_155, s108_156, s108_157, s108_158, s108_159, s108_162, hr, false_implies, true_implies, not_true_eq_false, not_false_eq_true, true_and, and_true, true_or, or_true, false_or, or_false, false_and, and_false, implies_true, nw_psh_s, nw_psh_n, ni_10, ni_00]
          exact hQ m1 hg1 h1.2.2.2.1
        | some b =>
          have hb := ndg_lt hd2
          rw [hd2] at hQ
          dsimp only at hQ
          by_cases hbn : b < nt_n D.1
          · rw [if_pos hbn] at hQ
            refine m_reads_y h1 d _ (k := 1) (by decide) hN h51 hd2 (of_eq_false (in_in hbn (by omega))) (fun m2 hf2 h2' => ?_)
            have hrec2 : m2 4 (3 * N + 1) = nI a := by rw [hf2 4 _ (by omega), nw_up_at, if_neg (by omega)]; exact hrec
            have hrec3 : m2 4 (3 * N + 2) = nI b := by rw [hf2 4 _ (by omega), nw_up_at, if_pos ⟨rfl, rfl⟩]
            simp only [e108, s108_0, s108_1, s108_4, s108_5, s108_6, s108_9, s108_10, s108_11, s108_12, s108_13, s108_64, s108_65, s108_66, s108_67, s108_69, s108_72, s108_73, s108_74, s108_75, s108_76, s108_77, s108_78, s108_81, s108_84, s108_85, s108_88, s108_89, s108_90, s108_91, s108_94, s108_95, s108_96, s108_97, s108_98, s108_101, s108_104, s108_105, s108_106, s108_107, s108_108, s108_111, s108_114, s108_115, s108_118, s108_119, s108_120, s108_121, s108_122, s108_123, s108_124, s108_127, s108_130, s108_131, s108_132, s108_133, s108_134, s108_137, s108_138, s108_139, s108_140, s108_141, s108_144, s108_147, s108_148, s108_151, s108_152, s108_153, s108_154, s108_155, s108_156, s108_157, s108_158, s108_159, s108_162, false_implies, true_implies, not_true_eq_false, not_false_eq_true, true_and, and_true, true_or, or_true, false_or, or_false, false_and, and_false, implies_true, nw_psh_s, nw_psh_n, ni_10, ni_00]
            exact hQ m2 (nmg_tr hg1 (nmg_up (by decide) hf2)) h2' (fun _ => hrec2) (fun _ => hrec3)
          · rw [if_neg hbn] at hQ
            have hr := fun Q' => m_reads_n h1 d Q' (k := 1) (lo := 0) (hi := nI (nt_n D.1) - 1) (by
              rw [hd2]
              exact of_eq_true (in_out (by omega) (Or.inr (nI_le (show nt_n D.1 ≤ b by omega) (by omega)))))
            simp only [e108, s108_0, s108_1, s108_4, s108_5, s108_6, s108_9, s108_10, s108_11, s108_12, s108_13, s108_64, s108_65, s108_66, s108_67, s108_69, s108_72, s108_73, s108_74, s108_75, s108_76, s108_77, s108_78, s108_81, s108_84, s108_85, s108_88, s108_89, s108_90, s108_91, s108_94, s108_95, s108_96, s108_97, s108_98, s108_101, s108_104, s108_105, s108_106, s108_107, s108_108, s108_111, s108_114, s108_115, s108_118, s108_119, s108_120, s108_121, s108_122, s108_123, s108_124, s108_127, s108_130, s108_131, s108_132, s108_133, s108_134, s108_137, s108_138, s108_139, s108_140, s108_141, s108_144, s108_147, s108_148, s108_151, s108_152, s108_153, s108_154, s108_155, s108_156, s108_157, s108_158, s108_159, s108_162, hr, false_implies, true_implies, not_true_eq_false, not_false_eq_true, true_and, and_true, true_or, or_true, false_or, or_false, false_and, and_false, implies_true, nw_psh_s, nw_psh_n, ni_10, ni_00]
            exact hQ m1 hg1 h1.2.2.2.1
      · simp only [hw4, not_false_eq_true, if_true] at hQ
        have q1 : ((4 : Int32) ≤ nI (nt_w D.1 a)) = True := ni_le_t (a := 4) (by omega) (by omega)
        simp only [e108, s108_0, s108_1, s108_4, s108_5, s108_6, s108_9, s108_10, s108_11, s108_12, s108_13, s108_64, s108_65, s108_66, s108_67, s108_69, s108_72, s108_73, s108_74, s108_75, s108_76, s108_77, s108_78, s108_81, s108_84, s108_85, s108_88, s108_89, s108_90, s108_91, s108_94, s108_95, s108_96, s108_97, s108_98, s108_101, s108_104, s108_105, s108_106, s108_107, s108_108, s108_111, s108_114, s108_115, s108_118, s108_119, s108_120, s108_121, s108_122, s108_123, s108_124, s108_127, s108_130, s108_131, s108_132, s108_133, s108_134, s108_137, s108_138, s108_139, s108_140, s108_141, s108_144, s108_147, s108_148, s108_151, s108_152, s108_153, s108_154, s108_155, s108_156, s108_157, s108_158, s108_159, s108_162, hnum, nz_o, hc.1, hts, lw_0, hin, in_in hn (show nt_n D.1 < 2 ^ 30 by omega), if_false, hi, ni_cl (show a < 2 ^ 31 by omega), hw, q1, false_implies, true_implies, not_true_eq_false, not_false_eq_true, true_and, and_true, true_or, or_true, false_or, or_false, false_and, and_false, implies_true, nw_psh_s, nw_psh_n, ni_10, ni_00]
        exact hQ m (nmg_rf N m) h.2.2.2.1
    · simp only [hn, not_false_eq_true, if_true] at hQ
      simp only [e108, s108_0, s108_1, s108_4, s108_5, s108_6, s108_9, s108_10, s108_11, s108_12, s108_13, s108_64, s108_65, s108_66, s108_67, s108_69, s108_72, s108_73, s108_74, s108_75, s108_76, s108_77, s108_78, s108_81, s108_84, s108_85, s108_88, s108_89, s108_90, s108_91, s108_94, s108_95, s108_96, s108_97, s108_98, s108_101, s108_104, s108_105, s108_106, s108_107, s108_108, s108_111, s108_114, s108_115, s108_118, s108_119, s108_120, s108_121, s108_122, s108_123, s108_124, s108_127, s108_130, s108_131, s108_132, s108_133, s108_134, s108_137, s108_138, s108_139, s108_140, s108_141, s108_144, s108_147, s108_148, s108_151, s108_152, s108_153, s108_154, s108_155, s108_156, s108_157, s108_158, s108_159, s108_162, hnum, nz_o, hc.1, hts, lw_0, hin, in_out (show nt_n D.1 < 2 ^ 30 by omega) (Or.inr (nI_le (show nt_n D.1 ≤ a by omega) (by omega))), if_true, false_implies, true_implies, not_true_eq_false, not_false_eq_true, true_and, and_true, true_or, or_true, false_or, or_false, false_and, and_false, implies_true, nw_psh_s, nw_psh_n, ni_10, ni_00]
      exact hQ m (nmg_rf N m) h.2.2.2.1
theorem m_rest_6 {L : Nat} {tx : Nat → Nat} {D : nD} (hok : nd_ok D) {s N : Nat} {m : nw_M} (h : nmk L tx s m) (hc : nmc D m) (h5 : m 0 5 = nI N) (hN : N < 12) (d : Nat) (Q : nw_K) (hQ : nmo L tx D 6 s N m Q) : nw_Ex (d + 4) nw_shM 108 [.ref 0, .int (nI 6)] m Q := by
  have h2 := hok.1.1
  have h8 := hok.1.2.1
  have hnum := fun Q' => m_num h.1 (d + 1) Q' h.2.1 h.2.2.2.1 h.2.2.2.2
  have hts : nw_ts 13 142 0 8 #[51, 142, 142, 142, 142, 60, 107, 142, 140] (nI 6) = 120 := by decide +kernel
  unfold nmo nrs at hQ
  rw [if_neg (by decide)] at hQ
  cases hd : ndg L tx s with
  | none =>
    rw [hd] at hQ hnum
    have hr := fun Q' => m_reads_n h d Q' (k := 0) (lo := 0) (hi := nI (nt_n D.1) - 1) (by rw [hd]; exact Or.inl (by decide))
    simp only [e108, s108_0, s108_1, s108_4, s108_5, s108_6, s108_9, s108_10, s108_11, s108_12, s108_13, s108_64, s108_65, s108_66, s108_67, s108_69, s108_72, s108_73, s108_74, s108_75, s108_76, s108_77, s108_78, s108_81, s108_84, s108_85, s108_88, s108_89, s108_90, s108_91, s108_94, s108_95, s108_96, s108_97, s108_98, s108_101, s108_104, s108_105, s108_106, s108_107, s108_108, s108_111, s108_114, s108_115, s108_118, s108_119, s108_120, s108_121, s108_122, s108_123, s108_124, s108_127, s108_130, s108_131, s108_132, s108_133, s108_134, s108_137, s108_138, s108_139, s108_140, s108_141, s108_144, s108_147, s108_148, s108_151, s108_152, s108_153, s108_154, s108_155, s108_156, s108_157, s108_158, s108_159, s108_162, hnum, hc.1, hts, hr, false_implies, true_implies, not_true_eq_false, not_false_eq_true, true_and, and_true, true_or, or_true, false_or, or_false, false_and, and_false, implies_true, nw_psh_s, nw_psh_n, ni_10, ni_00]
    exact hQ m (nmg_rf N m) h.2.2.2.1
  | some a =>
    have ha := ndg_lt hd
    rw [hd] at hQ hnum
    simp only [show ((6 : Nat) = 0) = False from eq_false (by decide), show ((6 : Nat) = 7) = False from eq_false (by decide), show ((6 : Nat) = 5) = False from eq_false (by decide), show ((6 : Nat) < 5) = False from eq_false (by decide), false_and, if_false, if_true] at hQ
    by_cases hn : a < nt_n D.1
    · simp only [hn, not_true_eq_false, if_false] at hQ
      have h4 := (hok.1.2.2.2 a).2.1
      have hi : vp_in (nI a) 8 := vp_in_nI (by omega) (by decide)
      simp only [e108, s108_0, s108_1, s108_4, s108_5, s108_6, s108_9, s108_10, s108_11, s108_12, s108_13, s108_64, s108_65, s108_66, s108_67, s108_69, s108_72, s108_73, s108_74, s108_75, s108_76, s108_77, s108_78, s108_81, s108_84, s108_85, s108_88, s108_89, s108_90, s108_91, s108_94, s108_95, s108_96, s108_97, s108_98, s108_101, s108_104, s108_105, s108_106, s108_107, s108_108, s108_111, s108_114, s108_115, s108_118, s108_119, s108_120, s108_121, s108_122, s108_123, s108_124, s108_127, s108_130, s108_131, s108_132, s108_133, s108_134, s108_137, s108_138, s108_139, s108_140, s108_141, s108_144, s108_147, s108_148, s108_151, s108_152, s108_153, s108_154, s108_155, s108_156, s108_157, s108_158, s108_159, s108_162, hnum, nz_o, hc.1, hts, false_implies, true_implies, not_true_eq_false, not_false_eq_true, true_and, and_true, true_or, or_true, false_or, or_false, false_and, and_false, implies_true, nw_psh_s, nw_psh_n, ni_10, ni_00]
      refine m_reads_y h d _ (k := 0) (by decide) hN h5 hd (of_eq_false (in_in hn (by omega))) (fun m1 hf1 h1 => ?_)
      have hrec : m1 4 (3 * N + 1) = nI a := by rw [hf1 4 _ (by omega), nw_up_at, if_pos ⟨rfl, rfl⟩]
      have hg1 : nmg N m m1 := nmg_up (by decide) hf1
      have h51 : m1 0 5 = nI N := by rw [hg1 0 5 (by omega) (by omega)]; exact h5
      have hw := (nmc_g hc hg1).2.2 a (by omega)
      simp only [e108, s108_0, s108_1, s108_4, s108_5, s108_6, s108_9, s108_10, s108_11, s108_12, s108_13, s108_64, s108_65, s108_66, s108_67, s108_69, s108_72, s108_73, s108_74, s108_75, s108_76, s108_77, s108_78, s108_81, s108_84, s108_85, s108_88, s108_89, s108_90, s108_91, s108_94, s108_95, s108_96, s108_97, s108_98, s108_101, s108_104, s108_105, s108_106, s108_107, s108_108, s108_111, s108_114, s108_115, s108_118, s108_119, s108_120, s108_121, s108_122, s108_123, s108_124, s108_127, s108_130, s108_131, s108_132, s108_133, s108_134, s108_137, s108_138, s108_139, s108_140, s108_141, s108_144, s108_147, s108_148, s108_151, s108_152, s108_153, s108_154, s108_155, s108_156, s108_157, s108_158, s108_159, s108_162, hi, ni_cl (show a < 2 ^ 31 by omega), hw, false_implies, true_implies, not_true_eq_false, not_false_eq_true, true_and, and_true, true_or, or_true, false_or, or_false, false_and, and_false, implies_true, nw_psh_s, nw_psh_n, ni_10, ni_00]
      cases hd2 : ndg L tx (nnt L tx s) with
      | none =>
        rw [hd2] at hQ
        have hr := fun Q' => m_reads_n h1 d Q' (k := 1) (lo := 0) (hi := nI (nt_w D.1 a) - 1) (by rw [hd2]; exact Or.inl (by decide))
        simp only [e108, s108_0, s108_1, s108_4, s108_5, s108_6, s108_9, s108_10, s108_11, s108_12, s108_13, s108_64, s108_65, s108_66, s108_67, s108_69, s108_72, s108_73, s108_74, s108_75, s108_76, s108_77, s108_78, s108_81, s108_84, s108_85, s108_88, s108_89, s108_90, s108_91, s108_94, s108_95, s108_96, s108_97, s108_98, s108_101, s108_104, s108_105, s108_106, s108_107, s108_108, s108_111, s108_114, s108_115, s108_118, s108_119, s108_120, s108_121, s108_122, s108_123, s108_124, s108_127, s108_130, s108_131, s108_132, s108_133, s108_134, s108_137, s108_138, s108_139, s108_140, s108_141, s108_144, s108_147, s108_148, s108_151, s108_152, s108_153, s108_154, s108_155, s108_156, s108_157, s108_158, s108_159, s108_162, hr, false_implies, true_implies, not_true_eq_false, not_false_eq_true, true_and, and_true, true_or, or_true, false_or, or_false, false_and, and_false, implies_true, nw_psh_s, nw_psh_n, ni_10, ni_00]
        exact hQ m1 hg1 h1.2.2.2.1
      | some b =>
        have hb := ndg_lt hd2
        rw [hd2] at hQ
        dsimp only at hQ
        by_cases hbn : b < nt_w D.1 a
        · rw [if_pos hbn] at hQ
          refine m_reads_y h1 d _ (k := 1) (by decide) hN h51 hd2 (of_eq_false (in_in hbn (by omega))) (fun m2 hf2 h2' => ?_)
          have hrec2 : m2 4 (3 * N + 1) = nI a := by rw [hf2 4 _ (by omega), nw_up_at, if_neg (by omega)]; exact hrec
          have hrec3 : m2 4 (3 * N + 2) = nI b := by rw [hf2 4 _ (by omega), nw_up_at, if_pos ⟨rfl, rfl⟩]
          simp only [e108, s108_0, s108_1, s108_4, s108_5, s108_6, s108_9, s108_10, s108_11, s108_12, s108_13, s108_64, s108_65, s108_66, s108_67, s108_69, s108_72, s108_73, s108_74, s108_75, s108_76, s108_77, s108_78, s108_81, s108_84, s108_85, s108_88, s108_89, s108_90, s108_91, s108_94, s108_95, s108_96, s108_97, s108_98, s108_101, s108_104, s108_105, s108_106, s108_107, s108_108, s108_111, s108_114, s108_115, s108_118, s108_119, s108_120, s108_121, s108_122, s108_123, s108_124, s108_127, s108_130, s108_131, s108_132, s108_133, s108_134, s108_137, s108_138, s108_139, s108_140, s108_141, s108_144, s108_147, s108_148, s108_151, s108_152, s108_153, s108_154, s108_155, s108_156, s108_157, s108_158, s108_159, s108_162, false_implies, true_implies, not_true_eq_false, not_false_eq_true, true_and, and_true, true_or, or_true, false_or, or_false, false_and, and_false, implies_true, nw_psh_s, nw_psh_n, ni_10, ni_00]
          exact hQ m2 (nmg_tr hg1 (nmg_up (by decide) hf2)) h2' (fun _ => hrec2) (fun _ => hrec3)
        · rw [if_neg hbn] at hQ
          have hr := fun Q' => m_reads_n h1 d Q' (k := 1) (lo := 0) (hi := nI (nt_w D.1 a) - 1) (by
            rw [hd2]
            exact of_eq_true (in_out (by omega) (Or.inr (nI_le (show nt_w D.1 a ≤ b by omega) (by omega)))))
          simp only [e108, s108_0, s108_1, s108_4, s108_5, s108_6, s108_9, s108_10, s108_11, s108_12, s108_13, s108_64, s108_65, s108_66, s108_67, s108_69, s108_72, s108_73, s108_74, s108_75, s108_76, s108_77, s108_78, s108_81, s108_84, s108_85, s108_88, s108_89, s108_90, s108_91, s108_94, s108_95, s108_96, s108_97, s108_98, s108_101, s108_104, s108_105, s108_106, s108_107, s108_108, s108_111, s108_114, s108_115, s108_118, s108_119, s108_120, s108_121, s108_122, s108_123, s108_124, s108_127, s108_130, s108_131, s108_132, s108_133, s108_134, s108_137, s108_138, s108_139, s108_140, s108_141, s108_144, s108_147, s108_148, s108_151, s108_152, s108_153, s108_154, s108_155, s108_156, s108_157, s108_158, s108_159, s108_162, hr, false_implies, true_implies, not_true_eq_false, not_false_eq_true, true_and, and_true, true_or, or_true, false_or, or_false, false_and, and_false, implies_true, nw_psh_s, nw_psh_n, ni_10, ni_00]
          exact hQ m1 hg1 h1.2.2.2.1
    · simp only [hn, not_false_eq_true, if_true] at hQ
      have hr := fun Q' => m_reads_n h d Q' (k := 0) (lo := 0) (hi := nI (nt_n D.1) - 1) (by
        rw [hd]
        exact of_eq_true (in_out (by omega) (Or.inr (nI_le (show nt_n D.1 ≤ a by omega) (by omega)))))
      simp only [e108, s108_0, s108_1, s108_4, s108_5, s108_6, s108_9, s108_10, s108_11, s108_12, s108_13, s108_64, s108_65, s108_66, s108_67, s108_69, s108_72, s108_73, s108_74, s108_75, s108_76, s108_77, s108_78, s108_81, s108_84, s108_85, s108_88, s108_89, s108_90, s108_91, s108_94, s108_95, s108_96, s108_97, s108_98, s108_101, s108_104, s108_105, s108_106, s108_107, s108_108, s108_111, s108_114, s108_115, s108_118, s108_119, s108_120, s108_121, s108_122, s108_123, s108_124, s108_127, s108_130, s108_131, s108_132, s108_133, s108_134, s108_137, s108_138, s108_139, s108_140, s108_141, s108_144, s108_147, s108_148, s108_151, s108_152, s108_153, s108_154, s108_155, s108_156, s108_157, s108_158, s108_159, s108_162, hnum, nz_o, hc.1, hts, hr, false_implies, true_implies, not_true_eq_false, not_false_eq_true, true_and, and_true, true_or, or_true, false_or, or_false, false_and, and_false, implies_true, nw_psh_s, nw_psh_n, ni_10, ni_00]
      exact hQ m (nmg_rf N m) h.2.2.2.1
theorem m_rest {L : Nat} {tx : Nat → Nat} {D : nD} (hok : nd_ok D) {w s N : Nat} (hw : w < 9) {m : nw_M} (h : nmk L tx s m) (hc : nmc D m) (h5 : m 0 5 = nI N) (hN : N < 12) (d : Nat) (Q : nw_K) (hQ : nmo L tx D w s N m Q) : nw_Ex (d + 4) nw_shM 108 [.ref 0, .int (nI w)] m Q := by
  by_cases q0 : w = 0
  · subst q0; exact m_rest_0 h h5 hN d Q hQ
  · by_cases q5 : w = 5
    · subst q5; exact m_rest_5 hok h hc h5 hN d Q hQ
    · by_cases q6 : w = 6
      · subst q6; exact m_rest_6 hok h hc h5 hN d Q hQ
      · by_cases q8 : w = 8
        · subst q8; exact m_rest_8 h d Q hQ
        · exact m_rest_1 hok h hc h5 hN d Q (by omega) hQ
