/-! THE REFERENCE'S FAULT -/
def nmh (m m' : nw_M) : Prop := ∀ c k, ¬ (c = 0 ∧ (k = 5 ∨ k = 11 ∨ k = 12 ∨ k = 13 ∨ k = 14 ∨ k = 16)) → ¬ c = 4 → ¬ c = 8 → m' c k = m c k
theorem nmh_rf (m : nw_M) : nmh m m := fun _ _ _ _ _ => rfl
theorem nmh_tr {m1 m2 m3 : nw_M} (h1 : nmh m1 m2) (h2 : nmh m2 m3) : nmh m1 m3 := fun c k a b e => (h2 c k a b e).trans (h1 c k a b e)
theorem nmh_l {N : Nat} {m m' : nw_M} (h : nml N m m') : nmh m m' := fun c k a b e => h c k a (fun z => b z.1) e
theorem nmh_f {m m' : nw_M} (h : nmf m m') : nmh m m' := fun c k a _ _ => h c k (by omega)
theorem nmh_up {m : nw_M} {c k : Nat} {v : Int32} (h : c = 8 ∨ c = 4 ∨ (c = 0 ∧ (k = 5 ∨ k = 11 ∨ k = 12 ∨ k = 13 ∨ k = 14 ∨ k = 16))) : nmh m (nw_up m c k v) := fun a j p q r => by
  rw [nw_up_at, if_neg (by omega)]
theorem nmh_sc {m m' : nw_M} (h : nmh m m') : nm_sc m m' := fun c k q => h c k (by omega) (by omega) (by omega)
theorem nmh_tx {L : Nat} {tx : Nat → Nat} {m m' : nw_M} (h : nm_tx L tx m) (hf : nmh m m') : nm_tx L tx m' := by
  refine ⟨by rw [hf 0 3 (by omega) (by omega) (by omega)]; exact h.1, h.2.1, fun i hi => ?_⟩
  rw [hf 3 i (by omega) (by omega) (by omega)]
  exact h.2.2 i hi
/-- the LINES that were read -/
def nmr (ls : List nLn) (m : nw_M) : Prop := ∀ k l, ls[k]? = some l → m 4 (3 * k) = nI l.1 ∧ (¬ l.1 = 8 → m 4 (3 * k + 1) = nI l.2.1) ∧ (l.1 = 5 ∨ l.1 = 6 → m 4 (3 * k + 2) = nI l.2.2)
theorem nmr_same {ls : List nLn} {m m' : nw_M} (h : nmr ls m) (hs : ∀ k, m' 4 k = m 4 k) : nmr ls m' := fun k l hl => by
  rw [hs, hs, hs]
  exact h k l hl
theorem nmr_push {ls : List nLn} {m m' : nw_M} {w a b : Nat} (h : nmr ls m) (hf : nml ls.length m m') (h0 : m' 4 (3 * ls.length) = nI w) (h1 : ¬ w = 8 → m' 4 (3 * ls.length + 1) = nI a) (h2 : w = 5 ∨ w = 6 → m' 4 (3 * ls.length + 2) = nI b) : nmr (ls ++ [(w, a, b)]) m' := by
  intro k l hl
  rcases Nat.lt_or_ge k ls.length with q | q
  · rw [List.getElem?_append_left q] at hl
    have := h k l hl
    rw [hf 4 _ (by omega) (by omega) (by omega), hf 4 _ (by omega) (by omega) (by omega), hf 4 _ (by omega) (by omega) (by omega)]
    exact this
  · rw [List.getElem?_append_right q] at hl
    have hk : k - ls.length = 0 := by
      rcases Nat.eq_zero_or_pos (k - ls.length) with z | z
      · exact z
      · rw [List.getElem?_eq_none (show [(w, a, b)].length ≤ k - ls.length from z)] at hl
        cases hl
    rw [hk] at hl
    cases hl
    have hk2 : k = ls.length := by omega
    subst hk2
    exact ⟨h0, h1, h2⟩
/-- what the reference answers -/
def nmz (m0 : nw_M) (Q : nw_K) (r : Nat ⊕ (nD × List nLn)) : Prop := match r with
  | .inl p => ∀ m', nmh m0 m' → Q (some (.int (nI p))) m'
  | .inr (_, ls) => ∀ m', nmh m0 m' → nmr ls m' → m' 0 5 = nI ls.length → Q (some (.int (-1))) m'
/-- behind a LINE -/
def nrq (L : Nat) (tx : Nat → Nat) (j : Nat) (D : nD) (s : Nat) (acc : List nLn) : Nat ⊕ (nD × List nLn) := if ¬ s < L then .inr (D, acc) else if tx s = 59 ∧ 0 < j then nrl L tx j D (nnt L tx s) acc else .inl s
theorem nrl_q (L : Nat) (tx : Nat → Nat) (j : Nat) (D : nD) (s : Nat) (acc : List nLn) : nrl L tx (j + 1) D s acc = match nln L tx D s with
  | .inl p => .inl p
  | .inr (D', s', l) => nrq L tx j D' s' (acc ++ [l]) := rfl
theorem m_fault_loop {L : Nat} {tx : Nat → Nat} {m0 : nw_M} (d : Nat) (Q : nw_K) : ∀ j N D s acc m1 v, N + j = 12 → nd_ok D → nmh m0 m1 → nmk L tx s m1 → nmc D m1 → m1 0 5 = nI N → acc.length = N → nmr acc m1 → nmz m0 Q (nrq L tx j D s acc) → nw_Ev (d + 5) nw_shM 110 Q 68 [some (.ref 0), some (.int v)] [] m1 := by
  intro j
  induction j with
  | zero =>
    intro N D s acc m1 v hN hok hf hk hc h5 hacc hr hq
    have hL := hk.1.2.1
    have hs := hk.2.1
    have hle : ((12 : Int32) ≤ nI N) = True := ni_le_t (a := 12) (by omega) (by omega)
    rw [s110_68]
    unfold nrq at hq
    by_cases hsl : s < L
    · rw [if_neg (fun z => z hsl), if_neg (fun z => absurd z.2 (Nat.lt_irrefl 0))] at hq
      have hfin := hq m1 hf
      have hi : vp_in (nI s) 200 := vp_in_nI (by omega) (by decide)
      have ht := hk.1.2.2 s hsl
      by_cases h1 : nI (nen L tx s) - nI s = 1
      · by_cases h59 : nI (tx s) = 59
        · simp only [e110, s110_0, s110_1, s110_2, s110_5, s110_6, s110_7, s110_10, s110_11, s110_12, s110_15, s110_18, s110_19, s110_20, s110_23, s110_26, s110_27, s110_29, s110_31, s110_34, s110_35, s110_38, s110_39, s110_40, s110_43, s110_44, s110_45, s110_46, s110_49, s110_52, s110_53, s110_56, s110_57, s110_60, s110_63, s110_64, s110_67, s110_69, s110_72, s110_73, s110_76, s110_79, s110_80, s110_83, s110_84, s110_87, s110_88, s110_89, s110_92, s110_93, s110_96, s110_97, s110_100, s110_101, s110_103, s110_106, s110_107, s110_110, s110_112, s110_115, s110_116, s110_119, s110_120, s110_121, s110_122, s110_125, s110_126, s110_129, s110_130, s110_133, s110_134, s110_135, s110_138, s110_139, s110_142, s110_143, s110_146, s110_147, hk.1.1, hk.2.2.2.1, hk.2.2.2.2, ni_le_f hsl (show L < 2 ^ 31 by omega), h1, hi, ni_cl (show s < 2 ^ 31 by omega), ht.1, h59, h5, hle, false_implies, true_implies, not_true_eq_false, not_false_eq_true, true_and, and_true, true_or, or_true, false_or, or_false, false_and, and_false, implies_true, nw_psh_s, nw_psh_n, ni_10, ni_00]
          exact hfin
        · simp only [e110, s110_0, s110_1, s110_2, s110_5, s110_6, s110_7, s110_10, s110_11, s110_12, s110_15, s110_18, s110_19, s110_20, s110_23, s110_26, s110_27, s110_29, s110_31, s110_34, s110_35, s110_38, s110_39, s110_40, s110_43, s110_44, s110_45, s110_46, s110_49, s110_52, s110_53, s110_56, s110_57, s110_60, s110_63, s110_64, s110_67, s110_69, s110_72, s110_73, s110_76, s110_79, s110_80, s110_83, s110_84, s110_87, s110_88, s110_89, s110_92, s110_93, s110_96, s110_97, s110_100, s110_101, s110_103, s110_106, s110_107, s110_110, s110_112, s110_115, s110_116, s110_119, s110_120, s110_121, s110_122, s110_125, s110_126, s110_129, s110_130, s110_133, s110_134, s110_135, s110_138, s110_139, s110_142, s110_143, s110_146, s110_147, hk.1.1, hk.2.2.2.1, hk.2.2.2.2, ni_le_f hsl (show L < 2 ^ 31 by omega), h1, hi, ni_cl (show s < 2 ^ 31 by omega), ht.1, h59, false_implies, true_implies, not_true_eq_false, not_false_eq_true, true_and, and_true, true_or, or_true, false_or, or_false, false_and, and_false, implies_true, nw_psh_s, nw_psh_n, ni_10, ni_00]
          exact hfin
      · simp only [e110, s110_0, s110_1, s110_2, s110_5, s110_6, s110_7, s110_10, s110_11, s110_12, s110_15, s110_18, s110_19, s110_20, s110_23, s110_26, s110_27, s110_29, s110_31, s110_34, s110_35, s110_38, s110_39, s110_40, s110_43, s110_44, s110_45, s110_46, s110_49, s110_52, s110_53, s110_56, s110_57, s110_60, s110_63, s110_64, s110_67, s110_69, s110_72, s110_73, s110_76, s110_79, s110_80, s110_83, s110_84, s110_87, s110_88, s110_89, s110_92, s110_93, s110_96, s110_97, s110_100, s110_101, s110_103, s110_106, s110_107, s110_110, s110_112, s110_115, s110_116, s110_119, s110_120, s110_121, s110_122, s110_125, s110_126, s110_129, s110_130, s110_133, s110_134, s110_135, s110_138, s110_139, s110_142, s110_143, s110_146, s110_147, hk.1.1, hk.2.2.2.1, hk.2.2.2.2, ni_le_f hsl (show L < 2 ^ 31 by omega), h1, false_implies, true_implies, not_true_eq_false, not_false_eq_true, true_and, and_true, true_or, or_true, false_or, or_false, false_and, and_false, implies_true, nw_psh_s, nw_psh_n, ni_10, ni_00]
        exact hfin
    · rw [if_pos hsl] at hq
      simp only [e110, s110_0, s110_1, s110_2, s110_5, s110_6, s110_7, s110_10, s110_11, s110_12, s110_15, s110_18, s110_19, s110_20, s110_23, s110_26, s110_27, s110_29, s110_31, s110_34, s110_35, s110_38, s110_39, s110_40, s110_43, s110_44, s110_45, s110_46, s110_49, s110_52, s110_53, s110_56, s110_57, s110_60, s110_63, s110_64, s110_67, s110_69, s110_72, s110_73, s110_76, s110_79, s110_80, s110_83, s110_84, s110_87, s110_88, s110_89, s110_92, s110_93, s110_96, s110_97, s110_100, s110_101, s110_103, s110_106, s110_107, s110_110, s110_112, s110_115, s110_116, s110_119, s110_120, s110_121, s110_122, s110_125, s110_126, s110_129, s110_130, s110_133, s110_134, s110_135, s110_138, s110_139, s110_142, s110_143, s110_146, s110_147, hk.1.1, hk.2.2.2.1, ni_le_t (show L ≤ s by omega) (show s < 2 ^ 31 by omega), false_implies, true_implies, not_true_eq_false, not_false_eq_true, true_and, and_true, true_or, or_true, false_or, or_false, false_and, and_false, implies_true, nw_psh_s, nw_psh_n, ni_10, ni_00]
      exact hq m1 hf hr (by rw [h5, hacc])
  | succ j ih =>
    intro N D s acc m1 v hN hok hf hk hc h5 hacc hr hq
    have hL := hk.1.2.1
    have hs := hk.2.1
    have hle : ((12 : Int32) ≤ nI N) = False := ni_le_f (a := 12) (by omega) (by decide)
    rw [s110_68]
    unfold nrq at hq
    by_cases hsl : s < L
    · rw [if_neg (fun z => z hsl)] at hq
      have hi : vp_in (nI s) 200 := vp_in_nI (by omega) (by decide)
      have ht := hk.1.2.2 s hsl
      by_cases h59 : tx s = 59
      · rw [if_pos ⟨h59, Nat.succ_pos j⟩, nrl_q] at hq
        have hen : nen L tx s = s + 1 := by unfold nen; rw [if_pos hsl, if_pos (by rw [h59]; decide)]
        have h1 : nI (nen L tx s) - nI s = 1 := by rw [hen, pk_sub (show s ≤ s + 1 by omega), show s + 1 - s = 1 by omega]; rfl
        have e59 : nI (tx s) = 59 := by rw [h59]; rfl
        have hlnok := nln_ok (tx := tx) hok (nnt_le tx hs)
        simp only [e110, s110_0, s110_1, s110_2, s110_5, s110_6, s110_7, s110_10, s110_11, s110_12, s110_15, s110_18, s110_19, s110_20, s110_23, s110_26, s110_27, s110_29, s110_31, s110_34, s110_35, s110_38, s110_39, s110_40, s110_43, s110_44, s110_45, s110_46, s110_49, s110_52, s110_53, s110_56, s110_57, s110_60, s110_63, s110_64, s110_67, s110_69, s110_72, s110_73, s110_76, s110_79, s110_80, s110_83, s110_84, s110_87, s110_88, s110_89, s110_92, s110_93, s110_96, s110_97, s110_100, s110_101, s110_103, s110_106, s110_107, s110_110, s110_112, s110_115, s110_116, s110_119, s110_120, s110_121, s110_122, s110_125, s110_126, s110_129, s110_130, s110_133, s110_134, s110_135, s110_138, s110_139, s110_142, s110_143, s110_146, s110_147, hk.1.1, hk.2.2.2.1, hk.2.2.2.2, ni_le_f hsl (show L < 2 ^ 31 by omega), h1, hi, ni_cl (show s < 2 ^ 31 by omega), ht.1, e59, h5, hle, false_implies, true_implies, not_true_eq_false, not_false_eq_true, true_and, and_true, true_or, or_true, false_or, or_false, false_and, and_false, implies_true, nw_psh_s, nw_psh_n, ni_10, ni_00]
        refine m_go hk (d + 3) _ (fun m2 hf2 hk2 => ?_)
        have hc2 : nmc D m2 := nmc_g hc (nmg_f (N := N) hf2)
        have h52 : m2 0 5 = nI N := by rw [hf2 0 5 (by omega)]; exact h5
        have hr2 : nmr acc m2 := nmr_same hr (fun k => hf2 4 k (by omega))
        simp only [e110, s110_0, s110_1, s110_2, s110_5, s110_6, s110_7, s110_10, s110_11, s110_12, s110_15, s110_18, s110_19, s110_20, s110_23, s110_26, s110_27, s110_29, s110_31, s110_34, s110_35, s110_38, s110_39, s110_40, s110_43, s110_44, s110_45, s110_46, s110_49, s110_52, s110_53, s110_56, s110_57, s110_60, s110_63, s110_64, s110_67, s110_69, s110_72, s110_73, s110_76, s110_79, s110_80, s110_83, s110_84, s110_87, s110_88, s110_89, s110_92, s110_93, s110_96, s110_97, s110_100, s110_101, s110_103, s110_106, s110_107, s110_110, s110_112, s110_115, s110_116, s110_119, s110_120, s110_121, s110_122, s110_125, s110_126, s110_129, s110_130, s110_133, s110_134, s110_135, s110_138, s110_139, s110_142, s110_143, s110_146, s110_147, false_implies, true_implies, not_true_eq_false, not_false_eq_true, true_and, and_true, true_or, or_true, false_or, or_false, false_and, and_false, implies_true, nw_psh_s, nw_psh_n, ni_10, ni_00]
        refine m_line hok hk2 hc2 h52 (by omega) d _ ?_
        unfold nmq
        cases hln : nln L tx D (nnt L tx s) with
        | inl p =>
          rw [hln] at hq
          intro m3 hf3 hp
          simp only [e110, s110_0, s110_1, s110_2, s110_5, s110_6, s110_7, s110_10, s110_11, s110_12, s110_15, s110_18, s110_19, s110_20, s110_23, s110_26, s110_27, s110_29, s110_31, s110_34, s110_35, s110_38, s110_39, s110_40, s110_43, s110_44, s110_45, s110_46, s110_49, s110_52, s110_53, s110_56, s110_57, s110_60, s110_63, s110_64, s110_67, s110_69, s110_72, s110_73, s110_76, s110_79, s110_80, s110_83, s110_84, s110_87, s110_88, s110_89, s110_92, s110_93, s110_96, s110_97, s110_100, s110_101, s110_103, s110_106, s110_107, s110_110, s110_112, s110_115, s110_116, s110_119, s110_120, s110_121, s110_122, s110_125, s110_126, s110_129, s110_130, s110_133, s110_134, s110_135, s110_138, s110_139, s110_142, s110_143, s110_146, s110_147, hp, false_implies, true_implies, not_true_eq_false, not_false_eq_true, true_and, and_true, true_or, or_true, false_or, or_false, false_and, and_false, implies_true, nw_psh_s, nw_psh_n, ni_10, ni_00]
          exact hq m3 (nmh_tr (nmh_tr hf (nmh_f hf2)) (nmh_l hf3))
        | inr z =>
          obtain ⟨D', s', w, a, b⟩ := z
          rw [hln] at hq hlnok
          intro m3 hf3 hk3 hc3 h53 r0 r1 r2
          simp only [e110, s110_0, s110_1, s110_2, s110_5, s110_6, s110_7, s110_10, s110_11, s110_12, s110_15, s110_18, s110_19, s110_20, s110_23, s110_26, s110_27, s110_29, s110_31, s110_34, s110_35, s110_38, s110_39, s110_40, s110_43, s110_44, s110_45, s110_46, s110_49, s110_52, s110_53, s110_56, s110_57, s110_60, s110_63, s110_64, s110_67, s110_69, s110_72, s110_73, s110_76, s110_79, s110_80, s110_83, s110_84, s110_87, s110_88, s110_89, s110_92, s110_93, s110_96, s110_97, s110_100, s110_101, s110_103, s110_106, s110_107, s110_110, s110_112, s110_115, s110_116, s110_119, s110_120, s110_121, s110_122, s110_125, s110_126, s110_129, s110_130, s110_133, s110_134, s110_135, s110_138, s110_139, s110_142, s110_143, s110_146, s110_147, show ((1 : Int32) = 0) = False from eq_false (by decide), false_implies, true_implies, not_true_eq_false, not_false_eq_true, true_and, and_true, true_or, or_true, false_or, or_false, false_and, and_false, implies_true, nw_psh_s, nw_psh_n, ni_10, ni_00]
          subst hacc
          exact ih (acc.length + 1) D' s' (acc ++ [(w, a, b)]) m3 1 (by omega) hlnok.1 (nmh_tr (nmh_tr hf (nmh_f hf2)) (nmh_l hf3)) hk3 hc3 h53 (by rw [List.length_append]; rfl) (nmr_push hr2 hf3 r0 r1 r2) hq
      · rw [if_neg (fun z => h59 z.1)] at hq
        have hfin := hq m1 hf
        have e59 : (nI (tx s) = 59) = False := ni_eq_f (b := 59) h59 (by have := ht.2; omega) (by decide)
        by_cases h1 : nI (nen L tx s) - nI s = 1
        · simp only [e110, s110_0, s110_1, s110_2, s110_5, s110_6, s110_7, s110_10, s110_11, s110_12, s110_15, s110_18, s110_19, s110_20, s110_23, s110_26, s110_27, s110_29, s110_31, s110_34, s110_35, s110_38, s110_39, s110_40, s110_43, s110_44, s110_45, s110_46, s110_49, s110_52, s110_53, s110_56, s110_57, s110_60, s110_63, s110_64, s110_67, s110_69, s110_72, s110_73, s110_76, s110_79, s110_80, s110_83, s110_84, s110_87, s110_88, s110_89, s110_92, s110_93, s110_96, s110_97, s110_100, s110_101, s110_103, s110_106, s110_107, s110_110, s110_112, s110_115, s110_116, s110_119, s110_120, s110_121, s110_122, s110_125, s110_126, s110_129, s110_130, s110_133, s110_134, s110_135, s110_138, s110_139, s110_142, s110_143, s110_146, s110_147, hk.1.1, hk.2.2.2.1, hk.2.2.2.2, ni_le_f hsl (show L < 2 ^ 31 by omega), h1, hi, ni_cl (show s < 2 ^ 31 by omega), ht.1, e59, false_implies, true_implies, not_true_eq_false, not_false_eq_true, true_and, and_true, true_or, or_true, false_or, or_false, false_and, and_false, implies_true, nw_psh_s, nw_psh_n, ni_10, ni_00]
          exact hfin
        · simp only [e110, s110_0, s110_1, s110_2, s110_5, s110_6, s110_7, s110_10, s110_11, s110_12, s110_15, s110_18, s110_19, s110_20, s110_23, s110_26, s110_27, s110_29, s110_31, s110_34, s110_35, s110_38, s110_39, s110_40, s110_43, s110_44, s110_45, s110_46, s110_49, s110_52, s110_53, s110_56, s110_57, s110_60, s110_63, s110_64, s110_67, s110_69, s110_72, s110_73, s110_76, s110_79, s110_80, s110_83, s110_84, s110_87, s110_88, s110_89, s110_92, s110_93, s110_96, s110_97, s110_100, s110_101, s110_103, s110_106, s110_107, s110_110, s110_112, s110_115, s110_116, s110_119, s110_120, s110_121, s110_122, s110_125, s110_126, s110_129, s110_130, s110_133, s110_134, s110_135, s110_138, s110_139, s110_142, s110_143, s110_146, s110_147, hk.1.1, hk.2.2.2.1, hk.2.2.2.2, ni_le_f hsl (show L < 2 ^ 31 by omega), h1, false_implies, true_implies, not_true_eq_false, not_false_eq_true, true_and, and_true, true_or, or_true, false_or, or_false, false_and, and_false, implies_true, nw_psh_s, nw_psh_n, ni_10, ni_00]
          exact hfin
    · rw [if_pos hsl] at hq
      simp only [e110, s110_0, s110_1, s110_2, s110_5, s110_6, s110_7, s110_10, s110_11, s110_12, s110_15, s110_18, s110_19, s110_20, s110_23, s110_26, s110_27, s110_29, s110_31, s110_34, s110_35, s110_38, s110_39, s110_40, s110_43, s110_44, s110_45, s110_46, s110_49, s110_52, s110_53, s110_56, s110_57, s110_60, s110_63, s110_64, s110_67, s110_69, s110_72, s110_73, s110_76, s110_79, s110_80, s110_83, s110_84, s110_87, s110_88, s110_89, s110_92, s110_93, s110_96, s110_97, s110_100, s110_101, s110_103, s110_106, s110_107, s110_110, s110_112, s110_115, s110_116, s110_119, s110_120, s110_121, s110_122, s110_125, s110_126, s110_129, s110_130, s110_133, s110_134, s110_135, s110_138, s110_139, s110_142, s110_143, s110_146, s110_147, hk.1.1, hk.2.2.2.1, ni_le_t (show L ≤ s by omega) (show s < 2 ^ 31 by omega), false_implies, true_implies, not_true_eq_false, not_false_eq_true, true_and, and_true, true_or, or_true, false_or, or_false, false_and, and_false, implies_true, nw_psh_s, nw_psh_n, ni_10, ni_00]
      exact hq m1 hf hr (by rw [h5, hacc])
theorem m_fault {L : Nat} {tx : Nat → Nat} {D : nD} (hok : nd_ok D) {m0 : nw_M} (h0 : nm_tx L tx m0) (h : nm_T D.1 m0) (d : Nat) (Q : nw_K) (hq : nmz m0 Q (nrl L tx 12 D (ntk L tx 0) [])) : nw_Ex (d + 6) nw_shM 110 [.ref 0] m0 Q := by
  have hlp : ∀ j k m1, k + j = 8 → nmh m0 m1 → m1 0 11 = nI 0 → m1 0 5 = nI 0 → m1 0 14 = nI (nt_n D.1) → m1 0 16 = nI (nt_m D.1) → (∀ c, c < k → m1 8 c = nI (nt_w D.1 c)) → nw_Ev (d + 5) nw_shM 110 Q 28 [some (.ref 0), some (.int (nI k))] [] m1 := by
    intro j
    induction j with
    | zero =>
      intro k m1 hk hf g11 g5 g14 g16 g8
      have hk' : k = 8 := by omega
      subst hk'
      rw [s110_28]
      simp only [e110, s110_0, s110_1, s110_2, s110_5, s110_6, s110_7, s110_10, s110_11, s110_12, s110_15, s110_18, s110_19, s110_20, s110_23, s110_26, s110_27, s110_29, s110_31, s110_34, s110_35, s110_38, s110_39, s110_40, s110_43, s110_44, s110_45, s110_46, s110_49, s110_52, s110_53, s110_56, s110_57, s110_60, s110_63, s110_64, s110_67, s110_69, s110_72, s110_73, s110_76, s110_79, s110_80, s110_83, s110_84, s110_87, s110_88, s110_89, s110_92, s110_93, s110_96, s110_97, s110_100, s110_101, s110_103, s110_106, s110_107, s110_110, s110_112, s110_115, s110_116, s110_119, s110_120, s110_121, s110_122, s110_125, s110_126, s110_129, s110_130, s110_133, s110_134, s110_135, s110_138, s110_139, s110_142, s110_143, s110_146, s110_147, show ((8 : Int32) ≤ nI 8) = True from eq_true (by decide), false_implies, true_implies, not_true_eq_false, not_false_eq_true, true_and, and_true, true_or, or_true, false_or, or_false, false_and, and_false, implies_true, nw_psh_s, nw_psh_n, ni_10, ni_00]
      refine m_tok (nmh_tx h0 hf) (d + 3) _ (Nat.zero_le L) g11 (fun m2 hf2 t1 t2 t3 => ?_)
      have hk2 : nmk L tx (ntk L tx 0) m2 := ⟨nmf_tx (nmh_tx h0 hf) hf2, (ntk_le tx (Nat.zero_le L)).2, t1, t2, t3⟩
      have hc2 : nmc D m2 := by
        refine ⟨?_, ?_, fun c hc => ?_⟩
        · rw [hf2 0 14 (by omega)]; exact g14
        · rw [hf2 0 16 (by omega)]; exact g16
        · rw [hf2 8 c (by omega)]; exact g8 c hc
      have h52 : m2 0 5 = nI 0 := by rw [hf2 0 5 (by omega)]; exact g5
      have hlnok := nln_ok (tx := tx) hok (ntk_le tx (Nat.zero_le L)).2
      simp only [e110, s110_0, s110_1, s110_2, s110_5, s110_6, s110_7, s110_10, s110_11, s110_12, s110_15, s110_18, s110_19, s110_20, s110_23, s110_26, s110_27, s110_29, s110_31, s110_34, s110_35, s110_38, s110_39, s110_40, s110_43, s110_44, s110_45, s110_46, s110_49, s110_52, s110_53, s110_56, s110_57, s110_60, s110_63, s110_64, s110_67, s110_69, s110_72, s110_73, s110_76, s110_79, s110_80, s110_83, s110_84, s110_87, s110_88, s110_89, s110_92, s110_93, s110_96, s110_97, s110_100, s110_101, s110_103, s110_106, s110_107, s110_110, s110_112, s110_115, s110_116, s110_119, s110_120, s110_121, s110_122, s110_125, s110_126, s110_129, s110_130, s110_133, s110_134, s110_135, s110_138, s110_139, s110_142, s110_143, s110_146, s110_147, false_implies, true_implies, not_true_eq_false, not_false_eq_true, true_and, and_true, true_or, or_true, false_or, or_false, false_and, and_false, implies_true, nw_psh_s, nw_psh_n, ni_10, ni_00]
      refine m_line hok hk2 hc2 h52 (by omega) d _ ?_
      rw [nrl_q] at hq
      unfold nmq
      cases hln : nln L tx D (ntk L tx 0) with
      | inl p =>
        rw [hln] at hq
        intro m3 hf3 hp
        simp only [e110, s110_0, s110_1, s110_2, s110_5, s110_6, s110_7, s110_10, s110_11, s110_12, s110_15, s110_18, s110_19, s110_20, s110_23, s110_26, s110_27, s110_29, s110_31, s110_34, s110_35, s110_38, s110_39, s110_40, s110_43, s110_44, s110_45, s110_46, s110_49, s110_52, s110_53, s110_56, s110_57, s110_60, s110_63, s110_64, s110_67, s110_69, s110_72, s110_73, s110_76, s110_79, s110_80, s110_83, s110_84, s110_87, s110_88, s110_89, s110_92, s110_93, s110_96, s110_97, s110_100, s110_101, s110_103, s110_106, s110_107, s110_110, s110_112, s110_115, s110_116, s110_119, s110_120, s110_121, s110_122, s110_125, s110_126, s110_129, s110_130, s110_133, s110_134, s110_135, s110_138, s110_139, s110_142, s110_143, s110_146, s110_147, hp, false_implies, true_implies, not_true_eq_false, not_false_eq_true, true_and, and_true, true_or, or_true, false_or, or_false, false_and, and_false, implies_true, nw_psh_s, nw_psh_n, ni_10, ni_00]
        exact hq m3 (nmh_tr (nmh_tr hf (nmh_f hf2)) (nmh_l hf3))
      | inr z =>
        obtain ⟨D', s', w, a, b⟩ := z
        rw [hln] at hq hlnok
        intro m3 hf3 hk3 hc3 h53 r0 r1 r2
        simp only [e110, s110_0, s110_1, s110_2, s110_5, s110_6, s110_7, s110_10, s110_11, s110_12, s110_15, s110_18, s110_19, s110_20, s110_23, s110_26, s110_27, s110_29, s110_31, s110_34, s110_35, s110_38, s110_39, s110_40, s110_43, s110_44, s110_45, s110_46, s110_49, s110_52, s110_53, s110_56, s110_57, s110_60, s110_63, s110_64, s110_67, s110_69, s110_72, s110_73, s110_76, s110_79, s110_80, s110_83, s110_84, s110_87, s110_88, s110_89, s110_92, s110_93, s110_96, s110_97, s110_100, s110_101, s110_103, s110_106, s110_107, s110_110, s110_112, s110_115, s110_116, s110_119, s110_120, s110_121, s110_122, s110_125, s110_126, s110_129, s110_130, s110_133, s110_134, s110_135, s110_138, s110_139, s110_142, s110_143, s110_146, s110_147, show ((1 : Int32) = 0) = False from eq_false (by decide), false_implies, true_implies, not_true_eq_false, not_false_eq_true, true_and, and_true, true_or, or_true, false_or, or_false, false_and, and_false, implies_true, nw_psh_s, nw_psh_n, ni_10, ni_00]
        exact m_fault_loop d Q 11 1 D' s' ([] ++ [(w, a, b)]) m3 _ rfl hlnok.1 (nmh_tr (nmh_tr hf (nmh_f hf2)) (nmh_l hf3)) hk3 hc3 h53 rfl (nmr_push (ls := []) (fun k l hl => by simp at hl) hf3 r0 r1 r2) hq
    | succ j ih =>
      intro k m1 hk hf g11 g5 g14 g16 g8
      have hi : vp_in (nI k) 8 := vp_in_nI (by omega) (by decide)
      have hw : m1 6 k = nI (nt_w D.1 k) := by rw [hf 6 k (by omega) (by omega) (by omega)]; exact h.2.2.2.1 k (by omega)
      rw [s110_28]
      simp only [e110, s110_0, s110_1, s110_2, s110_5, s110_6, s110_7, s110_10, s110_11, s110_12, s110_15, s110_18, s110_19, s110_20, s110_23, s110_26, s110_27, s110_29, s110_31, s110_34, s110_35, s110_38, s110_39, s110_40, s110_43, s110_44, s110_45, s110_46, s110_49, s110_52, s110_53, s110_56, s110_57, s110_60, s110_63, s110_64, s110_67, s110_69, s110_72, s110_73, s110_76, s110_79, s110_80, s110_83, s110_84, s110_87, s110_88, s110_89, s110_92, s110_93, s110_96, s110_97, s110_100, s110_101, s110_103, s110_106, s110_107, s110_110, s110_112, s110_115, s110_116, s110_119, s110_120, s110_121, s110_122, s110_125, s110_126, s110_129, s110_130, s110_133, s110_134, s110_135, s110_138, s110_139, s110_142, s110_143, s110_146, s110_147, show ((8 : Int32) ≤ nI k) = False from ni_le_f (a := 8) (by omega) (by decide), hi, ni_cl (show k < 2 ^ 31 by omega), hw, nI_1, false_implies, true_implies, not_true_eq_false, not_false_eq_true, true_and, and_true, true_or, or_true, false_or, or_false, false_and, and_false, implies_true, nw_psh_s, nw_psh_n, ni_10, ni_00]
      refine ih (k + 1) _ (by omega) (nmh_tr hf (nmh_up (by omega))) ?_ ?_ ?_ ?_ (fun c hc => ?_)
      · rw [nw_up_at, if_neg (by omega)]; exact g11
      · rw [nw_up_at, if_neg (by omega)]; exact g5
      · rw [nw_up_at, if_neg (by omega)]; exact g14
      · rw [nw_up_at, if_neg (by omega)]; exact g16
      · rw [nw_up_at]
        by_cases q : c = k
        · rw [if_pos ⟨rfl, q⟩, q]
        · rw [if_neg (by omega)]; exact g8 c (by omega)
  simp only [e110, s110_0, s110_1, s110_2, s110_5, s110_6, s110_7, s110_10, s110_11, s110_12, s110_15, s110_18, s110_19, s110_20, s110_23, s110_26, s110_27, s110_29, s110_31, s110_34, s110_35, s110_38, s110_39, s110_40, s110_43, s110_44, s110_45, s110_46, s110_49, s110_52, s110_53, s110_56, s110_57, s110_60, s110_63, s110_64, s110_67, s110_69, s110_72, s110_73, s110_76, s110_79, s110_80, s110_83, s110_84, s110_87, s110_88, s110_89, s110_92, s110_93, s110_96, s110_97, s110_100, s110_101, s110_103, s110_106, s110_107, s110_110, s110_112, s110_115, s110_116, s110_119, s110_120, s110_121, s110_122, s110_125, s110_126, s110_129, s110_130, s110_133, s110_134, s110_135, s110_138, s110_139, s110_142, s110_143, s110_146, s110_147, nw_up_at, Nat.reduceEqDiff, and_false, if_false, h.1, h.2.1, false_implies, true_implies, not_true_eq_false, not_false_eq_true, true_and, and_true, true_or, or_true, false_or, or_false, false_and, and_false, implies_true, nw_psh_s, nw_psh_n, ni_10, ni_00]
  refine hlp 8 0 _ rfl (nmh_tr (nmh_tr (nmh_tr (nmh_up (c := 0) (k := 11) (by omega)) (nmh_up (c := 0) (k := 5) (by omega))) (nmh_up (c := 0) (k := 14) (by omega))) (nmh_up (by omega))) ?_ ?_ ?_ ?_ (fun c hc => absurd hc (Nat.not_lt_zero c))
  · simp only [nw_up_at, Nat.reduceEqDiff, and_self, and_false, if_true, if_false]; rfl
  · simp only [nw_up_at, Nat.reduceEqDiff, and_self, and_false, if_true, if_false]; rfl
  · simp only [nw_up_at, Nat.reduceEqDiff, and_self, and_false, if_true, if_false]
  · simp only [nw_up_at, Nat.reduceEqDiff, and_self, and_false, if_true, if_false]
/-! FAULT -/
theorem nX_h {A : nA} {m1 m2 : nw_M} (h : nX A m1) (hs : nxh m1 m2) : nX A m2 := by
  obtain ⟨T, τ, σ, g, kp, L, tx⟩ := A
  obtain ⟨h1, ⟨a1, a2, a3, a4, a5⟩, ⟨h3, h4⟩, ⟨h6, h7⟩, ⟨h8, h9⟩, h10, h11, h12, h13⟩ := h
  refine ⟨h1, ⟨?_, ?_, fun c hc => ?_, fun c hc => ?_, fun c hc j hj => ?_⟩, ⟨h3, ?_⟩, ⟨h6, ?_⟩, ⟨?_, h9⟩, fun k hk => ?_, ?_, h12, fun i hi => ?_⟩
  · rw [hs 4 3 (by omega) (by omega)]; exact a1
  · rw [hs 4 4 (by omega) (by omega)]; exact a2
  · rw [hs 5 c (by omega) (by omega)]; exact a3 c hc
  · rw [hs 6 c (by omega) (by omega)]; exact a4 c hc
  · rw [hs 7 _ (by omega) (by omega)]; exact a5 c hc j hj
  · rw [hs 4 5 (by omega) (by omega)]; exact h4
  · rw [hs 0 5 (by omega) (by omega)]; exact h7
  · rw [hs 0 6 (by omega) (by omega)]; exact h8
  · rw [hs 12 k (by omega) (by omega), hs 13 k (by omega) (by omega)]; exact h10 k hk
  · rw [hs 1 1 (by omega) (by omega)]; exact h11
  · rw [hs 2 i (by omega) (by omega)]; exact h13 i hi
theorem p_fault (A : nA) : nP2 A 72 110 [] := by
  intro mx mm hX hM
  obtain ⟨T, τ, σ, g, kp, L, tx⟩ := A
  have hX0 := hX
  have hM0 := hM
  obtain ⟨h1, h2, ⟨h3, h4⟩, -, -, -, h11, h12, h13⟩ := hX
  obtain ⟨-, k2, -, -, -, -, k11, k12, k13⟩ := hM
  have hok : nd_ok (T, τ) := ⟨h1, h3⟩
  have hx := fun Q => x_read (D := (T, τ)) hok (m0 := mx) ⟨h11, h12, h13⟩ h2 h4 33 Q
  have hm := fun Q => m_fault (D := (T, τ)) hok (m0 := mm) ⟨k11, k12, k13⟩ k2 34 Q
  cases hr : nrl L tx 12 (T, τ) (ntk L tx 0) [] with
  | inl p =>
    rw [hr] at hx hm
    refine ⟨(T, τ, σ, g, kp, L, tx), nI p, fun Q hQ => ?_, fun Q hQ => ?_⟩
    · simp only [e72, s72_0, s72_1, s72_4, s72_5, s72_8, s72_9, s72_12, s72_15, false_implies, true_implies, not_true_eq_false, not_false_eq_true, true_and, and_true, true_or, or_true, false_or, or_false, false_and, and_false, implies_true, nw_psh_s, nw_psh_n, ni_10, ni_00]
      refine hx _ (fun m' hf => ?_)
      simp only [e72, s72_0, s72_1, s72_4, s72_5, s72_8, s72_9, s72_12, s72_15, false_implies, true_implies, not_true_eq_false, not_false_eq_true, true_and, and_true, true_or, or_true, false_or, or_false, false_and, and_false, implies_true, nw_psh_s, nw_psh_n, ni_10, ni_00]
      exact hQ m' (nX_h hX0 hf)
    · exact hm Q (fun m' hf => hQ m' (nM_sc hM0 (nmh_sc hf)))
  | inr z =>
    obtain ⟨D', ls⟩ := z
    rw [hr] at hx hm
    refine ⟨(T, τ, σ, g, kp, L, tx), -1, fun Q hQ => ?_, fun Q hQ => ?_⟩
    · simp only [e72, s72_0, s72_1, s72_4, s72_5, s72_8, s72_9, s72_12, s72_15, false_implies, true_implies, not_true_eq_false, not_false_eq_true, true_and, and_true, true_or, or_true, false_or, or_false, false_and, and_false, implies_true, nw_psh_s, nw_psh_n, ni_10, ni_00]
      refine hx _ (fun m' hf _ _ => ?_)
      simp only [e72, s72_0, s72_1, s72_4, s72_5, s72_8, s72_9, s72_12, s72_15, false_implies, true_implies, not_true_eq_false, not_false_eq_true, true_and, and_true, true_or, or_true, false_or, or_false, false_and, and_false, implies_true, nw_psh_s, nw_psh_n, ni_10, ni_00]
      exact hQ m' (nX_h hX0 hf)
    · exact hm Q (fun m' hf _ _ => hQ m' (nM_sc hM0 (nmh_sc hf)))
