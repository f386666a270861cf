/-! TOKENS: the reference -/
def nmf (mem m' : nw_M) : Prop := ∀ c k, ¬ (c = 0 ∧ (k = 11 ∨ k = 12 ∨ k = 13)) → m' c k = mem c k
theorem nmf_rf (m : nw_M) : nmf m m := fun _ _ _ => rfl
theorem nmf_tr {m1 m2 m3 : nw_M} (h1 : nmf m1 m2) (h2 : nmf m2 m3) : nmf m1 m3 := fun c k h => (h2 c k h).trans (h1 c k h)
theorem nmf_up {m : nw_M} {k : Nat} (v : Int32) (h : k = 11 ∨ k = 12 ∨ k = 13) : nmf m (nw_up m 0 k v) := fun c j q => by
  rw [nw_up_at, if_neg (fun z => q ⟨z.1, by omega⟩)]
theorem nmf_tx {L : Nat} {tx : Nat → Nat} {m m' : nw_M} (h : nm_tx L tx m) (hf : nmf m m') : nm_tx L tx m' := by
  refine ⟨by rw [hf 0 3 (by omega)]; exact h.1, h.2.1, fun i hi => ?_⟩
  rw [hf 3 i (by omega)]
  exact h.2.2 i hi
theorem m_tok2 {L : Nat} {tx : Nat → Nat} {m0 : nw_M} (h0 : nm_tx L tx m0) (d : Nat) (Q : nw_K) {s : Nat} (hs : s < L ∨ s = L) (E : Nat)
    (hQ : ∀ m', nmf m0 m' → m' 0 11 = nI E → m' 0 12 = nI s → m' 0 13 = nI E → Q none m') :
    ∀ j e m1, e + j = L → nmf m0 m1 → m1 0 11 = nI e → m1 0 12 = nI s → (if s < L ∧ 0 < nso (tx s) then nte tx (nso (tx s)) j e else e) = E → (j = 0 ∨ s < L) → nw_Ev (d + 1) nw_shM 102 Q 71 [some (.ref 0)] [] m1 := by
  have hL := h0.2.1
  have hfin : ∀ m1, nmf m0 m1 → m1 0 11 = nI E → m1 0 12 = nI s → nw_Ev (d + 1) nw_shM 102 Q 137 [some (.ref 0)] [] m1 := by
    intro m1 hf g1 g2
    simp only [e102, s102_1, s102_4, s102_5, s102_8, s102_11, s102_12, s102_15, s102_16, s102_19, s102_20, s102_22, s102_25, s102_26, s102_27, s102_30, s102_31, s102_32, s102_35, s102_38, s102_39, s102_40, s102_43, s102_46, s102_47, s102_48, s102_51, s102_52, s102_55, s102_56, s102_59, s102_62, s102_63, s102_66, s102_67, s102_68, s102_72, s102_75, s102_76, s102_79, s102_82, s102_83, s102_86, s102_87, s102_90, s102_91, s102_94, s102_97, s102_98, s102_101, s102_102, s102_105, s102_106, s102_109, s102_110, s102_113, s102_114, s102_117, s102_118, s102_121, s102_124, s102_125, s102_126, s102_129, s102_130, s102_131, s102_134, s102_137, s102_138, s102_139, s102_142, s102_145, g1, false_implies, true_implies, not_true_eq_false, not_false_eq_true, true_and, and_true, true_or, or_true, false_or, or_false, false_and, and_false, implies_true, nw_psh_s, nw_psh_n, ni_10, ni_00]
    refine hQ _ (nmf_tr hf (nmf_up _ (by omega))) ?_ ?_ ?_
    · rw [nw_up_at, if_neg (by omega)]; exact g1
    · rw [nw_up_at, if_neg (by omega)]; exact g2
    · rw [nw_up_at, if_pos ⟨rfl, rfl⟩]
  intro j
  induction j with
  | zero =>
    intro e m1 he hf g1 g2 hE _
    have ht := nmf_tx h0 hf
    have hE' : e = E := by
      by_cases h : s < L ∧ 0 < nso (tx s)
      · rw [if_pos h] at hE; exact hE
      · rw [if_neg h] at hE; exact hE
    rw [s102_71]
    simp only [e102, s102_1, s102_4, s102_5, s102_8, s102_11, s102_12, s102_15, s102_16, s102_19, s102_20, s102_22, s102_25, s102_26, s102_27, s102_30, s102_31, s102_32, s102_35, s102_38, s102_39, s102_40, s102_43, s102_46, s102_47, s102_48, s102_51, s102_52, s102_55, s102_56, s102_59, s102_62, s102_63, s102_66, s102_67, s102_68, s102_72, s102_75, s102_76, s102_79, s102_82, s102_83, s102_86, s102_87, s102_90, s102_91, s102_94, s102_97, s102_98, s102_101, s102_102, s102_105, s102_106, s102_109, s102_110, s102_113, s102_114, s102_117, s102_118, s102_121, s102_124, s102_125, s102_126, s102_129, s102_130, s102_131, s102_134, s102_138, s102_139, s102_142, s102_145, g1, ht.1, ni_le_t (show L ≤ e by omega) (show e < 2 ^ 31 by omega), false_implies, true_implies, not_true_eq_false, not_false_eq_true, true_and, and_true, true_or, or_true, false_or, or_false, false_and, and_false, implies_true, nw_psh_s, nw_psh_n, ni_10, ni_00]
    exact hfin m1 hf (by rw [g1, hE']) g2
  | succ j ih =>
    intro e m1 he hf g1 g2 hE hj
    have ht := nmf_tx h0 hf
    have hsl : s < L := hj.resolve_left (by omega)
    have hel : e < L := by omega
    have hi1 : vp_in (nI s) 200 := vp_in_nI (by omega) (by decide)
    have hi2 : vp_in (nI e) 200 := vp_in_nI (by omega) (by decide)
    have c1 := ht.2.2 s hsl
    have c2 := ht.2.2 e hel
    have hs1 := fun Q' => m_sort d Q' c1.2 m1
    have hs2 := fun Q' => m_sort d Q' c2.2 m1
    have l1 := nso_le (tx s)
    have l2 := nso_le (tx e)
    rw [s102_71]
    by_cases hp : 0 < nso (tx s)
    · rw [if_pos ⟨hsl, hp⟩] at hE
      unfold nte at hE
      have hp' : (nI (nso (tx s)) ≤ 0) = False := ni_le_f (b := 0) hp (by omega)
      by_cases hk : nso (tx e) = nso (tx s)
      · rw [if_pos hk] at hE
        simp only [e102, s102_1, s102_4, s102_5, s102_8, s102_11, s102_12, s102_15, s102_16, s102_19, s102_20, s102_22, s102_25, s102_26, s102_27, s102_30, s102_31, s102_32, s102_35, s102_38, s102_39, s102_40, s102_43, s102_46, s102_47, s102_48, s102_51, s102_52, s102_55, s102_56, s102_59, s102_62, s102_63, s102_66, s102_67, s102_68, s102_72, s102_75, s102_76, s102_79, s102_82, s102_83, s102_86, s102_87, s102_90, s102_91, s102_94, s102_97, s102_98, s102_101, s102_102, s102_105, s102_106, s102_109, s102_110, s102_113, s102_114, s102_117, s102_118, s102_121, s102_124, s102_125, s102_126, s102_129, s102_130, s102_131, s102_134, s102_138, s102_139, s102_142, s102_145, g1, g2, ht.1, ni_le_f hel (show L < 2 ^ 31 by omega), hi1, hi2, ni_cl (show s < 2 ^ 31 by omega), ni_cl (show e < 2 ^ 31 by omega), c1.1, c2.1, hs1, hs2, hp', ni_eq_t hk, nI_1, false_implies, true_implies, not_true_eq_false, not_false_eq_true, true_and, and_true, true_or, or_true, false_or, or_false, false_and, and_false, implies_true, nw_psh_s, nw_psh_n, ni_10, ni_00]
        refine ih (e + 1) _ (by omega) (nmf_tr hf (nmf_up _ (by omega))) ?_ ?_ (by rw [if_pos ⟨hsl, hp⟩]; exact hE) (Or.inr hsl)
        · rw [nw_up_at, if_pos ⟨rfl, rfl⟩]
        · rw [nw_up_at, if_neg (by omega)]; exact g2
      · rw [if_neg hk] at hE
        simp only [e102, s102_1, s102_4, s102_5, s102_8, s102_11, s102_12, s102_15, s102_16, s102_19, s102_20, s102_22, s102_25, s102_26, s102_27, s102_30, s102_31, s102_32, s102_35, s102_38, s102_39, s102_40, s102_43, s102_46, s102_47, s102_48, s102_51, s102_52, s102_55, s102_56, s102_59, s102_62, s102_63, s102_66, s102_67, s102_68, s102_72, s102_75, s102_76, s102_79, s102_82, s102_83, s102_86, s102_87, s102_90, s102_91, s102_94, s102_97, s102_98, s102_101, s102_102, s102_105, s102_106, s102_109, s102_110, s102_113, s102_114, s102_117, s102_118, s102_121, s102_124, s102_125, s102_126, s102_129, s102_130, s102_131, s102_134, s102_138, s102_139, s102_142, s102_145, g1, g2, ht.1, ni_le_f hel (show L < 2 ^ 31 by omega), hi1, hi2, ni_cl (show s < 2 ^ 31 by omega), ni_cl (show e < 2 ^ 31 by omega), c1.1, c2.1, hs1, hs2, hp', ni_eq_f hk (show nso (tx e) < 2 ^ 31 by omega) (show nso (tx s) < 2 ^ 31 by omega), false_implies, true_implies, not_true_eq_false, not_false_eq_true, true_and, and_true, true_or, or_true, false_or, or_false, false_and, and_false, implies_true, nw_psh_s, nw_psh_n, ni_10, ni_00]
        exact hfin m1 hf (by rw [g1, hE]) g2
    · rw [if_neg (fun q => hp q.2)] at hE
      have hp' : (nI (nso (tx s)) ≤ 0) = True := ni_le_t (b := 0) (by omega) (by decide)
      simp only [e102, s102_1, s102_4, s102_5, s102_8, s102_11, s102_12, s102_15, s102_16, s102_19, s102_20, s102_22, s102_25, s102_26, s102_27, s102_30, s102_31, s102_32, s102_35, s102_38, s102_39, s102_40, s102_43, s102_46, s102_47, s102_48, s102_51, s102_52, s102_55, s102_56, s102_59, s102_62, s102_63, s102_66, s102_67, s102_68, s102_72, s102_75, s102_76, s102_79, s102_82, s102_83, s102_86, s102_87, s102_90, s102_91, s102_94, s102_97, s102_98, s102_101, s102_102, s102_105, s102_106, s102_109, s102_110, s102_113, s102_114, s102_117, s102_118, s102_121, s102_124, s102_125, s102_126, s102_129, s102_130, s102_131, s102_134, s102_138, s102_139, s102_142, s102_145, g1, g2, ht.1, ni_le_f hel (show L < 2 ^ 31 by omega), hi1, ni_cl (show s < 2 ^ 31 by omega), c1.1, hs1, hp', false_implies, true_implies, not_true_eq_false, not_false_eq_true, true_and, and_true, true_or, or_true, false_or, or_false, false_and, and_false, implies_true, nw_psh_s, nw_psh_n, ni_10, ni_00]
      exact hfin m1 hf (by rw [g1, hE]) g2
theorem m_tok {L : Nat} {tx : Nat → Nat} {m0 : nw_M} (h0 : nm_tx L tx m0) (d : Nat) (Q : nw_K) {a : Nat} (ha : a ≤ L) (h11 : m0 0 11 = nI a)
    (hQ : ∀ m', nmf m0 m' → m' 0 11 = nI (nen L tx (ntk L tx a)) → m' 0 12 = nI (ntk L tx a) → m' 0 13 = nI (nen L tx (ntk L tx a)) → Q none m') : nw_Ex (d + 2) nw_shM 102 [.ref 0] m0 Q := by
  have hL := h0.2.1
  have hgo : ∀ s m1, s ≤ L → nmf m0 m1 → m1 0 11 = nI s → ntk L tx a = s → nw_Ev (d + 1) nw_shM 102 Q 38 [some (.ref 0)] [] m1 := by
    intro s m1 hs hf g1 hS
    rw [hS] at hQ
    have ht := nmf_tx h0 hf
    by_cases hsl : s < L
    · simp only [e102, s102_1, s102_4, s102_5, s102_8, s102_11, s102_12, s102_15, s102_16, s102_19, s102_20, s102_22, s102_25, s102_26, s102_27, s102_30, s102_31, s102_32, s102_35, s102_38, s102_39, s102_40, s102_43, s102_46, s102_47, s102_48, s102_51, s102_52, s102_55, s102_56, s102_59, s102_62, s102_63, s102_66, s102_67, s102_68, s102_72, s102_75, s102_76, s102_79, s102_82, s102_83, s102_86, s102_87, s102_90, s102_91, s102_94, s102_97, s102_98, s102_101, s102_102, s102_105, s102_106, s102_109, s102_110, s102_113, s102_114, s102_117, s102_118, s102_121, s102_124, s102_125, s102_126, s102_129, s102_130, s102_131, s102_134, s102_137, s102_138, s102_139, s102_142, s102_145, g1, ht.1, nw_up_at, and_self, if_true, if_false, and_false, show ((11 : Nat) = 12) = False from eq_false (by decide), show ((3 : Nat) = 12) = False from eq_false (by decide), ni_le_f hsl (show L < 2 ^ 31 by omega), nI_1, false_implies, true_implies, not_true_eq_false, not_false_eq_true, true_and, and_true, true_or, or_true, false_or, or_false, false_and, and_false, implies_true, nw_psh_s, nw_psh_n, ni_10, ni_00]
      refine m_tok2 h0 d Q (s := s) (Or.inl hsl) (nen L tx s) hQ (L - (s + 1)) (s + 1) _ (by omega) (nmf_tr (nmf_tr hf (nmf_up _ (by omega))) (nmf_up _ (by omega))) ?_ ?_ ?_ (Or.inr hsl)
      · rw [nw_up_at, if_pos ⟨rfl, rfl⟩]
      · rw [nw_up_at, if_neg (by omega), nw_up_at, if_pos ⟨rfl, rfl⟩]
      · unfold nen
        rw [if_pos hsl]
        by_cases h3 : nso (tx s) = 0
        · rw [if_pos h3, if_neg (by omega)]
        · rw [if_neg h3, if_pos ⟨hsl, by omega⟩]
    · have hen : nen L tx s = s := by unfold nen; rw [if_neg hsl]
      simp only [e102, s102_1, s102_4, s102_5, s102_8, s102_11, s102_12, s102_15, s102_16, s102_19, s102_20, s102_22, s102_25, s102_26, s102_27, s102_30, s102_31, s102_32, s102_35, s102_38, s102_39, s102_40, s102_43, s102_46, s102_47, s102_48, s102_51, s102_52, s102_55, s102_56, s102_59, s102_62, s102_63, s102_66, s102_67, s102_68, s102_72, s102_75, s102_76, s102_79, s102_82, s102_83, s102_86, s102_87, s102_90, s102_91, s102_94, s102_97, s102_98, s102_101, s102_102, s102_105, s102_106, s102_109, s102_110, s102_113, s102_114, s102_117, s102_118, s102_121, s102_124, s102_125, s102_126, s102_129, s102_130, s102_131, s102_134, s102_137, s102_138, s102_139, s102_142, s102_145, g1, ht.1, nw_up_at, and_self, if_true, if_false, and_false, show ((11 : Nat) = 12) = False from eq_false (by decide), show ((3 : Nat) = 12) = False from eq_false (by decide), ni_le_t (show L ≤ s by omega) (show s < 2 ^ 31 by omega), Int32.add_zero, false_implies, true_implies, not_true_eq_false, not_false_eq_true, true_and, and_true, true_or, or_true, false_or, or_false, false_and, and_false, implies_true, nw_psh_s, nw_psh_n, ni_10, ni_00]
      refine m_tok2 h0 d Q (s := s) (Or.inr (by omega)) (nen L tx s) hQ 0 s _ (by omega) (nmf_tr (nmf_tr hf (nmf_up _ (by omega))) (nmf_up _ (by omega))) ?_ ?_ ?_ (Or.inl rfl)
      · rw [nw_up_at, if_pos ⟨rfl, rfl⟩]
      · rw [nw_up_at, if_neg (by omega), nw_up_at, if_pos ⟨rfl, rfl⟩]
      · rw [if_neg (fun q => hsl q.1), hen]
  have hlp : ∀ j s m1, s + j = L → nmf m0 m1 → m1 0 11 = nI s → nsk tx j s = ntk L tx a → nw_Ev (d + 1) nw_shM 102 Q 0 [some (.ref 0)] [] m1 := by
    intro j
    induction j with
    | zero =>
      intro s m1 hs hf g1 hS
      have ht := nmf_tx h0 hf
      rw [s102_0]
      simp only [e102, s102_1, s102_4, s102_5, s102_8, s102_11, s102_12, s102_15, s102_16, s102_19, s102_20, s102_22, s102_25, s102_26, s102_27, s102_30, s102_31, s102_32, s102_35, s102_39, s102_40, s102_43, s102_46, s102_47, s102_48, s102_51, s102_52, s102_55, s102_56, s102_59, s102_62, s102_63, s102_66, s102_67, s102_68, s102_72, s102_75, s102_76, s102_79, s102_82, s102_83, s102_86, s102_87, s102_90, s102_91, s102_94, s102_97, s102_98, s102_101, s102_102, s102_105, s102_106, s102_109, s102_110, s102_113, s102_114, s102_117, s102_118, s102_121, s102_124, s102_125, s102_126, s102_129, s102_130, s102_131, s102_134, s102_137, s102_138, s102_139, s102_142, s102_145, g1, ht.1, ni_le_t (show L ≤ s by omega) (show s < 2 ^ 31 by omega), false_implies, true_implies, not_true_eq_false, not_false_eq_true, true_and, and_true, true_or, or_true, false_or, or_false, false_and, and_false, implies_true, nw_psh_s, nw_psh_n, ni_10, ni_00]
      exact hgo s m1 (by omega) hf g1 hS.symm
    | succ j ih =>
      intro s m1 hs hf g1 hS
      have ht := nmf_tx h0 hf
      have hsl : s < L := by omega
      have c1 := ht.2.2 s hsl
      have hi1 : vp_in (nI s) 200 := vp_in_nI (by omega) (by decide)
      unfold nsk at hS
      rw [s102_0]
      by_cases h32 : tx s = 32
      · rw [if_pos h32] at hS
        simp only [e102, s102_1, s102_4, s102_5, s102_8, s102_11, s102_12, s102_15, s102_16, s102_19, s102_20, s102_22, s102_25, s102_26, s102_27, s102_30, s102_31, s102_32, s102_35, s102_39, s102_40, s102_43, s102_46, s102_47, s102_48, s102_51, s102_52, s102_55, s102_56, s102_59, s102_62, s102_63, s102_66, s102_67, s102_68, s102_72, s102_75, s102_76, s102_79, s102_82, s102_83, s102_86, s102_87, s102_90, s102_91, s102_94, s102_97, s102_98, s102_101, s102_102, s102_105, s102_106, s102_109, s102_110, s102_113, s102_114, s102_117, s102_118, s102_121, s102_124, s102_125, s102_126, s102_129, s102_130, s102_131, s102_134, s102_137, s102_138, s102_139, s102_142, s102_145, g1, ht.1, ni_le_f hsl (show L < 2 ^ 31 by omega), hi1, ni_cl (show s < 2 ^ 31 by omega), c1.1, show (nI (tx s) = 32) = True from eq_true (by rw [h32]; rfl), nI_1, false_implies, true_implies, not_true_eq_false, not_false_eq_true, true_and, and_true, true_or, or_true, false_or, or_false, false_and, and_false, implies_true, nw_psh_s, nw_psh_n, ni_10, ni_00]
        exact ih (s + 1) _ (by omega) (nmf_tr hf (nmf_up _ (by omega))) (by rw [nw_up_at, if_pos ⟨rfl, rfl⟩]) hS
      · rw [if_neg h32] at hS
        have h32' : (nI (tx s) = 32) = False := ni_eq_f (b := 32) h32 (by have := c1.2; omega) (by decide)
        simp only [e102, s102_1, s102_4, s102_5, s102_8, s102_11, s102_12, s102_15, s102_16, s102_19, s102_20, s102_22, s102_25, s102_26, s102_27, s102_30, s102_31, s102_32, s102_35, s102_39, s102_40, s102_43, s102_46, s102_47, s102_48, s102_51, s102_52, s102_55, s102_56, s102_59, s102_62, s102_63, s102_66, s102_67, s102_68, s102_72, s102_75, s102_76, s102_79, s102_82, s102_83, s102_86, s102_87, s102_90, s102_91, s102_94, s102_97, s102_98, s102_101, s102_102, s102_105, s102_106, s102_109, s102_110, s102_113, s102_114, s102_117, s102_118, s102_121, s102_124, s102_125, s102_126, s102_129, s102_130, s102_131, s102_134, s102_137, s102_138, s102_139, s102_142, s102_145, g1, ht.1, ni_le_f hsl (show L < 2 ^ 31 by omega), hi1, ni_cl (show s < 2 ^ 31 by omega), c1.1, h32', false_implies, true_implies, not_true_eq_false, not_false_eq_true, true_and, and_true, true_or, or_true, false_or, or_false, false_and, and_false, implies_true, nw_psh_s, nw_psh_n, ni_10, ni_00]
        exact hgo s m1 (by omega) hf g1 hS.symm
  simp only [e102, s102_1, s102_4, s102_5, s102_8, s102_11, s102_12, s102_15, s102_16, s102_19, s102_20, s102_22, s102_25, s102_26, s102_27, s102_30, s102_31, s102_32, s102_35, s102_38, s102_39, s102_40, s102_43, s102_46, s102_47, s102_48, s102_51, s102_52, s102_55, s102_56, s102_59, s102_62, s102_63, s102_66, s102_67, s102_68, s102_72, s102_75, s102_76, s102_79, s102_82, s102_83, s102_86, s102_87, s102_90, s102_91, s102_94, s102_97, s102_98, s102_101, s102_102, s102_105, s102_106, s102_109, s102_110, s102_113, s102_114, s102_117, s102_118, s102_121, s102_124, s102_125, s102_126, s102_129, s102_130, s102_131, s102_134, s102_137, s102_138, s102_139, s102_142, s102_145, false_implies, true_implies, not_true_eq_false, not_false_eq_true, true_and, and_true, true_or, or_true, false_or, or_false, false_and, and_false, implies_true, nw_psh_s, nw_psh_n, ni_10, ni_00]
  exact hlp (L - a) a m0 (by omega) (nmf_rf m0) h11 rfl
/-! the number at hand -/
def ndg (L : Nat) (tx : Nat → Nat) (s : Nat) : Option Nat := if s < L ∧ nso (tx s) = 2 ∧ nen L tx s = s + 1 then some (tx s - 48) else none
theorem ndg_lt {L : Nat} {tx : Nat → Nat} {s n : Nat} (h : ndg L tx s = some n) : n < 10 := by
  unfold ndg at h
  split at h
  · rename_i q
    cases h
    have := q.2.1
    unfold nso at this
    split at this
    · omega
    · split at this <;> omega
  · cases h
theorem nso_2 {c : Nat} (h : nso c = 2) : 48 ≤ c ∧ c ≤ 57 := by
  unfold nso at h
  split at h
  · omega
  · split at h
    · rename_i q; exact q
    · omega
theorem nen_gt {L : Nat} {tx : Nat → Nat} {s : Nat} (h : s < L) : s + 1 ≤ nen L tx s := by
  have := nte_le tx (nso (tx s)) (L - (s + 1)) (s + 1)
  unfold nen
  rw [if_pos h]
  split <;> omega
theorem m_num {L : Nat} {tx : Nat → Nat} {m : nw_M} (h : nm_tx L tx m) (d : Nat) (Q : nw_K) {s : Nat} (hs : s ≤ L) (g2 : m 0 12 = nI s) (g3 : m 0 13 = nI (nen L tx s)) : nw_Ex (d + 2) nw_shM 106 [.ref 0] m Q = Q (some (.int (nz_o (ndg L tx s)))) m := by
  have hL := h.2.1
  have hle := nen_le tx hs
  unfold ndg
  by_cases hsl : s < L
  · have c1 := h.2.2 s hsl
    have hi1 : vp_in (nI s) 200 := vp_in_nI (by omega) (by decide)
    have hs1 := fun Q' => m_sort d Q' c1.2 m
    have hne := ni_eq_f (show ¬ s = L by omega) (show s < 2 ^ 31 by omega) (show L < 2 ^ 31 by omega)
    have hgt := nen_gt (tx := tx) hsl
    have hsub := pk_sub (show s ≤ nen L tx s by omega)
    have l1 := nso_le (tx s)
    by_cases h2 : nso (tx s) = 2
    · have h48 := nso_2 h2
      have h2' : (nI (nso (tx s)) = 2) = True := eq_true (by rw [h2]; rfl)
      by_cases h1 : nen L tx s = s + 1
      · have q1 : (nI (nen L tx s - s) ≤ 1) = True := ni_le_t (b := 1) (by omega) (by decide)
        have e48 : nI (tx s) - 48 = nI (tx s - 48) := pk_sub (b := 48) (by omega)
        rw [if_pos ⟨hsl, h2, h1⟩]
        simp only [e106, s106_0, s106_1, s106_4, s106_5, s106_8, s106_11, s106_12, s106_15, s106_16, s106_19, s106_20, s106_23, s106_24, s106_27, s106_28, s106_31, s106_32, s106_35, s106_36, s106_37, s106_40, s106_41, s106_44, s106_45, s106_48, s106_49, s106_52, s106_53, s106_55, s106_56, g2, g3, h.1, hne, hi1, ni_cl (show s < 2 ^ 31 by omega), c1.1, hs1, h2', hsub, q1, e48, nz_o, false_implies, true_implies, not_true_eq_false, not_false_eq_true, true_and, and_true, true_or, or_true, false_or, or_false, false_and, and_false, implies_true, nw_psh_s, nw_psh_n, ni_10, ni_00]
      · have q1 : (nI (nen L tx s - s) ≤ 1) = False := ni_le_f (b := 1) (by omega) (by omega)
        rw [if_neg (fun q => h1 q.2.2)]
        simp only [e106, s106_0, s106_1, s106_4, s106_5, s106_8, s106_11, s106_12, s106_15, s106_16, s106_19, s106_20, s106_23, s106_24, s106_27, s106_28, s106_31, s106_32, s106_35, s106_36, s106_37, s106_40, s106_41, s106_44, s106_45, s106_48, s106_49, s106_52, s106_53, s106_55, s106_56, g2, g3, h.1, hne, hi1, ni_cl (show s < 2 ^ 31 by omega), c1.1, hs1, h2', hsub, q1, nz_o, false_implies, true_implies, not_true_eq_false, not_false_eq_true, true_and, and_true, true_or, or_true, false_or, or_false, false_and, and_false, implies_true, nw_psh_s, nw_psh_n, ni_10, ni_00]
    · have h2' : (nI (nso (tx s)) = 2) = False := ni_eq_f (b := 2) h2 (by omega) (by decide)
      rw [if_neg (fun q => h2 q.2.1)]
      simp only [e106, s106_0, s106_1, s106_4, s106_5, s106_8, s106_11, s106_12, s106_15, s106_16, s106_19, s106_20, s106_23, s106_24, s106_27, s106_28, s106_31, s106_32, s106_35, s106_36, s106_37, s106_40, s106_41, s106_44, s106_45, s106_48, s106_49, s106_52, s106_53, s106_55, s106_56, g2, h.1, hne, hi1, ni_cl (show s < 2 ^ 31 by omega), c1.1, hs1, h2', nz_o, false_implies, true_implies, not_true_eq_false, not_false_eq_true, true_and, and_true, true_or, or_true, false_or, or_false, false_and, and_false, implies_true, nw_psh_s, nw_psh_n, ni_10, ni_00]
  · rw [if_neg (fun q => hsl q.1)]
    simp only [e106, s106_0, s106_1, s106_4, s106_5, s106_8, s106_11, s106_12, s106_15, s106_16, s106_19, s106_20, s106_23, s106_24, s106_27, s106_28, s106_31, s106_32, s106_35, s106_36, s106_37, s106_40, s106_41, s106_44, s106_45, s106_48, s106_49, s106_52, s106_53, s106_55, s106_56, g2, h.1, ni_eq_t (show s = L by omega), nz_o, false_implies, true_implies, not_true_eq_false, not_false_eq_true, true_and, and_true, true_or, or_true, false_or, or_false, false_and, and_false, implies_true, nw_psh_s, nw_psh_n, ni_10, ni_00]
theorem x_digit {L : Nat} {tx : Nat → Nat} {m : nw_M} (h : nx_tx L tx m) (d : Nat) (Q : nw_K) {s : Nat} (hs : s ≤ L) (g2 : m 3 2 = nI s) (g3 : m 3 3 = nI (nen L tx s)) (g4 : m 3 4 = nI (nsp L tx s)) : nw_Ex (d + 2) nw_shX 69 [.ref 3, .ref 1] m Q = Q (some (.int (nz_o (ndg L tx s)))) m := by
  have hL := h.2.1
  have hle := nen_le tx hs
  have hsp := nsp_le L tx s
  have hby := fun Q' => x_byteAt h d Q' (i := s) (by omega)
  have hsub := pk_sub (show s ≤ nen L tx s by omega)
  unfold ndg
  by_cases h2 : s < L ∧ nso (tx s) = 2
  · have h48 := nso_2 h2.2
    have hs2 : nsp L tx s = 2 := by unfold nsp; rw [if_pos h2.1, h2.2]; rfl
    have g4' : m 3 4 = 2 := by rw [g4, hs2]; rfl
    have hgt := nen_gt (tx := tx) h2.1
    by_cases h1 : nen L tx s = s + 1
    · have q1 : (nI (nen L tx s - s) = 1) = True := eq_true (by rw [h1, show s + 1 - s = 1 by omega]; rfl)
      have e48 : nI (tx s) - 48 = nI (tx s - 48) := pk_sub (b := 48) (by omega)
      rw [if_pos ⟨h2.1, h2.2, h1⟩]
      simp only [e69, s69_0, s69_1, s69_4, s69_5, s69_8, s69_9, s69_12, s69_13, s69_16, s69_17, s69_18, s69_21, s69_22, s69_23, s69_26, s69_29, s69_31, s69_32, s69_35, s69_36, g2, g3, g4', hsub, q1, hby, h2.1, if_true, e48, nz_o, false_implies, true_implies, not_true_eq_false, not_false_eq_true, true_and, and_true, true_or, or_true, false_or, or_false, false_and, and_false, implies_true, nw_psh_s, nw_psh_n, ni_10, ni_00]
    · have q1 : (nI (nen L tx s - s) = 1) = False := ni_eq_f (b := 1) (by omega) (by omega) (by decide)
      rw [if_neg (fun q => h1 q.2.2)]
      simp only [e69, s69_0, s69_1, s69_4, s69_5, s69_8, s69_9, s69_12, s69_13, s69_16, s69_17, s69_18, s69_21, s69_22, s69_23, s69_26, s69_29, s69_31, s69_32, s69_35, s69_36, g2, g3, g4', hsub, q1, nz_o, false_implies, true_implies, not_true_eq_false, not_false_eq_true, true_and, and_true, true_or, or_true, false_or, or_false, false_and, and_false, implies_true, nw_psh_s, nw_psh_n, ni_10, ni_00]
  · have hs2 : (m 3 4 = 2) = False := by
      rw [g4]
      refine ni_eq_f (b := 2) (fun q => h2 ?_) (by omega) (by decide)
      unfold nsp at q
      split at q
      · rename_i hl
        split at q
        · omega
        · exact ⟨hl, q⟩
      · omega
    rw [if_neg (fun q => h2 ⟨q.1, q.2.1⟩)]
    simp only [e69, s69_0, s69_1, s69_4, s69_5, s69_8, s69_9, s69_12, s69_13, s69_16, s69_17, s69_18, s69_21, s69_22, s69_23, s69_26, s69_29, s69_31, s69_32, s69_35, s69_36, hs2, nz_o, false_implies, true_implies, not_true_eq_false, not_false_eq_true, true_and, and_true, true_or, or_true, false_or, or_false, false_and, and_false, implies_true, nw_psh_s, nw_psh_n, ni_10, ni_00]
