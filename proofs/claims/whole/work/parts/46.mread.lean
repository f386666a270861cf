/-! THE REFERENCE READS -/
/-- the token at s at hand -/
def nmk (L : Nat) (tx : Nat → Nat) (s : Nat) (m : nw_M) : Prop := nm_tx L tx m ∧ s ≤ L ∧ m 0 11 = nI (nen L tx s) ∧ m 0 12 = nI s ∧ m 0 13 = nI (nen L tx s)
theorem m_go {L : Nat} {tx : Nat → Nat} {s : Nat} {m : nw_M} (h : nmk L tx s m) (d : Nat) (Q : nw_K) (hQ : ∀ m', nmf m m' → nmk L tx (nnt L tx s) m' → Q none m') : nw_Ex (d + 2) nw_shM 102 [.ref 0] m Q := by
  obtain ⟨h1, h2, h3, h4, h5⟩ := h
  exact m_tok h1 d Q (nen_le tx h2).2 h3 (fun m' hf g1 g2 g3 => hQ m' hf ⟨nmf_tx h1 hf, nnt_le tx h2, g1, g2, g3⟩)
theorem nmk_up {L : Nat} {tx : Nat → Nat} {s : Nat} {m : nw_M} (h : nmk L tx s m) {c k : Nat} {v : Int32} (hc : c = 4 ∨ c = 8 ∨ c = 0 ∧ (k = 5 ∨ k = 14 ∨ k = 16)) : nmk L tx s (nw_up m c k v) := by
  obtain ⟨h1, h2, h3, h4, h5⟩ := h
  refine ⟨⟨?_, h1.2.1, fun i hi => ?_⟩, h2, ?_, ?_, ?_⟩
  · rw [nw_up_at, if_neg (by omega)]; exact h1.1
  · rw [nw_up_at, if_neg (by omega)]; exact h1.2.2 i hi
  · rw [nw_up_at, if_neg (by omega)]; exact h3
  · rw [nw_up_at, if_neg (by omega)]; exact h4
  · rw [nw_up_at, if_neg (by omega)]; exact h5
theorem m_reads_n {L : Nat} {tx : Nat → Nat} {s : Nat} {m : nw_M} (h : nmk L tx s m) (d : Nat) (Q : nw_K) {k lo hi : Int32} (hv : nz_o (ndg L tx s) < lo ∨ hi < nz_o (ndg L tx s)) : nw_Ex (d + 3) nw_shM 107 [.ref 0, .int k, .int lo, .int hi] m Q = Q (some (.int 0)) m := by
  have hnum := fun Q' => m_num h.1 d Q' h.2.1 h.2.2.2.1 h.2.2.2.2
  have hin := fun Q' => m_in (d + 1) Q' (nz_o (ndg L tx s)) lo hi m
  simp only [e107, s107_0, s107_1, s107_4, s107_6, s107_8, s107_9, s107_10, s107_11, s107_12, s107_13, s107_16, s107_19, s107_20, s107_21, s107_22, s107_25, s107_26, s107_27, s107_30, s107_31, s107_32, s107_33, s107_34, s107_35, s107_37, s107_38, s107_39, s107_42, s107_43, hnum, hin, eq_true hv, if_true, false_implies, true_implies, not_true_eq_false, not_false_eq_true, true_and, and_true, true_or, or_true, false_or, or_false, false_and, and_false, implies_true, nw_psh_s, nw_psh_n, ni_10, ni_00]
theorem m_reads_y {L : Nat} {tx : Nat → Nat} {s : Nat} {m : nw_M} (h : nmk L tx s m) (d : Nat) (Q : nw_K) {k N a : Nat} {lo hi : Int32} (hk : k < 2) (hN : N < 12) (h5 : m 0 5 = nI N) (ha : ndg L tx s = some a) (hv : ¬ (nI a < lo ∨ hi < nI a)) (hQ : ∀ m', nmf (nw_up m 4 (3 * N + 1 + k) (nI a)) m' → nmk L tx (nnt L tx s) m' → Q (some (.int 1)) m') : nw_Ex (d + 3) nw_shM 107 [.ref 0, .int (nI k), .int lo, .int hi] m Q := by
  have hnum := fun Q' => m_num h.1 d Q' h.2.1 h.2.2.2.1 h.2.2.2.2
  rw [ha] at hnum
  have hin := fun Q' => m_in (d + 1) Q' (nI a) lo hi m
  have e3 : (3 : Int32) * nI N = nI (3 * N) := pk_mul 3 N
  have hi1 : vp_in (nI (3 * N + 1 + k)) 36 := vp_in_nI (by omega) (by decide)
  simp only [e107, s107_0, s107_1, s107_4, s107_6, s107_8, s107_9, s107_10, s107_11, s107_12, s107_13, s107_16, s107_19, s107_20, s107_21, s107_22, s107_25, s107_26, s107_27, s107_30, s107_31, s107_32, s107_33, s107_34, s107_35, s107_37, s107_38, s107_39, s107_42, s107_43, hnum, nz_o, hin, eq_false hv, if_false, h5, e3, nI_1, nI_add, hi1, ni_cl (show 3 * N + 1 + k < 2 ^ 31 by omega), false_implies, true_implies, not_true_eq_false, not_false_eq_true, true_and, and_true, true_or, or_true, false_or, or_false, false_and, and_false, implies_true, nw_psh_s, nw_psh_n, ni_10, ni_00]
  refine m_go (nmk_up h (Or.inl rfl)) d _ (fun m' hf h' => ?_)
  simp only [e107, s107_0, s107_1, s107_4, s107_6, s107_8, s107_9, s107_10, s107_11, s107_12, s107_13, s107_16, s107_19, s107_20, s107_21, s107_22, s107_25, s107_26, s107_27, s107_30, s107_31, s107_32, s107_33, s107_34, s107_35, s107_37, s107_38, s107_39, s107_42, s107_43, false_implies, true_implies, not_true_eq_false, not_false_eq_true, true_and, and_true, true_or, or_true, false_or, or_false, false_and, and_false, implies_true, nw_psh_s, nw_psh_n, ni_10, ni_00]
  exact hQ m' hf h'
