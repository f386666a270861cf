/-! ROUND: the reference, and both -/
theorem fa_or (a b : Nat) : nI a ||| nI b = nI (a ||| b) := by
  apply Int32.toBitVec_inj.1
  show BitVec.ofNat 32 a ||| BitVec.ofNat 32 b = BitVec.ofNat 32 (a ||| b)
  apply BitVec.eq_of_getLsbD_eq
  intro i hi
  simp [hi]
theorem fa_or_sum {a k : Nat} (b : Nat) (h : a < 2 ^ k) : nI (2 ^ k * b) ||| nI a = nI (2 ^ k * b + a) := by rw [fa_or, Nat.two_pow_add_eq_or_of_lt h]
theorem ni_shl2 {n v : Nat} (hn : n < 2 ^ 29) (hv : v < 4) : (nI n <<< ((2 : Int32) &&& 31)) ||| nI v = nI (4 * n + v) := by
  rw [pk_shlN (n := n) ((2 : Int32) &&& 31) 2 (by decide) (by omega), Nat.mul_comm n]
  exact fa_or_sum (k := 2) n hv
theorem m_stateOf_loop {T : nt_T} (hT : nt_ok T) {mm : nw_M} (hm : nm_T T mm) {v : Nat → Nat} (hv : nt_vok T v) {c : Nat} (hc : c < 8) {m1 : nw_M} (h : nm_tv mm v m1) (d : Nat) (Q : nw_K) (hQ : Q (some (.int (nI (ne_c v c (nt_n T))))) m1) :
    ∀ j k, k + j = nt_n T → nw_Ev d nw_shM 136 Q 4 [some (.ref 0), some (.int (nI c)), some (.int (nI (ne_c v c k))), some (.int (nI k))] [] m1 := by
  have h8 := hT.2.1
  have hm1 := nm_T_sc hm h.1
  intro j
  induction j with
  | zero =>
    intro k hk
    have hk' : k = nt_n T := by omega
    subst hk'
    rw [s136_4]
    simp only [e136, s136_0, s136_1, s136_2, s136_3, s136_5, s136_6, s136_9, s136_12, s136_13, s136_14, s136_15, s136_16, s136_19, s136_21, s136_22, s136_23, s136_24, s136_25, s136_26, s136_29, s136_32, s136_33, hm1.1, ni_le_t (Nat.le_refl (nt_n T)) (show nt_n T < 2 ^ 31 by omega), false_implies, true_implies, not_true_eq_false, not_false_eq_true, true_and, and_true, true_or, or_true, false_or, or_false, false_and, and_false, implies_true, nw_psh_s, nw_psh_n, ni_10, ni_00]
    exact hQ
  | succ j ih =>
    intro k hk
    have hz : (42 : Int32) + nI k = nI (42 + k) := nI_add 42 k
    have hi : vp_in (nI (42 + k)) 70 := vp_in_nI (by omega) (by decide)
    have hlt := ne_lt hc k (fun j _ => nt_v4 hT hv j)
    have hp : 4 ^ k ≤ 4 ^ 8 := Nat.pow_le_pow_right (by decide) (by omega)
    have hsh := ni_shl2 (n := ne_c v c k) (v := v k) (by omega) (nt_v4 hT hv k)
    rw [s136_4]
    simp only [e136, s136_0, s136_1, s136_2, s136_3, s136_5, s136_6, s136_9, s136_12, s136_13, s136_14, s136_15, s136_16, s136_19, s136_21, s136_22, s136_23, s136_24, s136_25, s136_26, s136_29, s136_32, s136_33, hm1.1, ni_le_f (show k < nt_n T by omega) (show nt_n T < 2 ^ 31 by omega), hz, hi, ni_cl (show 42 + k < 2 ^ 31 by omega), h.2 k (by omega), hsh, nI_1, false_implies, true_implies, not_true_eq_false, not_false_eq_true, true_and, and_true, true_or, or_true, false_or, or_false, false_and, and_false, implies_true, nw_psh_s, nw_psh_n, ni_10, ni_00]
    exact ih (k + 1) (by omega)
theorem m_stateOf {T : nt_T} (hT : nt_ok T) {mm : nw_M} (hm : nm_T T mm) {v : Nat → Nat} (hv : nt_vok T v) {c : Nat} (hc : c < 8) {m1 : nw_M} (h : nm_tv mm v m1) (d : Nat) (Q : nw_K) (hQ : Q (some (.int (nI (ne_c v c (nt_n T))))) m1) : nw_Ex (d + 1) nw_shM 136 [.ref 0, .int (nI c)] m1 Q := by
  simp only [e136, s136_0, s136_1, s136_2, s136_3, s136_5, s136_6, s136_9, s136_12, s136_13, s136_14, s136_15, s136_16, s136_19, s136_21, s136_22, s136_23, s136_24, s136_25, s136_26, s136_29, s136_32, s136_33]
  exact m_stateOf_loop hT hm hv hc h d Q hQ (nt_n T) 0 (by omega)
theorem nm_tv_9 {mm m1 : nw_M} {v : Nat → Nat} (h : nm_tv mm v m1) (k : Nat) (z : Int32) : nm_tv mm v (nw_up m1 9 k z) := ⟨nm_sc_tr h.1 (nm_sc_up (Or.inl rfl)), fun c hc => by rw [nw_up_at, if_neg (by omega)]; exact h.2 c hc⟩
theorem m_leave42f {T : nt_T} (hT : nt_ok T) {mm : nw_M} (hm : nm_T T mm) {v : Nat → Nat} (hvo : nt_vok T v) {m1 : nw_M} (h : nm_tv mm v m1) (d : Nat) (Q : nw_K) {c : Nat} (hc : c < 8) (hQ : ∀ m2, nm_tv mm (nt_lv T v c).1 m2 → nm_fr 42 m1 m2 → Q (some (.int (nI (nt_lv T v c).2))) m2) : nw_Ex (d + 3) nw_shM 124 [.ref 0, .int 42, .int (nI c)] m1 Q := by
  have := m_leave hT (nm_T_sc hm h.1) (b := 42) h.2 (by decide) hvo d Q hc
  rw [show (42 : Int32) = nI 42 from rfl, this]
  exact hQ _ ⟨nm_sc_tr h.1 (nm_sc_fr (nm_lv_fr T v hc m1)), nm_lv_V h.2⟩ (nm_lv_fr T v hc m1)
theorem m_round_fill {T : nt_T} (hT : nt_ok T) {mm : nw_M} (hm : nm_T T mm) {q : nq} (h1 : nt_vok T q.1) (h2 : q.2 < nt_n T) (d : Nat) (Q : nw_K) (a1 a2 : Int32) (hQ : ∀ m2 z, nm_sc mm m2 → (∀ i, i < 1000 → m2 9 i = nI (nt_e0 T q i)) → nw_Ev (d + 3) nw_shM 137 Q 69 [some (.ref 0), some (.int a1), some (.int a2), some (.int z), some (.int (nI 1000)), none] [] m2) :
    ∀ j t m1, t + j = 1000 → nm_tv mm (nt_sq T q t).1 m1 → (∀ i, i < t → m1 9 i = nI (nt_e0 T q i)) → nw_Ev (d + 3) nw_shM 137 Q 35 [some (.ref 0), some (.int a1), some (.int a2), some (.int (nI (nt_sq T q t).2)), some (.int (nI t)), none] [] m1 := by
  have h8 := hT.2.1
  intro j
  induction j with
  | zero =>
    intro t m1 ht h hst
    have ht' : t = 1000 := by omega
    subst ht'
    rw [s137_35]
    simp only [e137, s137_0, s137_1, s137_2, s137_5, s137_8, s137_10, s137_11, s137_12, s137_13, s137_14, s137_15, s137_18, s137_21, s137_23, s137_24, s137_25, s137_26, s137_27, s137_30, s137_31, s137_32, s137_33, s137_37, s137_40, s137_43, s137_44, s137_47, s137_49, s137_50, s137_51, s137_54, s137_55, s137_56, s137_58, s137_59, s137_62, s137_63, s137_66, s137_70, s137_74, s137_77, s137_80, s137_82, s137_83, s137_84, s137_88, s137_91, s137_94, s137_95, s137_98, s137_100, s137_101, s137_102, s137_105, s137_107, s137_108, s137_111, s137_112, s137_115, s137_117, s137_120, s137_122, s137_124, s137_125, s137_126, s137_129, s137_132, s137_135, s137_138, s137_139, show ((1000 : Int32) ≤ nI 1000) = True from eq_true (by decide), false_implies, true_implies, not_true_eq_false, not_false_eq_true, true_and, and_true, true_or, or_true, false_or, or_false, false_and, and_false, implies_true, nw_psh_s, nw_psh_n, ni_10, ni_00]
    exact hQ m1 _ h.1 hst
  | succ j ih =>
    intro t m1 ht h hst
    have hle : ((1000 : Int32) ≤ nI t) = False := ni_le_f (a := 1000) (by omega) (by decide)
    obtain ⟨g1, g2⟩ := nt_sq_ok hT h1 h2 t
    have hi : vp_in (nI t) 1000 := vp_in_nI (by omega) (by decide)
    rw [s137_35]
    simp only [e137, s137_0, s137_1, s137_2, s137_5, s137_8, s137_10, s137_11, s137_12, s137_13, s137_14, s137_15, s137_18, s137_21, s137_23, s137_24, s137_25, s137_26, s137_27, s137_30, s137_31, s137_32, s137_33, s137_37, s137_40, s137_43, s137_44, s137_47, s137_49, s137_50, s137_51, s137_54, s137_55, s137_56, s137_58, s137_59, s137_62, s137_63, s137_66, s137_70, s137_74, s137_77, s137_80, s137_82, s137_83, s137_84, s137_88, s137_91, s137_94, s137_95, s137_98, s137_100, s137_101, s137_102, s137_105, s137_107, s137_108, s137_111, s137_112, s137_115, s137_117, s137_120, s137_122, s137_124, s137_125, s137_126, s137_129, s137_132, s137_135, s137_138, s137_139, hle, false_implies, true_implies, not_true_eq_false, not_false_eq_true, true_and, and_true, true_or, or_true, false_or, or_false, false_and, and_false, implies_true, nw_psh_s, nw_psh_n, ni_10, ni_00]
    refine m_stateOf hT hm g1 (by omega) h (d + 2) _ ?_
    simp only [e137, s137_0, s137_1, s137_2, s137_5, s137_8, s137_10, s137_11, s137_12, s137_13, s137_14, s137_15, s137_18, s137_21, s137_23, s137_24, s137_25, s137_26, s137_27, s137_30, s137_31, s137_32, s137_33, s137_37, s137_40, s137_43, s137_44, s137_47, s137_49, s137_50, s137_51, s137_54, s137_55, s137_56, s137_58, s137_59, s137_62, s137_63, s137_66, s137_70, s137_74, s137_77, s137_80, s137_82, s137_83, s137_84, s137_88, s137_91, s137_94, s137_95, s137_98, s137_100, s137_101, s137_102, s137_105, s137_107, s137_108, s137_111, s137_112, s137_115, s137_117, s137_120, s137_122, s137_124, s137_125, s137_126, s137_129, s137_132, s137_135, s137_138, s137_139, hi, ni_cl (show t < 2 ^ 31 by omega), false_implies, true_implies, not_true_eq_false, not_false_eq_true, true_and, and_true, true_or, or_true, false_or, or_false, false_and, and_false, implies_true, nw_psh_s, nw_psh_n, ni_10, ni_00]
    have h9 := nm_tv_9 h t (nI (nt_e0 T q t))
    refine m_leave42f hT hm g1 h9 d _ (by omega) (fun m2 hv2 hf => ?_)
    simp only [e137, s137_0, s137_1, s137_2, s137_5, s137_8, s137_10, s137_11, s137_12, s137_13, s137_14, s137_15, s137_18, s137_21, s137_23, s137_24, s137_25, s137_26, s137_27, s137_30, s137_31, s137_32, s137_33, s137_37, s137_40, s137_43, s137_44, s137_47, s137_49, s137_50, s137_51, s137_54, s137_55, s137_56, s137_58, s137_59, s137_62, s137_63, s137_66, s137_70, s137_74, s137_77, s137_80, s137_82, s137_83, s137_84, s137_88, s137_91, s137_94, s137_95, s137_98, s137_100, s137_101, s137_102, s137_105, s137_107, s137_108, s137_111, s137_112, s137_115, s137_117, s137_120, s137_122, s137_124, s137_125, s137_126, s137_129, s137_132, s137_135, s137_138, s137_139, nI_1, false_implies, true_implies, not_true_eq_false, not_false_eq_true, true_and, and_true, true_or, or_true, false_or, or_false, false_and, and_false, implies_true, nw_psh_s, nw_psh_n, ni_10, ni_00]
    refine ih (t + 1) m2 (by omega) hv2 (fun i hi => ?_)
    rw [hf 9 i (by omega), nw_up_at]
    by_cases hit : i = t
    · rw [if_pos ⟨rfl, hit⟩, hit]
    · rw [if_neg (by omega)]; exact hst i (by omega)
theorem nt_e0_lt {T : nt_T} (hT : nt_ok T) {q : nq} (h1 : nt_vok T q.1) (h2 : q.2 < nt_n T) (i : Nat) : nt_e0 T q i < 2 ^ 30 := by
  have h8 := hT.2.1
  obtain ⟨g1, g2⟩ := nt_sq_ok hT h1 h2 i
  have hlt := ne_lt (v := (nt_sq T q i).1) (c := (nt_sq T q i).2) (by omega) (nt_n T) (fun j _ => nt_v4 hT g1 j)
  have hp : 4 ^ nt_n T ≤ 4 ^ 8 := Nat.pow_le_pow_right (by decide) h8
  unfold nt_e0
  omega
theorem m_round_in (e : Nat → Nat) (he : ∀ i, e i < 2 ^ 30) {m1 : nw_M} (h9 : ∀ i, i < 1000 → m1 9 i = nI (e i)) (d : Nat) (Q : nw_K) (a1 y z : Int32) {t : Nat} (ht : t < 1000) (hQ : ∀ o, t < o → o < 1000 → e t = e o → (∀ o', t < o' → o' < o → ¬ e t = e o') → Q (some (.int (if y = 0 then nI t else nI (o - t)))) m1) (hN : (∀ o', t < o' → o' < 1000 → ¬ e t = e o') → nw_Ev d nw_shM 137 Q 132 [some (.ref 0), some (.int a1), some (.int y), some (.int z), some (.int (nI t)), some (.int (nI 1000))] [] m1) :
    ∀ j o, o + j = 1000 → t < o → (∀ o', t < o' → o' < o → ¬ e t = e o') → nw_Ev d nw_shM 137 Q 86 [some (.ref 0), some (.int a1), some (.int y), some (.int z), some (.int (nI t)), some (.int (nI o))] [] m1 := by
  intro j
  induction j with
  | zero =>
    intro o ho hto hno
    have ho' : o = 1000 := by omega
    subst ho'
    rw [s137_86]
    simp only [e137, s137_0, s137_1, s137_2, s137_5, s137_8, s137_10, s137_11, s137_12, s137_13, s137_14, s137_15, s137_18, s137_21, s137_23, s137_24, s137_25, s137_26, s137_27, s137_30, s137_31, s137_32, s137_33, s137_37, s137_40, s137_43, s137_44, s137_47, s137_49, s137_50, s137_51, s137_54, s137_55, s137_56, s137_58, s137_59, s137_62, s137_63, s137_66, s137_69, s137_70, s137_74, s137_77, s137_80, s137_82, s137_83, s137_84, s137_88, s137_91, s137_94, s137_95, s137_98, s137_100, s137_101, s137_102, s137_105, s137_107, s137_108, s137_111, s137_112, s137_115, s137_117, s137_120, s137_122, s137_124, s137_125, s137_126, s137_129, s137_135, s137_138, s137_139, show ((1000 : Int32) ≤ nI 1000) = True from eq_true (by decide), false_implies, true_implies, not_true_eq_false, not_false_eq_true, true_and, and_true, true_or, or_true, false_or, or_false, false_and, and_false, implies_true, nw_psh_s, nw_psh_n, ni_10, ni_00]
    exact hN hno
  | succ j ih =>
    intro o ho hto hno
    have hle : ((1000 : Int32) ≤ nI o) = False := ni_le_f (a := 1000) (by omega) (by decide)
    have hi1 : vp_in (nI t) 1000 := vp_in_nI ht (by decide)
    have hi2 : vp_in (nI o) 1000 := vp_in_nI (by omega) (by decide)
    rw [s137_86]
    by_cases heq : e t = e o
    · have hq := hQ o hto (by omega) heq hno
      by_cases hy : y = 0
      · rw [if_pos hy] at hq
        simp only [e137, s137_0, s137_1, s137_2, s137_5, s137_8, s137_10, s137_11, s137_12, s137_13, s137_14, s137_15, s137_18, s137_21, s137_23, s137_24, s137_25, s137_26, s137_27, s137_30, s137_31, s137_32, s137_33, s137_37, s137_40, s137_43, s137_44, s137_47, s137_49, s137_50, s137_51, s137_54, s137_55, s137_56, s137_58, s137_59, s137_62, s137_63, s137_66, s137_69, s137_70, s137_74, s137_77, s137_80, s137_82, s137_83, s137_84, s137_88, s137_91, s137_94, s137_95, s137_98, s137_100, s137_101, s137_102, s137_105, s137_107, s137_108, s137_111, s137_112, s137_115, s137_117, s137_120, s137_122, s137_124, s137_125, s137_126, s137_129, s137_135, s137_138, s137_139, hle, hi1, hi2, ni_cl (show t < 2 ^ 31 by omega), ni_cl (show o < 2 ^ 31 by omega), h9 t ht, h9 o (show o < 1000 by omega), ni_eq_t heq, hy, false_implies, true_implies, not_true_eq_false, not_false_eq_true, true_and, and_true, true_or, or_true, false_or, or_false, false_and, and_false, implies_true, nw_psh_s, nw_psh_n, ni_10, ni_00]
        exact hq
      · rw [if_neg hy] at hq
        simp only [e137, s137_0, s137_1, s137_2, s137_5, s137_8, s137_10, s137_11, s137_12, s137_13, s137_14, s137_15, s137_18, s137_21, s137_23, s137_24, s137_25, s137_26, s137_27, s137_30, s137_31, s137_32, s137_33, s137_37, s137_40, s137_43, s137_44, s137_47, s137_49, s137_50, s137_51, s137_54, s137_55, s137_56, s137_58, s137_59, s137_62, s137_63, s137_66, s137_69, s137_70, s137_74, s137_77, s137_80, s137_82, s137_83, s137_84, s137_88, s137_91, s137_94, s137_95, s137_98, s137_100, s137_101, s137_102, s137_105, s137_107, s137_108, s137_111, s137_112, s137_115, s137_117, s137_120, s137_122, s137_124, s137_125, s137_126, s137_129, s137_135, s137_138, s137_139, hle, hi1, hi2, ni_cl (show t < 2 ^ 31 by omega), ni_cl (show o < 2 ^ 31 by omega), h9 t ht, h9 o (show o < 1000 by omega), ni_eq_t heq, hy, pk_sub (show t ≤ o by omega), false_implies, true_implies, not_true_eq_false, not_false_eq_true, true_and, and_true, true_or, or_true, false_or, or_false, false_and, and_false, implies_true, nw_psh_s, nw_psh_n, ni_10, ni_00]
        exact hq
    · have b1 := he t
      have b2 := he o
      simp only [e137, s137_0, s137_1, s137_2, s137_5, s137_8, s137_10, s137_11, s137_12, s137_13, s137_14, s137_15, s137_18, s137_21, s137_23, s137_24, s137_25, s137_26, s137_27, s137_30, s137_31, s137_32, s137_33, s137_37, s137_40, s137_43, s137_44, s137_47, s137_49, s137_50, s137_51, s137_54, s137_55, s137_56, s137_58, s137_59, s137_62, s137_63, s137_66, s137_69, s137_70, s137_74, s137_77, s137_80, s137_82, s137_83, s137_84, s137_88, s137_91, s137_94, s137_95, s137_98, s137_100, s137_101, s137_102, s137_105, s137_107, s137_108, s137_111, s137_112, s137_115, s137_117, s137_120, s137_122, s137_124, s137_125, s137_126, s137_129, s137_135, s137_138, s137_139, hle, hi1, hi2, ni_cl (show t < 2 ^ 31 by omega), ni_cl (show o < 2 ^ 31 by omega), h9 t ht, h9 o (show o < 1000 by omega), ni_eq_f heq (show e t < 2 ^ 31 by omega) (show e o < 2 ^ 31 by omega), nI_1, false_implies, true_implies, not_true_eq_false, not_false_eq_true, true_and, and_true, true_or, or_true, false_or, or_false, false_and, and_false, implies_true, nw_psh_s, nw_psh_n, ni_10, ni_00]
      refine ih (o + 1) (by omega) (by omega) (fun o' g1 g2 => ?_)
      rcases Nat.lt_or_ge o' o with q | q
      · exact hno o' g1 q
      · have : o' = o := by omega
        subst this
        exact heq
theorem m_round_out (e : Nat → Nat) (he : ∀ i, e i < 2 ^ 30) {m1 : nw_M} (h9 : ∀ i, i < 1000 → m1 9 i = nI (e i)) (d : Nat) (Q : nw_K) (a1 y z : Int32) (hQ : ∀ t o, rd_M e t o → Q (some (.int (if y = 0 then nI t else nI (o - t)))) m1) (hN : (∀ t o', t < 1000 → t < o' → o' < 1000 → ¬ e t = e o') → Q (some (.int (-1))) m1) :
    ∀ j t (l5 : Option Value), t + j = 1000 → (l5 = none ∨ ∃ x, l5 = some (.int x)) → (∀ t' o', t' < t → t' < o' → o' < 1000 → ¬ e t' = e o') → nw_Ev d nw_shM 137 Q 72 [some (.ref 0), some (.int a1), some (.int y), some (.int z), some (.int (nI t)), l5] [] m1 := by
  intro j
  induction j with
  | zero =>
    intro t l5 ht hl5 hno
    have ht' : t = 1000 := by omega
    subst ht'
    rw [s137_72]
    simp only [e137, s137_0, s137_1, s137_2, s137_5, s137_8, s137_10, s137_11, s137_12, s137_13, s137_14, s137_15, s137_18, s137_21, s137_23, s137_24, s137_25, s137_26, s137_27, s137_30, s137_31, s137_32, s137_33, s137_37, s137_40, s137_43, s137_44, s137_47, s137_49, s137_50, s137_51, s137_54, s137_55, s137_56, s137_58, s137_59, s137_62, s137_63, s137_66, s137_69, s137_70, s137_74, s137_77, s137_80, s137_82, s137_83, s137_84, s137_88, s137_91, s137_94, s137_95, s137_98, s137_100, s137_101, s137_102, s137_105, s137_107, s137_108, s137_111, s137_112, s137_115, s137_117, s137_120, s137_122, s137_124, s137_125, s137_126, s137_129, s137_132, s137_135, s137_138, s137_139, show ((1000 : Int32) ≤ nI 1000) = True from eq_true (by decide), false_implies, true_implies, not_true_eq_false, not_false_eq_true, true_and, and_true, true_or, or_true, false_or, or_false, false_and, and_false, implies_true, nw_psh_s, nw_psh_n, ni_10, ni_00]
    exact hN hno
  | succ j ih =>
    intro t l5 ht hl5 hno
    have hle : ((1000 : Int32) ≤ nI t) = False := ni_le_f (a := 1000) (by omega) (by decide)
    have hin : nw_Ev d nw_shM 137 Q 86 [some (.ref 0), some (.int a1), some (.int y), some (.int z), some (.int (nI t)), some (.int (nI (t + 1)))] [] m1 := by
      refine m_round_in e he h9 d Q a1 y z (by omega) (fun o g1 g2 g3 g4 => hQ t o ⟨g1, g2, g3, hno, g4⟩) (fun hn => ?_) (999 - t) (t + 1) (by omega) (by omega) (fun o' g1 g2 => absurd g1 (by omega))
      simp only [e137, s137_0, s137_1, s137_2, s137_5, s137_8, s137_10, s137_11, s137_12, s137_13, s137_14, s137_15, s137_18, s137_21, s137_23, s137_24, s137_25, s137_26, s137_27, s137_30, s137_31, s137_32, s137_33, s137_37, s137_40, s137_43, s137_44, s137_47, s137_49, s137_50, s137_51, s137_54, s137_55, s137_56, s137_58, s137_59, s137_62, s137_63, s137_66, s137_69, s137_70, s137_74, s137_77, s137_80, s137_82, s137_83, s137_84, s137_88, s137_91, s137_94, s137_95, s137_98, s137_100, s137_101, s137_102, s137_105, s137_107, s137_108, s137_111, s137_112, s137_115, s137_117, s137_120, s137_122, s137_124, s137_125, s137_126, s137_129, s137_132, s137_135, s137_138, s137_139, nI_1, false_implies, true_implies, not_true_eq_false, not_false_eq_true, true_and, and_true, true_or, or_true, false_or, or_false, false_and, and_false, implies_true, nw_psh_s, nw_psh_n, ni_10, ni_00]
      refine ih (t + 1) _ (by omega) (Or.inr ⟨_, rfl⟩) (fun t' o' g1 g2 g3 => ?_)
      rcases Nat.lt_or_ge t' t with q | q
      · exact hno t' o' q g2 g3
      · have : t' = t := by omega
        subst this
        exact hn o' g2 g3
    rw [s137_72]
    simp only [e137, s137_0, s137_1, s137_2, s137_5, s137_8, s137_10, s137_11, s137_12, s137_13, s137_14, s137_15, s137_18, s137_21, s137_23, s137_24, s137_25, s137_26, s137_27, s137_30, s137_31, s137_32, s137_33, s137_37, s137_40, s137_43, s137_44, s137_47, s137_49, s137_50, s137_51, s137_54, s137_55, s137_56, s137_58, s137_59, s137_62, s137_63, s137_66, s137_69, s137_70, s137_74, s137_77, s137_80, s137_82, s137_83, s137_84, s137_88, s137_91, s137_94, s137_95, s137_98, s137_100, s137_101, s137_102, s137_105, s137_107, s137_108, s137_111, s137_112, s137_115, s137_117, s137_120, s137_122, s137_124, s137_125, s137_126, s137_129, s137_132, s137_135, s137_138, s137_139, hle, nI_1, false_implies, true_implies, not_true_eq_false, not_false_eq_true, true_and, and_true, true_or, or_true, false_or, or_false, false_and, and_false, implies_true, nw_psh_s, nw_psh_n, ni_10, ni_00]
    exact hin
theorem rd_uniq {e : Nat → Nat} {t o t' o' : Nat} (h : rd_M e t o) (h' : rd_M e t' o') : t = t' ∧ o = o' := by
  obtain ⟨a1, a2, a3, a4, a5⟩ := h
  obtain ⟨b1, b2, b3, b4, b5⟩ := h'
  have ht : t = t' := by
    rcases Nat.lt_trichotomy t t' with q | q | q
    · exact absurd a3 (b4 t o q a1 a2)
    · exact q
    · exact absurd b3 (a4 t' o' q b1 b2)
  subst ht
  refine ⟨rfl, ?_⟩
  rcases Nat.lt_trichotomy o o' with q | q | q
  · exact absurd a3 (b5 o a1 q)
  · exact q
  · exact absurd b3 (a5 o' b1 q)
theorem rd_exists {e : Nat → Nat} {t0 o0 : Nat} (h1 : t0 < o0) (h2 : o0 < 1000) (h3 : e t0 = e o0) : ∃ t o, rd_M e t o := by
  obtain ⟨t, ⟨o1, g1, g2, g3⟩, ht⟩ := pk_least (fun t => ∃ o, t < o ∧ o < 1000 ∧ e t = e o) ⟨t0, o0, h1, h2, h3⟩
  obtain ⟨o, ⟨k1, k2, k3⟩, ho⟩ := pk_least (fun o => t < o ∧ o < 1000 ∧ e t = e o) ⟨o1, g1, g2, g3⟩
  exact ⟨t, o, k1, k2, k3, fun t' o' a b c z => ht t' a ⟨o', b, c, z⟩, fun o' a b z => ho o' b ⟨a, by omega, z⟩⟩
theorem ni_ne_m1 {n : Nat} (hn : n < 2 ^ 31) : (nI n = -1) = False := eq_false (fun q => by
  have : nI n < 0 := by rw [q]; decide
  exact nI_pos hn this)
theorem p_round (A : nA) (x y : Int32) : nP2 A 87 137 [.int x, .int y] := by
  intro mx mm hX hM
  obtain ⟨T, τ, σ, g, kp, L, tx⟩ := A
  have hX0 := hX
  have hM0 := hM
  obtain ⟨h1, h2, h3, ⟨h5, h6⟩, -⟩ := hX
  obtain ⟨-, k2, -, ⟨-, k4⟩, -⟩ := hM
  have h8 := h1.2.1
  have hin := fun Q' => m_in 38 Q' y 0 1 mm
  rcases ix3 x (n := nt_n T) (by omega) with hx | ⟨c, hc, rfl⟩
  · refine nP_same (r := -2) hX0 hM0 (fun Q hQ => ?_) (fun Q hQ => ?_)
    · simp only [e87, s87_0, s87_1, s87_4, s87_5, s87_8, s87_11, s87_13, s87_14, s87_15, s87_18, s87_21, s87_23, s87_24, s87_25, s87_28, s87_29, s87_32, s87_33, s87_34, s87_37, s87_38, s87_41, s87_43, s87_45, s87_46, s87_49, s87_50, s87_51, s87_52, s87_55, s87_56, s87_58, s87_61, s87_63, s87_65, s87_66, s87_69, s87_70, s87_71, s87_72, s87_75, s87_77, s87_80, s87_82, x_hasCorner_n (Or.inl rfl) h2 38 _ hx, false_implies, true_implies, not_true_eq_false, not_false_eq_true, true_and, and_true, true_or, or_true, false_or, or_false, false_and, and_false, implies_true, nw_psh_s, nw_psh_n, ni_10, ni_00]
      exact hQ
    · simp only [e137, s137_0, s137_1, s137_2, s137_5, s137_8, s137_10, s137_11, s137_12, s137_13, s137_14, s137_15, s137_18, s137_21, s137_23, s137_24, s137_25, s137_26, s137_27, s137_30, s137_31, s137_32, s137_33, s137_37, s137_40, s137_43, s137_44, s137_47, s137_49, s137_50, s137_51, s137_54, s137_55, s137_56, s137_58, s137_59, s137_62, s137_63, s137_66, s137_69, s137_70, s137_74, s137_77, s137_80, s137_82, s137_83, s137_84, s137_88, s137_91, s137_94, s137_95, s137_98, s137_100, s137_101, s137_102, s137_105, s137_107, s137_108, s137_111, s137_112, s137_115, s137_117, s137_120, s137_122, s137_124, s137_125, s137_126, s137_129, s137_132, s137_135, s137_138, s137_139, m_isCorner_n h1 k2 37 _ hx, false_implies, true_implies, not_true_eq_false, not_false_eq_true, true_and, and_true, true_or, or_true, false_or, or_false, false_and, and_false, implies_true, nw_psh_s, nw_psh_n, ni_10, ni_00]
      exact hQ mm (nm_sc_rf mm)
  · rcases ix3 y (n := 2) (by decide) with hy | ⟨a, ha, rfl⟩
    · have hyo : (y < 0 ∨ (1 : Int32) < y) = True := in_lit_out (n := 1) (by decide) hy
      refine nP_same (r := -3) hX0 hM0 (fun Q hQ => ?_) (fun Q hQ => ?_)
      · simp only [e87, s87_0, s87_1, s87_4, s87_5, s87_8, s87_11, s87_13, s87_14, s87_15, s87_18, s87_21, s87_23, s87_24, s87_25, s87_28, s87_29, s87_32, s87_33, s87_34, s87_37, s87_38, s87_41, s87_43, s87_45, s87_46, s87_49, s87_50, s87_51, s87_52, s87_55, s87_56, s87_58, s87_61, s87_63, s87_65, s87_66, s87_69, s87_70, s87_71, s87_72, s87_75, s87_77, s87_80, s87_82, x_hasCorner_y (Or.inl rfl) h1 h2 38 _ hc, x_isEither, hyo, if_true, false_implies, true_implies, not_true_eq_false, not_false_eq_true, true_and, and_true, true_or, or_true, false_or, or_false, false_and, and_false, implies_true, nw_psh_s, nw_psh_n, ni_10, ni_00]
        exact hQ
      · simp only [e137, s137_0, s137_1, s137_2, s137_5, s137_8, s137_10, s137_11, s137_12, s137_13, s137_14, s137_15, s137_18, s137_21, s137_23, s137_24, s137_25, s137_26, s137_27, s137_30, s137_31, s137_32, s137_33, s137_37, s137_40, s137_43, s137_44, s137_47, s137_49, s137_50, s137_51, s137_54, s137_55, s137_56, s137_58, s137_59, s137_62, s137_63, s137_66, s137_69, s137_70, s137_74, s137_77, s137_80, s137_82, s137_83, s137_84, s137_88, s137_91, s137_94, s137_95, s137_98, s137_100, s137_101, s137_102, s137_105, s137_107, s137_108, s137_111, s137_112, s137_115, s137_117, s137_120, s137_122, s137_124, s137_125, s137_126, s137_129, s137_132, s137_135, s137_138, s137_139, m_isCorner_y h1 k2 37 _ hc, lw_0, lw_1, hin, hyo, if_true, false_implies, true_implies, not_true_eq_false, not_false_eq_true, true_and, and_true, true_or, or_true, false_or, or_false, false_and, and_false, implies_true, nw_psh_s, nw_psh_n, ni_10, ni_00]
        exact hQ mm (nm_sc_rf mm)
    · have hya : (nI a < 0 ∨ (1 : Int32) < nI a) = False := in_lit (n := 1) (by omega) (by decide)
      have hq1 : nt_vok T (σ.1, c).1 := h5.1
      have hq2 : (σ.1, c).2 < nt_n T := hc
      have hD := nt_e0_D h1 hq1 hq2
      have hMr : ∀ Q : nw_K, (∀ m2 t o, nm_sc mm m2 → rd_M (nt_e0 T (σ.1, c)) t o → Q (some (.int (if nI a = 0 then nI t else nI (o - t)))) m2) → (∀ m2, nm_sc mm m2 → (∀ t o', t < 1000 → t < o' → o' < 1000 → ¬ nt_e0 T (σ.1, c) t = nt_e0 T (σ.1, c) o') → Q (some (.int (-1))) m2) → nw_Ex 40 nw_shM 137 [.ref 0, .int (nI c), .int (nI a)] mm Q := by
        intro Q hQ hN
        simp only [e137, s137_0, s137_1, s137_2, s137_5, s137_8, s137_10, s137_11, s137_12, s137_13, s137_14, s137_15, s137_18, s137_21, s137_23, s137_24, s137_25, s137_26, s137_27, s137_30, s137_31, s137_32, s137_33, s137_37, s137_40, s137_43, s137_44, s137_47, s137_49, s137_50, s137_51, s137_54, s137_55, s137_56, s137_58, s137_59, s137_62, s137_63, s137_66, s137_69, s137_70, s137_74, s137_77, s137_80, s137_82, s137_83, s137_84, s137_88, s137_91, s137_94, s137_95, s137_98, s137_100, s137_101, s137_102, s137_105, s137_107, s137_108, s137_111, s137_112, s137_115, s137_117, s137_120, s137_122, s137_124, s137_125, s137_126, s137_129, s137_132, s137_135, s137_138, s137_139, m_isCorner_y h1 k2 37 _ hc, lw_0, lw_1, hin, hya, if_false, false_implies, true_implies, not_true_eq_false, not_false_eq_true, true_and, and_true, true_or, or_true, false_or, or_false, false_and, and_false, implies_true, nw_psh_s, nw_psh_n, ni_10, ni_00]
        refine m_try h1 k4 38 _ (fun m1 ht2 => ?_)
        simp only [e137, s137_0, s137_1, s137_2, s137_5, s137_8, s137_10, s137_11, s137_12, s137_13, s137_14, s137_15, s137_18, s137_21, s137_23, s137_24, s137_25, s137_26, s137_27, s137_30, s137_31, s137_32, s137_33, s137_37, s137_40, s137_43, s137_44, s137_47, s137_49, s137_50, s137_51, s137_54, s137_55, s137_56, s137_58, s137_59, s137_62, s137_63, s137_66, s137_69, s137_70, s137_74, s137_77, s137_80, s137_82, s137_83, s137_84, s137_88, s137_91, s137_94, s137_95, s137_98, s137_100, s137_101, s137_102, s137_105, s137_107, s137_108, s137_111, s137_112, s137_115, s137_117, s137_120, s137_122, s137_124, s137_125, s137_126, s137_129, s137_132, s137_135, s137_138, s137_139, false_implies, true_implies, not_true_eq_false, not_false_eq_true, true_and, and_true, true_or, or_true, false_or, or_false, false_and, and_false, implies_true, nw_psh_s, nw_psh_n, ni_10, ni_00]
        refine m_round_fill h1 k2 hq1 hq2 36 Q _ _ (fun m2 z hs h9 => ?_) 1000 0 m1 (by omega) (nm_tr_tv ht2) (fun i hi => absurd hi (Nat.not_lt_zero i))
        simp only [e137, s137_0, s137_1, s137_2, s137_5, s137_8, s137_10, s137_11, s137_12, s137_13, s137_14, s137_15, s137_18, s137_21, s137_23, s137_24, s137_25, s137_26, s137_27, s137_30, s137_31, s137_32, s137_33, s137_37, s137_40, s137_43, s137_44, s137_47, s137_49, s137_50, s137_51, s137_54, s137_55, s137_56, s137_58, s137_59, s137_62, s137_63, s137_66, s137_69, s137_70, s137_74, s137_77, s137_80, s137_82, s137_83, s137_84, s137_88, s137_91, s137_94, s137_95, s137_98, s137_100, s137_101, s137_102, s137_105, s137_107, s137_108, s137_111, s137_112, s137_115, s137_117, s137_120, s137_122, s137_124, s137_125, s137_126, s137_129, s137_132, s137_135, s137_138, s137_139, false_implies, true_implies, not_true_eq_false, not_false_eq_true, true_and, and_true, true_or, or_true, false_or, or_false, false_and, and_false, implies_true, nw_psh_s, nw_psh_n, ni_10, ni_00]
        exact m_round_out _ (nt_e0_lt h1 hq1 hq2) h9 39 Q _ _ _ (fun t o h => hQ m2 t o hs h) (fun h => hN m2 hs h) 1000 0 none (by omega) (Or.inl rfl) (fun t' o' h => absurd h (Nat.not_lt_zero t'))
      have hsf := na_from h6 (c := c) (by omega)
      have hXr : ∀ Q : nw_K, (∀ l p, 0 < l → l ≤ 2047 → nt_e0 T (σ.1, c) p = nt_e0 T (σ.1, c) (p + l) → (∀ l', 0 < l' → l' < l → ¬ nt_e0 T (σ.1, c) p = nt_e0 T (σ.1, c) (p + l')) → (∀ b, b + l ≤ 999 → nt_e0 T (σ.1, c) b = nt_e0 T (σ.1, c) (b + l) → (∀ b', b' < b → ¬ nt_e0 T (σ.1, c) b' = nt_e0 T (σ.1, c) (b' + l)) → Q (some (.int (if nI a = 0 then nI b else nI l))) mx) ∧ ((∀ b, b + l ≤ 999 → ¬ nt_e0 T (σ.1, c) b = nt_e0 T (σ.1, c) (b + l)) → Q (some (.int (-1))) mx)) → ((∀ l, 0 < l → l ≤ 1024 → ¬ nt_e0 T (σ.1, c) 1023 = nt_e0 T (σ.1, c) (1023 + l)) → Q (some (.int (-1))) mx) → nw_Ex 40 nw_shX 87 [.ref 0, .int (nI c), .int (nI a)] mx Q := by
        intro Q hQ hN
        simp only [e87, s87_0, s87_1, s87_4, s87_5, s87_8, s87_11, s87_13, s87_14, s87_15, s87_18, s87_21, s87_23, s87_24, s87_25, s87_28, s87_29, s87_32, s87_33, s87_34, s87_37, s87_38, s87_41, s87_43, s87_45, s87_46, s87_49, s87_50, s87_51, s87_52, s87_55, s87_56, s87_58, s87_61, s87_63, s87_65, s87_66, s87_69, s87_70, s87_71, s87_72, s87_75, s87_77, s87_80, s87_82, x_hasCorner_y (Or.inl rfl) h1 h2 38 _ hc, x_isEither, hya, if_false, x_from, false_implies, true_implies, not_true_eq_false, not_false_eq_true, true_and, and_true, true_or, or_true, false_or, or_false, false_and, and_false, implies_true, nw_psh_s, nw_psh_n, ni_10, ni_00]
        refine x_roundLength h1 h2 34 _ hq1 hq2 hsf (fun l p g1 g2 g3 g4 => ?_) (fun hn => ?_)
        · obtain ⟨hQ1, hQ2⟩ := hQ l p g1 g2 g3 g4
          simp only [e87, s87_0, s87_1, s87_4, s87_5, s87_8, s87_11, s87_13, s87_14, s87_15, s87_18, s87_21, s87_23, s87_24, s87_25, s87_28, s87_29, s87_32, s87_33, s87_34, s87_37, s87_38, s87_41, s87_43, s87_45, s87_46, s87_49, s87_50, s87_51, s87_52, s87_55, s87_56, s87_58, s87_61, s87_63, s87_65, s87_66, s87_69, s87_70, s87_71, s87_72, s87_75, s87_77, s87_80, s87_82, ni_ne_m1 (show l < 2 ^ 31 by omega), e47, s47_0, s47_1, s47_2, s47_3, s47_5, s47_6, s47_10, s47_11, s47_14, s47_15, s47_17, s47_18, s47_21, s47_23, s47_26, s47_29, s47_30, s47_34, s47_35, s47_36, s47_39, s47_42, s47_43, s47_45, s47_48, s47_50, s47_51, s47_52, s47_53, s47_54, s47_57, s47_58, s47_59, s47_61, s47_62, s47_65, s47_67, s47_70, s47_73, s47_74, false_implies, true_implies, not_true_eq_false, not_false_eq_true, true_and, and_true, true_or, or_true, false_or, or_false, false_and, and_false, implies_true, nw_psh_s, nw_psh_n, ni_10, ni_00]
          refine x_ahead_1 h1 h2 34 _ (l := l) (by omega) _ _ (fun s' hs' => ?_) l 0 _ (by omega) hsf
          simp only [e47, s47_0, s47_1, s47_2, s47_3, s47_5, s47_6, s47_10, s47_11, s47_14, s47_15, s47_17, s47_18, s47_21, s47_23, s47_26, s47_29, s47_30, s47_34, s47_35, s47_36, s47_39, s47_42, s47_43, s47_45, s47_48, s47_50, s47_51, s47_52, s47_53, s47_54, s47_57, s47_58, s47_59, s47_61, s47_62, s47_65, s47_67, s47_70, s47_73, s47_74, false_implies, true_implies, not_true_eq_false, not_false_eq_true, true_and, and_true, true_or, or_true, false_or, or_false, false_and, and_false, implies_true, nw_psh_s, nw_psh_n, ni_10, ni_00]
          refine x_ahead_2 h1 h2 34 _ hq1 hq2 g2 _ (fun b e1 e2 e3 => ?_) (fun hn => ?_) (1000 - l) 0 _ _ (by omega) hsf (by rw [Nat.zero_add]; exact hs') (fun b' h => absurd h (Nat.not_lt_zero b'))
          · have hq := hQ1 b e1 e2 e3
            by_cases hy : nI a = 0
            · rw [if_pos hy] at hq
              simp only [e87, s87_0, s87_1, s87_4, s87_5, s87_8, s87_11, s87_13, s87_14, s87_15, s87_18, s87_21, s87_23, s87_24, s87_25, s87_28, s87_29, s87_32, s87_33, s87_34, s87_37, s87_38, s87_41, s87_43, s87_45, s87_46, s87_49, s87_50, s87_51, s87_52, s87_55, s87_56, s87_58, s87_61, s87_63, s87_65, s87_66, s87_69, s87_70, s87_71, s87_72, s87_75, s87_77, s87_80, s87_82, ni_ne_m1 (show b < 2 ^ 31 by omega), hy, false_implies, true_implies, not_true_eq_false, not_false_eq_true, true_and, and_true, true_or, or_true, false_or, or_false, false_and, and_false, implies_true, nw_psh_s, nw_psh_n, ni_10, ni_00]
              exact hq
            · rw [if_neg hy] at hq
              simp only [e87, s87_0, s87_1, s87_4, s87_5, s87_8, s87_11, s87_13, s87_14, s87_15, s87_18, s87_21, s87_23, s87_24, s87_25, s87_28, s87_29, s87_32, s87_33, s87_34, s87_37, s87_38, s87_41, s87_43, s87_45, s87_46, s87_49, s87_50, s87_51, s87_52, s87_55, s87_56, s87_58, s87_61, s87_63, s87_65, s87_66, s87_69, s87_70, s87_71, s87_72, s87_75, s87_77, s87_80, s87_82, ni_ne_m1 (show b < 2 ^ 31 by omega), hy, false_implies, true_implies, not_true_eq_false, not_false_eq_true, true_and, and_true, true_or, or_true, false_or, or_false, false_and, and_false, implies_true, nw_psh_s, nw_psh_n, ni_10, ni_00]
              exact hq
          · simp only [e87, s87_0, s87_1, s87_4, s87_5, s87_8, s87_11, s87_13, s87_14, s87_15, s87_18, s87_21, s87_23, s87_24, s87_25, s87_28, s87_29, s87_32, s87_33, s87_34, s87_37, s87_38, s87_41, s87_43, s87_45, s87_46, s87_49, s87_50, s87_51, s87_52, s87_55, s87_56, s87_58, s87_61, s87_63, s87_65, s87_66, s87_69, s87_70, s87_71, s87_72, s87_75, s87_77, s87_80, s87_82, false_implies, true_implies, not_true_eq_false, not_false_eq_true, true_and, and_true, true_or, or_true, false_or, or_false, false_and, and_false, implies_true, nw_psh_s, nw_psh_n, ni_10, ni_00]
            exact hQ2 hn
        · simp only [e87, s87_0, s87_1, s87_4, s87_5, s87_8, s87_11, s87_13, s87_14, s87_15, s87_18, s87_21, s87_23, s87_24, s87_25, s87_28, s87_29, s87_32, s87_33, s87_34, s87_37, s87_38, s87_41, s87_43, s87_45, s87_46, s87_49, s87_50, s87_51, s87_52, s87_55, s87_56, s87_58, s87_61, s87_63, s87_65, s87_66, s87_69, s87_70, s87_71, s87_72, s87_75, s87_77, s87_80, s87_82, false_implies, true_implies, not_true_eq_false, not_false_eq_true, true_and, and_true, true_or, or_true, false_or, or_false, false_and, and_false, implies_true, nw_psh_s, nw_psh_n, ni_10, ni_00]
          exact hN hn
      by_cases hex : ∃ t o, rd_M (nt_e0 T (σ.1, c)) t o
      · obtain ⟨t, o, hto⟩ := hex
        refine nP_same (r := if nI a = 0 then nI t else nI (o - t)) hX0 hM0 (fun Q hQ => hXr Q (fun l p g1 g2 g3 g4 => ?_) (fun hn => ?_)) (fun Q hQ => hMr Q (fun m2 t' o' hs h => ?_) (fun m2 hs hn => ?_))
        · have hl := rd_len hD hto g1 g3 g4
          subst hl
          obtain ⟨m1, m2, m3, m4, m5⟩ := hto
          have hto2 : nt_e0 T (σ.1, c) t = nt_e0 T (σ.1, c) (t + (o - t)) := by rw [show t + (o - t) = o by omega]; exact m3
          refine ⟨fun b e1 e2 e3 => ?_, fun hn => absurd hto2 (hn t (by omega))⟩
          have hb : b = t := by
            rcases Nat.lt_trichotomy b t with q | q | q
            · exact absurd e2 (m4 b (b + (o - t)) q (by omega) (by omega))
            · exact q
            · exact absurd hto2 (e3 t q)
          rw [hb]
          exact hQ
        · exact absurd (rd_find hD hto) (hn (o - t) (by have := hto.1; omega) (by have := hto.2.1; omega))
        · obtain ⟨e1, e2⟩ := rd_uniq hto h
          rw [← e1, ← e2]
          exact hQ m2 hs
        · exact absurd hto.2.2.1 (hn t o (by have := hto.1; have := hto.2.1; omega) hto.1 hto.2.1)
      · have hno : ∀ t o, t < o → o < 1000 → ¬ nt_e0 T (σ.1, c) t = nt_e0 T (σ.1, c) o := fun t o g1 g2 g3 => hex (rd_exists g1 g2 g3)
        refine nP_same (r := -1) hX0 hM0 (fun Q hQ => hXr Q (fun l p g1 g2 g3 g4 => ⟨fun b e1 e2 e3 => absurd e2 (hno b (b + l) (by omega) (by omega)), fun _ => hQ⟩) (fun _ => hQ)) (fun Q hQ => hMr Q (fun m2 t' o' hs h => absurd ⟨t', o', h⟩ hex) (fun m2 hs _ => hQ m2 hs))
