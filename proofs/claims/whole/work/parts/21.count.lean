/-! ERASE, GO, CORNER, COUNT -/
theorem nX_up11 {T : nt_T} {τ σ : nt_S} {g : Nat} {kp : Nat → Option (nt_S × Nat)} {L : Nat} {tx : Nat → Nat} {mx : nw_M} (h : nX (T, τ, σ, g, kp, L, tx) mx) : nX (T, τ, σ, g, kp, 0, tx) (nw_up mx 1 1 0) := by
  obtain ⟨h1, ⟨a1, a2, a3, a4, a5⟩, h3, h5, h8, h10, h11, h12, h13⟩ := h
  exact ⟨h1, ⟨a1, a2, a3, a4, a5⟩, h3, h5, h8, h10, by rw [nw_up_at, if_pos ⟨rfl, rfl⟩]; rfl, by omega, fun i hi => absurd hi (Nat.not_lt_zero i)⟩
theorem nM_up03 {T : nt_T} {τ σ : nt_S} {g : Nat} {kp : Nat → Option (nt_S × Nat)} {L : Nat} {tx : Nat → Nat} {mm : nw_M} (h : nM (T, τ, σ, g, kp, L, tx) mm) : nM (T, τ, σ, g, kp, 0, tx) (nw_up mm 0 3 0) := by
  obtain ⟨h1, ⟨a1, a2, a3, a4, a5⟩, h3, h5, h8, h10, h11, h12, h13⟩ := h
  exact ⟨h1, ⟨a1, a2, a3, a4, a5⟩, h3, h5, h8, h10, by rw [nw_up_at, if_pos ⟨rfl, rfl⟩]; rfl, by omega, fun i hi => absurd hi (Nat.not_lt_zero i)⟩
theorem x_clear (d : Nat) (Q : nw_K) (mem : nw_M) : nw_Ex (d + 1) nw_shX 3 [.ref 1] mem Q = Q (some (.int (mem 1 1))) (nw_up mem 1 1 0) := by
  simp only [e3, s3_0, s3_1, s3_4, s3_5, s3_6, s3_7, s3_10, s3_11]
theorem p_erase (A : nA) : nP2 A 71 100 [] := by
  intro mx mm hX hM
  obtain ⟨T, τ, σ, g, kp, L, tx⟩ := A
  have hX0 := hX
  have hM0 := hM
  obtain ⟨-, -, -, -, -, -, h11, -⟩ := hX
  obtain ⟨-, -, -, -, -, -, k11, -⟩ := hM
  refine ⟨(T, τ, σ, g, kp, 0, tx), nI L, fun Q hQ => ?_, fun Q hQ => ?_⟩
  · simp only [e71, s71_0, s71_1, s71_4, s71_7, x_clear, h11, false_implies, true_implies, not_true_eq_false, not_false_eq_true, true_and, and_true, true_or, or_true, false_or, or_false, false_and, and_false, implies_true, nw_psh_s, nw_psh_n, ni_10, ni_00]
    exact hQ _ (nX_up11 hX0)
  · simp only [e100, s100_0, s100_1, s100_4, s100_5, s100_6, s100_7, s100_10, s100_11, k11]
    exact hQ _ (nM_up03 hM0)
/-! go -/
theorem lt1_out {x : Int32} (h : ¬ x < 1) (h2 : x < 1 ∨ nI 1000 ≤ x) : (x ≤ 999) = False := eq_false (fun z => by
  have q := h2.resolve_left h
  rw [fa_le] at q z
  have h4 : (999 : Int32) = nI 999 := rfl
  rw [h4] at z
  have h2 := nI_toInt (n := 999) (by decide)
  have h3 := nI_toInt (n := 1000) (by decide)
  omega)
theorem ix1 (x : Int32) {n : Nat} (hn : n < 2 ^ 31) : (x < 1 ∨ nI n ≤ x) ∨ ∃ j : Nat, 1 ≤ j ∧ j < n ∧ x = nI j := by
  rcases pk_ix x hn with h | h | ⟨j, hj, rfl⟩
  · left; left
    rw [fa_lt] at h ⊢
    have : (0 : Int32).toInt < (1 : Int32).toInt := by decide
    omega
  · exact Or.inl (Or.inr h)
  · by_cases h0 : j = 0
    · subst h0
      left; left
      decide
    · exact Or.inr ⟨j, by omega, hj, rfl⟩
theorem in1_out {x : Int32} {n : Nat} (hn : n + 1 < 2 ^ 31) (h : x < 1 ∨ nI (n + 1) ≤ x) : (x < 1 ∨ nI n < x) = True := eq_true (h.imp id (fun q => gt_lit_out hn q))
theorem in1_in {j n : Nat} (h0 : 1 ≤ j) (h : j ≤ n) (hn : n < 2 ^ 31) : (nI j < 1 ∨ nI n < nI j) = False := eq_false (fun q => q.elim (nI_nlt (b := 1) h0 (by omega)) (nI_nlt h hn))
theorem m_go_loop {T : nt_T} {τ σ : nt_S} {g : Nat} {kp : Nat → Option (nt_S × Nat)} {L : Nat} {tx : Nat → Nat} {mm : nw_M} (hM : nM (T, τ, σ, g, kp, L, tx) mm) (d : Nat) (Q : nw_K) (t : Nat) (ht : t < 1000) (hg : g + t ≤ 99999) (hQ : ∀ mm', nM (T, τ, nt_bs T σ t, g + t, kp, L, tx) mm' → Q (some (.int (nI (g + t)))) mm') :
    ∀ j k (m1 : nw_M), k + j = t → nM (T, τ, nt_bs T σ k, g + k, kp, L, tx) m1 → nw_Ev (d + 4) nw_shM 126 Q 34 [some (.ref 0), some (.int (nI t)), some (.int (nI k))] [] m1 := by
  intro j
  induction j with
  | zero =>
    intro k m1 hk h
    have hk' : k = t := by omega
    subst hk'
    have h13i : vp_in (13 : Int32) 70 := vp_in_nI (n := 13) (by decide) (by decide)
    have hq := hQ m1 h
    obtain ⟨-, -, -, -, ⟨kg, -⟩, -⟩ := h
    rw [s126_34]
    simp only [e126, s126_0, s126_1, s126_2, s126_3, s126_6, s126_9, s126_12, s126_14, s126_15, s126_16, s126_19, s126_21, s126_22, s126_23, s126_24, s126_26, s126_29, s126_31, s126_32, s126_33, s126_35, s126_36, s126_39, s126_40, s126_41, s126_44, s126_47, s126_50, s126_51, s126_54, s126_56, s126_57, ni_le_t (Nat.le_refl k) (show k < 2 ^ 31 by omega), h13i, show (13 : Int32).toNatClampNeg = 13 from rfl, kg, false_implies, true_implies, not_true_eq_false, not_false_eq_true, true_and, and_true, true_or, or_true, false_or, or_false, false_and, and_false, implies_true, nw_psh_s, nw_psh_n, ni_10, ni_00]
    exact hq
  | succ j ih =>
    intro k m1 hk h
    have h0 := h
    obtain ⟨h1, h2, h3, ⟨h5, h6⟩, ⟨kg, kg9⟩, -⟩ := h
    rw [s126_34]
    simp only [e126, s126_0, s126_1, s126_2, s126_3, s126_6, s126_9, s126_12, s126_14, s126_15, s126_16, s126_19, s126_21, s126_22, s126_23, s126_24, s126_26, s126_29, s126_31, s126_32, s126_33, s126_35, s126_36, s126_39, s126_40, s126_41, s126_44, s126_47, s126_50, s126_51, s126_54, s126_56, s126_57, ni_le_f (show k < t by omega) (show t < 2 ^ 31 by omega), show (0 : Int32) = nI 0 from rfl, false_implies, true_implies, not_true_eq_false, not_false_eq_true, true_and, and_true, true_or, or_true, false_or, or_false, false_and, and_false, implies_true, nw_psh_s, nw_psh_n, ni_10, ni_00]
    refine m_beat h1 h2 (b := 0) (by decide) h5 h6 d _ (fun m2 hS hf hg2 => ?_)
    simp only [e126, s126_0, s126_1, s126_2, s126_3, s126_6, s126_9, s126_12, s126_14, s126_15, s126_16, s126_19, s126_21, s126_22, s126_23, s126_24, s126_26, s126_29, s126_31, s126_32, s126_33, s126_35, s126_36, s126_39, s126_40, s126_41, s126_44, s126_47, s126_50, s126_51, s126_54, s126_56, s126_57, nI_1, false_implies, true_implies, not_true_eq_false, not_false_eq_true, true_and, and_true, true_or, or_true, false_or, or_false, false_and, and_false, implies_true, nw_psh_s, nw_psh_n, ni_10, ni_00]
    refine ih (k + 1) m2 (by omega) (nM_now h0 hf hS (nt_b1_ok h1 h5) ?_ (by omega))
    rw [Nat.zero_add] at hg2
    rw [hg2, kg]
    exact nI_1 _
theorem p_go (A : nA) (x : Int32) : nP2 A 78 126 [.int x] := by
  intro mx mm hX hM
  obtain ⟨T, τ, σ, g, kp, L, tx⟩ := A
  have hX0 := hX
  have hM0 := hM
  obtain ⟨h1, h2, h3, ⟨h5, h6⟩, ⟨h8, h9⟩, -⟩ := hX
  obtain ⟨-, k2, -, ⟨-, k4⟩, ⟨kg, kg9⟩, -⟩ := hM
  have hin := fun Q' => m_in 38 Q' x 1 999 mm
  have h13i : vp_in (13 : Int32) 70 := vp_in_nI (n := 13) (by decide) (by decide)
  rcases ix1 x (n := 1000) (by decide) with hx | ⟨t, ht1, ht, rfl⟩
  · refine nP_same (r := -3) hX0 hM0 (fun Q hQ => ?_) (fun Q hQ => ?_)
    · by_cases q : x < 1
      · simp only [e78, s78_0, s78_1, s78_2, s78_5, s78_6, s78_9, s78_12, s78_14, s78_15, s78_16, s78_19, s78_20, s78_21, s78_23, s78_26, s78_28, s78_29, s78_30, s78_31, s78_34, s78_35, s78_38, s78_39, s78_42, s78_45, s78_46, s78_47, s78_50, s78_51, s78_52, s78_55, s78_56, s78_59, q, false_implies, true_implies, not_true_eq_false, not_false_eq_true, true_and, and_true, true_or, or_true, false_or, or_false, false_and, and_false, implies_true, nw_psh_s, nw_psh_n, ni_10, ni_00]
        exact hQ
      · simp only [e78, s78_0, s78_1, s78_2, s78_5, s78_6, s78_9, s78_12, s78_14, s78_15, s78_16, s78_19, s78_20, s78_21, s78_23, s78_26, s78_28, s78_29, s78_30, s78_31, s78_34, s78_35, s78_38, s78_39, s78_42, s78_45, s78_46, s78_47, s78_50, s78_51, s78_52, s78_55, s78_56, s78_59, q, lt1_out q hx, false_implies, true_implies, not_true_eq_false, not_false_eq_true, true_and, and_true, true_or, or_true, false_or, or_false, false_and, and_false, implies_true, nw_psh_s, nw_psh_n, ni_10, ni_00]
        exact hQ
    · simp only [e126, s126_0, s126_1, s126_2, s126_3, s126_6, s126_9, s126_12, s126_14, s126_15, s126_16, s126_19, s126_21, s126_22, s126_23, s126_24, s126_26, s126_29, s126_31, s126_32, s126_33, s126_35, s126_36, s126_39, s126_40, s126_41, s126_44, s126_47, s126_50, s126_51, s126_54, s126_56, s126_57, lw_1, lw_999, hin, show (x < 1 ∨ (999 : Int32) < x) = True from in1_out (n := 999) (by decide) hx, if_true, false_implies, true_implies, not_true_eq_false, not_false_eq_true, true_and, and_true, true_or, or_true, false_or, or_false, false_and, and_false, implies_true, nw_psh_s, nw_psh_n, ni_10, ni_00]
      exact hQ mm (nm_sc_rf mm)
  · have e1 : (nI t < 1) = False := ni_lt_f (b := 1) ht1 (by omega)
    have e2 : (nI t ≤ 999) = True := ni_le_t (b := 999) (by omega) (by decide)
    have e3 : (nI t < 1 ∨ (999 : Int32) < nI t) = False := in1_in (n := 999) ht1 (by omega) (by decide)
    by_cases hg : g + t ≤ 99999
    · have e4 : (nI (g + t) ≤ 99999) = True := ni_le_t (b := 99999) hg (by decide)
      refine ⟨(T, τ, nt_bs T σ t, g + t, kp, L, tx), nI (g + t), fun Q hQ => ?_, fun Q hQ => ?_⟩
      · simp only [e78, s78_0, s78_1, s78_2, s78_5, s78_6, s78_9, s78_12, s78_14, s78_15, s78_16, s78_19, s78_20, s78_21, s78_23, s78_26, s78_28, s78_29, s78_30, s78_31, s78_34, s78_35, s78_38, s78_39, s78_42, s78_45, s78_46, s78_47, s78_50, s78_51, s78_52, s78_55, s78_56, s78_59, e1, e2, h8, nI_add, e4, false_implies, true_implies, not_true_eq_false, not_false_eq_true, true_and, and_true, true_or, or_true, false_or, or_false, false_and, and_false, implies_true, nw_psh_s, nw_psh_n, ni_10, ni_00]
        refine x_behind h1 h2 33 _ h6 (by omega) (fun s' hs' => ?_)
        simp only [e78, s78_0, s78_1, s78_2, s78_5, s78_6, s78_9, s78_12, s78_14, s78_15, s78_16, s78_19, s78_20, s78_21, s78_23, s78_26, s78_28, s78_29, s78_30, s78_31, s78_34, s78_35, s78_38, s78_39, s78_42, s78_45, s78_46, s78_47, s78_50, s78_51, s78_52, s78_55, s78_56, s78_59, nw_up_at, show ((6 : Nat) = 5) = False from eq_false (by decide), and_self, if_true, if_false, h8, nI_add, false_implies, true_implies, not_true_eq_false, not_false_eq_true, true_and, and_true, true_or, or_true, false_or, or_false, false_and, and_false, implies_true, nw_psh_s, nw_psh_n, ni_10, ni_00]
        exact hQ _ (nX_up06 (nX_up05 hX0 hs' (nt_bs_ok h1 h5 t)) hg)
      · simp only [e126, s126_0, s126_1, s126_2, s126_3, s126_6, s126_9, s126_12, s126_14, s126_15, s126_16, s126_19, s126_21, s126_22, s126_23, s126_24, s126_26, s126_29, s126_31, s126_32, s126_33, s126_35, s126_36, s126_39, s126_40, s126_41, s126_44, s126_47, s126_50, s126_51, s126_54, s126_56, s126_57, lw_1, lw_999, hin, e3, if_false, h13i, show (13 : Int32).toNatClampNeg = 13 from rfl, kg, nI_add, e4, false_implies, true_implies, not_true_eq_false, not_false_eq_true, true_and, and_true, true_or, or_true, false_or, or_false, false_and, and_false, implies_true, nw_psh_s, nw_psh_n, ni_10, ni_00]
        exact m_go_loop hM0 35 Q t ht hg hQ t 0 mm (by omega) hM0
    · have e4 : (nI (g + t) ≤ 99999) = False := ni_le_f (b := 99999) (by omega) (by omega)
      refine nP_same (r := -5) hX0 hM0 (fun Q hQ => ?_) (fun Q hQ => ?_)
      · simp only [e78, s78_0, s78_1, s78_2, s78_5, s78_6, s78_9, s78_12, s78_14, s78_15, s78_16, s78_19, s78_20, s78_21, s78_23, s78_26, s78_28, s78_29, s78_30, s78_31, s78_34, s78_35, s78_38, s78_39, s78_42, s78_45, s78_46, s78_47, s78_50, s78_51, s78_52, s78_55, s78_56, s78_59, e1, e2, h8, nI_add, e4, false_implies, true_implies, not_true_eq_false, not_false_eq_true, true_and, and_true, true_or, or_true, false_or, or_false, false_and, and_false, implies_true, nw_psh_s, nw_psh_n, ni_10, ni_00]
        exact hQ
      · simp only [e126, s126_0, s126_1, s126_2, s126_3, s126_6, s126_9, s126_12, s126_14, s126_15, s126_16, s126_19, s126_21, s126_22, s126_23, s126_24, s126_26, s126_29, s126_31, s126_32, s126_33, s126_35, s126_36, s126_39, s126_40, s126_41, s126_44, s126_47, s126_50, s126_51, s126_54, s126_56, s126_57, lw_1, lw_999, hin, e3, if_false, h13i, show (13 : Int32).toNatClampNeg = 13 from rfl, kg, nI_add, e4, false_implies, true_implies, not_true_eq_false, not_false_eq_true, true_and, and_true, true_or, or_true, false_or, or_false, false_and, and_false, implies_true, nw_psh_s, nw_psh_n, ni_10, ni_00]
        exact hQ mm (nm_sc_rf mm)
/-! corner -/
def nt_at (σ : nt_S) (c : Nat) : Nat → Int32
  | 0 => 0
  | k + 1 => if σ.2 k = c then nt_at σ c k ||| ((1 : Int32) <<< (nI k &&& 31)) else nt_at σ c k
theorem x_walkersAt_loop {T : nt_T} (hT : nt_ok T) {mem : nw_M} (hm : nx_T 4 T mem) {s : Int32} {σ : nt_S} (hs : nx_S s σ) (d : Nat) (Q : nw_K) {c : Nat} (hc : c < 8) (hQ : Q (some (.int (nt_at σ c (nt_m T)))) mem) :
    ∀ j k, k + j = nt_m T → nw_Ev (d + 1) nw_shX 29 Q 5 [some (.ref 4), some (.int s), some (.int (nI c)), some (.int (nt_at σ c k)), some (.int (nI k))] [] mem := by
  have h5 := hT.2.2.1
  intro j
  induction j with
  | zero =>
    intro k hk
    have hk' : k = nt_m T := by omega
    subst hk'
    rw [s29_5]
    simp only [e29, s29_0, s29_1, s29_2, s29_3, s29_7, s29_8, s29_11, s29_14, s29_15, s29_17, s29_20, s29_21, s29_24, s29_25, s29_26, s29_28, s29_29, s29_30, s29_31, s29_34, s29_37, s29_38, hm.2.1, ni_le_t (Nat.le_refl (nt_m T)) (show nt_m T < 2 ^ 31 by omega), false_implies, true_implies, not_true_eq_false, not_false_eq_true, true_and, and_true, true_or, or_true, false_or, or_false, false_and, and_false, implies_true, nw_psh_s, nw_psh_n, ni_10, ni_00]
    exact hQ
  | succ j ih =>
    intro k hk
    obtain ⟨hp1, hp2⟩ := hs.2.2 k (by omega)
    have h := ih (k + 1) (by omega)
    unfold nt_at at h
    rw [s29_5]
    by_cases he : σ.2 k = c
    · rw [if_pos he] at h
      simp only [e29, s29_0, s29_1, s29_2, s29_3, s29_7, s29_8, s29_11, s29_14, s29_15, s29_17, s29_20, s29_21, s29_24, s29_25, s29_26, s29_28, s29_29, s29_30, s29_31, s29_34, s29_37, s29_38, hm.2.1, ni_le_f (show k < nt_m T by omega) (show nt_m T < 2 ^ 31 by omega), x_placeOf, hp1, ni_eq_t he, nI_1, false_implies, true_implies, not_true_eq_false, not_false_eq_true, true_and, and_true, true_or, or_true, false_or, or_false, false_and, and_false, implies_true, nw_psh_s, nw_psh_n, ni_10, ni_00]
      exact h
    · rw [if_neg he] at h
      simp only [e29, s29_0, s29_1, s29_2, s29_3, s29_7, s29_8, s29_11, s29_14, s29_15, s29_17, s29_20, s29_21, s29_24, s29_25, s29_26, s29_28, s29_29, s29_30, s29_31, s29_34, s29_37, s29_38, hm.2.1, ni_le_f (show k < nt_m T by omega) (show nt_m T < 2 ^ 31 by omega), x_placeOf, hp1, ni_eq_f he (show σ.2 k < 2 ^ 31 by omega) (show c < 2 ^ 31 by omega), nI_1, false_implies, true_implies, not_true_eq_false, not_false_eq_true, true_and, and_true, true_or, or_true, false_or, or_false, false_and, and_false, implies_true, nw_psh_s, nw_psh_n, ni_10, ni_00]
      exact h
theorem x_walkersAt {T : nt_T} (hT : nt_ok T) {mem : nw_M} (hm : nx_T 4 T mem) {s : Int32} {σ : nt_S} (hs : nx_S s σ) (d : Nat) (Q : nw_K) {c : Nat} (hc : c < 8) (hQ : Q (some (.int (nt_at σ c (nt_m T)))) mem) : nw_Ex (d + 2) nw_shX 29 [.ref 4, .int s, .int (nI c)] mem Q := by
  simp only [e29, s29_0, s29_1, s29_2, s29_3, s29_7, s29_8, s29_11, s29_14, s29_15, s29_17, s29_20, s29_21, s29_24, s29_25, s29_26, s29_28, s29_29, s29_30, s29_31, s29_34, s29_37, s29_38]
  exact x_walkersAt_loop hT hm hs d Q hc hQ (nt_m T) 0 (by omega)
theorem m_vaneOf {T : nt_T} (hT : nt_ok T) {mem : nw_M} (hm : nm_T T mem) {b : Nat} {v : Nat → Nat} (hv : nm_V b v mem) (hb : b + 13 < 70) (d : Nat) (Q : nw_K) {c : Nat} (hc : c < 8) : nw_Ex (d + 1) nw_shM 119 [.ref 0, .int (nI b), .int (nI c)] mem Q = Q (some (.int (if nt_w T c = 0 then -1 else nI (v c)))) mem := by
  have hi : vp_in (nI c) 8 := vp_in_nI hc (by decide)
  have hi2 : vp_in (nI (b + c)) 70 := vp_in_nI (by omega) (by decide)
  have hw := hm.2.2.2.1 c hc
  have h4 := (hT.2.2.2 c).2.1
  by_cases h0 : nt_w T c = 0
  · simp only [e119, s119_0, s119_1, s119_4, s119_5, s119_6, s119_9, s119_10, s119_13, s119_14, s119_17, s119_18, s119_19, s119_20, s119_21, hi, ni_cl (show c < 2 ^ 31 by omega), hw, h0, show (nI 0 = 0) = True from eq_true rfl, if_true, false_implies, true_implies, not_true_eq_false, not_false_eq_true, true_and, and_true, true_or, or_true, false_or, or_false, false_and, and_false, implies_true, nw_psh_s, nw_psh_n, ni_10, ni_00]
  · simp only [e119, s119_0, s119_1, s119_4, s119_5, s119_6, s119_9, s119_10, s119_13, s119_14, s119_17, s119_18, s119_19, s119_20, s119_21, hi, hi2, nI_add, ni_cl (show c < 2 ^ 31 by omega), ni_cl (show b + c < 2 ^ 31 by omega), hw, ni_ne0 (show 0 < nt_w T c by omega) (show nt_w T c < 2 ^ 31 by omega), hv c hc, h0, if_false, false_implies, true_implies, not_true_eq_false, not_false_eq_true, true_and, and_true, true_or, or_true, false_or, or_false, false_and, and_false, implies_true, nw_psh_s, nw_psh_n, ni_10, ni_00]
theorem m_corner_loop {T : nt_T} (hT : nt_ok T) {mem : nw_M} (hm : nm_T T mem) {σ : nt_S} (hS : nm_S T 0 σ mem) (hσ : ∀ w, w < nt_m T → σ.2 w < nt_n T) (d : Nat) (Q : nw_K) {c : Nat} (hc : c < 8) (y : Int32) (hQ : nw_Ev d nw_shM 120 Q 56 [some (.ref 0), some (.int (nI c)), some (.int y), some (.int (nt_at σ c (nt_m T))), some (.int (nI (nt_m T)))] [] mem) :
    ∀ j k, k + j = nt_m T → nw_Ev d nw_shM 120 Q 16 [some (.ref 0), some (.int (nI c)), some (.int y), some (.int (nt_at σ c k)), some (.int (nI k))] [] mem := by
  have h5 := hT.2.2.1
  have h8 := hT.2.1
  intro j
  induction j with
  | zero =>
    intro k hk
    have hk' : k = nt_m T := by omega
    subst hk'
    rw [s120_16]
    simp only [e120, s120_0, s120_1, s120_2, s120_5, s120_8, s120_10, s120_11, s120_12, s120_13, s120_14, s120_18, s120_19, s120_22, s120_25, s120_26, s120_27, s120_30, s120_32, s120_34, s120_35, s120_36, s120_37, s120_40, s120_41, s120_43, s120_44, s120_47, s120_48, s120_49, s120_50, s120_53, s120_57, s120_60, s120_61, s120_64, s120_65, s120_66, s120_69, s120_70, s120_71, s120_74, s120_75, s120_78, s120_79, s120_80, s120_83, s120_84, s120_85, s120_88, s120_89, s120_90, s120_91, s120_94, s120_97, s120_98, s120_99, s120_102, s120_103, s120_106, s120_108, hm.2.1, ni_le_t (Nat.le_refl (nt_m T)) (show nt_m T < 2 ^ 31 by omega), false_implies, true_implies, not_true_eq_false, not_false_eq_true, true_and, and_true, true_or, or_true, false_or, or_false, false_and, and_false, implies_true, nw_psh_s, nw_psh_n, ni_10, ni_00]
    exact hQ
  | succ j ih =>
    intro k hk
    have hp := hS.2 k (by omega)
    rw [Nat.zero_add] at hp
    have hlt := hσ k (by omega)
    have e8 : (8 : Int32) + nI k = nI (8 + k) := nI_add 8 k
    have hi : vp_in (nI (8 + k)) 70 := vp_in_nI (by omega) (by decide)
    have h := ih (k + 1) (by omega)
    unfold nt_at at h
    rw [s120_16]
    by_cases he : σ.2 k = c
    · rw [if_pos he] at h
      simp only [e120, s120_0, s120_1, s120_2, s120_5, s120_8, s120_10, s120_11, s120_12, s120_13, s120_14, s120_18, s120_19, s120_22, s120_25, s120_26, s120_27, s120_30, s120_32, s120_34, s120_35, s120_36, s120_37, s120_40, s120_41, s120_43, s120_44, s120_47, s120_48, s120_49, s120_50, s120_53, s120_57, s120_60, s120_61, s120_64, s120_65, s120_66, s120_69, s120_70, s120_71, s120_74, s120_75, s120_78, s120_79, s120_80, s120_83, s120_84, s120_85, s120_88, s120_89, s120_90, s120_91, s120_94, s120_97, s120_98, s120_99, s120_102, s120_103, s120_106, s120_108, hm.2.1, ni_le_f (show k < nt_m T by omega) (show nt_m T < 2 ^ 31 by omega), e8, hi, ni_cl (show 8 + k < 2 ^ 31 by omega), hp, ni_eq_t he, nI_1, false_implies, true_implies, not_true_eq_false, not_false_eq_true, true_and, and_true, true_or, or_true, false_or, or_false, false_and, and_false, implies_true, nw_psh_s, nw_psh_n, ni_10, ni_00]
      exact h
    · rw [if_neg he] at h
      simp only [e120, s120_0, s120_1, s120_2, s120_5, s120_8, s120_10, s120_11, s120_12, s120_13, s120_14, s120_18, s120_19, s120_22, s120_25, s120_26, s120_27, s120_30, s120_32, s120_34, s120_35, s120_36, s120_37, s120_40, s120_41, s120_43, s120_44, s120_47, s120_48, s120_49, s120_50, s120_53, s120_57, s120_60, s120_61, s120_64, s120_65, s120_66, s120_69, s120_70, s120_71, s120_74, s120_75, s120_78, s120_79, s120_80, s120_83, s120_84, s120_85, s120_88, s120_89, s120_90, s120_91, s120_94, s120_97, s120_98, s120_99, s120_102, s120_103, s120_106, s120_108, hm.2.1, ni_le_f (show k < nt_m T by omega) (show nt_m T < 2 ^ 31 by omega), e8, hi, ni_cl (show 8 + k < 2 ^ 31 by omega), hp, ni_eq_f he (show σ.2 k < 2 ^ 31 by omega) (show c < 2 ^ 31 by omega), nI_1, Int32.or_zero, false_implies, true_implies, not_true_eq_false, not_false_eq_true, true_and, and_true, true_or, or_true, false_or, or_false, false_and, and_false, implies_true, nw_psh_s, nw_psh_n, ni_10, ni_00]
      exact h
theorem nts_out {pc : Nat} {d lo hi : Int} {offs : Array Int} {x : Int32} (h : x.toInt < lo ∨ hi < x.toInt) : nw_ts pc d lo hi offs x = nw_t pc d := if_pos h
theorem out_int {x : Int32} {n : Nat} (hn : n < 2 ^ 31) (h : x < 0 ∨ nI n ≤ x) : x.toInt < 0 ∨ (n : Int) ≤ x.toInt := by
  rcases h with h | h
  · left; rw [fa_lt] at h; exact h
  · right; rw [fa_le, nI_toInt hn] at h; exact h
theorem out_ne {x : Int32} {n : Nat} (hn : n < 2 ^ 31) (h : x < 0 ∨ nI n ≤ x) {j : Nat} (hj : j < n) : (x = nI j) = False := eq_false (fun z => by
  have := out_int hn h
  rw [z, nI_toInt (by omega)] at this
  omega)
theorem p_corner (A : nA) (x y : Int32) : nP2 A 74 120 [.int x, .int y] := by
  intro mx mm hX hM
  obtain ⟨T, τ, σ, g, kp, L, tx⟩ := A
  have hX0 := hX
  have hM0 := hM
  obtain ⟨h1, h2, h3, ⟨h5, h6⟩, ⟨h8, h9⟩, -⟩ := hX
  obtain ⟨-, k2, -, ⟨-, k4⟩, ⟨kg, kg9⟩, -⟩ := hM
  have h8n := h1.2.1
  rcases ix3 x (n := nt_n T) (by omega) with hx | ⟨c, hc, rfl⟩
  · refine nP_same (r := -2) hX0 hM0 (fun Q hQ => ?_) (fun Q hQ => ?_)
    · simp only [e74, s74_0, s74_1, s74_4, s74_5, s74_8, s74_11, s74_13, s74_14, s74_15, s74_44, s74_45, s74_48, s74_49, s74_52, s74_53, s74_54, s74_57, s74_58, s74_61, s74_62, s74_63, s74_66, s74_67, s74_70, s74_71, s74_74, s74_75, s74_76, s74_79, s74_80, s74_83, s74_84, s74_87, s74_88, s74_90, x_hasCorner_n (Or.inl rfl) h2 38 _ hx, false_implies, true_implies, not_true_eq_false, not_false_eq_true, true_and, and_true, true_or, or_true, false_or, or_false, false_and, and_false, implies_true, nw_psh_s, nw_psh_n, ni_10, ni_00]
      exact hQ
    · simp only [e120, s120_0, s120_1, s120_2, s120_5, s120_8, s120_10, s120_11, s120_12, s120_13, s120_14, s120_18, s120_19, s120_22, s120_25, s120_26, s120_27, s120_30, s120_32, s120_34, s120_35, s120_36, s120_37, s120_40, s120_41, s120_43, s120_44, s120_47, s120_48, s120_49, s120_50, s120_53, s120_56, s120_57, s120_60, s120_61, s120_64, s120_65, s120_66, s120_69, s120_70, s120_71, s120_74, s120_75, s120_78, s120_79, s120_80, s120_83, s120_84, s120_85, s120_88, s120_89, s120_90, s120_91, s120_94, s120_97, s120_98, s120_99, s120_102, s120_103, s120_106, s120_108, m_isCorner_n h1 k2 37 _ hx, false_implies, true_implies, not_true_eq_false, not_false_eq_true, true_and, and_true, true_or, or_true, false_or, or_false, false_and, and_false, implies_true, nw_psh_s, nw_psh_n, ni_10, ni_00]
      exact hQ mm (nm_sc_rf mm)
  · have hc8 : c < 8 := by omega
    have hi : vp_in (nI c) 8 := vp_in_nI hc8 (by decide)
    have hMr : ∀ Q : nw_K, nw_Ev 39 nw_shM 120 Q 56 [some (.ref 0), some (.int (nI c)), some (.int y), some (.int (nt_at σ c (nt_m T))), some (.int (nI (nt_m T)))] [] mm → nw_Ex 40 nw_shM 120 [.ref 0, .int (nI c), .int y] mm Q := by
      intro Q hQ
      simp only [e120, s120_0, s120_1, s120_2, s120_5, s120_8, s120_10, s120_11, s120_12, s120_13, s120_14, s120_18, s120_19, s120_22, s120_25, s120_26, s120_27, s120_30, s120_32, s120_34, s120_35, s120_36, s120_37, s120_40, s120_41, s120_43, s120_44, s120_47, s120_48, s120_49, s120_50, s120_53, s120_56, s120_57, s120_60, s120_61, s120_64, s120_65, s120_66, s120_69, s120_70, s120_71, s120_74, s120_75, s120_78, s120_79, s120_80, s120_83, s120_84, s120_85, s120_88, s120_89, s120_90, s120_91, s120_94, s120_97, s120_98, s120_99, s120_102, s120_103, s120_106, s120_108, m_isCorner_y h1 k2 37 _ hc, false_implies, true_implies, not_true_eq_false, not_false_eq_true, true_and, and_true, true_or, or_true, false_or, or_false, false_and, and_false, implies_true, nw_psh_s, nw_psh_n, ni_10, ni_00]
      exact m_corner_loop h1 k2 k4 h5.2 39 Q hc8 y hQ (nt_m T) 0 (by omega)
    have hXr : ∀ Q : nw_K, nw_Ev 39 nw_shX 74 Q (nw_ts 15 73 0 3 #[29, 38, 47, 60] y) [some (.ref 0), some (.int (nI c)), some (.int y)] [] mx → nw_Ex 40 nw_shX 74 [.ref 0, .int (nI c), .int y] mx Q := by
      intro Q hQ
      simp only [e74, s74_0, s74_1, s74_4, s74_5, s74_8, s74_11, s74_13, s74_14, s74_15, s74_44, s74_45, s74_48, s74_49, s74_52, s74_53, s74_54, s74_57, s74_58, s74_61, s74_62, s74_63, s74_66, s74_67, s74_70, s74_71, s74_74, s74_75, s74_76, s74_79, s74_80, s74_83, s74_84, s74_87, s74_88, s74_90, x_hasCorner_y (Or.inl rfl) h1 h2 38 _ hc, false_implies, true_implies, not_true_eq_false, not_false_eq_true, true_and, and_true, true_or, or_true, false_or, or_false, false_and, and_false, implies_true, nw_psh_s, nw_psh_n, ni_10, ni_00]
      exact hQ
    rcases ix3 y (n := 4) (by decide) with hy | ⟨a, ha, rfl⟩
    · refine nP_same (r := -3) hX0 hM0 (fun Q hQ => hXr Q ?_) (fun Q hQ => hMr Q ?_)
      · rw [nts_out (by have := out_int (by decide) hy; omega)]
        show nw_Ev 39 nw_shX 74 Q 88 _ _ _
        simp only [e74, s74_0, s74_1, s74_4, s74_5, s74_8, s74_11, s74_13, s74_14, s74_15, s74_44, s74_45, s74_48, s74_49, s74_52, s74_53, s74_54, s74_57, s74_58, s74_61, s74_62, s74_63, s74_66, s74_67, s74_70, s74_71, s74_74, s74_75, s74_76, s74_79, s74_80, s74_83, s74_84, s74_87, s74_88, s74_90]
        exact hQ
      · simp only [e120, s120_0, s120_1, s120_2, s120_5, s120_8, s120_10, s120_11, s120_12, s120_13, s120_14, s120_18, s120_19, s120_22, s120_25, s120_26, s120_27, s120_30, s120_32, s120_34, s120_35, s120_36, s120_37, s120_40, s120_41, s120_43, s120_44, s120_47, s120_48, s120_49, s120_50, s120_53, s120_56, s120_57, s120_60, s120_61, s120_64, s120_65, s120_66, s120_69, s120_70, s120_71, s120_74, s120_75, s120_78, s120_79, s120_80, s120_83, s120_84, s120_85, s120_88, s120_89, s120_90, s120_91, s120_94, s120_97, s120_98, s120_99, s120_102, s120_103, s120_106, s120_108, show (y = 0) = False from out_ne (by decide) hy (j := 0) (by decide), show (y = 1) = False from out_ne (by decide) hy (j := 1) (by decide), show (y = 2) = False from out_ne (by decide) hy (j := 2) (by decide), show (y = 3) = False from out_ne (by decide) hy (j := 3) (by decide), false_implies, true_implies, not_true_eq_false, not_false_eq_true, true_and, and_true, true_or, or_true, false_or, or_false, false_and, and_false, implies_true, nw_psh_s, nw_psh_n, ni_10, ni_00]
        exact hQ mm (nm_sc_rf mm)
    · have ha4 : a = 0 ∨ a = 1 ∨ a = 2 ∨ a = 3 := by omega
      rcases ha4 with rfl | rfl | rfl | rfl
      · refine nP_same (r := nI (nt_k T c)) hX0 hM0 (fun Q hQ => hXr Q ?_) (fun Q hQ => hMr Q ?_)
        · show nw_Ev 39 nw_shX 74 Q 44 _ _ _
          simp only [e74, s74_0, s74_1, s74_4, s74_5, s74_8, s74_11, s74_13, s74_14, s74_15, s74_44, s74_45, s74_48, s74_49, s74_52, s74_53, s74_54, s74_57, s74_58, s74_61, s74_62, s74_63, s74_66, s74_67, s74_70, s74_71, s74_74, s74_75, s74_76, s74_79, s74_80, s74_83, s74_84, s74_87, s74_88, s74_90, x_kindOf h2 38 _ hc8, false_implies, true_implies, not_true_eq_false, not_false_eq_true, true_and, and_true, true_or, or_true, false_or, or_false, false_and, and_false, implies_true, nw_psh_s, nw_psh_n, ni_10, ni_00]
          exact hQ
        · simp only [e120, s120_0, s120_1, s120_2, s120_5, s120_8, s120_10, s120_11, s120_12, s120_13, s120_14, s120_18, s120_19, s120_22, s120_25, s120_26, s120_27, s120_30, s120_32, s120_34, s120_35, s120_36, s120_37, s120_40, s120_41, s120_43, s120_44, s120_47, s120_48, s120_49, s120_50, s120_53, s120_56, s120_57, s120_60, s120_61, s120_64, s120_65, s120_66, s120_69, s120_70, s120_71, s120_74, s120_75, s120_78, s120_79, s120_80, s120_83, s120_84, s120_85, s120_88, s120_89, s120_90, s120_91, s120_94, s120_97, s120_98, s120_99, s120_102, s120_103, s120_106, s120_108, show (nI 0 = 0) = True from eq_true rfl, hi, ni_cl (show c < 2 ^ 31 by omega), k2.2.2.1 c hc8, false_implies, true_implies, not_true_eq_false, not_false_eq_true, true_and, and_true, true_or, or_true, false_or, or_false, false_and, and_false, implies_true, nw_psh_s, nw_psh_n, ni_10, ni_00]
          exact hQ mm (nm_sc_rf mm)
      · refine nP_same (r := nI (nt_w T c)) hX0 hM0 (fun Q hQ => hXr Q ?_) (fun Q hQ => hMr Q ?_)
        · show nw_Ev 39 nw_shX 74 Q 53 _ _ _
          simp only [e74, s74_0, s74_1, s74_4, s74_5, s74_8, s74_11, s74_13, s74_14, s74_15, s74_44, s74_45, s74_48, s74_49, s74_52, s74_53, s74_54, s74_57, s74_58, s74_61, s74_62, s74_63, s74_66, s74_67, s74_70, s74_71, s74_74, s74_75, s74_76, s74_79, s74_80, s74_83, s74_84, s74_87, s74_88, s74_90, x_waysOf (Or.inl rfl) h2 38 _ hc8, false_implies, true_implies, not_true_eq_false, not_false_eq_true, true_and, and_true, true_or, or_true, false_or, or_false, false_and, and_false, implies_true, nw_psh_s, nw_psh_n, ni_10, ni_00]
          exact hQ
        · simp only [e120, s120_0, s120_1, s120_2, s120_5, s120_8, s120_10, s120_11, s120_12, s120_13, s120_14, s120_18, s120_19, s120_22, s120_25, s120_26, s120_27, s120_30, s120_32, s120_34, s120_35, s120_36, s120_37, s120_40, s120_41, s120_43, s120_44, s120_47, s120_48, s120_49, s120_50, s120_53, s120_56, s120_57, s120_60, s120_61, s120_64, s120_65, s120_66, s120_69, s120_70, s120_71, s120_74, s120_75, s120_78, s120_79, s120_80, s120_83, s120_84, s120_85, s120_88, s120_89, s120_90, s120_91, s120_94, s120_97, s120_98, s120_99, s120_102, s120_103, s120_106, s120_108, show (nI 1 = 0) = False from eq_false (by decide), show (nI 1 = 1) = True from eq_true rfl, hi, ni_cl (show c < 2 ^ 31 by omega), k2.2.2.2.1 c hc8, false_implies, true_implies, not_true_eq_false, not_false_eq_true, true_and, and_true, true_or, or_true, false_or, or_false, false_and, and_false, implies_true, nw_psh_s, nw_psh_n, ni_10, ni_00]
          exact hQ mm (nm_sc_rf mm)
      · refine nP_same (r := if nt_w T c = 0 then -1 else nI (σ.1 c)) hX0 hM0 (fun Q hQ => hXr Q ?_) (fun Q hQ => hMr Q ?_)
        · show nw_Ev 39 nw_shX 74 Q 62 _ _ _
          simp only [e74, s74_0, s74_1, s74_4, s74_5, s74_8, s74_11, s74_13, s74_14, s74_15, s74_44, s74_45, s74_48, s74_49, s74_52, s74_53, s74_54, s74_57, s74_58, s74_61, s74_62, s74_63, s74_66, s74_67, s74_70, s74_71, s74_74, s74_75, s74_76, s74_79, s74_80, s74_83, s74_84, s74_87, s74_88, s74_90, x_shownVane h1 h2 37 _ h6 hc8, false_implies, true_implies, not_true_eq_false, not_false_eq_true, true_and, and_true, true_or, or_true, false_or, or_false, false_and, and_false, implies_true, nw_psh_s, nw_psh_n, ni_10, ni_00]
          exact hQ
        · have hv := fun Q' => m_vaneOf h1 k2 (b := 0) k4.1 (by decide) 38 Q' hc8
          simp only [e120, s120_0, s120_1, s120_2, s120_5, s120_8, s120_10, s120_11, s120_12, s120_13, s120_14, s120_18, s120_19, s120_22, s120_25, s120_26, s120_27, s120_30, s120_32, s120_34, s120_35, s120_36, s120_37, s120_40, s120_41, s120_43, s120_44, s120_47, s120_48, s120_49, s120_50, s120_53, s120_56, s120_57, s120_60, s120_61, s120_64, s120_65, s120_66, s120_69, s120_70, s120_71, s120_74, s120_75, s120_78, s120_79, s120_80, s120_83, s120_84, s120_85, s120_88, s120_89, s120_90, s120_91, s120_94, s120_97, s120_98, s120_99, s120_102, s120_103, s120_106, s120_108, show (nI 2 = 0) = False from eq_false (by decide), show (nI 2 = 1) = False from eq_false (by decide), show (nI 2 = 2) = True from eq_true rfl, false_implies, true_implies, not_true_eq_false, not_false_eq_true, true_and, and_true, true_or, or_true, false_or, or_false, false_and, and_false, implies_true, nw_psh_s, nw_psh_n, ni_10, ni_00]
          rw [show (0 : Int32) = nI 0 from rfl, hv]
          simp only [e120, s120_0, s120_1, s120_2, s120_5, s120_8, s120_10, s120_11, s120_12, s120_13, s120_14, s120_18, s120_19, s120_22, s120_25, s120_26, s120_27, s120_30, s120_32, s120_34, s120_35, s120_36, s120_37, s120_40, s120_41, s120_43, s120_44, s120_47, s120_48, s120_49, s120_50, s120_53, s120_56, s120_57, s120_60, s120_61, s120_64, s120_65, s120_66, s120_69, s120_70, s120_71, s120_74, s120_75, s120_78, s120_79, s120_80, s120_83, s120_84, s120_85, s120_88, s120_89, s120_90, s120_91, s120_94, s120_97, s120_98, s120_99, s120_102, s120_103, s120_106, s120_108, false_implies, true_implies, not_true_eq_false, not_false_eq_true, true_and, and_true, true_or, or_true, false_or, or_false, false_and, and_false, implies_true, nw_psh_s, nw_psh_n, ni_10, ni_00]
          exact hQ mm (nm_sc_rf mm)
      · refine nP_same (r := nt_at σ c (nt_m T)) hX0 hM0 (fun Q hQ => hXr Q ?_) (fun Q hQ => hMr Q ?_)
        · show nw_Ev 39 nw_shX 74 Q 75 _ _ _
          simp only [e74, s74_0, s74_1, s74_4, s74_5, s74_8, s74_11, s74_13, s74_14, s74_15, s74_44, s74_45, s74_48, s74_49, s74_52, s74_53, s74_54, s74_57, s74_58, s74_61, s74_62, s74_63, s74_66, s74_67, s74_70, s74_71, s74_74, s74_75, s74_76, s74_79, s74_80, s74_83, s74_84, s74_87, s74_88, s74_90, false_implies, true_implies, not_true_eq_false, not_false_eq_true, true_and, and_true, true_or, or_true, false_or, or_false, false_and, and_false, implies_true, nw_psh_s, nw_psh_n, ni_10, ni_00]
          refine x_walkersAt h1 h2 h6 37 _ hc8 ?_
          simp only [e74, s74_0, s74_1, s74_4, s74_5, s74_8, s74_11, s74_13, s74_14, s74_15, s74_44, s74_45, s74_48, s74_49, s74_52, s74_53, s74_54, s74_57, s74_58, s74_61, s74_62, s74_63, s74_66, s74_67, s74_70, s74_71, s74_74, s74_75, s74_76, s74_79, s74_80, s74_83, s74_84, s74_87, s74_88, s74_90, false_implies, true_implies, not_true_eq_false, not_false_eq_true, true_and, and_true, true_or, or_true, false_or, or_false, false_and, and_false, implies_true, nw_psh_s, nw_psh_n, ni_10, ni_00]
          exact hQ
        · simp only [e120, s120_0, s120_1, s120_2, s120_5, s120_8, s120_10, s120_11, s120_12, s120_13, s120_14, s120_18, s120_19, s120_22, s120_25, s120_26, s120_27, s120_30, s120_32, s120_34, s120_35, s120_36, s120_37, s120_40, s120_41, s120_43, s120_44, s120_47, s120_48, s120_49, s120_50, s120_53, s120_56, s120_57, s120_60, s120_61, s120_64, s120_65, s120_66, s120_69, s120_70, s120_71, s120_74, s120_75, s120_78, s120_79, s120_80, s120_83, s120_84, s120_85, s120_88, s120_89, s120_90, s120_91, s120_94, s120_97, s120_98, s120_99, s120_102, s120_103, s120_106, s120_108, show (nI 3 = 0) = False from eq_false (by decide), show (nI 3 = 1) = False from eq_false (by decide), show (nI 3 = 2) = False from eq_false (by decide), show (nI 3 = 3) = True from eq_true rfl, false_implies, true_implies, not_true_eq_false, not_false_eq_true, true_and, and_true, true_or, or_true, false_or, or_false, false_and, and_false, implies_true, nw_psh_s, nw_psh_n, ni_10, ni_00]
          exact hQ mm (nm_sc_rf mm)
