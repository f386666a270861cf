/-! QUICK: the class -/
theorem nb_or2 (a b x : Nat) : (a ||| b).testBit x = true ↔ (a.testBit x = true ∨ b.testBit x = true) := by rw [Nat.testBit_or, Bool.or_eq_true]
theorem nb_p2 (c x : Nat) : (2 ^ c).testBit x = true ↔ x = c := by
  rw [Nat.testBit_two_pow, decide_eq_true_iff]
  exact ⟨fun h => h.symm, fun h => h.symm⟩
theorem nb_lt2 {a b : Nat} (ha : a < 256) (hb : b < 256) : a ||| b < 256 := Nat.or_lt_two_pow (n := 8) ha hb
theorem nb_p_lt {c : Nat} (hc : c < 8) : 2 ^ c < 256 := by
  have h : 2 ^ c < 2 ^ 8 := Nat.pow_lt_pow_right (by decide) hc
  exact h
theorem nb_shl {c : Nat} (hc : c < 8) : (1 : Int32) <<< (nI c &&& 31) = nI (2 ^ c) := by
  have h := nb_or 0 hc
  rw [show nI 0 = (0 : Int32) from rfl, Int32.zero_or, Nat.zero_or] at h
  exact h
def nae (T : nt_T) (c : Nat) : Nat → Nat
  | 0 => 0
  | j + 1 => nae T c j ||| 2 ^ nt_e T c j
theorem nae_at (T : nt_T) (c x : Nat) : ∀ k, (nae T c k).testBit x = true ↔ ∃ j, j < k ∧ x = nt_e T c j
  | 0 => by
    show (Nat.testBit 0 x = true) ↔ _
    rw [Nat.zero_testBit]
    exact ⟨fun h => (by cases h), fun ⟨j, hj, _⟩ => by omega⟩
  | k + 1 => by
    show ((nae T c k ||| 2 ^ nt_e T c k).testBit x = true) ↔ _
    rw [nb_or2, nb_p2, nae_at T c x k]
    constructor
    · rintro (⟨j, hj, hx⟩ | hx)
      · exact ⟨j, by omega, hx⟩
      · exact ⟨k, by omega, hx⟩
    · rintro ⟨j, hj, hx⟩
      rcases Nat.lt_or_ge j k with q | q
      · exact Or.inl ⟨j, q, hx⟩
      · have : j = k := by omega
        subst this
        exact Or.inr hx
theorem nae_lt {T : nt_T} (hT : nt_ok T) (c : Nat) : ∀ k, k ≤ nt_w T c → nae T c k < 256
  | 0, _ => by show 0 < 256; decide
  | k + 1, h => by
    have h8 := hT.2.1
    have := (hT.2.2.2 c).2.2.2 k (by omega)
    exact nb_lt2 (nae_lt hT c k (by omega)) (nb_p_lt (by omega))
theorem x_allEnds {T : nt_T} (hT : nt_ok T) {mem : nw_M} (hm : nx_T 4 T mem) (d : Nat) (Q : nw_K) {c : Nat} (hc : c < 8) : nw_Ex (d + 4) nw_shX 50 [.ref 4, .int (nI c)] mem Q = Q (some (.int (nI (nae T c (nt_w T c))))) mem := by
  have h8 := hT.2.1
  have h4 := (hT.2.2.2 c).2.1
  have hwo := fun Q' => x_waysOf (Or.inl rfl) hm (d + 2) Q' (c := c) hc
  have hlp : ∀ j k, k + j = nt_w T c → nw_Ev (d + 3) nw_shX 50 Q 4 [some (.ref 4), some (.int (nI c)), some (.int (nI (nae T c k))), some (.int (nI k))] [] mem = Q (some (.int (nI (nae T c (nt_w T c))))) mem := by
    intro j
    induction j with
    | zero =>
      intro k hk
      have hk' : k = nt_w T c := by omega
      rw [hk', s50_4]
      simp only [e50, s50_0, s50_1, s50_2, s50_3, s50_5, s50_6, s50_7, s50_10, s50_13, s50_14, s50_15, s50_16, s50_17, s50_18, s50_21, s50_22, s50_23, s50_24, s50_27, s50_30, s50_31, hwo, ni_le_t (Nat.le_refl (nt_w T c)) (show nt_w T c < 2 ^ 31 by omega), false_implies, true_implies, not_true_eq_false, not_false_eq_true, true_and, and_true, true_or, or_true, false_or, or_false, false_and, and_false, implies_true, nw_psh_s, nw_psh_n, ni_10, ni_00]
    | succ j ih =>
      intro k hk
      have hh := ih (k + 1) (by omega)
      have he := (hT.2.2.2 c).2.2.2 k (by omega)
      have heo := fun Q' => x_endOf hT hm d Q' (c := c) (j := k) hc (by omega)
      have hor := nb_or (nae T c k) (c := nt_e T c k) (by omega)
      rw [s50_4]
      simp only [e50, s50_0, s50_1, s50_2, s50_3, s50_5, s50_6, s50_7, s50_10, s50_13, s50_14, s50_15, s50_16, s50_17, s50_18, s50_21, s50_22, s50_23, s50_24, s50_27, s50_30, s50_31, hwo, ni_le_f (show k < nt_w T c by omega) (show nt_w T c < 2 ^ 31 by omega), heo, hor, nI_1, false_implies, true_implies, not_true_eq_false, not_false_eq_true, true_and, and_true, true_or, or_true, false_or, or_false, false_and, and_false, implies_true, nw_psh_s, nw_psh_n, ni_10, ni_00]
      exact hh
  simp only [e50, s50_0, s50_1, s50_2, s50_3, s50_5, s50_6, s50_7, s50_10, s50_13, s50_14, s50_15, s50_16, s50_17, s50_18, s50_21, s50_22, s50_23, s50_24, s50_27, s50_30, s50_31, false_implies, true_implies, not_true_eq_false, not_false_eq_true, true_and, and_true, true_or, or_true, false_or, or_false, false_and, and_false, implies_true, nw_psh_s, nw_psh_n, ni_10, ni_00]
  exact hlp (nt_w T c) 0 (by omega)
def nn1 (T : nt_T) (K : Nat) (u : Nat → Nat) (R c : Nat) : Nat := if R.testBit c = true ∧ nt_left T c = true then (if K.testBit c then 2 ^ nt_e T c (nt_nv T c (u c)) else nae T c (nt_w T c)) else 0
def nnr (T : nt_T) (K : Nat) (u : Nat → Nat) (R : Nat) : Nat → Nat
  | 0 => 0
  | c + 1 => nnr T K u R c ||| nn1 T K u R c
def nrr (T : nt_T) (K : Nat) (u : Nat → Nat) (fr : Nat) : Nat → Nat
  | 0 => 2 ^ fr
  | b + 1 => nrr T K u fr b ||| nnr T K u (nrr T K u fr b) (nt_n T)
theorem nn1_at (T : nt_T) (K : Nat) (u : Nat → Nat) (R c x : Nat) : (nn1 T K u R c).testBit x = true ↔ (R.testBit c = true ∧ nEd T K u c x) := by
  unfold nn1 nEd
  by_cases h : R.testBit c = true ∧ nt_left T c = true
  · rw [if_pos h]
    by_cases hk : K.testBit c = true
    · rw [if_pos hk, if_pos hk, nb_p2]
      exact ⟨fun q => ⟨h.1, h.2, q⟩, fun q => q.2.2⟩
    · rw [if_neg hk, if_neg hk, nae_at]
      exact ⟨fun q => ⟨h.1, h.2, q⟩, fun q => q.2.2⟩
  · rw [if_neg h, Nat.zero_testBit]
    exact ⟨fun q => (by cases q), fun q => absurd ⟨q.1, q.2.1⟩ h⟩
theorem nnr_at (T : nt_T) (K : Nat) (u : Nat → Nat) (R x : Nat) : ∀ k, (nnr T K u R k).testBit x = true ↔ ∃ c, c < k ∧ R.testBit c = true ∧ nEd T K u c x
  | 0 => by
    show (Nat.testBit 0 x = true) ↔ _
    rw [Nat.zero_testBit]
    exact ⟨fun h => (by cases h), fun ⟨j, hj, _⟩ => by omega⟩
  | k + 1 => by
    show ((nnr T K u R k ||| nn1 T K u R k).testBit x = true) ↔ _
    rw [nb_or2, nn1_at, nnr_at T K u R x k]
    constructor
    · rintro (⟨j, hj, hx⟩ | hx)
      · exact ⟨j, by omega, hx⟩
      · exact ⟨k, by omega, hx⟩
    · rintro ⟨j, hj, hx⟩
      rcases Nat.lt_or_ge j k with q | q
      · exact Or.inl ⟨j, q, hx⟩
      · have : j = k := by omega
        subst this
        exact Or.inr hx
theorem nrr_at (T : nt_T) (K : Nat) (u : Nat → Nat) (fr : Nat) : ∀ b x, (nrr T K u fr b).testBit x = true ↔ nW T K u fr b x
  | 0, x => nb_p2 fr x
  | b + 1, x => by
    show ((nrr T K u fr b ||| nnr T K u (nrr T K u fr b) (nt_n T)).testBit x = true) ↔ _
    rw [nb_or2, nnr_at, nrr_at T K u fr b x]
    constructor
    · rintro (h | ⟨c, hc, h1, h2⟩)
      · exact Or.inl h
      · exact Or.inr ⟨c, hc, (nrr_at T K u fr b c).mp h1, h2⟩
    · rintro (h | ⟨c, hc, h1, h2⟩)
      · exact Or.inl h
      · exact Or.inr ⟨c, hc, (nrr_at T K u fr b c).mpr h1, h2⟩
theorem nn1_lt {T : nt_T} (hT : nt_ok T) (K : Nat) (u : Nat → Nat) (R c : Nat) : nn1 T K u R c < 256 := by
  have h8 := hT.2.1
  unfold nn1
  split
  · rename_i h
    split
    · have := (hT.2.2.2 c).2.2.2 _ (nt_nv_lt (x := u c) (nt_left_w h.2))
      exact nb_p_lt (by omega)
    · exact nae_lt hT c _ (Nat.le_refl _)
  · decide
theorem nnr_lt {T : nt_T} (hT : nt_ok T) (K : Nat) (u : Nat → Nat) (R : Nat) : ∀ k, nnr T K u R k < 256
  | 0 => by show 0 < 256; decide
  | k + 1 => nb_lt2 (nnr_lt hT K u R k) (nn1_lt hT K u R k)
theorem nrr_lt {T : nt_T} (hT : nt_ok T) (K : Nat) (u : Nat → Nat) {fr : Nat} (hfr : fr < 8) : ∀ b, nrr T K u fr b < 256
  | 0 => nb_p_lt hfr
  | b + 1 => nb_lt2 (nrr_lt hT K u hfr b) (nnr_lt hT K u _ _)
theorem x_nextR {T : nt_T} (hT : nt_ok T) {mem : nw_M} (hm : nx_T 4 T mem) (d : Nat) (Q : nw_K) {s : Int32} {σ : nt_S} (hs : nx_S s σ) {K R : Nat} (hK : K < 256) (hR : R < 256) : nw_Ex (d + 5) nw_shX 49 [.ref 4, .int s, .int (nI K), .int (nI R)] mem Q = Q (some (.int (nI (nnr T K σ.1 R (nt_n T))))) mem := by
  have h8 := hT.2.1
  have hn := hm.1
  have e10 : ((0 : Int32) = 1) = False := eq_false (by decide)
  have hlp : ∀ j k, k + j = nt_n T → nw_Ev (d + 4) nw_shX 49 Q 6 [some (.ref 4), some (.int s), some (.int (nI K)), some (.int (nI R)), some (.int (nI (nnr T K σ.1 R k))), some (.int (nI k))] [] mem = Q (some (.int (nI (nnr T K σ.1 R (nt_n T))))) mem := by
    intro j
    induction j with
    | zero =>
      intro k hk
      have hk' : k = nt_n T := by omega
      rw [hk', s49_6]
      simp only [e49, s49_0, s49_1, s49_3, s49_4, s49_8, s49_9, s49_12, s49_15, s49_16, s49_18, s49_19, s49_20, s49_21, s49_22, s49_25, s49_26, s49_28, s49_31, s49_34, s49_36, s49_37, s49_39, s49_40, s49_41, s49_42, s49_43, s49_46, s49_47, s49_48, s49_49, s49_50, s49_52, s49_55, s49_57, s49_60, s49_61, s49_64, s49_65, s49_67, s49_70, s49_71, s49_73, s49_76, s49_79, s49_81, hn, ni_le_t (Nat.le_refl (nt_n T)) (show nt_n T < 2 ^ 31 by omega), false_implies, true_implies, not_true_eq_false, not_false_eq_true, true_and, and_true, true_or, or_true, false_or, or_false, false_and, and_false, implies_true, nw_psh_s, nw_psh_n, ni_10, ni_00]
    | succ j ih =>
      intro k hk
      have hh := ih (k + 1) (by omega)
      have hle := ni_le_f (show k < nt_n T by omega) (show nt_n T < 2 ^ 31 by omega)
      have hlf := fun Q' => x_isLeft hT hm (d + 2) Q' (c := k) (by omega)
      have hh' : nw_Ev (d + 4) nw_shX 49 Q 6 [some (.ref 4), some (.int s), some (.int (nI K)), some (.int (nI R)), some (.int (nI (nnr T K σ.1 R k ||| nn1 T K σ.1 R k))), some (.int (nI (k + 1)))] [] mem = Q (some (.int (nI (nnr T K σ.1 R (nt_n T))))) mem := hh
      unfold nn1 at hh'
      rw [s49_6]
      by_cases hr : R.testBit k = true
      · by_cases hl : nt_left T k = true
        · rw [if_pos ⟨hr, hl⟩] at hh'
          have hw := nt_left_w hl
          by_cases hk1 : K.testBit k = true
          · rw [if_pos hk1] at hh'
            have htu := fun Q' => x_turned hT hm (d + 1) Q' hs (c := k) (by omega) hw
            have hS2 := ntun_S hT hs (c := k) (by omega) hw
            have hv1 : (ntu1 T σ k).1 k = nt_nv T k (σ.1 k) := by simp [ntu1, nf_up]
            have hsh := fun Q' => x_shownEnd hT hm d Q' hS2 (c := k) (by omega) (by rw [hv1]; exact nt_nv_lt hw)
            rw [hv1] at hsh
            have he := (hT.2.2.2 k).2.2.2 _ (nt_nv_lt (x := σ.1 k) hw)
            have hor := nb_or (nnr T K σ.1 R k) (c := nt_e T k (nt_nv T k (σ.1 k))) (by omega)
            simp only [e49, s49_0, s49_1, s49_3, s49_4, s49_8, s49_9, s49_12, s49_15, s49_16, s49_18, s49_19, s49_20, s49_21, s49_22, s49_25, s49_26, s49_28, s49_31, s49_34, s49_36, s49_37, s49_39, s49_40, s49_41, s49_42, s49_43, s49_46, s49_47, s49_48, s49_49, s49_50, s49_52, s49_55, s49_57, s49_60, s49_61, s49_64, s49_65, s49_67, s49_70, s49_71, s49_73, s49_76, s49_79, s49_81, hn, hle, nb_at hR (show k < 8 by omega), hr, if_true, hlf, hl, nb_at hK (show k < 8 by omega), hk1, htu, hsh, hor, nI_1, false_implies, true_implies, not_true_eq_false, not_false_eq_true, true_and, and_true, true_or, or_true, false_or, or_false, false_and, and_false, implies_true, nw_psh_s, nw_psh_n, ni_10, ni_00]
            exact hh'
          · rw [if_neg hk1] at hh'
            have hae := fun Q' => x_allEnds hT hm d Q' (c := k) (by omega)
            simp only [e49, s49_0, s49_1, s49_3, s49_4, s49_8, s49_9, s49_12, s49_15, s49_16, s49_18, s49_19, s49_20, s49_21, s49_22, s49_25, s49_26, s49_28, s49_31, s49_34, s49_36, s49_37, s49_39, s49_40, s49_41, s49_42, s49_43, s49_46, s49_47, s49_48, s49_49, s49_50, s49_52, s49_55, s49_57, s49_60, s49_61, s49_64, s49_65, s49_67, s49_70, s49_71, s49_73, s49_76, s49_79, s49_81, hn, hle, nb_at hR (show k < 8 by omega), hr, if_true, hlf, hl, nb_at hK (show k < 8 by omega), hk1, if_false, Bool.false_eq_true, e10, hae, fa_or, nI_1, false_implies, true_implies, not_true_eq_false, not_false_eq_true, true_and, and_true, true_or, or_true, false_or, or_false, false_and, and_false, implies_true, nw_psh_s, nw_psh_n, ni_10, ni_00]
            exact hh'
        · rw [if_neg (fun q => hl q.2), Nat.or_zero] at hh'
          simp only [e49, s49_0, s49_1, s49_3, s49_4, s49_8, s49_9, s49_12, s49_15, s49_16, s49_18, s49_19, s49_20, s49_21, s49_22, s49_25, s49_26, s49_28, s49_31, s49_34, s49_36, s49_37, s49_39, s49_40, s49_41, s49_42, s49_43, s49_46, s49_47, s49_48, s49_49, s49_50, s49_52, s49_55, s49_57, s49_60, s49_61, s49_64, s49_65, s49_67, s49_70, s49_71, s49_73, s49_76, s49_79, s49_81, hn, hle, nb_at hR (show k < 8 by omega), hr, if_true, hlf, hl, if_false, Bool.false_eq_true, nI_1, false_implies, true_implies, not_true_eq_false, not_false_eq_true, true_and, and_true, true_or, or_true, false_or, or_false, false_and, and_false, implies_true, nw_psh_s, nw_psh_n, ni_10, ni_00]
          exact hh'
      · rw [if_neg (fun q => hr q.1), Nat.or_zero] at hh'
        simp only [e49, s49_0, s49_1, s49_3, s49_4, s49_8, s49_9, s49_12, s49_15, s49_16, s49_18, s49_19, s49_20, s49_21, s49_22, s49_25, s49_26, s49_28, s49_31, s49_34, s49_36, s49_37, s49_39, s49_40, s49_41, s49_42, s49_43, s49_46, s49_47, s49_48, s49_49, s49_50, s49_52, s49_55, s49_57, s49_60, s49_61, s49_64, s49_65, s49_67, s49_70, s49_71, s49_73, s49_76, s49_79, s49_81, hn, hle, nb_at hR (show k < 8 by omega), hr, if_false, Bool.false_eq_true, e10, nI_1, false_implies, true_implies, not_true_eq_false, not_false_eq_true, true_and, and_true, true_or, or_true, false_or, or_false, false_and, and_false, implies_true, nw_psh_s, nw_psh_n, ni_10, ni_00]
        exact hh'
  simp only [e49, s49_0, s49_1, s49_3, s49_4, s49_8, s49_9, s49_12, s49_15, s49_16, s49_18, s49_19, s49_20, s49_21, s49_22, s49_25, s49_26, s49_28, s49_31, s49_34, s49_36, s49_37, s49_39, s49_40, s49_41, s49_42, s49_43, s49_46, s49_47, s49_48, s49_49, s49_50, s49_52, s49_55, s49_57, s49_60, s49_61, s49_64, s49_65, s49_67, s49_70, s49_71, s49_73, s49_76, s49_79, s49_81, false_implies, true_implies, not_true_eq_false, not_false_eq_true, true_and, and_true, true_or, or_true, false_or, or_false, false_and, and_false, implies_true, nw_psh_s, nw_psh_n, ni_10, ni_00]
  exact hlp (nt_n T) 0 (by omega)
/-- the fewest by first turns -/
def nDs (T : nt_T) (K : Nat) (u : Nat → Nat) (fr to : Nat) : Option Nat → Prop
  | none => ∀ b, b < 8 → ¬ nW T K u fr b to
  | some b => b < 8 ∧ nW T K u fr b to ∧ ∀ b', b' < b → ¬ nW T K u fr b' to
theorem nDs_uniq {T : nt_T} {K : Nat} {u : Nat → Nat} {fr to : Nat} {r r' : Option Nat} (h : nDs T K u fr to r) (h' : nDs T K u fr to r') : r = r' := by
  cases r with
  | none =>
    cases r' with
    | none => rfl
    | some b => exact absurd h'.2.1 (h b h'.1)
  | some a =>
    cases r' with
    | none => exact absurd h.2.1 (h' a h.1)
    | some b =>
      rcases Nat.lt_trichotomy a b with q | q | q
      · exact absurd h.2.1 (h'.2.2 a q)
      · rw [q]
      · exact absurd h'.2.1 (h.2.2 b q)
theorem x_dist {T : nt_T} (hT : nt_ok T) {mem : nw_M} (hm : nx_T 4 T mem) (d : Nat) (Q : nw_K) {s : Int32} {σ : nt_S} (hs : nx_S s σ) {K fr to : Nat} (hK : K < 256) (hfr : fr < 8) (hto : to < 8) (hQ : ∀ r, nDs T K σ.1 fr to r → Q (some (.int (nz_o r))) mem) : nw_Ex (d + 6) nw_shX 48 [.ref 4, .int s, .int (nI K), .int (nI fr), .int (nI to)] mem Q := by
  have e10 : ((0 : Int32) = 1) = False := eq_false (by decide)
  have hlp : ∀ j b, b + j = 8 → (∀ b', b' < b → ¬ nW T K σ.1 fr b' to) → nw_Ev (d + 5) nw_shX 48 Q 8 [some (.ref 4), some (.int s), some (.int (nI K)), some (.int (nI fr)), some (.int (nI to)), some (.int (nI (nrr T K σ.1 fr b))), some (.int (nI b))] [] mem := by
    intro j
    induction j with
    | zero =>
      intro b hb hn
      have hb' : b = 8 := by omega
      subst hb'
      rw [s48_8]
      simp only [e48, s48_0, s48_1, s48_2, s48_3, s48_5, s48_6, s48_10, s48_12, s48_15, s48_17, s48_19, s48_20, s48_21, s48_22, s48_23, s48_26, s48_28, s48_29, s48_31, s48_32, s48_33, s48_34, s48_36, s48_39, s48_40, s48_42, s48_45, s48_48, s48_49, show ((8 : Int32) ≤ nI 8) = True from eq_true (by decide), false_implies, true_implies, not_true_eq_false, not_false_eq_true, true_and, and_true, true_or, or_true, false_or, or_false, false_and, and_false, implies_true, nw_psh_s, nw_psh_n, ni_10, ni_00]
      exact hQ none hn
    | succ j ih =>
      intro b hb hn
      have hle : ((8 : Int32) ≤ nI b) = False := ni_le_f (a := 8) (by omega) (by decide)
      have hR := nrr_lt hT K σ.1 hfr b
      rw [s48_8]
      by_cases ht : (nrr T K σ.1 fr b).testBit to = true
      · simp only [e48, s48_0, s48_1, s48_2, s48_3, s48_5, s48_6, s48_10, s48_12, s48_15, s48_17, s48_19, s48_20, s48_21, s48_22, s48_23, s48_26, s48_28, s48_29, s48_31, s48_32, s48_33, s48_34, s48_36, s48_39, s48_40, s48_42, s48_45, s48_48, s48_49, hle, nb_at hR hto, ht, if_true, false_implies, true_implies, not_true_eq_false, not_false_eq_true, true_and, and_true, true_or, or_true, false_or, or_false, false_and, and_false, implies_true, nw_psh_s, nw_psh_n, ni_10, ni_00]
        exact hQ (some b) ⟨by omega, (nrr_at T K σ.1 fr b to).mp ht, hn⟩
      · have hnx := fun Q' => x_nextR hT hm d Q' hs hK hR
        simp only [e48, s48_0, s48_1, s48_2, s48_3, s48_5, s48_6, s48_10, s48_12, s48_15, s48_17, s48_19, s48_20, s48_21, s48_22, s48_23, s48_26, s48_28, s48_29, s48_31, s48_32, s48_33, s48_34, s48_36, s48_39, s48_40, s48_42, s48_45, s48_48, s48_49, hle, nb_at hR hto, ht, if_false, Bool.false_eq_true, e10, hnx, fa_or, nI_1, false_implies, true_implies, not_true_eq_false, not_false_eq_true, true_and, and_true, true_or, or_true, false_or, or_false, false_and, and_false, implies_true, nw_psh_s, nw_psh_n, ni_10, ni_00]
        refine ih (b + 1) (by omega) (fun b' hb' => ?_)
        rcases Nat.lt_or_ge b' b with q | q
        · exact hn b' q
        · have : b' = b := by omega
          subst this
          exact fun hw => ht ((nrr_at T K σ.1 fr b' to).mpr hw)
  simp only [e48, s48_0, s48_1, s48_2, s48_3, s48_5, s48_6, s48_10, s48_12, s48_15, s48_17, s48_19, s48_20, s48_21, s48_22, s48_23, s48_26, s48_28, s48_29, s48_31, s48_32, s48_33, s48_34, s48_36, s48_39, s48_40, s48_42, s48_45, s48_48, s48_49, nb_shl hfr, false_implies, true_implies, not_true_eq_false, not_false_eq_true, true_and, and_true, true_or, or_true, false_or, or_false, false_and, and_false, implies_true, nw_psh_s, nw_psh_n, ni_10, ni_00]
  exact hlp 8 0 (by omega) (fun b' hb' => by omega)
