/-! LATER, WHEN, OFTEN, MEET -/
/-- in how many beats p holds first, from b on, at most j later -/
def nt_ft (T : nt_T) (p : nt_S → Bool) : Nat → nt_S → Nat → Option Nat
  | 0, σ, b => if p σ then some b else none
  | j + 1, σ, b => if p σ then some b else nt_ft T p j (nt_b1 T σ) (b + 1)
def nz_o : Option Nat → Int32
  | some n => nI n
  | none => -1
theorem nt_ft_ok (T : nt_T) (p : nt_S → Bool) : ∀ j σ b n, nt_ft T p j σ b = some n → b ≤ n ∧ n ≤ b + j ∧ p (nt_bs T σ (n - b)) = true
  | 0, σ, b, n, h => by
    unfold nt_ft at h
    by_cases hp : p σ = true
    · rw [if_pos hp] at h; cases h; rw [Nat.sub_self]; exact ⟨Nat.le_refl _, Nat.le_refl _, hp⟩
    · rw [if_neg hp] at h; cases h
  | j + 1, σ, b, n, h => by
    unfold nt_ft at h
    by_cases hp : p σ = true
    · rw [if_pos hp] at h; cases h; rw [Nat.sub_self]; exact ⟨Nat.le_refl _, by omega, hp⟩
    · rw [if_neg hp] at h
      obtain ⟨h1, h2, h3⟩ := nt_ft_ok T p j (nt_b1 T σ) (b + 1) n h
      rw [nt_bs_1, show n - (b + 1) + 1 = n - b by omega] at h3
      exact ⟨by omega, by omega, h3⟩
theorem nt_bs_add (T : nt_T) (σ : nt_S) (a : Nat) : ∀ t, nt_bs T (nt_bs T σ a) t = nt_bs T σ (a + t)
  | 0 => rfl
  | t + 1 => by
    show nt_b1 T (nt_bs T (nt_bs T σ a) t) = nt_b1 T (nt_bs T σ (a + t))
    rw [nt_bs_add T σ a t]
def nt_isat (w c : Nat) (σ : nt_S) : Bool := decide (σ.2 w = c)
/-! the class -/
theorem x_firstAt_loop {T : nt_T} (hT : nt_ok T) {mem : nw_M} (hm : nx_T 4 T mem) (d : Nat) (Q : nw_K) (s0 : Int32) {w c most : Nat} (hw : w < 5) (hc : c < 8) (hmo : most < 2 ^ 30) :
    ∀ j b (σ : nt_S) (s : Int32), b + j = most → nx_S s σ → Q (some (.int (nz_o (nt_ft T (nt_isat w c) j σ b)))) mem → nw_Ev (d + 5) nw_shX 37 Q 6 [some (.ref 4), some (.int s0), some (.int (nI w)), some (.int (nI c)), some (.int (nI most)), some (.int s), some (.int (nI b))] [] mem := by
  intro j
  induction j with
  | zero =>
    intro b σ s hb hs hQ
    obtain ⟨hp1, hp2⟩ := hs.2.2 w hw
    unfold nt_ft at hQ
    rw [s37_6]
    by_cases he : σ.2 w = c
    · rw [if_pos (show nt_isat w c σ = true from decide_eq_true he)] at hQ
      simp only [e37, s37_0, s37_1, s37_3, s37_4, s37_8, s37_10, s37_13, s37_15, s37_16, s37_19, s37_20, s37_23, s37_25, s37_26, s37_27, s37_29, s37_32, s37_34, s37_37, s37_40, s37_41, ni_lt_f (show b ≤ most by omega) (show most < 2 ^ 31 by omega), x_placeOf, hp1, ni_eq_t he, false_implies, true_implies, not_true_eq_false, not_false_eq_true, true_and, and_true, true_or, or_true, false_or, or_false, false_and, and_false, implies_true, nw_psh_s, nw_psh_n, ni_10, ni_00]
      exact hQ
    · rw [if_neg (show ¬ nt_isat w c σ = true from fun q => he (of_decide_eq_true q))] at hQ
      simp only [e37, s37_0, s37_1, s37_3, s37_4, s37_8, s37_10, s37_13, s37_15, s37_16, s37_19, s37_20, s37_23, s37_25, s37_26, s37_27, s37_29, s37_32, s37_34, s37_37, s37_40, s37_41, ni_lt_f (show b ≤ most by omega) (show most < 2 ^ 31 by omega), x_placeOf, hp1, ni_eq_f he (show σ.2 w < 2 ^ 31 by omega) (show c < 2 ^ 31 by omega), false_implies, true_implies, not_true_eq_false, not_false_eq_true, true_and, and_true, true_or, or_true, false_or, or_false, false_and, and_false, implies_true, nw_psh_s, nw_psh_n, ni_10, ni_00]
      refine x_behindOne hT hm d _ hs (fun s' hs' => ?_)
      simp only [e37, s37_0, s37_1, s37_3, s37_4, s37_8, s37_10, s37_13, s37_15, s37_16, s37_19, s37_20, s37_23, s37_25, s37_26, s37_27, s37_29, s37_32, s37_34, s37_37, s37_40, s37_41, nI_1, false_implies, true_implies, not_true_eq_false, not_false_eq_true, true_and, and_true, true_or, or_true, false_or, or_false, false_and, and_false, implies_true, nw_psh_s, nw_psh_n, ni_10, ni_00]
      rw [s37_6]
      simp only [e37, s37_0, s37_1, s37_3, s37_4, s37_8, s37_10, s37_13, s37_15, s37_16, s37_19, s37_20, s37_23, s37_25, s37_26, s37_27, s37_29, s37_32, s37_34, s37_37, s37_40, s37_41, ni_lt_t (show most < b + 1 by omega) (show b + 1 < 2 ^ 31 by omega), false_implies, true_implies, not_true_eq_false, not_false_eq_true, true_and, and_true, true_or, or_true, false_or, or_false, false_and, and_false, implies_true, nw_psh_s, nw_psh_n, ni_10, ni_00]
      exact hQ
  | succ j ih =>
    intro b σ s hb hs hQ
    obtain ⟨hp1, hp2⟩ := hs.2.2 w hw
    unfold nt_ft at hQ
    rw [s37_6]
    by_cases he : σ.2 w = c
    · rw [if_pos (show nt_isat w c σ = true from decide_eq_true he)] at hQ
      simp only [e37, s37_0, s37_1, s37_3, s37_4, s37_8, s37_10, s37_13, s37_15, s37_16, s37_19, s37_20, s37_23, s37_25, s37_26, s37_27, s37_29, s37_32, s37_34, s37_37, s37_40, s37_41, ni_lt_f (show b ≤ most by omega) (show most < 2 ^ 31 by omega), x_placeOf, hp1, ni_eq_t he, false_implies, true_implies, not_true_eq_false, not_false_eq_true, true_and, and_true, true_or, or_true, false_or, or_false, false_and, and_false, implies_true, nw_psh_s, nw_psh_n, ni_10, ni_00]
      exact hQ
    · rw [if_neg (show ¬ nt_isat w c σ = true from fun q => he (of_decide_eq_true q))] at hQ
      simp only [e37, s37_0, s37_1, s37_3, s37_4, s37_8, s37_10, s37_13, s37_15, s37_16, s37_19, s37_20, s37_23, s37_25, s37_26, s37_27, s37_29, s37_32, s37_34, s37_37, s37_40, s37_41, ni_lt_f (show b ≤ most by omega) (show most < 2 ^ 31 by omega), x_placeOf, hp1, ni_eq_f he (show σ.2 w < 2 ^ 31 by omega) (show c < 2 ^ 31 by omega), false_implies, true_implies, not_true_eq_false, not_false_eq_true, true_and, and_true, true_or, or_true, false_or, or_false, false_and, and_false, implies_true, nw_psh_s, nw_psh_n, ni_10, ni_00]
      refine x_behindOne hT hm d _ hs (fun s' hs' => ?_)
      simp only [e37, s37_0, s37_1, s37_3, s37_4, s37_8, s37_10, s37_13, s37_15, s37_16, s37_19, s37_20, s37_23, s37_25, s37_26, s37_27, s37_29, s37_32, s37_34, s37_37, s37_40, s37_41, nI_1, false_implies, true_implies, not_true_eq_false, not_false_eq_true, true_and, and_true, true_or, or_true, false_or, or_false, false_and, and_false, implies_true, nw_psh_s, nw_psh_n, ni_10, ni_00]
      exact ih (b + 1) _ s' (by omega) hs' hQ
theorem x_firstAt {T : nt_T} (hT : nt_ok T) {mem : nw_M} (hm : nx_T 4 T mem) (d : Nat) (Q : nw_K) {s : Int32} {σ : nt_S} (hs : nx_S s σ) {w c most : Nat} (hw : w < 5) (hc : c < 8) (hmo : most < 2 ^ 30) (hQ : Q (some (.int (nz_o (nt_ft T (nt_isat w c) most σ 0)))) mem) : nw_Ex (d + 6) nw_shX 37 [.ref 4, .int s, .int (nI w), .int (nI c), .int (nI most)] mem Q := by
  simp only [e37, s37_0, s37_1, s37_3, s37_4, s37_8, s37_10, s37_13, s37_15, s37_16, s37_19, s37_20, s37_23, s37_25, s37_26, s37_27, s37_29, s37_32, s37_34, s37_37, s37_40, s37_41]
  exact x_firstAt_loop hT hm d Q s hw hc hmo most 0 σ s (by omega) hs hQ
def nt_tog (a b : Nat) (σ : nt_S) : Bool := decide (σ.2 a = σ.2 b)
theorem x_firstTog_loop {T : nt_T} (hT : nt_ok T) {mem : nw_M} (hm : nx_T 4 T mem) (d : Nat) (Q : nw_K) (s0 : Int32) {w c most : Nat} (hw : w < 5) (hc : c < 5) (hmo : most < 2 ^ 30) :
    ∀ j b (σ : nt_S) (s : Int32), b + j = most → nx_S s σ → Q (some (.int (nz_o (nt_ft T (nt_tog w c) j σ b)))) mem → nw_Ev (d + 5) nw_shX 39 Q 6 [some (.ref 4), some (.int s0), some (.int (nI w)), some (.int (nI c)), some (.int (nI most)), some (.int s), some (.int (nI b))] [] mem := by
  intro j
  induction j with
  | zero =>
    intro b σ s hb hs hQ
    obtain ⟨hp1, hp2⟩ := hs.2.2 w hw
    obtain ⟨hq1, hq2⟩ := hs.2.2 c hc
    unfold nt_ft at hQ
    rw [s39_6]
    by_cases he : σ.2 w = σ.2 c
    · rw [if_pos (show nt_tog w c σ = true from decide_eq_true he)] at hQ
      simp only [e39, s39_0, s39_1, s39_3, s39_4, s39_8, s39_10, s39_13, s39_15, s39_16, s39_19, s39_21, s39_22, s39_25, s39_28, s39_30, s39_31, s39_32, s39_34, s39_37, s39_39, s39_42, s39_45, s39_46, ni_lt_f (show b ≤ most by omega) (show most < 2 ^ 31 by omega), x_placeOf, hp1, hq1, ni_eq_t he, false_implies, true_implies, not_true_eq_false, not_false_eq_true, true_and, and_true, true_or, or_true, false_or, or_false, false_and, and_false, implies_true, nw_psh_s, nw_psh_n, ni_10, ni_00]
      exact hQ
    · rw [if_neg (show ¬ nt_tog w c σ = true from fun q => he (of_decide_eq_true q))] at hQ
      simp only [e39, s39_0, s39_1, s39_3, s39_4, s39_8, s39_10, s39_13, s39_15, s39_16, s39_19, s39_21, s39_22, s39_25, s39_28, s39_30, s39_31, s39_32, s39_34, s39_37, s39_39, s39_42, s39_45, s39_46, ni_lt_f (show b ≤ most by omega) (show most < 2 ^ 31 by omega), x_placeOf, hp1, hq1, ni_eq_f he (show σ.2 w < 2 ^ 31 by omega) (show σ.2 c < 2 ^ 31 by omega), false_implies, true_implies, not_true_eq_false, not_false_eq_true, true_and, and_true, true_or, or_true, false_or, or_false, false_and, and_false, implies_true, nw_psh_s, nw_psh_n, ni_10, ni_00]
      refine x_behindOne hT hm d _ hs (fun s' hs' => ?_)
      simp only [e39, s39_0, s39_1, s39_3, s39_4, s39_8, s39_10, s39_13, s39_15, s39_16, s39_19, s39_21, s39_22, s39_25, s39_28, s39_30, s39_31, s39_32, s39_34, s39_37, s39_39, s39_42, s39_45, s39_46, nI_1, false_implies, true_implies, not_true_eq_false, not_false_eq_true, true_and, and_true, true_or, or_true, false_or, or_false, false_and, and_false, implies_true, nw_psh_s, nw_psh_n, ni_10, ni_00]
      rw [s39_6]
      simp only [e39, s39_0, s39_1, s39_3, s39_4, s39_8, s39_10, s39_13, s39_15, s39_16, s39_19, s39_21, s39_22, s39_25, s39_28, s39_30, s39_31, s39_32, s39_34, s39_37, s39_39, s39_42, s39_45, s39_46, ni_lt_t (show most < b + 1 by omega) (show b + 1 < 2 ^ 31 by omega), false_implies, true_implies, not_true_eq_false, not_false_eq_true, true_and, and_true, true_or, or_true, false_or, or_false, false_and, and_false, implies_true, nw_psh_s, nw_psh_n, ni_10, ni_00]
      exact hQ
  | succ j ih =>
    intro b σ s hb hs hQ
    obtain ⟨hp1, hp2⟩ := hs.2.2 w hw
    obtain ⟨hq1, hq2⟩ := hs.2.2 c hc
    unfold nt_ft at hQ
    rw [s39_6]
    by_cases he : σ.2 w = σ.2 c
    · rw [if_pos (show nt_tog w c σ = true from decide_eq_true he)] at hQ
      simp only [e39, s39_0, s39_1, s39_3, s39_4, s39_8, s39_10, s39_13, s39_15, s39_16, s39_19, s39_21, s39_22, s39_25, s39_28, s39_30, s39_31, s39_32, s39_34, s39_37, s39_39, s39_42, s39_45, s39_46, ni_lt_f (show b ≤ most by omega) (show most < 2 ^ 31 by omega), x_placeOf, hp1, hq1, ni_eq_t he, false_implies, true_implies, not_true_eq_false, not_false_eq_true, true_and, and_true, true_or, or_true, false_or, or_false, false_and, and_false, implies_true, nw_psh_s, nw_psh_n, ni_10, ni_00]
      exact hQ
    · rw [if_neg (show ¬ nt_tog w c σ = true from fun q => he (of_decide_eq_true q))] at hQ
      simp only [e39, s39_0, s39_1, s39_3, s39_4, s39_8, s39_10, s39_13, s39_15, s39_16, s39_19, s39_21, s39_22, s39_25, s39_28, s39_30, s39_31, s39_32, s39_34, s39_37, s39_39, s39_42, s39_45, s39_46, ni_lt_f (show b ≤ most by omega) (show most < 2 ^ 31 by omega), x_placeOf, hp1, hq1, ni_eq_f he (show σ.2 w < 2 ^ 31 by omega) (show σ.2 c < 2 ^ 31 by omega), false_implies, true_implies, not_true_eq_false, not_false_eq_true, true_and, and_true, true_or, or_true, false_or, or_false, false_and, and_false, implies_true, nw_psh_s, nw_psh_n, ni_10, ni_00]
      refine x_behindOne hT hm d _ hs (fun s' hs' => ?_)
      simp only [e39, s39_0, s39_1, s39_3, s39_4, s39_8, s39_10, s39_13, s39_15, s39_16, s39_19, s39_21, s39_22, s39_25, s39_28, s39_30, s39_31, s39_32, s39_34, s39_37, s39_39, s39_42, s39_45, s39_46, nI_1, false_implies, true_implies, not_true_eq_false, not_false_eq_true, true_and, and_true, true_or, or_true, false_or, or_false, false_and, and_false, implies_true, nw_psh_s, nw_psh_n, ni_10, ni_00]
      exact ih (b + 1) _ s' (by omega) hs' hQ
theorem x_firstTog {T : nt_T} (hT : nt_ok T) {mem : nw_M} (hm : nx_T 4 T mem) (d : Nat) (Q : nw_K) {s : Int32} {σ : nt_S} (hs : nx_S s σ) {w c most : Nat} (hw : w < 5) (hc : c < 5) (hmo : most < 2 ^ 30) (hQ : Q (some (.int (nz_o (nt_ft T (nt_tog w c) most σ 0)))) mem) : nw_Ex (d + 6) nw_shX 39 [.ref 4, .int s, .int (nI w), .int (nI c), .int (nI most)] mem Q := by
  simp only [e39, s39_0, s39_1, s39_3, s39_4, s39_8, s39_10, s39_13, s39_15, s39_16, s39_19, s39_21, s39_22, s39_25, s39_28, s39_30, s39_31, s39_32, s39_34, s39_37, s39_39, s39_42, s39_45, s39_46]
  exact x_firstTog_loop hT hm d Q s hw hc hmo most 0 σ s (by omega) hs hQ
def nt_of (T : nt_T) (w c : Nat) (σ : nt_S) : Nat → Nat
  | 0 => 0
  | k + 1 => if (nt_bs T σ (k + 1)).2 w = c then nt_of T w c σ k + 1 else nt_of T w c σ k
theorem x_timesAt_loop {T : nt_T} (hT : nt_ok T) {mem : nw_M} (hm : nx_T 4 T mem) (d : Nat) (Q : nw_K) (s0 : Int32) {σ : nt_S} {w c t : Nat} (hw : w < 5) (hc : c < 8) (ht : t < 2 ^ 30) (hQ : Q (some (.int (nI (nt_of T w c σ t)))) mem) :
    ∀ j k (s : Int32), k + j = t → nx_S s (nt_bs T σ k) → nw_Ev (d + 5) nw_shX 38 Q 9 [some (.ref 4), some (.int s0), some (.int (nI w)), some (.int (nI c)), some (.int (nI t)), some (.int s), some (.int (nI (nt_of T w c σ k))), some (.int (nI k))] [] mem := by
  intro j
  induction j with
  | zero =>
    intro k s hk hs
    have hk' : k = t := by omega
    subst hk'
    rw [s38_9]
    simp only [e38, s38_0, s38_1, s38_3, s38_4, s38_6, s38_7, s38_11, s38_13, s38_16, s38_17, s38_19, s38_22, s38_24, s38_26, s38_27, s38_30, s38_31, s38_34, s38_37, s38_40, s38_43, s38_45, ni_le_t (Nat.le_refl k) (show k < 2 ^ 31 by omega), false_implies, true_implies, not_true_eq_false, not_false_eq_true, true_and, and_true, true_or, or_true, false_or, or_false, false_and, and_false, implies_true, nw_psh_s, nw_psh_n, ni_10, ni_00]
    exact hQ
  | succ j ih =>
    intro k s hk hs
    rw [s38_9]
    simp only [e38, s38_0, s38_1, s38_3, s38_4, s38_6, s38_7, s38_11, s38_13, s38_16, s38_17, s38_19, s38_22, s38_24, s38_26, s38_27, s38_30, s38_31, s38_34, s38_37, s38_40, s38_43, s38_45, ni_le_f (show k < t by omega) (show t < 2 ^ 31 by omega), false_implies, true_implies, not_true_eq_false, not_false_eq_true, true_and, and_true, true_or, or_true, false_or, or_false, false_and, and_false, implies_true, nw_psh_s, nw_psh_n, ni_10, ni_00]
    refine x_behindOne hT hm d _ hs (fun s' hs' => ?_)
    have h := ih (k + 1) s' (by omega) hs'
    obtain ⟨hp1, hp2⟩ := hs'.2.2 w hw
    unfold nt_of at h
    by_cases he : (nt_b1 T (nt_bs T σ k)).2 w = c
    · rw [if_pos (show (nt_bs T σ (k + 1)).2 w = c from he)] at h
      simp only [e38, s38_0, s38_1, s38_3, s38_4, s38_6, s38_7, s38_11, s38_13, s38_16, s38_17, s38_19, s38_22, s38_24, s38_26, s38_27, s38_30, s38_31, s38_34, s38_37, s38_40, s38_43, s38_45, x_placeOf, hp1, ni_eq_t he, nI_1, false_implies, true_implies, not_true_eq_false, not_false_eq_true, true_and, and_true, true_or, or_true, false_or, or_false, false_and, and_false, implies_true, nw_psh_s, nw_psh_n, ni_10, ni_00]
      exact h
    · rw [if_neg (show ¬ (nt_bs T σ (k + 1)).2 w = c from he)] at h
      simp only [e38, s38_0, s38_1, s38_3, s38_4, s38_6, s38_7, s38_11, s38_13, s38_16, s38_17, s38_19, s38_22, s38_24, s38_26, s38_27, s38_30, s38_31, s38_34, s38_37, s38_40, s38_43, s38_45, x_placeOf, hp1, ni_eq_f he (show (nt_b1 T (nt_bs T σ k)).2 w < 2 ^ 31 by omega) (show c < 2 ^ 31 by omega), nI_1, false_implies, true_implies, not_true_eq_false, not_false_eq_true, true_and, and_true, true_or, or_true, false_or, or_false, false_and, and_false, implies_true, nw_psh_s, nw_psh_n, ni_10, ni_00]
      exact h
theorem x_timesAt {T : nt_T} (hT : nt_ok T) {mem : nw_M} (hm : nx_T 4 T mem) (d : Nat) (Q : nw_K) {s : Int32} {σ : nt_S} (hs : nx_S s σ) {w c t : Nat} (hw : w < 5) (hc : c < 8) (ht : t < 2 ^ 30) (hQ : Q (some (.int (nI (nt_of T w c σ t)))) mem) : nw_Ex (d + 6) nw_shX 38 [.ref 4, .int s, .int (nI w), .int (nI c), .int (nI t)] mem Q := by
  simp only [e38, s38_0, s38_1, s38_3, s38_4, s38_6, s38_7, s38_11, s38_13, s38_16, s38_17, s38_19, s38_22, s38_24, s38_26, s38_27, s38_30, s38_31, s38_34, s38_37, s38_40, s38_43, s38_45]
  exact x_timesAt_loop hT hm d Q s hw hc ht hQ t 0 s (by omega) hs
theorem x_isEither (d : Nat) (Q : nw_K) (x : Int32) (mem : nw_M) : nw_Ex (d + 1) nw_shX 95 [.int x] mem Q = Q (some (.int (if x < 0 ∨ (1 : Int32) < x then 0 else 1))) mem := by
  rcases ix3 x (n := 2) (by decide) with hx | ⟨k, hk, rfl⟩
  · simp only [e95, s95_0, s95_1, s95_4, s95_5, s95_6, s95_9, s95_10, s95_13, s95_14, show (x = 0) = False from out_ne (by decide) hx (j := 0) (by decide), show (x = 1) = False from out_ne (by decide) hx (j := 1) (by decide), show (x < 0 ∨ (1 : Int32) < x) = True from in_lit_out (n := 1) (by decide) hx, if_true, false_implies, true_implies, not_true_eq_false, not_false_eq_true, true_and, and_true, true_or, or_true, false_or, or_false, false_and, and_false, implies_true, nw_psh_s, nw_psh_n, ni_10, ni_00]
  · have hk2 : k = 0 ∨ k = 1 := by omega
    rcases hk2 with rfl | rfl
    · simp only [e95, s95_0, s95_1, s95_4, s95_5, s95_6, s95_9, s95_10, s95_13, s95_14, show (nI 0 = 0) = True from eq_true rfl, show (nI 0 < 0 ∨ (1 : Int32) < nI 0) = False from eq_false (by decide), if_false, false_implies, true_implies, not_true_eq_false, not_false_eq_true, true_and, and_true, true_or, or_true, false_or, or_false, false_and, and_false, implies_true, nw_psh_s, nw_psh_n, ni_10, ni_00]
    · simp only [e95, s95_0, s95_1, s95_4, s95_5, s95_6, s95_9, s95_10, s95_13, s95_14, show (nI 1 = 0) = False from eq_false (by decide), show (nI 1 = 1) = True from eq_true rfl, show (nI 1 < 0 ∨ (1 : Int32) < nI 1) = False from eq_false (by decide), if_false, false_implies, true_implies, not_true_eq_false, not_false_eq_true, true_and, and_true, true_or, or_true, false_or, or_false, false_and, and_false, implies_true, nw_psh_s, nw_psh_n, ni_10, ni_00]
/-! the reference, on what it tries -/
def nm_tr (T : nt_T) (mm : nw_M) (σ : nt_S) (m1 : nw_M) : Prop := nm_sc mm m1 ∧ nm_S T 42 σ m1
theorem m_try {T : nt_T} (hT : nt_ok T) {mm : nw_M} {σ : nt_S} (hS : nm_S T 0 σ mm) (d : Nat) (Q : nw_K) (hQ : ∀ m1, nm_tr T mm σ m1 → Q none m1) : nw_Ex (d + 1) nw_shM 98 [.ref 0, .int 0, .int 3] mm Q :=
  m_copy (a := 0) (b := 3) (by decide) (by decide) (by decide) d Q (hQ _ ⟨nm_sc_fr (nm_cp_fr _ 42 mm), nm_cp_S hT (a := 0) (b := 42) hS⟩)
theorem m_beat42 {T : nt_T} (hT : nt_ok T) {mm : nw_M} (hm : nm_T T mm) {σ : nt_S} (hok : nt_sok T σ) {m1 : nw_M} (h : nm_tr T mm σ m1) (d : Nat) (Q : nw_K) (hQ : ∀ m2, nm_tr T mm (nt_b1 T σ) m2 → Q none m2) : nw_Ex (d + 4) nw_shM 125 [.ref 0, .int 42] m1 Q :=
  m_beat hT (nm_T_sc hm h.1) (b := 42) (by decide) hok h.2 d Q (fun m2 hS hf _ => hQ m2 ⟨nm_sc_tr h.1 (nm_sc_fr hf), hS⟩)
theorem m_firstAt_loop {T : nt_T} (hT : nt_ok T) {mm : nw_M} (hm : nm_T T mm) (d : Nat) (Q : nw_K) {w c most : Nat} (hw : w < nt_m T) (hc : c < 8) (hmo : most < 2 ^ 30) :
    ∀ j b (σ : nt_S) m1, b + j = most → nt_sok T σ → nm_tr T mm σ m1 → (∀ m2, nm_sc mm m2 → Q (some (.int (nz_o (nt_ft T (nt_isat w c) j σ b)))) m2) → nw_Ev (d + 4) nw_shM 132 Q 3 [some (.ref 0), some (.int (nI w)), some (.int (nI c)), some (.int (nI most)), some (.int (nI b))] [] m1 := by
  have h5 := hT.2.2.1
  have h8 := hT.2.1
  intro j
  induction j with
  | zero =>
    intro b σ m1 hb hok h hQ
    have hp := h.2.2 w hw
    have hlt := hok.2 w hw
    have hz : (50 : Int32) + nI w = nI (50 + w) := nI_add 50 w
    have hi : vp_in (nI (50 + w)) 70 := vp_in_nI (by omega) (by decide)
    unfold nt_ft at hQ
    have hq := hQ m1 h.1
    rw [s132_3]
    by_cases he : σ.2 w = c
    · rw [if_pos (show nt_isat w c σ = true from decide_eq_true he)] at hq
      simp only [e132, s132_0, s132_1, s132_5, s132_6, s132_9, s132_10, s132_13, s132_15, s132_16, s132_17, s132_18, s132_19, s132_22, s132_23, s132_25, s132_28, s132_31, s132_34, s132_35, s132_38, s132_40, s132_41, s132_42, s132_43, s132_44, s132_47, s132_49, s132_52, s132_53, ni_le_t (show most ≤ b by omega) (show b < 2 ^ 31 by omega), hz, hi, ni_cl (show 50 + w < 2 ^ 31 by omega), hp, ni_eq_t he, false_implies, true_implies, not_true_eq_false, not_false_eq_true, true_and, and_true, true_or, or_true, false_or, or_false, false_and, and_false, implies_true, nw_psh_s, nw_psh_n, ni_10, ni_00]
      exact hq
    · rw [if_neg (show ¬ nt_isat w c σ = true from fun q => he (of_decide_eq_true q))] at hq
      simp only [e132, s132_0, s132_1, s132_5, s132_6, s132_9, s132_10, s132_13, s132_15, s132_16, s132_17, s132_18, s132_19, s132_22, s132_23, s132_25, s132_28, s132_31, s132_34, s132_35, s132_38, s132_40, s132_41, s132_42, s132_43, s132_44, s132_47, s132_49, s132_52, s132_53, ni_le_t (show most ≤ b by omega) (show b < 2 ^ 31 by omega), hz, hi, ni_cl (show 50 + w < 2 ^ 31 by omega), hp, ni_eq_f he (show σ.2 w < 2 ^ 31 by omega) (show c < 2 ^ 31 by omega), false_implies, true_implies, not_true_eq_false, not_false_eq_true, true_and, and_true, true_or, or_true, false_or, or_false, false_and, and_false, implies_true, nw_psh_s, nw_psh_n, ni_10, ni_00]
      exact hq
  | succ j ih =>
    intro b σ m1 hb hok h hQ
    have hp := h.2.2 w hw
    have hlt := hok.2 w hw
    have hz : (50 : Int32) + nI w = nI (50 + w) := nI_add 50 w
    have hi : vp_in (nI (50 + w)) 70 := vp_in_nI (by omega) (by decide)
    unfold nt_ft at hQ
    rw [s132_3]
    by_cases he : σ.2 w = c
    · have hq := hQ m1 h.1
      rw [if_pos (show nt_isat w c σ = true from decide_eq_true he)] at hq
      simp only [e132, s132_0, s132_1, s132_5, s132_6, s132_9, s132_10, s132_13, s132_15, s132_16, s132_17, s132_18, s132_19, s132_22, s132_23, s132_25, s132_28, s132_31, s132_34, s132_35, s132_38, s132_40, s132_41, s132_42, s132_43, s132_44, s132_47, s132_49, s132_52, s132_53, ni_le_f (show b < most by omega) (show most < 2 ^ 31 by omega), hz, hi, ni_cl (show 50 + w < 2 ^ 31 by omega), hp, ni_eq_t he, false_implies, true_implies, not_true_eq_false, not_false_eq_true, true_and, and_true, true_or, or_true, false_or, or_false, false_and, and_false, implies_true, nw_psh_s, nw_psh_n, ni_10, ni_00]
      exact hq
    · rw [if_neg (show ¬ nt_isat w c σ = true from fun q => he (of_decide_eq_true q))] at hQ
      simp only [e132, s132_0, s132_1, s132_5, s132_6, s132_9, s132_10, s132_13, s132_15, s132_16, s132_17, s132_18, s132_19, s132_22, s132_23, s132_25, s132_28, s132_31, s132_34, s132_35, s132_38, s132_40, s132_41, s132_42, s132_43, s132_44, s132_47, s132_49, s132_52, s132_53, ni_le_f (show b < most by omega) (show most < 2 ^ 31 by omega), hz, hi, ni_cl (show 50 + w < 2 ^ 31 by omega), hp, ni_eq_f he (show σ.2 w < 2 ^ 31 by omega) (show c < 2 ^ 31 by omega), false_implies, true_implies, not_true_eq_false, not_false_eq_true, true_and, and_true, true_or, or_true, false_or, or_false, false_and, and_false, implies_true, nw_psh_s, nw_psh_n, ni_10, ni_00]
      refine m_beat42 hT hm hok h d _ (fun m2 h2 => ?_)
      simp only [e132, s132_0, s132_1, s132_5, s132_6, s132_9, s132_10, s132_13, s132_15, s132_16, s132_17, s132_18, s132_19, s132_22, s132_23, s132_25, s132_28, s132_31, s132_34, s132_35, s132_38, s132_40, s132_41, s132_42, s132_43, s132_44, s132_47, s132_49, s132_52, s132_53, nI_1, false_implies, true_implies, not_true_eq_false, not_false_eq_true, true_and, and_true, true_or, or_true, false_or, or_false, false_and, and_false, implies_true, nw_psh_s, nw_psh_n, ni_10, ni_00]
      exact ih (b + 1) _ m2 (by omega) (nt_b1_ok hT hok) h2 hQ
theorem m_firstAt {T : nt_T} (hT : nt_ok T) {mm : nw_M} (hm : nm_T T mm) (d : Nat) (Q : nw_K) {w c most : Nat} (hw : w < nt_m T) (hc : c < 8) (hmo : most < 2 ^ 30) {σ : nt_S} {m1 : nw_M} (hok : nt_sok T σ) (h : nm_tr T mm σ m1) (hQ : ∀ m2, nm_sc mm m2 → Q (some (.int (nz_o (nt_ft T (nt_isat w c) most σ 0)))) m2) : nw_Ex (d + 5) nw_shM 132 [.ref 0, .int (nI w), .int (nI c), .int (nI most)] m1 Q := by
  simp only [e132, s132_0, s132_1, s132_5, s132_6, s132_9, s132_10, s132_13, s132_15, s132_16, s132_17, s132_18, s132_19, s132_22, s132_23, s132_25, s132_28, s132_31, s132_34, s132_35, s132_38, s132_40, s132_41, s132_42, s132_43, s132_44, s132_47, s132_49, s132_52, s132_53]
  exact m_firstAt_loop hT hm d Q hw hc hmo most 0 σ m1 (by omega) hok h hQ
theorem p_when (A : nA) (x y : Int32) : nP2 A 84 133 [.int x, .int y] := by
  intro mx mm hX hM
  obtain ⟨T, τ, σ, g, kp, L, tx⟩ := A
  have hX0 := hX
  have hM0 := hM
  obtain ⟨h1, h2, h3, ⟨h5, h6⟩, -⟩ := hX
  obtain ⟨-, k2, -, ⟨-, k4⟩, -⟩ := hM
  have h8 := h1.2.1
  have hm5 := h1.2.2.1
  rcases ix3 x (n := nt_m T) (by omega) with hx | ⟨w, hw, rfl⟩
  · refine nP_same (r := -2) hX0 hM0 (fun Q hQ => ?_) (fun Q hQ => ?_)
    · simp only [e84, s84_0, s84_1, s84_4, s84_5, s84_8, s84_11, s84_12, s84_15, s84_16, s84_19, s84_22, s84_24, s84_25, s84_26, s84_29, s84_30, s84_33, s84_34, s84_35, s84_38, s84_41, x_hasWalker_n h2 38 _ hx, false_implies, true_implies, not_true_eq_false, not_false_eq_true, true_and, and_true, true_or, or_true, false_or, or_false, false_and, and_false, implies_true, nw_psh_s, nw_psh_n, ni_10, ni_00]
      exact hQ
    · simp only [e133, s133_0, s133_1, s133_2, s133_5, s133_8, s133_9, s133_10, s133_13, s133_16, s133_18, s133_19, s133_20, s133_21, s133_22, s133_25, s133_26, s133_27, s133_28, s133_31, s133_34, m_isWalker_n h1 k2 37 _ hx, false_implies, true_implies, not_true_eq_false, not_false_eq_true, true_and, and_true, true_or, or_true, false_or, or_false, false_and, and_false, implies_true, nw_psh_s, nw_psh_n, ni_10, ni_00]
      exact hQ mm (nm_sc_rf mm)
  · rcases ix3 y (n := nt_n T) (by omega) with hy | ⟨c, hc, rfl⟩
    · refine nP_same (r := -2) hX0 hM0 (fun Q hQ => ?_) (fun Q hQ => ?_)
      · simp only [e84, s84_0, s84_1, s84_4, s84_5, s84_8, s84_11, s84_12, s84_15, s84_16, s84_19, s84_22, s84_24, s84_25, s84_26, s84_29, s84_30, s84_33, s84_34, s84_35, s84_38, s84_41, x_hasWalker_y h1 h2 38 _ hw, x_hasCorner_n (Or.inl rfl) h2 38 _ hy, false_implies, true_implies, not_true_eq_false, not_false_eq_true, true_and, and_true, true_or, or_true, false_or, or_false, false_and, and_false, implies_true, nw_psh_s, nw_psh_n, ni_10, ni_00]
        exact hQ
      · simp only [e133, s133_0, s133_1, s133_2, s133_5, s133_8, s133_9, s133_10, s133_13, s133_16, s133_18, s133_19, s133_20, s133_21, s133_22, s133_25, s133_26, s133_27, s133_28, s133_31, s133_34, m_isWalker_y h1 k2 37 _ hw, m_isCorner_n h1 k2 37 _ hy, false_implies, true_implies, not_true_eq_false, not_false_eq_true, true_and, and_true, true_or, or_true, false_or, or_false, false_and, and_false, implies_true, nw_psh_s, nw_psh_n, ni_10, ni_00]
        exact hQ mm (nm_sc_rf mm)
    · refine nP_same (r := nz_o (nt_ft T (nt_isat w c) 999 σ 0)) hX0 hM0 (fun Q hQ => ?_) (fun Q hQ => ?_)
      · simp only [e84, s84_0, s84_1, s84_4, s84_5, s84_8, s84_11, s84_12, s84_15, s84_16, s84_19, s84_22, s84_24, s84_25, s84_26, s84_29, s84_30, s84_33, s84_34, s84_35, s84_38, s84_41, x_hasWalker_y h1 h2 38 _ hw, x_hasCorner_y (Or.inl rfl) h1 h2 38 _ hc, false_implies, true_implies, not_true_eq_false, not_false_eq_true, true_and, and_true, true_or, or_true, false_or, or_false, false_and, and_false, implies_true, nw_psh_s, nw_psh_n, ni_10, ni_00]
        refine x_firstAt h1 h2 33 _ h6 (most := 999) (by omega) (by omega) (by decide) ?_
        simp only [e84, s84_0, s84_1, s84_4, s84_5, s84_8, s84_11, s84_12, s84_15, s84_16, s84_19, s84_22, s84_24, s84_25, s84_26, s84_29, s84_30, s84_33, s84_34, s84_35, s84_38, s84_41, false_implies, true_implies, not_true_eq_false, not_false_eq_true, true_and, and_true, true_or, or_true, false_or, or_false, false_and, and_false, implies_true, nw_psh_s, nw_psh_n, ni_10, ni_00]
        exact hQ
      · simp only [e133, s133_0, s133_1, s133_2, s133_5, s133_8, s133_9, s133_10, s133_13, s133_16, s133_18, s133_19, s133_20, s133_21, s133_22, s133_25, s133_26, s133_27, s133_28, s133_31, s133_34, m_isWalker_y h1 k2 37 _ hw, m_isCorner_y h1 k2 37 _ hc, false_implies, true_implies, not_true_eq_false, not_false_eq_true, true_and, and_true, true_or, or_true, false_or, or_false, false_and, and_false, implies_true, nw_psh_s, nw_psh_n, ni_10, ni_00]
        refine m_try h1 k4 38 _ (fun m1 ht => ?_)
        simp only [e133, s133_0, s133_1, s133_2, s133_5, s133_8, s133_9, s133_10, s133_13, s133_16, s133_18, s133_19, s133_20, s133_21, s133_22, s133_25, s133_26, s133_27, s133_28, s133_31, s133_34, false_implies, true_implies, not_true_eq_false, not_false_eq_true, true_and, and_true, true_or, or_true, false_or, or_false, false_and, and_false, implies_true, nw_psh_s, nw_psh_n, ni_10, ni_00]
        refine m_firstAt h1 k2 34 _ (most := 999) hw (by omega) (by decide) h5 ht (fun m2 hs => ?_)
        simp only [e133, s133_0, s133_1, s133_2, s133_5, s133_8, s133_9, s133_10, s133_13, s133_16, s133_18, s133_19, s133_20, s133_21, s133_22, s133_25, s133_26, s133_27, s133_28, s133_31, s133_34, false_implies, true_implies, not_true_eq_false, not_false_eq_true, true_and, and_true, true_or, or_true, false_or, or_false, false_and, and_false, implies_true, nw_psh_s, nw_psh_n, ni_10, ni_00]
        exact hQ m2 hs
/-! often -/
theorem m_often_loop {T : nt_T} (hT : nt_ok T) {mm : nw_M} (hm : nm_T T mm) (d : Nat) (Q : nw_K) {w c t : Nat} (hw : w < nt_m T) (hc : c < 8) (ht : t < 2 ^ 30) {σ : nt_S} (hok : nt_sok T σ) (hQ : ∀ m2, nm_sc mm m2 → Q (some (.int (nI (nt_of T w c σ t)))) m2) :
    ∀ j k m1, k + j = t → nm_tr T mm (nt_bs T σ k) m1 → nw_Ev (d + 4) nw_shM 134 Q 46 [some (.ref 0), some (.int (nI w)), some (.int (nI c)), some (.int (nI t)), some (.int (nI (nt_of T w c σ k))), some (.int (nI k))] [] m1 := by
  have h5 := hT.2.2.1
  have h8 := hT.2.1
  intro j
  induction j with
  | zero =>
    intro k m1 hk h
    have hk' : k = t := by omega
    subst hk'
    rw [s134_46]
    simp only [e134, s134_0, s134_1, s134_2, s134_5, s134_8, s134_9, s134_10, s134_13, s134_16, s134_18, s134_19, s134_20, s134_21, s134_22, s134_25, s134_28, s134_31, s134_33, s134_34, s134_35, s134_36, s134_37, s134_40, s134_41, s134_43, s134_44, s134_48, s134_49, s134_52, s134_53, s134_55, s134_58, s134_60, s134_61, s134_64, s134_66, s134_67, s134_68, s134_69, s134_70, s134_73, s134_74, s134_77, s134_78, s134_79, s134_81, s134_84, s134_87, s134_89, ni_le_t (Nat.le_refl k) (show k < 2 ^ 31 by omega), false_implies, true_implies, not_true_eq_false, not_false_eq_true, true_and, and_true, true_or, or_true, false_or, or_false, false_and, and_false, implies_true, nw_psh_s, nw_psh_n, ni_10, ni_00]
    exact hQ m1 h.1
  | succ j ih =>
    intro k m1 hk h
    have hz : (50 : Int32) + nI w = nI (50 + w) := nI_add 50 w
    have hi : vp_in (nI (50 + w)) 70 := vp_in_nI (by omega) (by decide)
    rw [s134_46]
    simp only [e134, s134_0, s134_1, s134_2, s134_5, s134_8, s134_9, s134_10, s134_13, s134_16, s134_18, s134_19, s134_20, s134_21, s134_22, s134_25, s134_28, s134_31, s134_33, s134_34, s134_35, s134_36, s134_37, s134_40, s134_41, s134_43, s134_44, s134_48, s134_49, s134_52, s134_53, s134_55, s134_58, s134_60, s134_61, s134_64, s134_66, s134_67, s134_68, s134_69, s134_70, s134_73, s134_74, s134_77, s134_78, s134_79, s134_81, s134_84, s134_87, s134_89, ni_le_f (show k < t by omega) (show t < 2 ^ 31 by omega), false_implies, true_implies, not_true_eq_false, not_false_eq_true, true_and, and_true, true_or, or_true, false_or, or_false, false_and, and_false, implies_true, nw_psh_s, nw_psh_n, ni_10, ni_00]
    refine m_beat42 hT hm (nt_bs_ok hT hok k) h d _ (fun m2 h2 => ?_)
    have hp := h2.2.2 w hw
    have hlt := (nt_bs_ok hT hok (k + 1)).2 w hw
    have hh := ih (k + 1) m2 (by omega) h2
    unfold nt_of at hh
    by_cases he : (nt_b1 T (nt_bs T σ k)).2 w = c
    · rw [if_pos (show (nt_bs T σ (k + 1)).2 w = c from he)] at hh
      simp only [e134, s134_0, s134_1, s134_2, s134_5, s134_8, s134_9, s134_10, s134_13, s134_16, s134_18, s134_19, s134_20, s134_21, s134_22, s134_25, s134_28, s134_31, s134_33, s134_34, s134_35, s134_36, s134_37, s134_40, s134_41, s134_43, s134_44, s134_48, s134_49, s134_52, s134_53, s134_55, s134_58, s134_60, s134_61, s134_64, s134_66, s134_67, s134_68, s134_69, s134_70, s134_73, s134_74, s134_77, s134_78, s134_79, s134_81, s134_84, s134_87, s134_89, hz, hi, ni_cl (show 50 + w < 2 ^ 31 by omega), hp, ni_eq_t he, nI_1, false_implies, true_implies, not_true_eq_false, not_false_eq_true, true_and, and_true, true_or, or_true, false_or, or_false, false_and, and_false, implies_true, nw_psh_s, nw_psh_n, ni_10, ni_00]
      exact hh
    · rw [if_neg (show ¬ (nt_bs T σ (k + 1)).2 w = c from he)] at hh
      have hlt2 : (nt_b1 T (nt_bs T σ k)).2 w < nt_n T := hlt
      simp only [e134, s134_0, s134_1, s134_2, s134_5, s134_8, s134_9, s134_10, s134_13, s134_16, s134_18, s134_19, s134_20, s134_21, s134_22, s134_25, s134_28, s134_31, s134_33, s134_34, s134_35, s134_36, s134_37, s134_40, s134_41, s134_43, s134_44, s134_48, s134_49, s134_52, s134_53, s134_55, s134_58, s134_60, s134_61, s134_64, s134_66, s134_67, s134_68, s134_69, s134_70, s134_73, s134_74, s134_77, s134_78, s134_79, s134_81, s134_84, s134_87, s134_89, hz, hi, ni_cl (show 50 + w < 2 ^ 31 by omega), hp, ni_eq_f he (show (nt_b1 T (nt_bs T σ k)).2 w < 2 ^ 31 by omega) (show c < 2 ^ 31 by omega), nI_1, Int32.add_zero, false_implies, true_implies, not_true_eq_false, not_false_eq_true, true_and, and_true, true_or, or_true, false_or, or_false, false_and, and_false, implies_true, nw_psh_s, nw_psh_n, ni_10, ni_00]
      exact hh
theorem p_often (A : nA) (x y z : Int32) : nP2 A 85 134 [.int x, .int y, .int z] := by
  intro mx mm hX hM
  obtain ⟨T, τ, σ, g, kp, L, tx⟩ := A
  have hX0 := hX
  have hM0 := hM
  obtain ⟨h1, h2, h3, ⟨h5, h6⟩, -⟩ := hX
  obtain ⟨-, k2, -, ⟨-, k4⟩, -⟩ := hM
  have h8 := h1.2.1
  have hm5 := h1.2.2.1
  have hin := fun Q' => m_in 38 Q' z 1 999 mm
  rcases ix3 x (n := nt_m T) (by omega) with hx | ⟨w, hw, rfl⟩
  · refine nP_same (r := -2) hX0 hM0 (fun Q hQ => ?_) (fun Q hQ => ?_)
    · simp only [e85, s85_0, s85_1, s85_4, s85_5, s85_8, s85_11, s85_12, s85_15, s85_16, s85_19, s85_22, s85_24, s85_25, s85_26, s85_27, s85_30, s85_31, s85_34, s85_37, s85_39, s85_40, s85_41, s85_44, s85_45, s85_48, s85_49, s85_50, s85_51, s85_54, x_hasWalker_n h2 38 _ hx, false_implies, true_implies, not_true_eq_false, not_false_eq_true, true_and, and_true, true_or, or_true, false_or, or_false, false_and, and_false, implies_true, nw_psh_s, nw_psh_n, ni_10, ni_00]
      exact hQ
    · simp only [e134, s134_0, s134_1, s134_2, s134_5, s134_8, s134_9, s134_10, s134_13, s134_16, s134_18, s134_19, s134_20, s134_21, s134_22, s134_25, s134_28, s134_31, s134_33, s134_34, s134_35, s134_36, s134_37, s134_40, s134_41, s134_43, s134_44, s134_48, s134_49, s134_52, s134_53, s134_55, s134_58, s134_60, s134_61, s134_64, s134_66, s134_67, s134_68, s134_69, s134_70, s134_73, s134_74, s134_77, s134_78, s134_79, s134_81, s134_84, s134_87, s134_89, m_isWalker_n h1 k2 37 _ hx, false_implies, true_implies, not_true_eq_false, not_false_eq_true, true_and, and_true, true_or, or_true, false_or, or_false, false_and, and_false, implies_true, nw_psh_s, nw_psh_n, ni_10, ni_00]
      exact hQ mm (nm_sc_rf mm)
  · rcases ix3 y (n := nt_n T) (by omega) with hy | ⟨c, hc, rfl⟩
    · refine nP_same (r := -2) hX0 hM0 (fun Q hQ => ?_) (fun Q hQ => ?_)
      · simp only [e85, s85_0, s85_1, s85_4, s85_5, s85_8, s85_11, s85_12, s85_15, s85_16, s85_19, s85_22, s85_24, s85_25, s85_26, s85_27, s85_30, s85_31, s85_34, s85_37, s85_39, s85_40, s85_41, s85_44, s85_45, s85_48, s85_49, s85_50, s85_51, s85_54, x_hasWalker_y h1 h2 38 _ hw, x_hasCorner_n (Or.inl rfl) h2 38 _ hy, false_implies, true_implies, not_true_eq_false, not_false_eq_true, true_and, and_true, true_or, or_true, false_or, or_false, false_and, and_false, implies_true, nw_psh_s, nw_psh_n, ni_10, ni_00]
        exact hQ
      · simp only [e134, s134_0, s134_1, s134_2, s134_5, s134_8, s134_9, s134_10, s134_13, s134_16, s134_18, s134_19, s134_20, s134_21, s134_22, s134_25, s134_28, s134_31, s134_33, s134_34, s134_35, s134_36, s134_37, s134_40, s134_41, s134_43, s134_44, s134_48, s134_49, s134_52, s134_53, s134_55, s134_58, s134_60, s134_61, s134_64, s134_66, s134_67, s134_68, s134_69, s134_70, s134_73, s134_74, s134_77, s134_78, s134_79, s134_81, s134_84, s134_87, s134_89, m_isWalker_y h1 k2 37 _ hw, m_isCorner_n h1 k2 37 _ hy, false_implies, true_implies, not_true_eq_false, not_false_eq_true, true_and, and_true, true_or, or_true, false_or, or_false, false_and, and_false, implies_true, nw_psh_s, nw_psh_n, ni_10, ni_00]
        exact hQ mm (nm_sc_rf mm)
    · rcases ix1 z (n := 1000) (by decide) with hz | ⟨t, ht1, ht, rfl⟩
      · refine nP_same (r := -3) hX0 hM0 (fun Q hQ => ?_) (fun Q hQ => ?_)
        · by_cases q : z < 1
          · simp only [e85, s85_0, s85_1, s85_4, s85_5, s85_8, s85_11, s85_12, s85_15, s85_16, s85_19, s85_22, s85_24, s85_25, s85_26, s85_27, s85_30, s85_31, s85_34, s85_37, s85_39, s85_40, s85_41, s85_44, s85_45, s85_48, s85_49, s85_50, s85_51, s85_54, x_hasWalker_y h1 h2 38 _ hw, x_hasCorner_y (Or.inl rfl) h1 h2 38 _ hc, q, false_implies, true_implies, not_true_eq_false, not_false_eq_true, true_and, and_true, true_or, or_true, false_or, or_false, false_and, and_false, implies_true, nw_psh_s, nw_psh_n, ni_10, ni_00]
            exact hQ
          · simp only [e85, s85_0, s85_1, s85_4, s85_5, s85_8, s85_11, s85_12, s85_15, s85_16, s85_19, s85_22, s85_24, s85_25, s85_26, s85_27, s85_30, s85_31, s85_34, s85_37, s85_39, s85_40, s85_41, s85_44, s85_45, s85_48, s85_49, s85_50, s85_51, s85_54, x_hasWalker_y h1 h2 38 _ hw, x_hasCorner_y (Or.inl rfl) h1 h2 38 _ hc, q, lt1_out q hz, false_implies, true_implies, not_true_eq_false, not_false_eq_true, true_and, and_true, true_or, or_true, false_or, or_false, false_and, and_false, implies_true, nw_psh_s, nw_psh_n, ni_10, ni_00]
            exact hQ
        · simp only [e134, s134_0, s134_1, s134_2, s134_5, s134_8, s134_9, s134_10, s134_13, s134_16, s134_18, s134_19, s134_20, s134_21, s134_22, s134_25, s134_28, s134_31, s134_33, s134_34, s134_35, s134_36, s134_37, s134_40, s134_41, s134_43, s134_44, s134_48, s134_49, s134_52, s134_53, s134_55, s134_58, s134_60, s134_61, s134_64, s134_66, s134_67, s134_68, s134_69, s134_70, s134_73, s134_74, s134_77, s134_78, s134_79, s134_81, s134_84, s134_87, s134_89, m_isWalker_y h1 k2 37 _ hw, m_isCorner_y h1 k2 37 _ hc, lw_1, lw_999, hin, show (z < 1 ∨ (999 : Int32) < z) = True from in1_out (n := 999) (by decide) hz, if_true, false_implies, true_implies, not_true_eq_false, not_false_eq_true, true_and, and_true, true_or, or_true, false_or, or_false, false_and, and_false, implies_true, nw_psh_s, nw_psh_n, ni_10, ni_00]
          exact hQ mm (nm_sc_rf mm)
      · have z1 : (nI t < 1) = False := ni_lt_f (b := 1) ht1 (by omega)
        have z2 : (nI t ≤ 999) = True := ni_le_t (b := 999) (by omega) (by decide)
        have z3 : (nI t < 1 ∨ (999 : Int32) < nI t) = False := in1_in (n := 999) ht1 (by omega) (by decide)
        refine nP_same (r := nI (nt_of T w c σ t)) hX0 hM0 (fun Q hQ => ?_) (fun Q hQ => ?_)
        · simp only [e85, s85_0, s85_1, s85_4, s85_5, s85_8, s85_11, s85_12, s85_15, s85_16, s85_19, s85_22, s85_24, s85_25, s85_26, s85_27, s85_30, s85_31, s85_34, s85_37, s85_39, s85_40, s85_41, s85_44, s85_45, s85_48, s85_49, s85_50, s85_51, s85_54, x_hasWalker_y h1 h2 38 _ hw, x_hasCorner_y (Or.inl rfl) h1 h2 38 _ hc, z1, z2, false_implies, true_implies, not_true_eq_false, not_false_eq_true, true_and, and_true, true_or, or_true, false_or, or_false, false_and, and_false, implies_true, nw_psh_s, nw_psh_n, ni_10, ni_00]
          refine x_timesAt h1 h2 33 _ h6 (by omega) (by omega) (by omega) ?_
          simp only [e85, s85_0, s85_1, s85_4, s85_5, s85_8, s85_11, s85_12, s85_15, s85_16, s85_19, s85_22, s85_24, s85_25, s85_26, s85_27, s85_30, s85_31, s85_34, s85_37, s85_39, s85_40, s85_41, s85_44, s85_45, s85_48, s85_49, s85_50, s85_51, s85_54, false_implies, true_implies, not_true_eq_false, not_false_eq_true, true_and, and_true, true_or, or_true, false_or, or_false, false_and, and_false, implies_true, nw_psh_s, nw_psh_n, ni_10, ni_00]
          exact hQ
        · simp only [e134, s134_0, s134_1, s134_2, s134_5, s134_8, s134_9, s134_10, s134_13, s134_16, s134_18, s134_19, s134_20, s134_21, s134_22, s134_25, s134_28, s134_31, s134_33, s134_34, s134_35, s134_36, s134_37, s134_40, s134_41, s134_43, s134_44, s134_48, s134_49, s134_52, s134_53, s134_55, s134_58, s134_60, s134_61, s134_64, s134_66, s134_67, s134_68, s134_69, s134_70, s134_73, s134_74, s134_77, s134_78, s134_79, s134_81, s134_84, s134_87, s134_89, m_isWalker_y h1 k2 37 _ hw, m_isCorner_y h1 k2 37 _ hc, lw_1, lw_999, hin, z3, if_false, false_implies, true_implies, not_true_eq_false, not_false_eq_true, true_and, and_true, true_or, or_true, false_or, or_false, false_and, and_false, implies_true, nw_psh_s, nw_psh_n, ni_10, ni_00]
          refine m_try h1 k4 38 _ (fun m1 ht2 => ?_)
          simp only [e134, s134_0, s134_1, s134_2, s134_5, s134_8, s134_9, s134_10, s134_13, s134_16, s134_18, s134_19, s134_20, s134_21, s134_22, s134_25, s134_28, s134_31, s134_33, s134_34, s134_35, s134_36, s134_37, s134_40, s134_41, s134_43, s134_44, s134_48, s134_49, s134_52, s134_53, s134_55, s134_58, s134_60, s134_61, s134_64, s134_66, s134_67, s134_68, s134_69, s134_70, s134_73, s134_74, s134_77, s134_78, s134_79, s134_81, s134_84, s134_87, s134_89, false_implies, true_implies, not_true_eq_false, not_false_eq_true, true_and, and_true, true_or, or_true, false_or, or_false, false_and, and_false, implies_true, nw_psh_s, nw_psh_n, ni_10, ni_00]
          exact m_often_loop h1 k2 35 Q hw (by omega) (by omega) h5 hQ t 0 m1 (by omega) ht2
