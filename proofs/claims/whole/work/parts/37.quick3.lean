/-! QUICK: both -/
def nKs : Nat → Nat
  | 0 => 0
  | c + 1 => nKs c ||| 2 ^ c
theorem nKs_at (x : Nat) : ∀ c, (nKs c).testBit x = true ↔ x < c
  | 0 => by
    show (Nat.testBit 0 x = true) ↔ _
    rw [Nat.zero_testBit]
    exact ⟨fun h => (by cases h), fun h => by omega⟩
  | c + 1 => by
    show ((nKs c ||| 2 ^ c).testBit x = true) ↔ _
    rw [nb_or2, nb_p2, nKs_at x c]
    omega
theorem nKs_lt : ∀ c, c ≤ 8 → nKs c < 256
  | 0, _ => by show 0 < 256; decide
  | c + 1, h => nb_lt2 (nKs_lt c (by omega)) (nb_p_lt (by omega))
theorem nk_lex {T : nt_T} {v v' : Nat → Nat} (hv : nt_vok T v) {c : Nat} (he : ∀ j, j < c → v j = v' j) (hlt : v c < v' c) : ∀ k, nk_n T v (c + 1 + k) < nk_n T v' (c + 1 + k)
  | 0 => by
    have h : ∀ k, k ≤ c → nk_n T v k = nk_n T v' k := by
      intro k
      induction k with
      | zero => exact fun _ => rfl
      | succ k ih =>
        intro hk
        show nk_n T v k * nk_r T k + v k = nk_n T v' k * nk_r T k + v' k
        rw [ih (by omega), he k (by omega)]
    show nk_n T v c * nk_r T c + v c < nk_n T v' c * nk_r T c + v' c
    rw [h c (Nat.le_refl c)]
    omega
  | k + 1 => by
    have ih := nk_lex hv he hlt k
    show nk_n T v (c + 1 + k) * nk_r T (c + 1 + k) + v (c + 1 + k) < nk_n T v' (c + 1 + k) * nk_r T (c + 1 + k) + v' (c + 1 + k)
    have h1 := nk_vr hv (c + 1 + k)
    have h2 := Nat.mul_le_mul_right (nk_r T (c + 1 + k)) ih
    rw [Nat.succ_mul] at h2
    omega
theorem x_qv_in {T : nt_T} (hT : nt_ok T) {mem : nw_M} (hm : nx_T 4 T mem) (d : Nat) (Q : nw_K) {fr to f c : Nat} (hfr : fr < nt_n T) (hto : to < nt_n T) (hf : f < 8) (hc : c < nt_n T) {vs : Nat → Nat} (hvs : nt_vok T vs) (hfa : nt_fa T to 99 (vs, fr) 0 = some f) (hlex : ∀ v, nt_vok T v → (∀ c', c' < c → v c' = vs c') → nt_fa T to 99 (v, fr) 0 = some f → vs c ≤ v c) (hleast : ∀ b, b < f → ¬ nW T 0 (fun _ => 0) fr b to) (ρ : Nat → Nat) (hw : 0 < nt_w T c)
    (hQ : ∀ s' x' u', nx_S s' (u', ρ) → nt_vok T u' → (∀ c', c' < c + 1 → u' c' = vs c') → nw_Ev (d + 6) nw_shX 51 Q 75 [some (.ref 4), some (.int (nI fr)), some (.int (nI to)), some (.int (nI f)), some (.int s'), some (.int (nI (nKs (c + 1)))), some (.int (nI c)), some (.int x')] [] mem) :
    ∀ j x (s : Int32) (u : Nat → Nat), x + j = vs c → nx_S s (u, ρ) → nt_vok T u → (∀ c', c' < c → u c' = vs c') → nw_Ev (d + 6) nw_shX 51 Q 30 [some (.ref 4), some (.int (nI fr)), some (.int (nI to)), some (.int (nI f)), some (.int s), some (.int (nI (nKs (c + 1)))), some (.int (nI c)), some (.int (nI x))] [] mem := by
  have h8 := hT.2.1
  have h4 := (hT.2.2.2 c).2.1
  have hvc := (hvs c).1 hw
  have hwo := fun Q' => x_waysOf (Or.inl rfl) hm (d + 5) Q' (c := c) (by omega)
  have hK := nKs_lt (c + 1) (by omega)
  have hupd : ∀ x u, x < nt_w T c → nt_vok T u → nt_vok T (nf_up u c x) := fun x u hx hu j => by
    by_cases q : j = c
    · subst q
      simp only [nf_up, if_true]
      exact ⟨fun _ => hx, fun z => by omega⟩
    · simp only [nf_up, if_neg q]
      exact hu j
  intro j
  induction j with
  | zero =>
    intro x s u hx hs hu he
    have hx' : x = vs c := by omega
    have hs2 : nx_S (ns_sv s c x) (nf_up u c x, ρ) := nx_S_sv hs (by omega) (by omega)
    have hu2 := hupd x u (by omega) hu
    have he2 : ∀ c', c' < c + 1 → nf_up u c x c' = vs c' := fun c' hc' => by
      by_cases q : c' = c
      · simp only [nf_up, q, if_true]; exact hx'
      · simp only [nf_up, if_neg q]; exact he c' (by omega)
    have hwv := fun Q' => x_withVane (d + 5) Q' s c x mem
    have hvV : nV T (nKs (c + 1)).testBit (nf_up u c x) vs := ⟨hvs, fun c' hc' => (he2 c' ((nKs_at c' (c + 1)).mp hc')).symm⟩
    have hD : nDs T (nKs (c + 1)) (nf_up u c x) fr to (some f) := ⟨hf, nW_C hT hvV hfr hfa hleast, fun b' hb' hw' => hleast b' hb' (nW_0 b' to hw')⟩
    rw [s51_30]
    simp only [e51, s51_0, s51_1, s51_3, s51_4, s51_6, s51_7, s51_11, s51_12, s51_15, s51_18, s51_20, s51_21, s51_23, s51_24, s51_25, s51_27, s51_28, s51_32, s51_33, s51_35, s51_38, s51_41, s51_43, s51_45, s51_47, s51_50, s51_52, s51_53, s51_55, s51_57, s51_58, s51_59, s51_62, s51_63, s51_66, s51_69, s51_72, s51_78, s51_81, s51_83, hwo, ni_le_f (show x < nt_w T c by omega) (show nt_w T c < 2 ^ 31 by omega), hwv, false_implies, true_implies, not_true_eq_false, not_false_eq_true, true_and, and_true, true_or, or_true, false_or, or_false, false_and, and_false, implies_true, nw_psh_s, nw_psh_n, ni_10, ni_00]
    refine x_dist hT hm d _ hs2 hK (by omega) (by omega) (fun r hr => ?_)
    rw [nDs_uniq hr hD]
    simp only [e51, s51_0, s51_1, s51_3, s51_4, s51_6, s51_7, s51_11, s51_12, s51_15, s51_18, s51_20, s51_21, s51_23, s51_24, s51_25, s51_27, s51_28, s51_32, s51_33, s51_35, s51_38, s51_41, s51_43, s51_45, s51_47, s51_50, s51_52, s51_53, s51_55, s51_57, s51_58, s51_59, s51_62, s51_63, s51_66, s51_69, s51_72, s51_78, s51_81, s51_83, nz_o, false_implies, true_implies, not_true_eq_false, not_false_eq_true, true_and, and_true, true_or, or_true, false_or, or_false, false_and, and_false, implies_true, nw_psh_s, nw_psh_n, ni_10, ni_00]
    exact hQ _ _ _ hs2 hu2 he2
  | succ j ih =>
    intro x s u hx hs hu he
    have hs2 : nx_S (ns_sv s c x) (nf_up u c x, ρ) := nx_S_sv hs (by omega) (by omega)
    have hu2 := hupd x u (by omega) hu
    have hwv := fun Q' => x_withVane (d + 5) Q' s c x mem
    rw [s51_30]
    simp only [e51, s51_0, s51_1, s51_3, s51_4, s51_6, s51_7, s51_11, s51_12, s51_15, s51_18, s51_20, s51_21, s51_23, s51_24, s51_25, s51_27, s51_28, s51_32, s51_33, s51_35, s51_38, s51_41, s51_43, s51_45, s51_47, s51_50, s51_52, s51_53, s51_55, s51_57, s51_58, s51_59, s51_62, s51_63, s51_66, s51_69, s51_72, s51_78, s51_81, s51_83, hwo, ni_le_f (show x < nt_w T c by omega) (show nt_w T c < 2 ^ 31 by omega), hwv, false_implies, true_implies, not_true_eq_false, not_false_eq_true, true_and, and_true, true_or, or_true, false_or, or_false, false_and, and_false, implies_true, nw_psh_s, nw_psh_n, ni_10, ni_00]
    refine x_dist hT hm d _ hs2 hK (by omega) (by omega) (fun r hr => ?_)
    have hne : (nz_o r = nI f) = False := eq_false (fun hz => by
      cases r with
      | none =>
        have := of_eq_false (ni_ne_m1 (show f < 2 ^ 31 by omega))
        exact this hz.symm
      | some b =>
        have hb8 := hr.1
        have hbf : b = f := (nI_eq (by omega) (by omega)).mp hz
        subst hbf
        obtain ⟨v, hv, hvf⟩ := nW_B2 hT hu2 (u0 := fun _ => 0) hfr (by omega) hr.2.1 hleast
        have h1 := hlex v hv.1 (fun c' hc' => by
          rw [hv.2 c' ((nKs_at c' (c + 1)).mpr (by omega))]
          simp only [nf_up, if_neg (show ¬ c' = c by omega)]
          exact he c' hc') hvf
        have h2 := hv.2 c ((nKs_at c (c + 1)).mpr (by omega))
        simp only [nf_up, if_true] at h2
        omega)
    simp only [e51, s51_0, s51_1, s51_3, s51_4, s51_6, s51_7, s51_11, s51_12, s51_15, s51_18, s51_20, s51_21, s51_23, s51_24, s51_25, s51_27, s51_28, s51_32, s51_33, s51_35, s51_38, s51_41, s51_43, s51_45, s51_47, s51_50, s51_52, s51_53, s51_55, s51_57, s51_58, s51_59, s51_62, s51_63, s51_66, s51_69, s51_72, s51_78, s51_81, s51_83, hne, nI_1, false_implies, true_implies, not_true_eq_false, not_false_eq_true, true_and, and_true, true_or, or_true, false_or, or_false, false_and, and_false, implies_true, nw_psh_s, nw_psh_n, ni_10, ni_00]
    refine ih (x + 1) _ _ (by omega) hs2 hu2 (fun c' hc' => ?_)
    simp only [nf_up, if_neg (show ¬ c' = c by omega)]
    exact he c' hc'
theorem x_qv {T : nt_T} (hT : nt_ok T) {mem : nw_M} (hm : nx_T 4 T mem) (d : Nat) (Q : nw_K) {fr to f : Nat} (hfr : fr < nt_n T) (hto : to < nt_n T) (hf : f < 8) {vs : Nat → Nat} (hvs : nt_vok T vs) (hfa : nt_fa T to 99 (vs, fr) 0 = some f) (hlex : ∀ c, c < nt_n T → ∀ v, nt_vok T v → (∀ c', c' < c → v c' = vs c') → nt_fa T to 99 (v, fr) 0 = some f → vs c ≤ v c) (hleast : ∀ b, b < f → ¬ nW T 0 (fun _ => 0) fr b to) (ρ : Nat → Nat)
    (hQ : ∀ s' u', nx_S s' (u', ρ) → (∀ c', c' < nt_n T → u' c' = vs c') → Q (some (.int s')) mem) :
    ∀ j c (s : Int32) (u : Nat → Nat) (l7 : Option Value), c + j = nt_n T → nx_S s (u, ρ) → nt_vok T u → (∀ c', c' < c → u c' = vs c') → (l7 = none ∨ ∃ z, l7 = some (.int z)) → nw_Ev (d + 6) nw_shX 51 Q 9 [some (.ref 4), some (.int (nI fr)), some (.int (nI to)), some (.int (nI f)), some (.int s), some (.int (nI (nKs c))), some (.int (nI c)), l7] [] mem := by
  have h8 := hT.2.1
  have hn := hm.1
  intro j
  induction j with
  | zero =>
    intro c s u l7 hc hs hu he hl7
    have hc' : c = nt_n T := by omega
    subst hc'
    rw [s51_9]
    simp only [e51, s51_0, s51_1, s51_3, s51_4, s51_6, s51_7, s51_11, s51_12, s51_15, s51_18, s51_20, s51_21, s51_23, s51_24, s51_25, s51_27, s51_28, s51_32, s51_33, s51_35, s51_38, s51_41, s51_43, s51_45, s51_47, s51_50, s51_52, s51_53, s51_55, s51_57, s51_58, s51_59, s51_62, s51_63, s51_66, s51_69, s51_72, s51_75, s51_78, s51_81, s51_83, hn, ni_le_t (Nat.le_refl (nt_n T)) (show nt_n T < 2 ^ 31 by omega), false_implies, true_implies, not_true_eq_false, not_false_eq_true, true_and, and_true, true_or, or_true, false_or, or_false, false_and, and_false, implies_true, nw_psh_s, nw_psh_n, ni_10, ni_00]
    exact hQ s u hs he
  | succ j ih =>
    intro c s u l7 hc hs hu he hl7
    have hle := ni_le_f (show c < nt_n T by omega) (show nt_n T < 2 ^ 31 by omega)
    have hor : nI (nKs c) ||| ((1 : Int32) <<< (nI c &&& 31)) = nI (nKs (c + 1)) := nb_or (nKs c) (by omega)
    have hin : nw_Ev (d + 6) nw_shX 51 Q 30 [some (.ref 4), some (.int (nI fr)), some (.int (nI to)), some (.int (nI f)), some (.int s), some (.int (nI (nKs (c + 1)))), some (.int (nI c)), some (.int (nI 0))] [] mem := by
      rcases Nat.eq_zero_or_pos (nt_w T c) with hw | hw
      · have hwo := fun Q' => x_waysOf (Or.inl rfl) hm (d + 5) Q' (c := c) (by omega)
        rw [s51_30]
        simp only [e51, s51_0, s51_1, s51_3, s51_4, s51_6, s51_7, s51_11, s51_12, s51_15, s51_18, s51_20, s51_21, s51_23, s51_24, s51_25, s51_27, s51_28, s51_32, s51_33, s51_35, s51_38, s51_41, s51_43, s51_45, s51_47, s51_50, s51_52, s51_53, s51_55, s51_57, s51_58, s51_59, s51_62, s51_63, s51_66, s51_69, s51_72, s51_75, s51_78, s51_81, s51_83, hwo, hw, show (nI 0 ≤ nI 0) = True from eq_true (by decide), nI_1, false_implies, true_implies, not_true_eq_false, not_false_eq_true, true_and, and_true, true_or, or_true, false_or, or_false, false_and, and_false, implies_true, nw_psh_s, nw_psh_n, ni_10, ni_00]
        refine ih (c + 1) s u _ (by omega) hs hu (fun c' hc' => ?_) (Or.inr ⟨_, rfl⟩)
        by_cases q : c' = c
        · rw [q, (hu c).2 hw, (hvs c).2 hw]
        · exact he c' (by omega)
      · refine x_qv_in hT hm d Q hfr hto hf (by omega) hvs hfa (hlex c (by omega)) hleast ρ hw (fun s' x' u' hs' hu' he' => ?_) (vs c) 0 s u (by omega) hs hu he
        simp only [e51, s51_0, s51_1, s51_3, s51_4, s51_6, s51_7, s51_11, s51_12, s51_15, s51_18, s51_20, s51_21, s51_23, s51_24, s51_25, s51_27, s51_28, s51_32, s51_33, s51_35, s51_38, s51_41, s51_43, s51_45, s51_47, s51_50, s51_52, s51_53, s51_55, s51_57, s51_58, s51_59, s51_62, s51_63, s51_66, s51_69, s51_72, s51_75, s51_78, s51_81, s51_83, nI_1, false_implies, true_implies, not_true_eq_false, not_false_eq_true, true_and, and_true, true_or, or_true, false_or, or_false, false_and, and_false, implies_true, nw_psh_s, nw_psh_n, ni_10, ni_00]
        exact ih (c + 1) s' u' _ (by omega) hs' hu' he' (Or.inr ⟨_, rfl⟩)
    rw [s51_9]
    rcases hl7 with rfl | ⟨z, rfl⟩ <;>
    · simp only [e51, s51_0, s51_1, s51_3, s51_4, s51_6, s51_7, s51_11, s51_12, s51_15, s51_18, s51_20, s51_21, s51_23, s51_24, s51_25, s51_27, s51_28, s51_32, s51_33, s51_35, s51_38, s51_41, s51_43, s51_45, s51_47, s51_50, s51_52, s51_53, s51_55, s51_57, s51_58, s51_59, s51_62, s51_63, s51_66, s51_69, s51_72, s51_75, s51_78, s51_81, s51_83, hn, hle, hor, false_implies, true_implies, not_true_eq_false, not_false_eq_true, true_and, and_true, true_or, or_true, false_or, or_false, false_and, and_false, implies_true, nw_psh_s, nw_psh_n, ni_10, ni_00]
      exact hin
/-! the reference: the first of the fewest -/
def nQs (T : nt_T) (F : (Nat → Nat) → Option Nat) (x : Nat) : Option (Nat × Nat) → Prop
  | none => ∀ i, i < x → F (nk_v T i) = none
  | some (i0, m) => i0 < x ∧ F (nk_v T i0) = some m ∧ (∀ i, i < x → ∀ k, F (nk_v T i) = some k → m ≤ k) ∧ ∀ i, i < i0 → ∀ k, F (nk_v T i) = some k → m < k
def nQn (F : (Nat → Nat) → Option Nat) (T : nt_T) (x : Nat) (r : Option (Nat × Nat)) : Option (Nat × Nat) := match F (nk_v T x), r with
  | none, r => r
  | some k, none => some (x, k)
  | some k, some (i0, m) => if k < m then some (x, k) else some (i0, m)
theorem nQn_ok {T : nt_T} {F : (Nat → Nat) → Option Nat} {x : Nat} {r : Option (Nat × Nat)} (h : nQs T F x r) : nQs T F (x + 1) (nQn F T x r) := by
  unfold nQn
  cases hF : F (nk_v T x) with
  | none =>
    cases r with
    | none =>
      intro i hi
      by_cases q : i = x
      · rw [q]; exact hF
      · exact h i (by omega)
    | some z =>
      obtain ⟨i0, m⟩ := z
      obtain ⟨a1, a2, a3, a4⟩ := h
      refine ⟨by omega, a2, fun i hi k hk => ?_, a4⟩
      by_cases q : i = x
      · rw [q, hF] at hk; cases hk
      · exact a3 i (by omega) k hk
  | some k0 =>
    cases r with
    | none =>
      refine ⟨by omega, hF, fun i hi k hk => ?_, fun i hi k hk => ?_⟩
      · by_cases q : i = x
        · rw [q, hF] at hk; cases hk; exact Nat.le_refl _
        · rw [h i (by omega)] at hk; cases hk
      · rw [h i (by omega)] at hk; cases hk
    | some z =>
      obtain ⟨i0, m⟩ := z
      obtain ⟨a1, a2, a3, a4⟩ := h
      show nQs T F (x + 1) (if k0 < m then some (x, k0) else some (i0, m))
      by_cases hk0 : k0 < m
      · rw [if_pos hk0]
        refine ⟨by omega, hF, fun i hi k hk => ?_, fun i hi k hk => ?_⟩
        · by_cases q : i = x
          · rw [q, hF] at hk; cases hk; exact Nat.le_refl _
          · have := a3 i (by omega) k hk; omega
        · have := a3 i (by omega) k hk; omega
      · rw [if_neg hk0]
        refine ⟨by omega, a2, fun i hi k hk => ?_, a4⟩
        by_cases q : i = x
        · rw [q, hF] at hk; cases hk; omega
        · exact a3 i (by omega) k hk
theorem nQs_uniq {T : nt_T} {F : (Nat → Nat) → Option Nat} {x : Nat} {r r' : Option (Nat × Nat)} (h : nQs T F x r) (h' : nQs T F x r') : r = r' := by
  cases r with
  | none =>
    cases r' with
    | none => rfl
    | some z =>
      obtain ⟨i0, m⟩ := z
      have := h i0 h'.1
      rw [h'.2.1] at this; cases this
  | some z =>
    obtain ⟨i0, m⟩ := z
    cases r' with
    | none =>
      have := h' i0 h.1
      rw [h.2.1] at this; cases this
    | some z' =>
      obtain ⟨i1, m'⟩ := z'
      have h1 := h.2.2.1 i1 h'.1 m' h'.2.1
      have h2 := h'.2.2.1 i0 h.1 m h.2.1
      have hm : m = m' := by omega
      subst hm
      rcases Nat.lt_trichotomy i0 i1 with q | q | q
      · have := h'.2.2.2 i0 q m h.2.1; omega
      · rw [q]
      · have := h.2.2.2 i1 q m h'.2.1; omega
def nQe (T : nt_T) (F : (Nat → Nat) → Option Nat) : Nat → Option (Nat × Nat)
  | 0 => none
  | x + 1 => nQn F T x (nQe T F x)
theorem nQe_ok (T : nt_T) (F : (Nat → Nat) → Option Nat) : ∀ x, nQs T F x (nQe T F x)
  | 0 => fun i hi => by omega
  | x + 1 => nQn_ok (nQe_ok T F x)
/-- when the fewest are none, no more can be fewer -/
theorem nQs_zero {T : nt_T} {F : (Nat → Nat) → Option Nat} {x y i0 : Nat} (h : nQs T F x (some (i0, 0))) (hy : x ≤ y) : nQs T F y (some (i0, 0)) :=
  ⟨by have := h.1; omega, h.2.1, fun i _ k _ => Nat.zero_le k, h.2.2.2⟩
def nq_b : Option (Nat × Nat) → Int32
  | none => -1
  | some (i, _) => nI i
def nq_l : Option (Nat × Nat) → Int32
  | none => 999
  | some (_, m) => nI m
theorem m_quick_loop {T : nt_T} (hT : nt_ok T) {mm : nw_M} (hm : nm_T T mm) (d : Nat) (Q : nw_K) {fr to : Nat} (hfr : fr < nt_n T) (hto : to < nt_n T) (a3 : Int32)
    (hQ : ∀ r, nQs T (fun v => nt_fa T to 99 (v, fr) 0) (nk_p T (nt_n T)) r → ∀ m2, nm_sc mm m2 → ∀ x l7, nw_Ev (d + 4) nw_shM 141 Q 101 [some (.ref 0), some (.int (nI fr)), some (.int (nI to)), some (.int a3), some (.int (nq_b r)), some (.int (nq_l r)), some (.int x), l7] [] m2) :
    ∀ j x r m1 (l7 : Option Value), x + j = nk_p T (nt_n T) → nm_sc mm m1 → nQs T (fun v => nt_fa T to 99 (v, fr) 0) x r → (l7 = none ∨ ∃ z, l7 = some (.int z)) → nw_Ev (d + 4) nw_shM 141 Q 50 [some (.ref 0), some (.int (nI fr)), some (.int (nI to)), some (.int a3), some (.int (nq_b r)), some (.int (nq_l r)), some (.int (nI x)), l7] [] m1 := by
  have hP := nk_p_big hT (k := nt_n T) hT.2.1
  intro j
  induction j with
  | zero =>
    intro x r m1 l7 hx hs hR hl7
    have hx' : x = nk_p T (nt_n T) := by omega
    subst hx'
    have hm1 := nm_T_sc hm hs
    have hro := fun Q' => m_rows hT hm1 (d + 3) Q'
    rw [s141_50]
    simp only [e141, s141_0, s141_1, s141_2, s141_5, s141_8, s141_9, s141_10, s141_13, s141_16, s141_17, s141_20, s141_21, s141_22, s141_25, s141_28, s141_30, s141_31, s141_32, s141_33, s141_36, s141_38, s141_39, s141_40, s141_42, s141_45, s141_47, s141_48, s141_52, s141_53, s141_56, s141_59, s141_61, s141_64, s141_65, s141_67, s141_68, s141_69, s141_72, s141_74, s141_76, s141_77, s141_80, s141_82, s141_84, s141_87, s141_89, s141_91, s141_93, s141_95, s141_98, s141_103, s141_104, s141_107, s141_108, s141_111, s141_112, s141_113, s141_116, s141_118, s141_121, s141_122, s141_125, s141_126, s141_127, s141_130, s141_131, s141_134, s141_135, s141_137, s141_138, s141_141, hro, ni_le_t (Nat.le_refl (nk_p T (nt_n T))) (show nk_p T (nt_n T) < 2 ^ 31 by omega), false_implies, true_implies, not_true_eq_false, not_false_eq_true, true_and, and_true, true_or, or_true, false_or, or_false, false_and, and_false, implies_true, nw_psh_s, nw_psh_n, ni_10, ni_00]
    exact hQ r hR m1 hs _ _
  | succ j ih =>
    intro x r m1 l7 hx hs hR hl7
    have hm1 := nm_T_sc hm hs
    have hro := fun Q' => m_rows hT hm1 (d + 3) Q'
    have hle := ni_le_f (show x < nk_p T (nt_n T) by omega) (show nk_p T (nt_n T) < 2 ^ 31 by omega)
    have hlb : ∀ i0 m, r = some (i0, m) → m ≤ 99 := fun i0 m h => by
      subst h
      have := (nt_fa_le T to _ _ _ _ hR.2.1).2
      omega
    rw [s141_50]
    by_cases hz : ∃ i0, r = some (i0, 0)
    · obtain ⟨i0, rfl⟩ := hz
      have := hQ _ (nQs_zero hR (y := nk_p T (nt_n T)) (by omega)) m1 hs (nI x) l7
      simp only [e141, s141_0, s141_1, s141_2, s141_5, s141_8, s141_9, s141_10, s141_13, s141_16, s141_17, s141_20, s141_21, s141_22, s141_25, s141_28, s141_30, s141_31, s141_32, s141_33, s141_36, s141_38, s141_39, s141_40, s141_42, s141_45, s141_47, s141_48, s141_52, s141_53, s141_56, s141_59, s141_61, s141_64, s141_65, s141_67, s141_68, s141_69, s141_72, s141_74, s141_76, s141_77, s141_80, s141_82, s141_84, s141_87, s141_89, s141_91, s141_93, s141_95, s141_98, s141_103, s141_104, s141_107, s141_108, s141_111, s141_112, s141_113, s141_116, s141_118, s141_121, s141_122, s141_125, s141_126, s141_127, s141_130, s141_131, s141_134, s141_135, s141_137, s141_138, s141_141, hro, hle, show nq_l (some (i0, 0)) = 0 from rfl, show ((0 : Int32) ≤ 0) = True from eq_true (by decide), false_implies, true_implies, not_true_eq_false, not_false_eq_true, true_and, and_true, true_or, or_true, false_or, or_false, false_and, and_false, implies_true, nw_psh_s, nw_psh_n, ni_10, ni_00]
      exact this
    · have hlp : (nq_l r ≤ 0) = False := by
        cases r with
        | none => exact eq_false (by decide)
        | some q =>
          obtain ⟨i0, m⟩ := q
          have := hlb i0 m rfl
          exact ni_le_f (b := 0) (Nat.pos_of_ne_zero (fun h => hz ⟨i0, by rw [h]⟩)) (by omega)
      have hin : nw_Ex (d + 4) nw_shM 140 [.ref 0, .int (nI x), .int (nI fr), .int (nI to)] m1 (fun v m' => nw_Ev (d + 4) nw_shM 141 Q 72 [some (.ref 0), some (.int (nI fr)), some (.int (nI to)), some (.int a3), some (.int (nq_b r)), some (.int (nq_l r)), some (.int (nI x)), l7] (nw_psh v []) m') := by
        refine m_beatsBy hT hm d _ (show x < 2 ^ 30 by omega) hfr hto hs (fun m2 hs2 => ?_)
        have hnx := nQn_ok hR
        have hgo := fun l7 h7 => ih (x + 1) _ m2 l7 (by omega) hs2 hnx h7
        unfold nQn at hgo
        cases hF : nt_fa T to 99 (nk_v T x, fr) 0 with
        | none =>
          simp only [hF] at hgo
          rcases hl7 with rfl | ⟨z, rfl⟩ <;>
          · simp only [e141, s141_0, s141_1, s141_2, s141_5, s141_8, s141_9, s141_10, s141_13, s141_16, s141_17, s141_20, s141_21, s141_22, s141_25, s141_28, s141_30, s141_31, s141_32, s141_33, s141_36, s141_38, s141_39, s141_40, s141_42, s141_45, s141_47, s141_48, s141_52, s141_53, s141_56, s141_59, s141_61, s141_64, s141_65, s141_67, s141_68, s141_69, s141_72, s141_74, s141_76, s141_77, s141_80, s141_82, s141_84, s141_87, s141_89, s141_91, s141_93, s141_95, s141_98, s141_103, s141_104, s141_107, s141_108, s141_111, s141_112, s141_113, s141_116, s141_118, s141_121, s141_122, s141_125, s141_126, s141_127, s141_130, s141_131, s141_134, s141_135, s141_137, s141_138, s141_141, nz_o, nI_1, false_implies, true_implies, not_true_eq_false, not_false_eq_true, true_and, and_true, true_or, or_true, false_or, or_false, false_and, and_false, implies_true, nw_psh_s, nw_psh_n, ni_10, ni_00]
            exact hgo _ (Or.inr ⟨_, rfl⟩)
        | some k =>
          have hk9 := (nt_fa_le T to _ _ _ _ hF).2
          simp only [hF] at hgo
          cases r with
          | none =>
            have hlt : ((999 : Int32) ≤ nI k) = False := ni_le_f (a := 999) (by omega) (by decide)
            rcases hl7 with rfl | ⟨z, rfl⟩ <;>
            · simp only [e141, s141_0, s141_1, s141_2, s141_5, s141_8, s141_9, s141_10, s141_13, s141_16, s141_17, s141_20, s141_21, s141_22, s141_25, s141_28, s141_30, s141_31, s141_32, s141_33, s141_36, s141_38, s141_39, s141_40, s141_42, s141_45, s141_47, s141_48, s141_52, s141_53, s141_56, s141_59, s141_61, s141_64, s141_65, s141_67, s141_68, s141_69, s141_72, s141_74, s141_76, s141_77, s141_80, s141_82, s141_84, s141_87, s141_89, s141_91, s141_93, s141_95, s141_98, s141_103, s141_104, s141_107, s141_108, s141_111, s141_112, s141_113, s141_116, s141_118, s141_121, s141_122, s141_125, s141_126, s141_127, s141_130, s141_131, s141_134, s141_135, s141_137, s141_138, s141_141, nz_o, ni_ne_m1 (show k < 2 ^ 31 by omega), show nq_l none = 999 from rfl, hlt, nI_1, false_implies, true_implies, not_true_eq_false, not_false_eq_true, true_and, and_true, true_or, or_true, false_or, or_false, false_and, and_false, implies_true, nw_psh_s, nw_psh_n, ni_10, ni_00]
              exact hgo _ (Or.inr ⟨_, rfl⟩)
          | some q =>
            obtain ⟨i0, m⟩ := q
            have hm9 := hlb i0 m rfl
            by_cases hkm : k < m
            · simp only [hkm, if_true] at hgo
              rcases hl7 with rfl | ⟨z, rfl⟩ <;>
              · simp only [e141, s141_0, s141_1, s141_2, s141_5, s141_8, s141_9, s141_10, s141_13, s141_16, s141_17, s141_20, s141_21, s141_22, s141_25, s141_28, s141_30, s141_31, s141_32, s141_33, s141_36, s141_38, s141_39, s141_40, s141_42, s141_45, s141_47, s141_48, s141_52, s141_53, s141_56, s141_59, s141_61, s141_64, s141_65, s141_67, s141_68, s141_69, s141_72, s141_74, s141_76, s141_77, s141_80, s141_82, s141_84, s141_87, s141_89, s141_91, s141_93, s141_95, s141_98, s141_103, s141_104, s141_107, s141_108, s141_111, s141_112, s141_113, s141_116, s141_118, s141_121, s141_122, s141_125, s141_126, s141_127, s141_130, s141_131, s141_134, s141_135, s141_137, s141_138, s141_141, nz_o, ni_ne_m1 (show k < 2 ^ 31 by omega), show nq_l (some (i0, m)) = nI m from rfl, ni_le_f hkm (show m < 2 ^ 31 by omega), nI_1, false_implies, true_implies, not_true_eq_false, not_false_eq_true, true_and, and_true, true_or, or_true, false_or, or_false, false_and, and_false, implies_true, nw_psh_s, nw_psh_n, ni_10, ni_00]
                exact hgo _ (Or.inr ⟨_, rfl⟩)
            · simp only [hkm, if_false] at hgo
              rcases hl7 with rfl | ⟨z, rfl⟩ <;>
              · simp only [e141, s141_0, s141_1, s141_2, s141_5, s141_8, s141_9, s141_10, s141_13, s141_16, s141_17, s141_20, s141_21, s141_22, s141_25, s141_28, s141_30, s141_31, s141_32, s141_33, s141_36, s141_38, s141_39, s141_40, s141_42, s141_45, s141_47, s141_48, s141_52, s141_53, s141_56, s141_59, s141_61, s141_64, s141_65, s141_67, s141_68, s141_69, s141_72, s141_74, s141_76, s141_77, s141_80, s141_82, s141_84, s141_87, s141_89, s141_91, s141_93, s141_95, s141_98, s141_103, s141_104, s141_107, s141_108, s141_111, s141_112, s141_113, s141_116, s141_118, s141_121, s141_122, s141_125, s141_126, s141_127, s141_130, s141_131, s141_134, s141_135, s141_137, s141_138, s141_141, nz_o, ni_ne_m1 (show k < 2 ^ 31 by omega), show nq_l (some (i0, m)) = nI m from rfl, ni_le_t (show m ≤ k by omega) (show k < 2 ^ 31 by omega), nI_1, false_implies, true_implies, not_true_eq_false, not_false_eq_true, true_and, and_true, true_or, or_true, false_or, or_false, false_and, and_false, implies_true, nw_psh_s, nw_psh_n, ni_10, ni_00]
                exact hgo _ (Or.inr ⟨_, rfl⟩)
      simp only [e141, s141_0, s141_1, s141_2, s141_5, s141_8, s141_9, s141_10, s141_13, s141_16, s141_17, s141_20, s141_21, s141_22, s141_25, s141_28, s141_30, s141_31, s141_32, s141_33, s141_36, s141_38, s141_39, s141_40, s141_42, s141_45, s141_47, s141_48, s141_52, s141_53, s141_56, s141_59, s141_61, s141_64, s141_65, s141_67, s141_68, s141_69, s141_74, s141_76, s141_77, s141_80, s141_82, s141_84, s141_87, s141_89, s141_91, s141_93, s141_95, s141_98, s141_103, s141_104, s141_107, s141_108, s141_111, s141_112, s141_113, s141_116, s141_118, s141_121, s141_122, s141_125, s141_126, s141_127, s141_130, s141_131, s141_134, s141_135, s141_137, s141_138, s141_141, hro, hle, hlp, false_implies, true_implies, not_true_eq_false, not_false_eq_true, true_and, and_true, true_or, or_true, false_or, or_false, false_and, and_false, implies_true, nw_psh_s, nw_psh_n, ni_10, ni_00]
      exact hin
