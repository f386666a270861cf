/-! PENNIES -/
def ntu1 (T : nt_T) (σ : nt_S) (c : Nat) : nt_S := (nf_up σ.1 c (nt_nv T c (σ.1 c)), σ.2)
def ntun (T : nt_T) (c : Nat) : Nat → nt_S → nt_S
  | 0, σ => σ
  | t + 1, σ => ntu1 T (ntun T c t σ) c
def ntul (T : nt_T) : nt_S → Nat → List Nat → nt_S
  | σ, _, [] => σ
  | σ, c, t :: ts => ntul T (ntun T c t σ) (c + 1) ts
def ngd (T : nt_T) : Nat → List Nat → Bool
  | _, [] => true
  | c, t :: ts => (decide (t = 0) || nt_left T c) && ngd T (c + 1) ts
/-- rows of k turns that spend l, the first first -/
def ncomps : Nat → Nat → List (List Nat)
  | 0, l => if l = 0 then [[]] else []
  | k + 1, l => (List.range' 0 (l + 1)).flatMap (fun t => (ncomps k (l - t)).map (t :: ·))
def npP (T : nt_T) (w c most : Nat) (σ : nt_S) (b : Nat) (ts : List Nat) : Bool := ngd T b ts && (nt_ft T (nt_isat w c) most (ntul T σ b ts) 0).isSome
def nE : List Nat → Nat
  | [] => 0
  | t :: ts => t + 8 * nE ts
def nez (b : Nat) : Option (List Nat) → Int32
  | none => -1
  | some ts => nI (2 ^ (3 * b) * nE ts)
theorem ncomps_ok : ∀ k l ts, ts ∈ ncomps k l → ts.length = k ∧ ∀ x, x ∈ ts → x ≤ l
  | 0, l, ts, h => by
    unfold ncomps at h
    split at h
    · rw [List.mem_singleton] at h
      subst h
      exact ⟨rfl, fun x hx => by cases hx⟩
    · cases h
  | k + 1, l, ts, h => by
    unfold ncomps at h
    rw [List.mem_flatMap] at h
    obtain ⟨t, ht, h⟩ := h
    rw [List.mem_map] at h
    obtain ⟨us, hu, rfl⟩ := h
    rw [List.mem_range'_1] at ht
    obtain ⟨h1, h2⟩ := ncomps_ok k (l - t) us hu
    refine ⟨by rw [List.length_cons, h1], fun x hx => ?_⟩
    rcases List.mem_cons.mp hx with rfl | hx
    · omega
    · have := h2 x hx
      omega
theorem nE_lt : ∀ ts : List Nat, (∀ x, x ∈ ts → x ≤ 4) → nE ts < 2 ^ (3 * ts.length)
  | [], _ => by decide
  | t :: ts, h => by
    have h1 := nE_lt ts (fun x hx => h x (List.mem_cons_of_mem _ hx))
    have h2 := h t List.mem_cons_self
    show t + 8 * nE ts < 2 ^ (3 * (ts.length + 1))
    rw [show 3 * (ts.length + 1) = 3 * ts.length + 3 by omega, Nat.pow_add]
    omega
theorem nE_dg : ∀ (ts : List Nat) (i : Nat), (∀ x, x ∈ ts → x ≤ 4) → nE ts / 2 ^ (3 * i) % 8 = ts.getD i 0
  | [], i, _ => by
    show 0 / 2 ^ (3 * i) % 8 = _
    rw [Nat.zero_div]
    rfl
  | t :: ts, 0, h => by
    have h2 := h t List.mem_cons_self
    show (t + 8 * nE ts) / 1 % 8 = t
    omega
  | t :: ts, i + 1, h => by
    have h2 := h t List.mem_cons_self
    show (t + 8 * nE ts) / 2 ^ (3 * (i + 1)) % 8 = ts.getD i 0
    rw [show 3 * (i + 1) = 3 + 3 * i by omega, Nat.pow_add, ← Nat.div_div_eq_div_mul, show (t + 8 * nE ts) / 2 ^ 3 = nE ts by omega]
    exact nE_dg ts i (fun x hx => h x (List.mem_cons_of_mem _ hx))
theorem ni_or3 {t b e : Nat} (ht : t ≤ 4) (hb : b < 8) : nI (2 ^ (3 * (b + 1)) * e) ||| (nI t <<< ((3 : Int32) * nI b &&& 31)) = nI (2 ^ (3 * b) * (t + 8 * e)) := by
  have hp : 2 ^ (3 * b) ≤ 2 ^ 21 := Nat.pow_le_pow_right (by decide) (by omega)
  have h21 : (2 : Nat) ^ 21 = 2097152 := by decide
  have hpp : 0 < 2 ^ (3 * b) := Nat.two_pow_pos _
  have h4 : t * 2 ^ (3 * b) ≤ 4 * 2 ^ (3 * b) := Nat.mul_le_mul_right _ ht
  rw [show (3 : Int32) * nI b = nI (3 * b) from pk_mul 3 b, pk_shlN (n := t) (nI (3 * b) &&& 31) (3 * b) (s_l (3 * b) (by omega)) (by omega)]
  have hpe : 2 ^ (3 * (b + 1)) = 8 * 2 ^ (3 * b) := by
    rw [show 3 * (b + 1) = 3 * b + 3 by omega, Nat.pow_add, Nat.mul_comm]
  rw [fa_or_sum e (k := 3 * (b + 1)) (by rw [hpe]; omega), hpe]
  congr 1
  rw [Nat.mul_add, Nat.mul_comm t, Nat.add_comm]
  congr 1
  rw [Nat.mul_assoc, Nat.mul_left_comm]
theorem npP_cons {T : nt_T} {w c most : Nat} {σ : nt_S} {b t : Nat} (h : t = 0 ∨ nt_left T b = true) (ts : List Nat) : npP T w c most σ b (t :: ts) = npP T w c most (ntun T b t σ) (b + 1) ts := by
  unfold npP
  have : (decide (t = 0) || nt_left T b) = true := by
    rcases h with h | h
    · simp [h]
    · simp [h]
  show (((decide (t = 0) || nt_left T b) && ngd T (b + 1) ts) && _) = _
  rw [this, Bool.true_and]
  rfl
theorem npP_no {T : nt_T} {w c most : Nat} {σ : nt_S} {b t : Nat} (h0 : 0 < t) (h : nt_left T b = false) (ts : List Nat) : npP T w c most σ b (t :: ts) = false := by
  unfold npP
  show (((decide (t = 0) || nt_left T b) && ngd T (b + 1) ts) && _) = _
  rw [h, show decide (t = 0) = false from decide_eq_false (by omega)]
  rfl
def npF (T : nt_T) (w c most : Nat) (σ : nt_S) (b k l t : Nat) : Option (List Nat) := ((ncomps k (l - t)).find? (fun ts => npP T w c most σ b (t :: ts))).map (t :: ·)
theorem npF_eq (T : nt_T) (w c most : Nat) (σ : nt_S) (b k l : Nat) : (ncomps (k + 1) l).find? (npP T w c most σ b) = (List.range' 0 (l + 1)).findSome? (npF T w c most σ b k l) := by
  unfold ncomps
  rw [List.find?_flatMap]
  congr 1
  funext t
  rw [List.find?_map]
  rfl
theorem npF_yes {T : nt_T} {w c most : Nat} {σ : nt_S} {b k l t : Nat} (h : t = 0 ∨ nt_left T b = true) : npF T w c most σ b k l t = ((ncomps k (l - t)).find? (npP T w c most (ntun T b t σ) (b + 1))).map (t :: ·) := by
  unfold npF
  congr 2
  funext ts
  exact npP_cons h ts
theorem npF_no {T : nt_T} {w c most : Nat} {σ : nt_S} {b k l t : Nat} (h0 : 0 < t) (h : nt_left T b = false) : npF T w c most σ b k l t = none := by
  unfold npF
  rw [show (fun ts => npP T w c most σ b (t :: ts)) = (fun _ => false) from funext (fun ts => npP_no h0 h ts), List.find?_eq_none.mpr (fun x _ => by simp)]
  rfl
theorem npF_nos {T : nt_T} {w c most : Nat} {σ : nt_S} {b k l : Nat} (h : nt_left T b = false) : ∀ j i, 0 < i → (List.range' i j).findSome? (npF T w c most σ b k l) = none
  | 0, _, _ => rfl
  | j + 1, i, hi => by
    rw [List.range'_succ, List.findSome?_cons, npF_no hi h]
    exact npF_nos h j (i + 1) (by omega)
theorem ntun_S {T : nt_T} (hT : nt_ok T) {s : Int32} {σ : nt_S} (hs : nx_S s σ) {c : Nat} (hc : c < 8) (hw : 0 < nt_w T c) : nx_S (ns_sv s c (nt_nv T c (σ.1 c))) (ntu1 T σ c) := by
  have h4 := (hT.2.2.2 c).2.1
  have hp := nt_nv_lt (x := σ.1 c) hw
  exact nx_S_sv hs hc (by omega)
theorem x_turned0 {T : nt_T} (hT : nt_ok T) {mem : nw_M} (hm : nx_T 4 T mem) (d : Nat) (Q : nw_K) {s : Int32} {c : Nat} (hc : c < 8) (hw : nt_w T c = 0) : nw_Ex (d + 3) nw_shX 32 [.ref 4, .int s, .int (nI c)] mem Q = Q (some (.int s)) mem := by
  have h1 := fun Q' => x_stepOf hT hm d Q' hc
  have hq := fun Q' => x_waysOf (Or.inl rfl) hm d Q' hc
  simp only [e32, s32_0, s32_1, s32_2, s32_3, s32_4, s32_5, s32_8, s32_11, h1, e31, s31_0, s31_1, s31_2, s31_5, s31_7, s31_9, s31_10, s31_13, s31_14, s31_15, s31_16, s31_17, s31_18, s31_19, s31_22, s31_23, s31_24, s31_26, s31_29, s31_32, hq, hw, show ((1 : Int32) ≤ nI 0) = False from eq_false (by decide), false_implies, true_implies, not_true_eq_false, not_false_eq_true, true_and, and_true, true_or, or_true, false_or, or_false, false_and, and_false, implies_true, nw_psh_s, nw_psh_n, ni_10, ni_00]
theorem x_cheap {T : nt_T} (hT : nt_ok T) {mem : nw_M} (hm : nx_T 4 T mem) {w c most : Nat} (hw5 : w < 5) (hc8 : c < 8) (hmo : most < 2 ^ 30) : ∀ k d (Q : nw_K) (σ : nt_S) (s : Int32) l b, b + k = nt_n T → l ≤ 4 → nx_S s σ → Q (some (.int (nez b ((ncomps k l).find? (npP T w c most σ b))))) mem → nw_Ex (d + k + 8) nw_shX 40 [.ref 4, .int s, .int (nI w), .int (nI c), .int (nI most), .int (nI l), .int (nI b)] mem Q := by
  have h8 := hT.2.1
  intro k
  induction k with
  | zero =>
    intro d Q σ s l b hb hl hs hQ
    have hbn : b = nt_n T := by omega
    have hno := fun Q' => x_hasCorner_n (Or.inl rfl) hm (d + 6) Q' (x := nI b) (Or.inr (by rw [hbn]; exact nI_le (Nat.le_refl _) (by omega)))
    have hcm : ncomps 0 l = if l = 0 then [[]] else [] := rfl
    rw [hcm] at hQ
    by_cases hl0 : l = 0
    · rw [if_pos hl0] at hQ
      subst hl0
      have hP : npP T w c most σ b [] = (nt_ft T (nt_isat w c) most σ 0).isSome := rfl
      simp only [e40, s40_0, s40_1, s40_3, s40_6, s40_9, s40_11, s40_14, s40_15, s40_16, s40_17, s40_18, s40_20, s40_23, s40_24, s40_27, s40_28, s40_31, s40_32, s40_34, s40_36, s40_39, s40_40, s40_43, s40_44, s40_45, s40_46, s40_48, s40_51, s40_54, s40_56, s40_59, s40_60, s40_62, s40_63, s40_65, s40_66, s40_70, s40_72, s40_75, s40_76, s40_78, s40_79, s40_80, s40_82, s40_84, s40_86, s40_87, s40_89, s40_90, s40_91, s40_94, s40_96, s40_98, s40_99, s40_102, s40_104, s40_106, s40_107, s40_109, s40_110, s40_111, s40_112, s40_113, s40_114, s40_116, s40_118, s40_121, s40_123, s40_126, s40_129, s40_130, hno, show (nI 0 = 0) = True from eq_true rfl, false_implies, true_implies, not_true_eq_false, not_false_eq_true, true_and, and_true, true_or, or_true, false_or, or_false, false_and, and_false, implies_true, nw_psh_s, nw_psh_n, ni_10, ni_00]
      refine x_firstAt hT hm (d + 1) _ hs hw5 hc8 hmo ?_
      cases hft : nt_ft T (nt_isat w c) most σ 0 with
      | none =>
        rw [hft] at hP
        rw [List.find?_cons_of_neg (by rw [hP]; exact Bool.false_ne_true)] at hQ
        simp only [e40, s40_0, s40_1, s40_3, s40_6, s40_9, s40_11, s40_14, s40_15, s40_16, s40_17, s40_18, s40_20, s40_23, s40_24, s40_27, s40_28, s40_31, s40_32, s40_34, s40_36, s40_39, s40_40, s40_43, s40_44, s40_45, s40_46, s40_48, s40_51, s40_54, s40_56, s40_59, s40_60, s40_62, s40_63, s40_65, s40_66, s40_70, s40_72, s40_75, s40_76, s40_78, s40_79, s40_80, s40_82, s40_84, s40_86, s40_87, s40_89, s40_90, s40_91, s40_94, s40_96, s40_98, s40_99, s40_102, s40_104, s40_106, s40_107, s40_109, s40_110, s40_111, s40_112, s40_113, s40_114, s40_116, s40_118, s40_121, s40_123, s40_126, s40_129, s40_130, nz_o, false_implies, true_implies, not_true_eq_false, not_false_eq_true, true_and, and_true, true_or, or_true, false_or, or_false, false_and, and_false, implies_true, nw_psh_s, nw_psh_n, ni_10, ni_00]
        exact hQ
      | some m =>
        obtain ⟨-, hle, -⟩ := nt_ft_ok T _ _ _ _ _ hft
        rw [hft] at hP
        rw [List.find?_cons_of_pos (by rw [hP]; rfl)] at hQ
        have hQ' : Q (some (.int 0)) mem := hQ
        simp only [e40, s40_0, s40_1, s40_3, s40_6, s40_9, s40_11, s40_14, s40_15, s40_16, s40_17, s40_18, s40_20, s40_23, s40_24, s40_27, s40_28, s40_31, s40_32, s40_34, s40_36, s40_39, s40_40, s40_43, s40_44, s40_45, s40_46, s40_48, s40_51, s40_54, s40_56, s40_59, s40_60, s40_62, s40_63, s40_65, s40_66, s40_70, s40_72, s40_75, s40_76, s40_78, s40_79, s40_80, s40_82, s40_84, s40_86, s40_87, s40_89, s40_90, s40_91, s40_94, s40_96, s40_98, s40_99, s40_102, s40_104, s40_106, s40_107, s40_109, s40_110, s40_111, s40_112, s40_113, s40_114, s40_116, s40_118, s40_121, s40_123, s40_126, s40_129, s40_130, nz_o, ni_ne_m1 (show m < 2 ^ 31 by omega), show ((1 : Int32) = 0) = False from eq_false (by decide), false_implies, true_implies, not_true_eq_false, not_false_eq_true, true_and, and_true, true_or, or_true, false_or, or_false, false_and, and_false, implies_true, nw_psh_s, nw_psh_n, ni_10, ni_00]
        exact hQ'
    · rw [if_neg hl0] at hQ
      have hl1 : (nI l = 0) = False := eq_false (ni_ne0 (by omega) (by omega))
      simp only [e40, s40_0, s40_1, s40_3, s40_6, s40_9, s40_11, s40_14, s40_15, s40_16, s40_17, s40_18, s40_20, s40_23, s40_24, s40_27, s40_28, s40_31, s40_32, s40_34, s40_36, s40_39, s40_40, s40_43, s40_44, s40_45, s40_46, s40_48, s40_51, s40_54, s40_56, s40_59, s40_60, s40_62, s40_63, s40_65, s40_66, s40_70, s40_72, s40_75, s40_76, s40_78, s40_79, s40_80, s40_82, s40_84, s40_86, s40_87, s40_89, s40_90, s40_91, s40_94, s40_96, s40_98, s40_99, s40_102, s40_104, s40_106, s40_107, s40_109, s40_110, s40_111, s40_112, s40_113, s40_114, s40_116, s40_118, s40_121, s40_123, s40_126, s40_129, s40_130, hno, hl1, false_implies, true_implies, not_true_eq_false, not_false_eq_true, true_and, and_true, true_or, or_true, false_or, or_false, false_and, and_false, implies_true, nw_psh_s, nw_psh_n, ni_10, ni_00]
      exact hQ
  | succ k ih =>
    intro d Q σ s l b hb hl hs hQ
    have hb8 : b < 8 := by omega
    have hyes := fun Q' => x_hasCorner_y (Or.inl rfl) hT hm (d + k + 7) Q' (c := b) (by omega)
    have hlf := fun Q' => x_isLeft hT hm (d + k + 6) Q' hb8
    rw [npF_eq] at hQ
    rw [show d + (k + 1) + 8 = d + k + 8 + 1 by omega]
    have e1 : nI b + 1 = nI (b + 1) := nI_add b 1
    by_cases hleft : nt_left T b = true
    · have hw := nt_left_w hleft
      have hlp : ∀ j t (s' : Int32) (l10 : Option Value), t + j = l + 1 → nx_S s' (ntun T b t σ) → (l10 = none ∨ ∃ z, l10 = some (.int z)) → Q (some (.int (nez b ((List.range' t j).findSome? (npF T w c most σ b k l))))) mem → nw_Ev (d + k + 8) nw_shX 40 Q 68 [some (.ref 4), some (.int s), some (.int (nI w)), some (.int (nI c)), some (.int (nI most)), some (.int (nI l)), some (.int (nI b)), some (.int (nI l)), some (.int s'), some (.int (nI t)), l10] [] mem := by
        intro j
        induction j with
        | zero =>
          intro t s' l10 ht hs' hl10 hQ
          rw [s40_68]
          simp only [e40, s40_0, s40_1, s40_3, s40_6, s40_9, s40_11, s40_14, s40_15, s40_16, s40_17, s40_18, s40_20, s40_23, s40_24, s40_27, s40_28, s40_31, s40_32, s40_34, s40_36, s40_39, s40_40, s40_43, s40_44, s40_45, s40_46, s40_48, s40_51, s40_54, s40_56, s40_59, s40_60, s40_62, s40_63, s40_65, s40_66, s40_70, s40_72, s40_75, s40_76, s40_78, s40_79, s40_80, s40_82, s40_84, s40_86, s40_87, s40_89, s40_90, s40_91, s40_94, s40_96, s40_98, s40_99, s40_102, s40_104, s40_106, s40_107, s40_109, s40_110, s40_111, s40_112, s40_113, s40_114, s40_116, s40_118, s40_121, s40_123, s40_126, s40_129, s40_130, ni_lt_t (show l < t by omega) (show t < 2 ^ 31 by omega), false_implies, true_implies, not_true_eq_false, not_false_eq_true, true_and, and_true, true_or, or_true, false_or, or_false, false_and, and_false, implies_true, nw_psh_s, nw_psh_n, ni_10, ni_00]
          exact hQ
        | succ j ihj =>
          intro t s' l10 ht hs' hl10 hQ
          rw [List.range'_succ, List.findSome?_cons, npF_yes (Or.inr hleft)] at hQ
          have hgt := ni_lt_f (show t ≤ l by omega) (show l < 2 ^ 31 by omega)
          have hun := fun Q' => x_turned hT hm (d + k + 5) Q' hs' hb8 hw
          have hS2 := ntun_S hT hs' hb8 hw
          have hend : nw_Ev (d + k + 8) nw_shX 40 Q 94 [some (.ref 4), some (.int s), some (.int (nI w)), some (.int (nI c)), some (.int (nI most)), some (.int (nI l)), some (.int (nI b)), some (.int (nI l)), some (.int s'), some (.int (nI t)), l10] [.int (nez (b + 1) ((ncomps k (l - t)).find? (npP T w c most (ntun T b t σ) (b + 1))))] mem := by
            cases hfd : (ncomps k (l - t)).find? (npP T w c most (ntun T b t σ) (b + 1)) with
            | none =>
              rw [hfd] at hQ
              have hh := fun l10 h10 => ihj (t + 1) _ l10 (by omega) hS2 h10 hQ
              rcases hl10 with rfl | ⟨z, rfl⟩ <;>
              · simp only [e40, s40_0, s40_1, s40_3, s40_6, s40_9, s40_11, s40_14, s40_15, s40_16, s40_17, s40_18, s40_20, s40_23, s40_24, s40_27, s40_28, s40_31, s40_32, s40_34, s40_36, s40_39, s40_40, s40_43, s40_44, s40_45, s40_46, s40_48, s40_51, s40_54, s40_56, s40_59, s40_60, s40_62, s40_63, s40_65, s40_66, s40_70, s40_72, s40_75, s40_76, s40_78, s40_79, s40_80, s40_82, s40_84, s40_86, s40_87, s40_89, s40_90, s40_91, s40_94, s40_96, s40_98, s40_99, s40_102, s40_104, s40_106, s40_107, s40_109, s40_110, s40_111, s40_112, s40_113, s40_114, s40_116, s40_118, s40_121, s40_123, s40_126, s40_129, s40_130, nez, hun, nI_1, false_implies, true_implies, not_true_eq_false, not_false_eq_true, true_and, and_true, true_or, or_true, false_or, or_false, false_and, and_false, implies_true, nw_psh_s, nw_psh_n, ni_10, ni_00]
                exact hh _ (Or.inr ⟨_, rfl⟩)
            | some ts =>
              rw [hfd] at hQ
              obtain ⟨hlen, hall⟩ := ncomps_ok _ _ _ (List.mem_of_find?_eq_some hfd)
              have hE := nE_lt ts (fun x hx => by have := hall x hx; omega)
              have hbd : 2 ^ (3 * (b + 1)) * nE ts < 2 ^ 31 := by
                rw [hlen] at hE
                have a1 : 2 ^ (3 * (b + 1)) * nE ts < 2 ^ (3 * (b + 1)) * 2 ^ (3 * k) := Nat.mul_lt_mul_of_pos_left hE (Nat.two_pow_pos _)
                rw [← Nat.pow_add] at a1
                have a2 : 2 ^ (3 * (b + 1) + 3 * k) ≤ 2 ^ 31 := Nat.pow_le_pow_right (by decide) (by omega)
                omega
              have hor := ni_or3 (t := t) (b := b) (e := nE ts) (by omega) hb8
              have hQ' : Q (some (.int (nI (2 ^ (3 * b) * (t + 8 * nE ts))))) mem := hQ
              rcases hl10 with rfl | ⟨z, rfl⟩ <;>
              · simp only [e40, s40_0, s40_1, s40_3, s40_6, s40_9, s40_11, s40_14, s40_15, s40_16, s40_17, s40_18, s40_20, s40_23, s40_24, s40_27, s40_28, s40_31, s40_32, s40_34, s40_36, s40_39, s40_40, s40_43, s40_44, s40_45, s40_46, s40_48, s40_51, s40_54, s40_56, s40_59, s40_60, s40_62, s40_63, s40_65, s40_66, s40_70, s40_72, s40_75, s40_76, s40_78, s40_79, s40_80, s40_82, s40_84, s40_86, s40_87, s40_89, s40_90, s40_91, s40_94, s40_96, s40_98, s40_99, s40_102, s40_104, s40_106, s40_107, s40_109, s40_110, s40_111, s40_112, s40_113, s40_114, s40_116, s40_118, s40_121, s40_123, s40_126, s40_129, s40_130, nez, ni_ne_m1 hbd, hor, false_implies, true_implies, not_true_eq_false, not_false_eq_true, true_and, and_true, true_or, or_true, false_or, or_false, false_and, and_false, implies_true, nw_psh_s, nw_psh_n, ni_10, ni_00]
                exact hQ'
          rw [s40_68]
          simp only [s40_0, s40_1, s40_3, s40_6, s40_9, s40_11, s40_14, s40_15, s40_16, s40_17, s40_18, s40_20, s40_23, s40_24, s40_27, s40_28, s40_31, s40_32, s40_34, s40_36, s40_39, s40_40, s40_43, s40_44, s40_45, s40_46, s40_48, s40_51, s40_54, s40_56, s40_59, s40_60, s40_62, s40_63, s40_65, s40_66, s40_70, s40_72, s40_75, s40_76, s40_78, s40_79, s40_80, s40_82, s40_84, s40_86, s40_87, s40_89, s40_90, s40_91, s40_96, s40_98, s40_99, s40_102, s40_104, s40_106, s40_107, s40_109, s40_110, s40_111, s40_112, s40_113, s40_114, s40_116, s40_118, s40_121, s40_123, s40_126, s40_129, s40_130, hgt, pk_sub (show t ≤ l by omega), e1, false_implies, true_implies, not_true_eq_false, not_false_eq_true, true_and, and_true, true_or, or_true, false_or, or_false, false_and, and_false, implies_true, nw_psh_s, nw_psh_n, ni_10, ni_00]
          refine ih d _ _ _ (l - t) (b + 1) (by omega) (by omega) hs' ?_
          simp only [false_implies, true_implies, not_true_eq_false, not_false_eq_true, true_and, and_true, true_or, or_true, false_or, or_false, false_and, and_false, implies_true, nw_psh_s, nw_psh_n, ni_10, ni_00]
          exact hend
      simp only [e40, s40_0, s40_1, s40_3, s40_6, s40_9, s40_11, s40_14, s40_15, s40_16, s40_17, s40_18, s40_20, s40_23, s40_24, s40_27, s40_28, s40_31, s40_32, s40_34, s40_36, s40_39, s40_40, s40_43, s40_44, s40_45, s40_46, s40_48, s40_51, s40_54, s40_56, s40_59, s40_60, s40_62, s40_63, s40_65, s40_66, s40_70, s40_72, s40_75, s40_76, s40_78, s40_79, s40_80, s40_82, s40_84, s40_86, s40_87, s40_89, s40_90, s40_91, s40_94, s40_96, s40_98, s40_99, s40_102, s40_104, s40_106, s40_107, s40_109, s40_110, s40_111, s40_112, s40_113, s40_114, s40_116, s40_118, s40_121, s40_123, s40_126, s40_129, s40_130, hyes, hlf, hleft, if_true, false_implies, true_implies, not_true_eq_false, not_false_eq_true, true_and, and_true, true_or, or_true, false_or, or_false, false_and, and_false, implies_true, nw_psh_s, nw_psh_n, ni_10, ni_00]
      exact hlp (l + 1) 0 s none (by omega) hs (Or.inl rfl) hQ
    · have hlf' : nt_left T b = false := (Bool.not_eq_true _).mp hleft
      rw [List.range'_succ, List.findSome?_cons, npF_yes (Or.inl rfl), npF_nos hlf' l _ (by omega)] at hQ
      simp only [e40, s40_0, s40_1, s40_3, s40_6, s40_9, s40_11, s40_14, s40_15, s40_16, s40_17, s40_18, s40_20, s40_23, s40_24, s40_27, s40_28, s40_31, s40_32, s40_34, s40_36, s40_39, s40_40, s40_43, s40_44, s40_45, s40_46, s40_48, s40_51, s40_54, s40_56, s40_59, s40_60, s40_62, s40_63, s40_65, s40_66, s40_70, s40_72, s40_75, s40_76, s40_78, s40_79, s40_80, s40_82, s40_84, s40_86, s40_87, s40_89, s40_90, s40_91, s40_94, s40_96, s40_98, s40_99, s40_102, s40_104, s40_106, s40_107, s40_109, s40_110, s40_111, s40_112, s40_113, s40_114, s40_116, s40_118, s40_121, s40_123, s40_126, s40_129, s40_130, hyes, hlf, hleft, if_false, Bool.false_eq_true, false_implies, true_implies, not_true_eq_false, not_false_eq_true, true_and, and_true, true_or, or_true, false_or, or_false, false_and, and_false, implies_true, nw_psh_s, nw_psh_n, ni_10, ni_00]
      rw [s40_68]
      simp only [s40_0, s40_1, s40_3, s40_6, s40_9, s40_11, s40_14, s40_15, s40_16, s40_17, s40_18, s40_20, s40_23, s40_24, s40_27, s40_28, s40_31, s40_32, s40_34, s40_36, s40_39, s40_40, s40_43, s40_44, s40_45, s40_46, s40_48, s40_51, s40_54, s40_56, s40_59, s40_60, s40_62, s40_63, s40_65, s40_66, s40_70, s40_72, s40_75, s40_76, s40_78, s40_79, s40_80, s40_82, s40_84, s40_86, s40_87, s40_89, s40_90, s40_91, s40_96, s40_98, s40_99, s40_102, s40_104, s40_106, s40_107, s40_109, s40_110, s40_111, s40_112, s40_113, s40_114, s40_116, s40_118, s40_121, s40_123, s40_126, s40_129, s40_130, show ((0 : Int32) < 0) = False from eq_false (by decide), Int32.sub_zero, e1, false_implies, true_implies, not_true_eq_false, not_false_eq_true, true_and, and_true, true_or, or_true, false_or, or_false, false_and, and_false, implies_true, nw_psh_s, nw_psh_n, ni_10, ni_00]
      refine ih d _ _ _ l (b + 1) (by omega) hl hs ?_
      cases hfd : (ncomps k (l - 0)).find? (npP T w c most (ntun T b 0 σ) (b + 1)) with
      | none =>
        rw [hfd] at hQ
        rw [Nat.sub_zero] at hfd
        have hfd' : (ncomps k l).find? (npP T w c most σ (b + 1)) = none := hfd
        rw [hfd']
        have hQ' : Q (some (.int (-1))) mem := hQ
        have hex : ∀ s', nw_Ev (d + k + 8) nw_shX 40 Q 121 [some (.ref 4), some (.int s), some (.int (nI w)), some (.int (nI c)), some (.int (nI most)), some (.int (nI l)), some (.int (nI b)), some (.int 0), some (.int s), some (.int 0), some (.int (-1))] [.int s'] mem := by
          intro s'
          simp only [e40, s40_0, s40_1, s40_3, s40_6, s40_9, s40_11, s40_14, s40_15, s40_16, s40_17, s40_18, s40_20, s40_23, s40_24, s40_27, s40_28, s40_31, s40_32, s40_34, s40_36, s40_39, s40_40, s40_43, s40_44, s40_45, s40_46, s40_48, s40_51, s40_54, s40_56, s40_59, s40_60, s40_62, s40_63, s40_65, s40_66, s40_70, s40_72, s40_75, s40_76, s40_78, s40_79, s40_80, s40_82, s40_84, s40_86, s40_87, s40_89, s40_90, s40_91, s40_94, s40_96, s40_98, s40_99, s40_102, s40_104, s40_106, s40_107, s40_109, s40_110, s40_111, s40_112, s40_113, s40_114, s40_116, s40_118, s40_121, s40_123, s40_126, s40_129, s40_130, false_implies, true_implies, not_true_eq_false, not_false_eq_true, true_and, and_true, true_or, or_true, false_or, or_false, false_and, and_false, implies_true, nw_psh_s, nw_psh_n, ni_10, ni_00]
          rw [s40_68]
          simp only [e40, s40_0, s40_1, s40_3, s40_6, s40_9, s40_11, s40_14, s40_15, s40_16, s40_17, s40_18, s40_20, s40_23, s40_24, s40_27, s40_28, s40_31, s40_32, s40_34, s40_36, s40_39, s40_40, s40_43, s40_44, s40_45, s40_46, s40_48, s40_51, s40_54, s40_56, s40_59, s40_60, s40_62, s40_63, s40_65, s40_66, s40_70, s40_72, s40_75, s40_76, s40_78, s40_79, s40_80, s40_82, s40_84, s40_86, s40_87, s40_89, s40_90, s40_91, s40_94, s40_96, s40_98, s40_99, s40_102, s40_104, s40_106, s40_107, s40_109, s40_110, s40_111, s40_112, s40_113, s40_114, s40_116, s40_118, s40_121, s40_123, s40_126, s40_129, s40_130, show ((0 : Int32) < 0 + 1) = True from eq_true (by decide), show ((0 : Int32) < 1) = True from eq_true (by decide), false_implies, true_implies, not_true_eq_false, not_false_eq_true, true_and, and_true, true_or, or_true, false_or, or_false, false_and, and_false, implies_true, nw_psh_s, nw_psh_n, ni_10, ni_00]
          exact hQ'
        rcases Nat.eq_zero_or_pos (nt_w T b) with hw | hw
        · have hun := fun Q' => x_turned0 hT hm (d + k + 5) Q' (s := s) hb8 hw
          simp only [e40, s40_0, s40_1, s40_3, s40_6, s40_9, s40_11, s40_14, s40_15, s40_16, s40_17, s40_18, s40_20, s40_23, s40_24, s40_27, s40_28, s40_31, s40_32, s40_34, s40_36, s40_39, s40_40, s40_43, s40_44, s40_45, s40_46, s40_48, s40_51, s40_54, s40_56, s40_59, s40_60, s40_62, s40_63, s40_65, s40_66, s40_70, s40_72, s40_75, s40_76, s40_78, s40_79, s40_80, s40_82, s40_84, s40_86, s40_87, s40_89, s40_90, s40_91, s40_94, s40_96, s40_98, s40_99, s40_102, s40_104, s40_106, s40_107, s40_109, s40_110, s40_111, s40_112, s40_113, s40_114, s40_116, s40_118, s40_123, s40_126, s40_129, s40_130, nez, hun, false_implies, true_implies, not_true_eq_false, not_false_eq_true, true_and, and_true, true_or, or_true, false_or, or_false, false_and, and_false, implies_true, nw_psh_s, nw_psh_n, ni_10, ni_00]
          exact hex _
        · have hun := fun Q' => x_turned hT hm (d + k + 5) Q' hs hb8 hw
          simp only [e40, s40_0, s40_1, s40_3, s40_6, s40_9, s40_11, s40_14, s40_15, s40_16, s40_17, s40_18, s40_20, s40_23, s40_24, s40_27, s40_28, s40_31, s40_32, s40_34, s40_36, s40_39, s40_40, s40_43, s40_44, s40_45, s40_46, s40_48, s40_51, s40_54, s40_56, s40_59, s40_60, s40_62, s40_63, s40_65, s40_66, s40_70, s40_72, s40_75, s40_76, s40_78, s40_79, s40_80, s40_82, s40_84, s40_86, s40_87, s40_89, s40_90, s40_91, s40_94, s40_96, s40_98, s40_99, s40_102, s40_104, s40_106, s40_107, s40_109, s40_110, s40_111, s40_112, s40_113, s40_114, s40_116, s40_118, s40_123, s40_126, s40_129, s40_130, nez, hun, false_implies, true_implies, not_true_eq_false, not_false_eq_true, true_and, and_true, true_or, or_true, false_or, or_false, false_and, and_false, implies_true, nw_psh_s, nw_psh_n, ni_10, ni_00]
          exact hex _
      | some ts =>
        rw [hfd] at hQ
        rw [Nat.sub_zero] at hfd
        have hfd' : (ncomps k l).find? (npP T w c most σ (b + 1)) = some ts := hfd
        rw [hfd']
        obtain ⟨hlen, hall⟩ := ncomps_ok _ _ _ (List.mem_of_find?_eq_some hfd)
        have hE := nE_lt ts (fun x hx => by have := hall x hx; omega)
        have hbd : 2 ^ (3 * (b + 1)) * nE ts < 2 ^ 31 := by
          rw [hlen] at hE
          have a1 : 2 ^ (3 * (b + 1)) * nE ts < 2 ^ (3 * (b + 1)) * 2 ^ (3 * k) := Nat.mul_lt_mul_of_pos_left hE (Nat.two_pow_pos _)
          rw [← Nat.pow_add] at a1
          have a2 : 2 ^ (3 * (b + 1) + 3 * k) ≤ 2 ^ 31 := Nat.pow_le_pow_right (by decide) (by omega)
          omega
        have hor := ni_or3 (t := 0) (b := b) (e := nE ts) (by omega) hb8
        have hor' : nI (2 ^ (3 * (b + 1)) * nE ts) ||| ((0 : Int32) <<< ((3 : Int32) * nI b &&& 31)) = nI (2 ^ (3 * b) * (0 + 8 * nE ts)) := hor
        have hQ' : Q (some (.int (nI (2 ^ (3 * b) * (0 + 8 * nE ts))))) mem := hQ
        simp only [e40, s40_0, s40_1, s40_3, s40_6, s40_9, s40_11, s40_14, s40_15, s40_16, s40_17, s40_18, s40_20, s40_23, s40_24, s40_27, s40_28, s40_31, s40_32, s40_34, s40_36, s40_39, s40_40, s40_43, s40_44, s40_45, s40_46, s40_48, s40_51, s40_54, s40_56, s40_59, s40_60, s40_62, s40_63, s40_65, s40_66, s40_70, s40_72, s40_75, s40_76, s40_78, s40_79, s40_80, s40_82, s40_84, s40_86, s40_87, s40_89, s40_90, s40_91, s40_94, s40_96, s40_98, s40_99, s40_102, s40_104, s40_106, s40_107, s40_109, s40_110, s40_111, s40_112, s40_113, s40_114, s40_116, s40_118, s40_121, s40_123, s40_126, s40_129, s40_130, nez, ni_ne_m1 hbd, hor', false_implies, true_implies, not_true_eq_false, not_false_eq_true, true_and, and_true, true_or, or_true, false_or, or_false, false_and, and_false, implies_true, nw_psh_s, nw_psh_n, ni_10, ni_00]
        exact hQ'
