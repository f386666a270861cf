/-! WORDS -/
def nwm (tx : Nat → Nat) : Nat → List Nat → Bool
  | _, [] => true
  | s, b :: bs => decide (tx s = b) && nwm tx (s + 1) bs
def nwd (L : Nat) (tx : Nat → Nat) (s : Nat) (bs : List Nat) : Bool := decide (nen L tx s - s = bs.length) && nwm tx s bs
theorem nl_getD_s {bs : List Nat} {i : Nat} {b : Nat} {rest : List Nat} (h : ∀ k, k < (b :: rest).length → bs.getD (i + k) 0 = (b :: rest).getD k 0) : bs.getD i 0 = b ∧ ∀ k, k < rest.length → bs.getD (i + 1 + k) 0 = rest.getD k 0 := by
  refine ⟨h 0 (by rw [List.length_cons]; omega), fun k hk => ?_⟩
  have := h (k + 1) (by rw [List.length_cons]; omega)
  rw [show i + (k + 1) = i + 1 + k by omega] at this
  exact this
theorem x_isWord {L : Nat} {tx : Nat → Nat} {m : nw_M} (h : nx_tx L tx m) (d : Nat) (Q : nw_K) {s : Nat} (hs : s ≤ L) (g2 : m 3 2 = nI s) (g3 : m 3 3 = nI (nen L tx s)) {a j : Nat} (ha : 100 ≤ a) (haj : a - 100 = j) (hj : j < nw_sn.length) {bs : List Nat} (hn : nw_sn.getD j 0 = bs.length) (hb : ∀ k, k < bs.length → (nw_sb.getD j []).getD k 0 = nI (bs.getD k 0)) (h256 : ∀ x, x ∈ bs → x < 256) (hlen : bs.length < 9) : nw_Ex (d + 2) nw_shX 63 [.ref 3, .ref 1, .ref a] m Q = Q (some (.int (if nwd L tx s bs then 1 else 0))) m := by
  have hL := h.2.1
  have hle := nen_le tx hs
  have hsub := pk_sub (show s ≤ nen L tx s by omega)
  have hj' : (j < nw_sn.length) = True := eq_true hj
  have ha' : (100 ≤ a) = True := eq_true ha
  have hlI : Int32.ofNat bs.length = nI bs.length := rfl
  unfold nwd
  by_cases hl : nen L tx s - s = bs.length
  · have hlp : ∀ (rest : List Nat) i, i + rest.length = bs.length → (∀ k, k < rest.length → bs.getD (i + k) 0 = rest.getD k 0) → (∀ x, x ∈ rest → x < 256) → nw_Ev (d + 1) nw_shX 63 Q 20 [some (.ref 3), some (.ref 1), some (.ref a), some (.int (nI i))] [] m = Q (some (.int (if nwm tx (s + i) rest then 1 else 0))) m := by
      intro rest
      induction rest with
      | nil =>
        intro i hi _ _
        have hi' : i = bs.length := hi
        subst hi'
        rw [s63_20]
        simp only [e63, s63_0, s63_1, s63_4, s63_5, s63_8, s63_9, s63_10, s63_13, s63_16, s63_17, s63_18, s63_19, s63_21, s63_22, s63_25, s63_28, s63_29, s63_30, s63_33, s63_34, s63_35, s63_38, s63_39, s63_40, s63_43, s63_46, s63_47, s63_48, s63_51, s63_54, s63_55, Nat.reduceAdd, nw_sl, ha', haj, hj', hn, hlI, show nw_sml [Value.int (nI bs.length)] = true from rfl, ni_le_t (Nat.le_refl bs.length) (show bs.length < 2 ^ 31 by omega), nwm, if_true, false_implies, true_implies, not_true_eq_false, not_false_eq_true, true_and, and_true, true_or, or_true, false_or, or_false, false_and, and_false, implies_true, nw_psh_s, nw_psh_n, ni_10, ni_00]
      | cons b rest ih =>
        intro i hi hg h2
        rw [List.length_cons] at hi
        obtain ⟨q1, q2⟩ := nl_getD_s hg
        have hb256 := h2 b List.mem_cons_self
        have hh := ih (i + 1) (by omega) q2 (fun x hx => h2 x (List.mem_cons_of_mem _ hx))
        have hsi : s + i < L := by omega
        have htx := (h.2.2 (s + i) hsi).2
        have hby := fun Q' => x_byteAt h d Q' (i := s + i) (by omega)
        have hch := hb i (by omega)
        rw [q1] at hch
        have hvi : vp_in (nI i) bs.length := vp_in_nI (by omega) (by omega)
        have hle2 := ni_le_f (show i < bs.length by omega) (show bs.length < 2 ^ 31 by omega)
        rw [show s + (i + 1) = s + i + 1 by omega] at hh
        rw [s63_20]
        unfold nwm
        by_cases he : tx (s + i) = b
        · simp only [e63, s63_0, s63_1, s63_4, s63_5, s63_8, s63_9, s63_10, s63_13, s63_16, s63_17, s63_18, s63_19, s63_21, s63_22, s63_25, s63_28, s63_29, s63_30, s63_33, s63_34, s63_35, s63_38, s63_39, s63_40, s63_43, s63_46, s63_47, s63_48, s63_51, s63_54, s63_55, Nat.reduceAdd, nw_sl, nw_sc, ha', haj, hj', hn, hlI, show ∀ z, nw_sml [Value.int z] = true from fun _ => rfl, hle2, g2, nI_add, hby, hsi, if_true, hvi, ni_cl (show i < 2 ^ 31 by omega), hch, ni_eq_t he, he, decide_true, Bool.true_and, nI_1, false_implies, true_implies, not_true_eq_false, not_false_eq_true, true_and, and_true, true_or, or_true, false_or, or_false, false_and, and_false, implies_true, nw_psh_s, nw_psh_n, ni_10, ni_00]
          exact hh
        · simp only [e63, s63_0, s63_1, s63_4, s63_5, s63_8, s63_9, s63_10, s63_13, s63_16, s63_17, s63_18, s63_19, s63_21, s63_22, s63_25, s63_28, s63_29, s63_30, s63_33, s63_34, s63_35, s63_38, s63_39, s63_40, s63_43, s63_46, s63_47, s63_48, s63_51, s63_54, s63_55, Nat.reduceAdd, nw_sl, nw_sc, ha', haj, hj', hn, hlI, show ∀ z, nw_sml [Value.int z] = true from fun _ => rfl, hle2, g2, nI_add, hby, hsi, if_true, hvi, ni_cl (show i < 2 ^ 31 by omega), hch, ni_eq_f he (show tx (s + i) < 2 ^ 31 by omega) (show b < 2 ^ 31 by omega), he, decide_false, Bool.false_and, if_false, Bool.false_eq_true, false_implies, true_implies, not_true_eq_false, not_false_eq_true, true_and, and_true, true_or, or_true, false_or, or_false, false_and, and_false, implies_true, nw_psh_s, nw_psh_n, ni_10, ni_00]
    have hfin := hlp bs 0 (by omega) (fun k _ => by rw [Nat.zero_add]) h256
    rw [Nat.add_zero] at hfin
    simp only [e63, s63_0, s63_1, s63_4, s63_5, s63_8, s63_9, s63_10, s63_13, s63_16, s63_17, s63_18, s63_19, s63_21, s63_22, s63_25, s63_28, s63_29, s63_30, s63_33, s63_34, s63_35, s63_38, s63_39, s63_40, s63_43, s63_46, s63_47, s63_48, s63_51, s63_54, s63_55, Nat.reduceAdd, nw_sl, ha', haj, hj', hn, hlI, show ∀ z, nw_sml [Value.int z] = true from fun _ => rfl, g2, g3, hsub, ni_eq_t hl, hl, decide_true, Bool.true_and, false_implies, true_implies, not_true_eq_false, not_false_eq_true, true_and, and_true, true_or, or_true, false_or, or_false, false_and, and_false, implies_true, nw_psh_s, nw_psh_n, ni_10, ni_00]
    exact hfin
  · simp only [e63, s63_0, s63_1, s63_4, s63_5, s63_8, s63_9, s63_10, s63_13, s63_16, s63_17, s63_18, s63_19, s63_21, s63_22, s63_25, s63_28, s63_29, s63_30, s63_33, s63_34, s63_35, s63_38, s63_39, s63_40, s63_43, s63_46, s63_47, s63_48, s63_51, s63_54, s63_55, Nat.reduceAdd, nw_sl, ha', haj, hj', hn, hlI, show ∀ z, nw_sml [Value.int z] = true from fun _ => rfl, g2, g3, hsub, ni_eq_f hl (show nen L tx s - s < 2 ^ 31 by omega) (show bs.length < 2 ^ 31 by omega), hl, decide_false, Bool.false_and, if_false, Bool.false_eq_true, false_implies, true_implies, not_true_eq_false, not_false_eq_true, true_and, and_true, true_or, or_true, false_or, or_false, false_and, and_false, implies_true, nw_psh_s, nw_psh_n, ni_10, ni_00]
theorem m_isWord {L : Nat} {tx : Nat → Nat} {m : nw_M} (h : nm_tx L tx m) (d : Nat) (Q : nw_K) {s : Nat} (hs : s ≤ L) (g2 : m 0 12 = nI s) (g3 : m 0 13 = nI (nen L tx s)) {W z ln : Int32} {bs : List Nat} (hln : ln = nI bs.length) (hb : ∀ k, k < bs.length → (if (6 : Int32) ≤ nI k then 96 + z else 96 + (W >>> (5 * nI k &&& 31) &&& 31)) = nI (bs.getD k 0)) (h256 : ∀ x, x ∈ bs → x < 256) (hlen : bs.length < 9) : nw_Ex (d + 2) nw_shM 103 [.ref 0, .int W, .int ln, .int z] m Q = Q (some (.int (if nwd L tx s bs then 1 else 0))) m := by
  subst hln
  have hL := h.2.1
  have hle := nen_le tx hs
  have hsub := pk_sub (show s ≤ nen L tx s by omega)
  unfold nwd
  by_cases hl : nen L tx s - s = bs.length
  · have hoff : ∀ i, nw_Ev (d + 1) nw_shM 103 Q 23 [some (.ref 0), some (.int W), some (.int (nI bs.length)), some (.int z), some (.int 0), some (.int i)] [] m = Q (some (.int 0)) m := by
      intro i
      rw [s103_23]
      simp only [e103, s103_0, s103_1, s103_4, s103_5, s103_8, s103_9, s103_10, s103_13, s103_14, s103_17, s103_18, s103_20, s103_21, s103_25, s103_28, s103_30, s103_31, s103_34, s103_35, s103_38, s103_39, s103_42, s103_44, s103_45, s103_46, s103_48, s103_50, s103_52, s103_55, s103_56, s103_57, s103_59, s103_60, s103_61, s103_63, s103_64, s103_67, s103_68, s103_69, s103_72, s103_73, s103_76, s103_77, s103_79, s103_82, s103_85, s103_87, false_implies, true_implies, not_true_eq_false, not_false_eq_true, true_and, and_true, true_or, or_true, false_or, or_false, false_and, and_false, implies_true, nw_psh_s, nw_psh_n, ni_10, ni_00]
    have hlp : ∀ (rest : List Nat) i, i + rest.length = bs.length → (∀ k, k < rest.length → bs.getD (i + k) 0 = rest.getD k 0) → (∀ x, x ∈ rest → x < 256) → nw_Ev (d + 1) nw_shM 103 Q 23 [some (.ref 0), some (.int W), some (.int (nI bs.length)), some (.int z), some (.int 1), some (.int (nI i))] [] m = Q (some (.int (if nwm tx (s + i) rest then 1 else 0))) m := by
      intro rest
      induction rest with
      | nil =>
        intro i hi _ _
        have hi' : i = bs.length := hi
        subst hi'
        rw [s103_23]
        simp only [e103, s103_0, s103_1, s103_4, s103_5, s103_8, s103_9, s103_10, s103_13, s103_14, s103_17, s103_18, s103_20, s103_21, s103_25, s103_28, s103_30, s103_31, s103_34, s103_35, s103_38, s103_39, s103_42, s103_44, s103_45, s103_46, s103_48, s103_50, s103_52, s103_55, s103_56, s103_57, s103_59, s103_60, s103_61, s103_63, s103_64, s103_67, s103_68, s103_69, s103_72, s103_73, s103_76, s103_77, s103_79, s103_82, s103_85, s103_87, show ((1 : Int32) = 0) = False from eq_false (by decide), ni_le_t (Nat.le_refl bs.length) (show bs.length < 2 ^ 31 by omega), nwm, if_true, false_implies, true_implies, not_true_eq_false, not_false_eq_true, true_and, and_true, true_or, or_true, false_or, or_false, false_and, and_false, implies_true, nw_psh_s, nw_psh_n, ni_10, ni_00]
      | cons b rest ih =>
        intro i hi hg h2
        rw [List.length_cons] at hi
        obtain ⟨q1, q2⟩ := nl_getD_s hg
        have hb256 := h2 b List.mem_cons_self
        have hh := ih (i + 1) (by omega) q2 (fun x hx => h2 x (List.mem_cons_of_mem _ hx))
        have hsi : s + i < L := by omega
        have c1 := h.2.2 (s + i) hsi
        have hi1 : vp_in (nI (s + i)) 200 := vp_in_nI (by omega) (by decide)
        have hch := hb i (by omega)
        rw [q1] at hch
        have hle2 := ni_le_f (show i < bs.length by omega) (show bs.length < 2 ^ 31 by omega)
        rw [show s + (i + 1) = s + i + 1 by omega] at hh
        have key : ∀ v, v = nI b → nw_Ev (d + 1) nw_shM 103 Q 69 [some (.ref 0), some (.int W), some (.int (nI bs.length)), some (.int z), some (.int 1), some (.int (nI i))] [.int v, .int (nI (tx (s + i)))] m = Q (some (.int (if nwm tx (s + i) (b :: rest) then 1 else 0))) m := by
          intro v hv
          subst hv
          unfold nwm
          by_cases he : tx (s + i) = b
          · simp only [e103, s103_0, s103_1, s103_4, s103_5, s103_8, s103_9, s103_10, s103_13, s103_14, s103_17, s103_18, s103_20, s103_21, s103_25, s103_28, s103_30, s103_31, s103_34, s103_35, s103_38, s103_39, s103_42, s103_44, s103_45, s103_46, s103_48, s103_50, s103_52, s103_55, s103_56, s103_57, s103_59, s103_60, s103_61, s103_63, s103_64, s103_67, s103_68, s103_69, s103_72, s103_73, s103_76, s103_77, s103_79, s103_82, s103_85, s103_87, ni_eq_t he, he, decide_true, Bool.true_and, nI_1, false_implies, true_implies, not_true_eq_false, not_false_eq_true, true_and, and_true, true_or, or_true, false_or, or_false, false_and, and_false, implies_true, nw_psh_s, nw_psh_n, ni_10, ni_00]
            exact hh
          · simp only [e103, s103_0, s103_1, s103_4, s103_5, s103_8, s103_9, s103_10, s103_13, s103_14, s103_17, s103_18, s103_20, s103_21, s103_25, s103_28, s103_30, s103_31, s103_34, s103_35, s103_38, s103_39, s103_42, s103_44, s103_45, s103_46, s103_48, s103_50, s103_52, s103_55, s103_56, s103_57, s103_59, s103_60, s103_61, s103_63, s103_64, s103_67, s103_68, s103_69, s103_72, s103_73, s103_76, s103_77, s103_79, s103_82, s103_85, s103_87, ni_eq_f he (show tx (s + i) < 2 ^ 31 by have := c1.2; omega) (show b < 2 ^ 31 by omega), he, decide_false, Bool.false_and, if_false, Bool.false_eq_true, false_implies, true_implies, not_true_eq_false, not_false_eq_true, true_and, and_true, true_or, or_true, false_or, or_false, false_and, and_false, implies_true, nw_psh_s, nw_psh_n, ni_10, ni_00]
            exact hoff _
        rw [s103_23]
        by_cases h6 : (6 : Int32) ≤ nI i
        · rw [if_pos h6] at hch
          simp only [e103, s103_0, s103_1, s103_4, s103_5, s103_8, s103_9, s103_10, s103_13, s103_14, s103_17, s103_18, s103_20, s103_21, s103_25, s103_28, s103_30, s103_31, s103_34, s103_35, s103_38, s103_39, s103_42, s103_44, s103_45, s103_46, s103_48, s103_50, s103_52, s103_55, s103_56, s103_57, s103_59, s103_60, s103_61, s103_63, s103_64, s103_67, s103_68, s103_72, s103_73, s103_76, s103_77, s103_79, s103_82, s103_85, s103_87, show ((1 : Int32) = 0) = False from eq_false (by decide), hle2, g2, nI_add, hi1, ni_cl (show s + i < 2 ^ 31 by omega), c1.1, h6, false_implies, true_implies, not_true_eq_false, not_false_eq_true, true_and, and_true, true_or, or_true, false_or, or_false, false_and, and_false, implies_true, nw_psh_s, nw_psh_n, ni_10, ni_00]
          exact key _ hch
        · rw [if_neg h6] at hch
          simp only [e103, s103_0, s103_1, s103_4, s103_5, s103_8, s103_9, s103_10, s103_13, s103_14, s103_17, s103_18, s103_20, s103_21, s103_25, s103_28, s103_30, s103_31, s103_34, s103_35, s103_38, s103_39, s103_42, s103_44, s103_45, s103_46, s103_48, s103_50, s103_52, s103_55, s103_56, s103_57, s103_59, s103_60, s103_61, s103_63, s103_64, s103_67, s103_68, s103_72, s103_73, s103_76, s103_77, s103_79, s103_82, s103_85, s103_87, show ((1 : Int32) = 0) = False from eq_false (by decide), hle2, g2, nI_add, hi1, ni_cl (show s + i < 2 ^ 31 by omega), c1.1, h6, false_implies, true_implies, not_true_eq_false, not_false_eq_true, true_and, and_true, true_or, or_true, false_or, or_false, false_and, and_false, implies_true, nw_psh_s, nw_psh_n, ni_10, ni_00]
          exact key _ hch
    have hfin := hlp bs 0 (by omega) (fun k _ => by rw [Nat.zero_add]) h256
    rw [Nat.add_zero] at hfin
    simp only [e103, s103_0, s103_1, s103_4, s103_5, s103_8, s103_9, s103_10, s103_13, s103_14, s103_17, s103_18, s103_20, s103_21, s103_25, s103_28, s103_30, s103_31, s103_34, s103_35, s103_38, s103_39, s103_42, s103_44, s103_45, s103_46, s103_48, s103_50, s103_52, s103_55, s103_56, s103_57, s103_59, s103_60, s103_61, s103_63, s103_64, s103_67, s103_68, s103_69, s103_72, s103_73, s103_76, s103_77, s103_79, s103_82, s103_85, s103_87, g2, g3, hsub, ni_eq_t hl, hl, decide_true, Bool.true_and, false_implies, true_implies, not_true_eq_false, not_false_eq_true, true_and, and_true, true_or, or_true, false_or, or_false, false_and, and_false, implies_true, nw_psh_s, nw_psh_n, ni_10, ni_00]
    exact hfin
  · simp only [e103, s103_0, s103_1, s103_4, s103_5, s103_8, s103_9, s103_10, s103_13, s103_14, s103_17, s103_18, s103_20, s103_21, s103_25, s103_28, s103_30, s103_31, s103_34, s103_35, s103_38, s103_39, s103_42, s103_44, s103_45, s103_46, s103_48, s103_50, s103_52, s103_55, s103_56, s103_57, s103_59, s103_60, s103_61, s103_63, s103_64, s103_67, s103_68, s103_69, s103_72, s103_73, s103_76, s103_77, s103_79, s103_82, s103_85, s103_87, g2, g3, hsub, ni_eq_f hl (show nen L tx s - s < 2 ^ 31 by omega) (show bs.length < 2 ^ 31 by omega), hl, decide_false, Bool.false_and, if_false, Bool.false_eq_true, false_implies, true_implies, not_true_eq_false, not_false_eq_true, true_and, and_true, true_or, or_true, false_or, or_false, false_and, and_false, implies_true, nw_psh_s, nw_psh_n, ni_10, ni_00]
    rw [s103_23]
    simp only [e103, s103_0, s103_1, s103_4, s103_5, s103_8, s103_9, s103_10, s103_13, s103_14, s103_17, s103_18, s103_20, s103_21, s103_25, s103_28, s103_30, s103_31, s103_34, s103_35, s103_38, s103_39, s103_42, s103_44, s103_45, s103_46, s103_48, s103_50, s103_52, s103_55, s103_56, s103_57, s103_59, s103_60, s103_61, s103_63, s103_64, s103_67, s103_68, s103_69, s103_72, s103_73, s103_76, s103_77, s103_79, s103_82, s103_85, s103_87, false_implies, true_implies, not_true_eq_false, not_false_eq_true, true_and, and_true, true_or, or_true, false_or, or_false, false_and, and_false, implies_true, nw_psh_s, nw_psh_n, ni_10, ni_00]
/-! which word: 0 town, 1 plain, 2 against, 3 second, 4 spring, 5 way, 6 vane, 7 walker, 8 nobody -/
def nwW : Nat → List Nat
  | 0 => [116, 111, 119, 110]
  | 1 => [112, 108, 97, 105, 110]
  | 2 => [97, 103, 97, 105, 110, 115, 116]
  | 3 => [115, 101, 99, 111, 110, 100]
  | 4 => [115, 112, 114, 105, 110, 103]
  | 5 => [119, 97, 121]
  | 6 => [118, 97, 110, 101]
  | 7 => [119, 97, 108, 107, 101, 114]
  | 8 => [110, 111, 98, 111, 100, 121]
  | _ => []
def nwo (L : Nat) (tx : Nat → Nat) (s : Nat) : Option Nat := ([1, 2, 3, 4, 0, 5, 6, 7, 8] : List Nat).find? (fun i => nwd L tx s (nwW i))
theorem nwm_uniq (tx : Nat → Nat) : ∀ (a b : List Nat) s, a.length = b.length → nwm tx s a = true → nwm tx s b = true → a = b
  | [], [], _, _, _, _ => rfl
  | [], b :: bs, _, h, _, _ => by cases h
  | a :: as, [], _, h, _, _ => by cases h
  | a :: as, b :: bs, s, h, h1, h2 => by
    obtain ⟨p1, p2⟩ := Bool.and_eq_true_iff.mp (show (decide (tx s = a) && nwm tx (s + 1) as) = true from h1)
    obtain ⟨r1, r2⟩ := Bool.and_eq_true_iff.mp (show (decide (tx s = b) && nwm tx (s + 1) bs) = true from h2)
    have e1 := of_decide_eq_true p1
    have e2 := of_decide_eq_true r1
    rw [nwm_uniq tx as bs (s + 1) (by rw [List.length_cons, List.length_cons] at h; omega) p2 r2, ← e1, ← e2]
theorem nwd_uniq {L : Nat} {tx : Nat → Nat} {s : Nat} {a b : List Nat} (h1 : nwd L tx s a = true) (h2 : nwd L tx s b = true) : a = b := by
  obtain ⟨p1, p2⟩ := Bool.and_eq_true_iff.mp h1
  obtain ⟨r1, r2⟩ := Bool.and_eq_true_iff.mp h2
  have e1 := of_decide_eq_true p1
  have e2 := of_decide_eq_true r1
  exact nwm_uniq tx a b s (by omega) p2 r2
theorem nwW_inj : ∀ i, i < 9 → ∀ j, j < 9 → nwW i = nwW j → i = j := by decide
theorem nwo_iff {L : Nat} {tx : Nat → Nat} {s i : Nat} (hi : i < 9) : nwd L tx s (nwW i) = decide (nwo L tx s = some i) := by
  by_cases h : nwd L tx s (nwW i) = true
  · rw [h]
    refine (decide_eq_true ?_).symm
    unfold nwo
    have hmem : i ∈ ([1, 2, 3, 4, 0, 5, 6, 7, 8] : List Nat) := (by decide : ∀ i, i < 9 → i ∈ ([1, 2, 3, 4, 0, 5, 6, 7, 8] : List Nat)) i hi
    cases hf : ([1, 2, 3, 4, 0, 5, 6, 7, 8] : List Nat).find? (fun i => nwd L tx s (nwW i)) with
    | none => exact absurd h (by have := List.find?_eq_none.mp hf i hmem; exact this)
    | some k =>
      have hk := List.find?_some hf
      have hk9 : k < 9 := (by decide : ∀ k, k ∈ ([1, 2, 3, 4, 0, 5, 6, 7, 8] : List Nat) → k < 9) k (List.mem_of_find?_eq_some hf)
      rw [nwW_inj k hk9 i hi (nwd_uniq hk h)]
  · rw [(Bool.not_eq_true _).mp h]
    refine (decide_eq_false (fun hz => h ?_)).symm
    exact List.find?_some (p := fun i => nwd L tx s (nwW i)) hz
theorem nwo_lt {L : Nat} {tx : Nat → Nat} {s i : Nat} (h : nwo L tx s = some i) : i < 9 := (by decide : ∀ k, k ∈ ([1, 2, 3, 4, 0, 5, 6, 7, 8] : List Nat) → k < 9) i (List.mem_of_find?_eq_some h)
theorem nwW_256 : ∀ i, i < 9 → (∀ x, x ∈ nwW i → x < 256) ∧ (nwW i).length < 9 ∧ 0 < (nwW i).length ∧ 97 ≤ (nwW i).getD 0 0 ∧ (nwW i).getD 0 0 ≤ 122 := by decide
/-- a word is a token of letters -/
theorem nwo_sp {L : Nat} {tx : Nat → Nat} {s i : Nat} (h : nwo L tx s = some i) : nsp L tx s = 1 := by
  have hi := nwo_lt h
  have hd : nwd L tx s (nwW i) = true := by rw [nwo_iff hi]; exact decide_eq_true h
  obtain ⟨-, -, h3, h4, h5⟩ := nwW_256 i hi
  obtain ⟨p1, p2⟩ := Bool.and_eq_true_iff.mp hd
  have e1 := of_decide_eq_true p1
  have hsl : s < L := by
    rcases Nat.lt_or_ge s L with q | q
    · exact q
    · have : nen L tx s = s := by unfold nen; rw [if_neg (by omega)]
      omega
  cases hw : nwW i with
  | nil => rw [hw] at h3; exact absurd h3 (Nat.lt_irrefl 0)
  | cons b bs =>
    rw [hw] at p2 h4 h5
    obtain ⟨r1, -⟩ := Bool.and_eq_true_iff.mp (show (decide (tx s = b) && nwm tx (s + 1) bs) = true from p2)
    have e2 := of_decide_eq_true r1
    have h4' : 97 ≤ b := h4
    have h5' : b ≤ 122 := h5
    have hso : nso (tx s) = 1 := by unfold nso; rw [if_pos (by omega)]
    unfold nsp
    rw [if_pos hsl, hso]
    rfl
/-- a constant of the class is the word of a number -/
theorem x_word {L : Nat} {tx : Nat → Nat} {m : nw_M} (h : nx_tx L tx m) (d : Nat) (Q : nw_K) {s : Nat} (hs : s ≤ L) (g2 : m 3 2 = nI s) (g3 : m 3 3 = nI (nen L tx s)) {a i : Nat} (ha : (a, i) ∈ ([(100, 0), (101, 5), (102, 6), (103, 7), (104, 8), (105, 1), (106, 2), (107, 3), (108, 4)] : List (Nat × Nat))) : nw_Ex (d + 2) nw_shX 63 [.ref 3, .ref 1, .ref a] m Q = Q (some (.int (if nwo L tx s = some i then 1 else 0))) m := by
  have hi : i < 9 := (by decide : ∀ p, p ∈ ([(100, 0), (101, 5), (102, 6), (103, 7), (104, 8), (105, 1), (106, 2), (107, 3), (108, 4)] : List (Nat × Nat)) → p.2 < 9) (a, i) ha
  have hall : 100 ≤ a ∧ a - 100 < nw_sn.length ∧ nw_sn.getD (a - 100) 0 = (nwW i).length ∧ ∀ k, k < (nwW i).length → (nw_sb.getD (a - 100) []).getD k 0 = nI ((nwW i).getD k 0) :=
    (by decide +kernel : ∀ p, p ∈ ([(100, 0), (101, 5), (102, 6), (103, 7), (104, 8), (105, 1), (106, 2), (107, 3), (108, 4)] : List (Nat × Nat)) → 100 ≤ p.1 ∧ p.1 - 100 < nw_sn.length ∧ nw_sn.getD (p.1 - 100) 0 = (nwW p.2).length ∧ ∀ k, k < (nwW p.2).length → (nw_sb.getD (p.1 - 100) []).getD k 0 = nI ((nwW p.2).getD k 0)) (a, i) ha
  have hw := nwW_256 i hi
  rw [x_isWord h d Q hs g2 g3 hall.1 rfl hall.2.1 hall.2.2.1 hall.2.2.2 hw.1 hw.2.1, nwo_iff hi]
  by_cases q : nwo L tx s = some i
  · rw [if_pos q, if_pos (decide_eq_true q)]
  · rw [if_neg q, if_neg (by rw [decide_eq_false q]; exact Bool.false_ne_true)]
theorem m_word {L : Nat} {tx : Nat → Nat} {m : nw_M} (h : nm_tx L tx m) (d : Nat) (Q : nw_K) {s : Nat} (hs : s ≤ L) (g2 : m 0 12 = nI s) (g3 : m 0 13 = nI (nen L tx s)) {W z ln : Int32} {i : Nat} (ha : (W, ln, z, i) ∈ ([(482804, 4, 0, 0), (14976400, 5, 0, 1), (652510433, 7, 20, 2), (149392563, 6, 0, 3), (249874963, 6, 0, 4), (25655, 3, 0, 5), (178230, 4, 0, 6), (609595447, 6, 0, 7), (843549166, 6, 0, 8)] : List (Int32 × Int32 × Int32 × Nat))) : nw_Ex (d + 2) nw_shM 103 [.ref 0, .int W, .int ln, .int z] m Q = Q (some (.int (if nwo L tx s = some i then 1 else 0))) m := by
  have hi : i < 9 := (by decide : ∀ p, p ∈ ([(482804, 4, 0, 0), (14976400, 5, 0, 1), (652510433, 7, 20, 2), (149392563, 6, 0, 3), (249874963, 6, 0, 4), (25655, 3, 0, 5), (178230, 4, 0, 6), (609595447, 6, 0, 7), (843549166, 6, 0, 8)] : List (Int32 × Int32 × Int32 × Nat)) → p.2.2.2 < 9) (W, ln, z, i) ha
  have hall : ln = nI (nwW i).length ∧ ∀ k, k < (nwW i).length → (if (6 : Int32) ≤ nI k then 96 + z else 96 + (W >>> (5 * nI k &&& 31) &&& 31)) = nI ((nwW i).getD k 0) :=
    (by decide +kernel : ∀ p, p ∈ ([(482804, 4, 0, 0), (14976400, 5, 0, 1), (652510433, 7, 20, 2), (149392563, 6, 0, 3), (249874963, 6, 0, 4), (25655, 3, 0, 5), (178230, 4, 0, 6), (609595447, 6, 0, 7), (843549166, 6, 0, 8)] : List (Int32 × Int32 × Int32 × Nat)) → p.2.1 = nI (nwW p.2.2.2).length ∧ ∀ k, k < (nwW p.2.2.2).length → (if (6 : Int32) ≤ nI k then 96 + p.2.2.1 else 96 + (p.1 >>> (5 * nI k &&& 31) &&& 31)) = nI ((nwW p.2.2.2).getD k 0)) (W, ln, z, i) ha
  have hw := nwW_256 i hi
  rw [m_isWord h d Q hs g2 g3 hall.1 hall.2 hw.1 hw.2.1, nwo_iff hi]
  by_cases q : nwo L tx s = some i
  · rw [if_pos q, if_pos (decide_eq_true q)]
  · rw [if_neg q, if_neg (by rw [decide_eq_false q]; exact Bool.false_ne_true)]
theorem m_wordOf {L : Nat} {tx : Nat → Nat} {m : nw_M} (h : nm_tx L tx m) (d : Nat) (Q : nw_K) {s : Nat} (hs : s ≤ L) (g2 : m 0 12 = nI s) (g3 : m 0 13 = nI (nen L tx s)) : nw_Ex (d + 4) nw_shM 105 [.ref 0] m Q = Q (some (.int (nz_o (nwo L tx s)))) m := by
  have w0 := fun d Q' => m_word h d Q' hs g2 g3 (W := 482804) (ln := 4) (z := 0) (i := 0) (by decide)
  have w1 := fun d Q' => m_word h d Q' hs g2 g3 (W := 14976400) (ln := 5) (z := 0) (i := 1) (by decide)
  have w2 := fun d Q' => m_word h d Q' hs g2 g3 (W := 652510433) (ln := 7) (z := 20) (i := 2) (by decide)
  have w3 := fun d Q' => m_word h d Q' hs g2 g3 (W := 149392563) (ln := 6) (z := 0) (i := 3) (by decide)
  have w4 := fun d Q' => m_word h d Q' hs g2 g3 (W := 249874963) (ln := 6) (z := 0) (i := 4) (by decide)
  have w5 := fun d Q' => m_word h d Q' hs g2 g3 (W := 25655) (ln := 3) (z := 0) (i := 5) (by decide)
  have w6 := fun d Q' => m_word h d Q' hs g2 g3 (W := 178230) (ln := 4) (z := 0) (i := 6) (by decide)
  have w7 := fun d Q' => m_word h d Q' hs g2 g3 (W := 609595447) (ln := 6) (z := 0) (i := 7) (by decide)
  have w8 := fun d Q' => m_word h d Q' hs g2 g3 (W := 843549166) (ln := 6) (z := 0) (i := 8) (by decide)
  cases hw : nwo L tx s with
  | none =>
    rw [hw] at w0 w1 w2 w3 w4 w5 w6 w7 w8
    simp only [reduceCtorEq, if_false] at w0 w1 w2 w3 w4 w5 w6 w7 w8
    simp only [e105, s105_0, s105_1, s105_4, s105_5, s105_6, s105_7, s105_10, s105_11, s105_14, s105_15, s105_17, s105_18, s105_19, s105_22, s105_25, s105_26, s105_29, s105_30, s105_33, s105_34, s105_35, s105_38, s105_41, s105_42, s105_45, s105_46, s105_48, s105_49, s105_50, s105_53, s105_56, s105_58, s105_61, s105_62, s105_64, s105_66, s105_67, s105_70, s105_73, s105_75, s105_78, s105_79, s105_81, s105_83, s105_84, s105_87, s105_90, s105_92, s105_95, s105_96, e104, s104_0, s104_1, s104_3, s104_4, s104_5, s104_8, s104_11, s104_12, s104_15, s104_16, s104_18, s104_20, s104_22, s104_25, s104_28, s104_29, s104_32, s104_33, s104_35, s104_37, s104_38, s104_41, s104_44, s104_45, s104_48, s104_49, s104_51, s104_53, s104_54, s104_57, s104_60, s104_61, s104_64, s104_65, w0, w1, w2, w3, w4, w5, w6, w7, w8, nz_o, false_implies, true_implies, not_true_eq_false, not_false_eq_true, true_and, and_true, true_or, or_true, false_or, or_false, false_and, and_false, implies_true, nw_psh_s, nw_psh_n, ni_10, ni_00]
  | some i =>
    have hi := nwo_lt hw
    rw [hw] at w0 w1 w2 w3 w4 w5 w6 w7 w8
    match i, hi with
    | 0, _ =>
      simp only [Option.some.injEq, reduceCtorEq, Nat.reduceEqDiff, if_false, if_true] at w0 w1 w2 w3 w4
      simp only [e105, s105_0, s105_1, s105_4, s105_5, s105_6, s105_7, s105_10, s105_11, s105_14, s105_15, s105_17, s105_18, s105_19, s105_22, s105_25, s105_26, s105_29, s105_30, s105_33, s105_34, s105_35, s105_38, s105_41, s105_42, s105_45, s105_46, s105_48, s105_49, s105_50, s105_53, s105_56, s105_58, s105_61, s105_62, s105_64, s105_66, s105_67, s105_70, s105_73, s105_75, s105_78, s105_79, s105_81, s105_83, s105_84, s105_87, s105_90, s105_92, s105_95, s105_96, e104, s104_0, s104_1, s104_3, s104_4, s104_5, s104_8, s104_11, s104_12, s104_15, s104_16, s104_18, s104_20, s104_22, s104_25, s104_28, s104_29, s104_32, s104_33, s104_35, s104_37, s104_38, s104_41, s104_44, s104_45, s104_48, s104_49, s104_51, s104_53, s104_54, s104_57, s104_60, s104_61, s104_64, s104_65, w0, w1, w2, w3, w4, nz_o, show nI 0 = 0 from rfl, false_implies, true_implies, not_true_eq_false, not_false_eq_true, true_and, and_true, true_or, or_true, false_or, or_false, false_and, and_false, implies_true, nw_psh_s, nw_psh_n, ni_10, ni_00]
    | 1, _ =>
      simp only [Option.some.injEq, reduceCtorEq, Nat.reduceEqDiff, if_false, if_true] at w1
      simp only [e105, s105_0, s105_1, s105_4, s105_5, s105_6, s105_7, s105_10, s105_11, s105_14, s105_15, s105_17, s105_18, s105_19, s105_22, s105_25, s105_26, s105_29, s105_30, s105_33, s105_34, s105_35, s105_38, s105_41, s105_42, s105_45, s105_46, s105_48, s105_49, s105_50, s105_53, s105_56, s105_58, s105_61, s105_62, s105_64, s105_66, s105_67, s105_70, s105_73, s105_75, s105_78, s105_79, s105_81, s105_83, s105_84, s105_87, s105_90, s105_92, s105_95, s105_96, e104, s104_0, s104_1, s104_3, s104_4, s104_5, s104_8, s104_11, s104_12, s104_15, s104_16, s104_18, s104_20, s104_22, s104_25, s104_28, s104_29, s104_32, s104_33, s104_35, s104_37, s104_38, s104_41, s104_44, s104_45, s104_48, s104_49, s104_51, s104_53, s104_54, s104_57, s104_60, s104_61, s104_64, s104_65, w1, nz_o, show ((1 : Int32) = -1) = False from eq_false (by decide), show nI 1 = 1 from rfl, false_implies, true_implies, not_true_eq_false, not_false_eq_true, true_and, and_true, true_or, or_true, false_or, or_false, false_and, and_false, implies_true, nw_psh_s, nw_psh_n, ni_10, ni_00]
    | 2, _ =>
      simp only [Option.some.injEq, reduceCtorEq, Nat.reduceEqDiff, if_false, if_true] at w1 w2
      simp only [e105, s105_0, s105_1, s105_4, s105_5, s105_6, s105_7, s105_10, s105_11, s105_14, s105_15, s105_17, s105_18, s105_19, s105_22, s105_25, s105_26, s105_29, s105_30, s105_33, s105_34, s105_35, s105_38, s105_41, s105_42, s105_45, s105_46, s105_48, s105_49, s105_50, s105_53, s105_56, s105_58, s105_61, s105_62, s105_64, s105_66, s105_67, s105_70, s105_73, s105_75, s105_78, s105_79, s105_81, s105_83, s105_84, s105_87, s105_90, s105_92, s105_95, s105_96, e104, s104_0, s104_1, s104_3, s104_4, s104_5, s104_8, s104_11, s104_12, s104_15, s104_16, s104_18, s104_20, s104_22, s104_25, s104_28, s104_29, s104_32, s104_33, s104_35, s104_37, s104_38, s104_41, s104_44, s104_45, s104_48, s104_49, s104_51, s104_53, s104_54, s104_57, s104_60, s104_61, s104_64, s104_65, w1, w2, nz_o, show ((2 : Int32) = -1) = False from eq_false (by decide), show nI 2 = 2 from rfl, false_implies, true_implies, not_true_eq_false, not_false_eq_true, true_and, and_true, true_or, or_true, false_or, or_false, false_and, and_false, implies_true, nw_psh_s, nw_psh_n, ni_10, ni_00]
    | 3, _ =>
      simp only [Option.some.injEq, reduceCtorEq, Nat.reduceEqDiff, if_false, if_true] at w1 w2 w3
      simp only [e105, s105_0, s105_1, s105_4, s105_5, s105_6, s105_7, s105_10, s105_11, s105_14, s105_15, s105_17, s105_18, s105_19, s105_22, s105_25, s105_26, s105_29, s105_30, s105_33, s105_34, s105_35, s105_38, s105_41, s105_42, s105_45, s105_46, s105_48, s105_49, s105_50, s105_53, s105_56, s105_58, s105_61, s105_62, s105_64, s105_66, s105_67, s105_70, s105_73, s105_75, s105_78, s105_79, s105_81, s105_83, s105_84, s105_87, s105_90, s105_92, s105_95, s105_96, e104, s104_0, s104_1, s104_3, s104_4, s104_5, s104_8, s104_11, s104_12, s104_15, s104_16, s104_18, s104_20, s104_22, s104_25, s104_28, s104_29, s104_32, s104_33, s104_35, s104_37, s104_38, s104_41, s104_44, s104_45, s104_48, s104_49, s104_51, s104_53, s104_54, s104_57, s104_60, s104_61, s104_64, s104_65, w1, w2, w3, nz_o, show ((3 : Int32) = -1) = False from eq_false (by decide), show nI 3 = 3 from rfl, false_implies, true_implies, not_true_eq_false, not_false_eq_true, true_and, and_true, true_or, or_true, false_or, or_false, false_and, and_false, implies_true, nw_psh_s, nw_psh_n, ni_10, ni_00]
    | 4, _ =>
      simp only [Option.some.injEq, reduceCtorEq, Nat.reduceEqDiff, if_false, if_true] at w1 w2 w3 w4
      simp only [e105, s105_0, s105_1, s105_4, s105_5, s105_6, s105_7, s105_10, s105_11, s105_14, s105_15, s105_17, s105_18, s105_19, s105_22, s105_25, s105_26, s105_29, s105_30, s105_33, s105_34, s105_35, s105_38, s105_41, s105_42, s105_45, s105_46, s105_48, s105_49, s105_50, s105_53, s105_56, s105_58, s105_61, s105_62, s105_64, s105_66, s105_67, s105_70, s105_73, s105_75, s105_78, s105_79, s105_81, s105_83, s105_84, s105_87, s105_90, s105_92, s105_95, s105_96, e104, s104_0, s104_1, s104_3, s104_4, s104_5, s104_8, s104_11, s104_12, s104_15, s104_16, s104_18, s104_20, s104_22, s104_25, s104_28, s104_29, s104_32, s104_33, s104_35, s104_37, s104_38, s104_41, s104_44, s104_45, s104_48, s104_49, s104_51, s104_53, s104_54, s104_57, s104_60, s104_61, s104_64, s104_65, w1, w2, w3, w4, nz_o, show ((4 : Int32) = -1) = False from eq_false (by decide), show nI 4 = 4 from rfl, false_implies, true_implies, not_true_eq_false, not_false_eq_true, true_and, and_true, true_or, or_true, false_or, or_false, false_and, and_false, implies_true, nw_psh_s, nw_psh_n, ni_10, ni_00]
    | 5, _ =>
      simp only [Option.some.injEq, reduceCtorEq, Nat.reduceEqDiff, if_false, if_true] at w0 w1 w2 w3 w4 w5
      simp only [e105, s105_0, s105_1, s105_4, s105_5, s105_6, s105_7, s105_10, s105_11, s105_14, s105_15, s105_17, s105_18, s105_19, s105_22, s105_25, s105_26, s105_29, s105_30, s105_33, s105_34, s105_35, s105_38, s105_41, s105_42, s105_45, s105_46, s105_48, s105_49, s105_50, s105_53, s105_56, s105_58, s105_61, s105_62, s105_64, s105_66, s105_67, s105_70, s105_73, s105_75, s105_78, s105_79, s105_81, s105_83, s105_84, s105_87, s105_90, s105_92, s105_95, s105_96, e104, s104_0, s104_1, s104_3, s104_4, s104_5, s104_8, s104_11, s104_12, s104_15, s104_16, s104_18, s104_20, s104_22, s104_25, s104_28, s104_29, s104_32, s104_33, s104_35, s104_37, s104_38, s104_41, s104_44, s104_45, s104_48, s104_49, s104_51, s104_53, s104_54, s104_57, s104_60, s104_61, s104_64, s104_65, w0, w1, w2, w3, w4, w5, nz_o, show nI 5 = 5 from rfl, false_implies, true_implies, not_true_eq_false, not_false_eq_true, true_and, and_true, true_or, or_true, false_or, or_false, false_and, and_false, implies_true, nw_psh_s, nw_psh_n, ni_10, ni_00]
    | 6, _ =>
      simp only [Option.some.injEq, reduceCtorEq, Nat.reduceEqDiff, if_false, if_true] at w0 w1 w2 w3 w4 w5 w6
      simp only [e105, s105_0, s105_1, s105_4, s105_5, s105_6, s105_7, s105_10, s105_11, s105_14, s105_15, s105_17, s105_18, s105_19, s105_22, s105_25, s105_26, s105_29, s105_30, s105_33, s105_34, s105_35, s105_38, s105_41, s105_42, s105_45, s105_46, s105_48, s105_49, s105_50, s105_53, s105_56, s105_58, s105_61, s105_62, s105_64, s105_66, s105_67, s105_70, s105_73, s105_75, s105_78, s105_79, s105_81, s105_83, s105_84, s105_87, s105_90, s105_92, s105_95, s105_96, e104, s104_0, s104_1, s104_3, s104_4, s104_5, s104_8, s104_11, s104_12, s104_15, s104_16, s104_18, s104_20, s104_22, s104_25, s104_28, s104_29, s104_32, s104_33, s104_35, s104_37, s104_38, s104_41, s104_44, s104_45, s104_48, s104_49, s104_51, s104_53, s104_54, s104_57, s104_60, s104_61, s104_64, s104_65, w0, w1, w2, w3, w4, w5, w6, nz_o, show nI 6 = 6 from rfl, false_implies, true_implies, not_true_eq_false, not_false_eq_true, true_and, and_true, true_or, or_true, false_or, or_false, false_and, and_false, implies_true, nw_psh_s, nw_psh_n, ni_10, ni_00]
    | 7, _ =>
      simp only [Option.some.injEq, reduceCtorEq, Nat.reduceEqDiff, if_false, if_true] at w0 w1 w2 w3 w4 w5 w6 w7
      simp only [e105, s105_0, s105_1, s105_4, s105_5, s105_6, s105_7, s105_10, s105_11, s105_14, s105_15, s105_17, s105_18, s105_19, s105_22, s105_25, s105_26, s105_29, s105_30, s105_33, s105_34, s105_35, s105_38, s105_41, s105_42, s105_45, s105_46, s105_48, s105_49, s105_50, s105_53, s105_56, s105_58, s105_61, s105_62, s105_64, s105_66, s105_67, s105_70, s105_73, s105_75, s105_78, s105_79, s105_81, s105_83, s105_84, s105_87, s105_90, s105_92, s105_95, s105_96, e104, s104_0, s104_1, s104_3, s104_4, s104_5, s104_8, s104_11, s104_12, s104_15, s104_16, s104_18, s104_20, s104_22, s104_25, s104_28, s104_29, s104_32, s104_33, s104_35, s104_37, s104_38, s104_41, s104_44, s104_45, s104_48, s104_49, s104_51, s104_53, s104_54, s104_57, s104_60, s104_61, s104_64, s104_65, w0, w1, w2, w3, w4, w5, w6, w7, nz_o, show nI 7 = 7 from rfl, false_implies, true_implies, not_true_eq_false, not_false_eq_true, true_and, and_true, true_or, or_true, false_or, or_false, false_and, and_false, implies_true, nw_psh_s, nw_psh_n, ni_10, ni_00]
    | 8, _ =>
      simp only [Option.some.injEq, reduceCtorEq, Nat.reduceEqDiff, if_false, if_true] at w0 w1 w2 w3 w4 w5 w6 w7 w8
      simp only [e105, s105_0, s105_1, s105_4, s105_5, s105_6, s105_7, s105_10, s105_11, s105_14, s105_15, s105_17, s105_18, s105_19, s105_22, s105_25, s105_26, s105_29, s105_30, s105_33, s105_34, s105_35, s105_38, s105_41, s105_42, s105_45, s105_46, s105_48, s105_49, s105_50, s105_53, s105_56, s105_58, s105_61, s105_62, s105_64, s105_66, s105_67, s105_70, s105_73, s105_75, s105_78, s105_79, s105_81, s105_83, s105_84, s105_87, s105_90, s105_92, s105_95, s105_96, e104, s104_0, s104_1, s104_3, s104_4, s104_5, s104_8, s104_11, s104_12, s104_15, s104_16, s104_18, s104_20, s104_22, s104_25, s104_28, s104_29, s104_32, s104_33, s104_35, s104_37, s104_38, s104_41, s104_44, s104_45, s104_48, s104_49, s104_51, s104_53, s104_54, s104_57, s104_60, s104_61, s104_64, s104_65, w0, w1, w2, w3, w4, w5, w6, w7, w8, nz_o, show nI 8 = 8 from rfl, false_implies, true_implies, not_true_eq_false, not_false_eq_true, true_and, and_true, true_or, or_true, false_or, or_false, false_and, and_false, implies_true, nw_psh_s, nw_psh_n, ni_10, ni_00]
    | i + 9, h => exact absurd h (by omega)
