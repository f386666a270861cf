/-! ONE LINE -/
theorem x_clearD {D : nD} {m0 : nw_M} (d : Nat) (Q : nw_K) {n : Nat} (hQ : ∀ m', nxf m0 m' → nx_D (nd_town n D) m' → Q none m') : nw_Ex (d + 1) nw_shX 5 [.ref 8, .int (nI n)] m0 Q := by
  have hlp : ∀ j k m1, k + j = 8 → nxf m0 m1 → (∀ c, c < k → m1 9 c = 0 ∧ m1 10 c = 0) → nw_Ev d nw_shX 5 Q 2 [some (.ref 8), some (.int (nI n)), some (.int (nI k))] [] m1 := by
    intro j
    induction j with
    | zero =>
      intro k m1 hk hf h
      have hk' : k = 8 := by omega
      subst hk'
      rw [s5_2]
      simp only [e5, s5_0, s5_1, s5_3, s5_5, s5_8, s5_9_4, s5_9_8, s5_12, s5_13, s5_14_5, s5_14_9, s5_15, s5_16_4, s5_16_8, s5_19, s5_20, s5_21_6, s5_21_10, s5_22, s5_25, s5_28, s5_29, s5_30_4, s5_30_8, s5_33, s5_34, s5_35_4, s5_35_8, s5_38, s5_39, s5_40_4, s5_40_8, s5_43, show ((8 : Int32) ≤ nI 8) = True from eq_true (by decide), false_implies, true_implies, not_true_eq_false, not_false_eq_true, true_and, and_true, true_or, or_true, false_or, or_false, false_and, and_false, implies_true, nw_psh_s, nw_psh_n, ni_10, ni_00]
      refine hQ _ (nxf_tr hf (nxf_tr (nxf_tr (nxf_up (a := 8) _ (by omega)) (nxf_up (a := 8) _ (by omega))) (nxf_up _ (by omega)))) ⟨⟨?_, ?_, fun j hj => ?_, fun j hj => ?_, fun j hj i hi => ?_⟩, ?_⟩
      · rw [nw_up_at, if_neg (by omega), nw_up_at, if_neg (by omega), nw_up_at, if_pos ⟨rfl, rfl⟩]; rfl
      · rw [nw_up_at, if_neg (by omega), nw_up_at, if_pos ⟨rfl, rfl⟩]; rfl
      · rw [nw_up_at, if_neg (by omega), nw_up_at, if_neg (by omega), nw_up_at, if_neg (by omega)]; exact (h j hj).1
      · rw [nw_up_at, if_neg (by omega), nw_up_at, if_neg (by omega), nw_up_at, if_neg (by omega)]; exact (h j hj).2
      · exact absurd (show i < 0 from hi) (Nat.not_lt_zero i)
      · rw [nw_up_at, if_pos ⟨rfl, rfl⟩]; exact nx_S_0
    | succ j ih =>
      intro k m1 hk hf h
      have hle : ((8 : Int32) ≤ nI k) = False := ni_le_f (a := 8) (by omega) (by decide)
      have hi : vp_in (nI k) 8 := vp_in_nI (by omega) (by decide)
      rw [s5_2]
      simp only [e5, s5_0, s5_1, s5_3, s5_5, s5_8, s5_9_4, s5_9_8, s5_12, s5_13, s5_14_5, s5_14_9, s5_15, s5_16_4, s5_16_8, s5_19, s5_20, s5_21_6, s5_21_10, s5_22, s5_25, s5_28, s5_29, s5_30_4, s5_30_8, s5_33, s5_34, s5_35_4, s5_35_8, s5_38, s5_39, s5_40_4, s5_40_8, s5_43, hle, hi, ni_cl (show k < 2 ^ 31 by omega), nI_1, false_implies, true_implies, not_true_eq_false, not_false_eq_true, true_and, and_true, true_or, or_true, false_or, or_false, false_and, and_false, implies_true, nw_psh_s, nw_psh_n, ni_10, ni_00]
      refine ih (k + 1) _ (by omega) (nxf_tr hf (nxf_tr (nxf_up (a := 9) _ (by omega)) (nxf_up _ (by omega)))) (fun c hc => ⟨?_, ?_⟩)
      · rw [nw_up_at, if_neg (by omega), nw_up_at]
        by_cases q : c = k
        · rw [if_pos ⟨rfl, q⟩]
        · rw [if_neg (by omega)]; exact (h c (by omega)).1
      · rw [nw_up_at]
        by_cases q : c = k
        · rw [if_pos ⟨rfl, q⟩]
        · rw [if_neg (by omega), nw_up_at, if_neg (by omega)]; exact (h c (by omega)).2
  simp only [e5, s5_0, s5_1, s5_3, s5_5, s5_8, s5_9_4, s5_9_8, s5_12, s5_13, s5_14_5, s5_14_9, s5_15, s5_16_4, s5_16_8, s5_19, s5_20, s5_21_6, s5_21_10, s5_22, s5_25, s5_28, s5_29, s5_30_4, s5_30_8, s5_33, s5_34, s5_35_4, s5_35_8, s5_38, s5_39, s5_40_4, s5_40_8, s5_43, false_implies, true_implies, not_true_eq_false, not_false_eq_true, true_and, and_true, true_or, or_true, false_or, or_false, false_and, and_false, implies_true, nw_psh_s, nw_psh_n, ni_10, ni_00]
  exact hlp 8 0 m0 (by omega) (nxf_rf m0) (fun c hc => by omega)
theorem nw_row_at (m : nw_M) (c : Nat) (f : Nat → Int32) (a j : Nat) : nw_row m c f a j = if a = c then f j else m a j := by
  unfold nw_row
  by_cases h : a = c
  · simp [h]
  · simp [h]
/-- the next token -/
def nnt (L : Nat) (tx : Nat → Nat) (s : Nat) : Nat := ntk L tx (nen L tx s)
theorem nnt_le {L s : Nat} (tx : Nat → Nat) (h : s ≤ L) : nnt L tx s ≤ L := (ntk_le tx (nen_le tx h).2).2
/-- a LINE from the token at s on: the place of the fault, or the draft behind it, the token behind it, and what was read -/
def nln (L : Nat) (tx : Nat → Nat) (D : nD) (s : Nat) : Nat ⊕ (nD × Nat × Nat × Nat × Nat) :=
  match nwo L tx s with
  | none => .inl s
  | some w =>
    if w = 7 ∧ ¬ nt_m D.1 < 5 then .inl s
    else if w = 8 then .inr (nd_nobody D, nnt L tx s, 8, 0, 0)
    else match ndg L tx (nnt L tx s) with
      | none => .inl (nnt L tx s)
      | some a =>
        if w = 0 then (if 2 ≤ a ∧ a ≤ 8 then .inr (nd_town a D, nnt L tx (nnt L tx s), 0, a, 0) else .inl (nnt L tx s))
        else if ¬ a < nt_n D.1 then .inl (nnt L tx s)
        else if w = 7 then .inr (nd_walker a D, nnt L tx (nnt L tx s), 7, a, 0)
        else if w < 5 then .inr (nd_kind a (w - 1) D, nnt L tx (nnt L tx s), w, a, 0)
        else if w = 5 ∧ ¬ nt_w D.1 a < 4 then .inl (nnt L tx s)
        else match ndg L tx (nnt L tx (nnt L tx s)) with
          | none => .inl (nnt L tx (nnt L tx s))
          | some b =>
            if w = 5 then (if b < nt_n D.1 then .inr (nd_way a b D, nnt L tx (nnt L tx (nnt L tx s)), 5, a, b) else .inl (nnt L tx (nnt L tx s)))
            else (if b < nt_w D.1 a then .inr (nd_vane a b D, nnt L tx (nnt L tx (nnt L tx s)), 6, a, b) else .inl (nnt L tx (nnt L tx s)))
/-- the reader, the token at s at hand, the draft D; nothing else has changed but what it counts -/
def nxr (L : Nat) (tx : Nat → Nat) (D : nD) (s : Nat) (m : nw_M) : Prop := nx_tx L tx m ∧ nx_D D m ∧ s ≤ L ∧ m 3 2 = nI s ∧ m 3 3 = nI (nen L tx s) ∧ m 3 4 = nI (nsp L tx s)
def nxg (m m' : nw_M) : Prop := ∀ c k, ¬ (8 ≤ c ∧ c ≤ 11) → ¬ (c = 3 ∧ (k = 2 ∨ k = 3 ∨ k = 4)) → m' c k = m c k
theorem nxg_rf (m : nw_M) : nxg m m := fun _ _ _ _ => rfl
theorem nxg_tr {m1 m2 m3 : nw_M} (h1 : nxg m1 m2) (h2 : nxg m2 m3) : nxg m1 m3 := fun c k h h' => (h2 c k h h').trans (h1 c k h h')
theorem nxg_f {m m' : nw_M} (h : nxf m m') : nxg m m' := fun c k h1 _ => h c k h1
theorem nxg_r {m m' : nw_M} (h : nrf m m') : nxg m m' := fun c k _ h2 => h c k h2
theorem nx_D_rf {D : nD} {m m' : nw_M} (h : nx_D D m) (hf : nrf m m') : nx_D D m' := by
  obtain ⟨⟨a1, a2, a3, a4, a5⟩, b⟩ := h
  refine ⟨⟨?_, ?_, fun j hj => ?_, fun j hj => ?_, fun j hj i hi => ?_⟩, ?_⟩
  · rw [hf 8 3 (by omega)]; exact a1
  · rw [hf 8 4 (by omega)]; exact a2
  · rw [hf 9 j (by omega)]; exact a3 j hj
  · rw [hf 10 j (by omega)]; exact a4 j hj
  · rw [hf 11 _ (by omega)]; exact a5 j hj i hi
  · rw [hf 8 5 (by omega)]; exact b
theorem nx_tx_f {L : Nat} {tx : Nat → Nat} {m m' : nw_M} (h : nx_tx L tx m) (hf : nxf m m') : nx_tx L tx m' := by
  refine ⟨by rw [hf 1 1 (by omega)]; exact h.1, h.2.1, fun i hi => ?_⟩
  rw [hf 2 i (by omega)]
  exact h.2.2 i hi
theorem nxr_D {L : Nat} {tx : Nat → Nat} {D D' : nD} {s : Nat} {m m' : nw_M} (h : nxr L tx D s m) (hf : nxf m m') (hD : nx_D D' m') : nxr L tx D' s m' :=
  ⟨nx_tx_f h.1 hf, hD, h.2.2.1, by rw [hf 3 2 (by omega)]; exact h.2.2.2.1, by rw [hf 3 3 (by omega)]; exact h.2.2.2.2.1, by rw [hf 3 4 (by omega)]; exact h.2.2.2.2.2⟩
/-- the reader goes on -/
theorem x_go {L : Nat} {tx : Nat → Nat} {D : nD} {s : Nat} {m : nw_M} (h : nxr L tx D s m) (d : Nat) (Q : nw_K) (hQ : ∀ m', nrf m m' → nxr L tx D (nnt L tx s) m' → Q none m') : nw_Ex (d + 2) nw_shX 59 [.ref 3, .ref 1] m Q := by
  obtain ⟨h1, h2, h3, h4, h5, h6⟩ := h
  refine x_adv h1 d Q (nen_le tx h3).2 h5 (fun m' hf g2 g3 g4 => hQ m' hf ⟨nrf_tx h1 hf, nx_D_rf h2 hf, nnt_le tx h3, g2, g3, g4⟩)
theorem x_dig {L : Nat} {tx : Nat → Nat} {D : nD} {s : Nat} {m : nw_M} (h : nxr L tx D s m) (d : Nat) (Q : nw_K) : nw_Ex (d + 2) nw_shX 69 [.ref 3, .ref 1] m Q = Q (some (.int (nz_o (ndg L tx s)))) m := x_digit h.1 d Q h.2.2.1 h.2.2.2.1 h.2.2.2.2.1 h.2.2.2.2.2
theorem x_wd {L : Nat} {tx : Nat → Nat} {D : nD} {s : Nat} {m : nw_M} (h : nxr L tx D s m) (d : Nat) (Q : nw_K) {a i : Nat} (ha : (a, i) ∈ ([(100, 0), (101, 5), (102, 6), (103, 7), (104, 8), (105, 1), (106, 2), (107, 3), (108, 4)] : List (Nat × Nat))) : nw_Ex (d + 2) nw_shX 63 [.ref 3, .ref 1, .ref a] m Q = Q (some (.int (if nwo L tx s = some i then 1 else 0))) m := x_word h.1 d Q h.2.2.1 h.2.2.2.1 h.2.2.2.2.1 ha
/-- what a LINE does to the class's reader -/
def nxo (L : Nat) (tx : Nat → Nat) (D : nD) (s : Nat) (m : nw_M) (Q : nw_K) : Prop := match nln L tx D s with
  | .inl p => ∀ m', nxg m m' → m' 3 2 = nI p → Q (some (.int 0)) m'
  | .inr (D', s', _) => ∀ m', nxg m m' → nxr L tx D' s' m' → Q (some (.int 1)) m'
theorem x_doTown {L : Nat} {tx : Nat → Nat} {D : nD} {s : Nat} {m : nw_M} (h : nxr L tx D s m) (d : Nat) (Q : nw_K) (hw : nwo L tx s = some 0) (hQ : nxo L tx D s m Q) : nw_Ex (d + 4) nw_shX 64 [.ref 3, .ref 1] m Q := by
  unfold nxo nln at hQ
  simp only [hw, show ¬ ((0 : Nat) = 7 ∧ ¬ nt_m D.1 < 5) from fun q => by omega, if_false, show ((0 : Nat) = 8) = False from eq_false (by decide), if_true] at hQ
  simp only [e64, s64_0, s64_1, s64_2, s64_5, s64_6, s64_7, s64_10, s64_11, s64_12, s64_13, s64_16, s64_17, s64_19, s64_22, s64_23, s64_24, s64_25, s64_28, s64_29, s64_32, s64_33, s64_34, s64_37, s64_38, false_implies, true_implies, not_true_eq_false, not_false_eq_true, true_and, and_true, true_or, or_true, false_or, or_false, false_and, and_false, implies_true, nw_psh_s, nw_psh_n, ni_10, ni_00]
  refine x_go h (d + 1) _ (fun m1 hf1 h1 => ?_)
  simp only [e64, s64_0, s64_1, s64_2, s64_5, s64_6, s64_7, s64_10, s64_11, s64_12, s64_13, s64_16, s64_17, s64_19, s64_22, s64_23, s64_24, s64_25, s64_28, s64_29, s64_32, s64_33, s64_34, s64_37, s64_38, x_dig h1, false_implies, true_implies, not_true_eq_false, not_false_eq_true, true_and, and_true, true_or, or_true, false_or, or_false, false_and, and_false, implies_true, nw_psh_s, nw_psh_n, ni_10, ni_00]
  cases hd : ndg L tx (nnt L tx s) with
  | none =>
    simp only [hd] at hQ
    simp only [e64, s64_0, s64_1, s64_2, s64_5, s64_6, s64_7, s64_10, s64_11, s64_12, s64_13, s64_16, s64_17, s64_19, s64_22, s64_23, s64_24, s64_25, s64_28, s64_29, s64_32, s64_33, s64_34, s64_37, s64_38, nz_o, show ((-1 : Int32) < 2) = True from eq_true (by decide), false_implies, true_implies, not_true_eq_false, not_false_eq_true, true_and, and_true, true_or, or_true, false_or, or_false, false_and, and_false, implies_true, nw_psh_s, nw_psh_n, ni_10, ni_00]
    exact hQ m1 (nxg_r hf1) h1.2.2.2.1
  | some a =>
    have ha := ndg_lt hd
    simp only [hd] at hQ
    by_cases h2 : 2 ≤ a
    · have q2 : (nI a < 2) = False := ni_lt_f (b := 2) h2 (by omega)
      by_cases h8 : a ≤ 8
      · have q8 : (nI a ≤ 8) = True := ni_le_t (b := 8) h8 (by decide)
        simp only [h2, h8, and_self, if_true] at hQ
        simp only [e64, s64_0, s64_1, s64_2, s64_5, s64_6, s64_7, s64_10, s64_11, s64_12, s64_13, s64_16, s64_17, s64_19, s64_22, s64_23, s64_24, s64_25, s64_28, s64_29, s64_32, s64_33, s64_34, s64_37, s64_38, nz_o, q2, q8, false_implies, true_implies, not_true_eq_false, not_false_eq_true, true_and, and_true, true_or, or_true, false_or, or_false, false_and, and_false, implies_true, nw_psh_s, nw_psh_n, ni_10, ni_00]
        refine x_clearD (D := D) (d + 2) _ (fun m2 hf2 hD2 => ?_)
        simp only [e64, s64_0, s64_1, s64_2, s64_5, s64_6, s64_7, s64_10, s64_11, s64_12, s64_13, s64_16, s64_17, s64_19, s64_22, s64_23, s64_24, s64_25, s64_28, s64_29, s64_32, s64_33, s64_34, s64_37, s64_38, false_implies, true_implies, not_true_eq_false, not_false_eq_true, true_and, and_true, true_or, or_true, false_or, or_false, false_and, and_false, implies_true, nw_psh_s, nw_psh_n, ni_10, ni_00]
        refine x_go (nxr_D h1 hf2 hD2) (d + 1) _ (fun m3 hf3 h3 => ?_)
        simp only [e64, s64_0, s64_1, s64_2, s64_5, s64_6, s64_7, s64_10, s64_11, s64_12, s64_13, s64_16, s64_17, s64_19, s64_22, s64_23, s64_24, s64_25, s64_28, s64_29, s64_32, s64_33, s64_34, s64_37, s64_38, false_implies, true_implies, not_true_eq_false, not_false_eq_true, true_and, and_true, true_or, or_true, false_or, or_false, false_and, and_false, implies_true, nw_psh_s, nw_psh_n, ni_10, ni_00]
        exact hQ m3 (nxg_tr (nxg_r hf1) (nxg_tr (nxg_f hf2) (nxg_r hf3))) h3
      · have q8 : (nI a ≤ 8) = False := ni_le_f (b := 8) (by omega) (by omega)
        simp only [h2, h8, and_false, if_false] at hQ
        simp only [e64, s64_0, s64_1, s64_2, s64_5, s64_6, s64_7, s64_10, s64_11, s64_12, s64_13, s64_16, s64_17, s64_19, s64_22, s64_23, s64_24, s64_25, s64_28, s64_29, s64_32, s64_33, s64_34, s64_37, s64_38, nz_o, q2, q8, false_implies, true_implies, not_true_eq_false, not_false_eq_true, true_and, and_true, true_or, or_true, false_or, or_false, false_and, and_false, implies_true, nw_psh_s, nw_psh_n, ni_10, ni_00]
        exact hQ m1 (nxg_r hf1) h1.2.2.2.1
    · have q2 : (nI a < 2) = True := ni_lt_t (b := 2) (by omega) (by decide)
      simp only [h2, false_and, if_false] at hQ
      simp only [e64, s64_0, s64_1, s64_2, s64_5, s64_6, s64_7, s64_10, s64_11, s64_12, s64_13, s64_16, s64_17, s64_19, s64_22, s64_23, s64_24, s64_25, s64_28, s64_29, s64_32, s64_33, s64_34, s64_37, s64_38, nz_o, q2, false_implies, true_implies, not_true_eq_false, not_false_eq_true, true_and, and_true, true_or, or_true, false_or, or_false, false_and, and_false, implies_true, nw_psh_s, nw_psh_n, ni_10, ni_00]
      exact hQ m1 (nxg_r hf1) h1.2.2.2.1
theorem x_doKind {L : Nat} {tx : Nat → Nat} {D : nD} (hok : nd_ok D) {s : Nat} {m : nw_M} (h : nxr L tx D s m) (d : Nat) (Q : nw_K) {w : Nat} (hw : nwo L tx s = some w) (hw1 : 1 ≤ w) (hw4 : w ≤ 4) (hQ : nxo L tx D s m Q) : nw_Ex (d + 4) nw_shX 65 [.ref 3, .ref 1, .int (nI (w - 1))] m Q := by
  have h8 := hok.1.2.1
  unfold nxo nln at hQ
  simp only [hw, show (w = 7 ∧ ¬ nt_m D.1 < 5) = False from eq_false (fun q => by omega), show (w = 8) = False from eq_false (by omega), show (w = 0) = False from eq_false (by omega), show (w = 7) = False from eq_false (by omega), show (w < 5) = True from eq_true (by omega), if_false, if_true] at hQ
  simp only [e65, s65_0, s65_1, s65_2, s65_5, s65_6, s65_7, s65_10, s65_11, s65_12, s65_15, s65_16, s65_17, s65_20, s65_23, s65_24, s65_25, s65_26, s65_27, s65_30, s65_31, false_implies, true_implies, not_true_eq_false, not_false_eq_true, true_and, and_true, true_or, or_true, false_or, or_false, false_and, and_false, implies_true, nw_psh_s, nw_psh_n, ni_10, ni_00]
  refine x_go h (d + 1) _ (fun m1 hf1 h1 => ?_)
  simp only [e65, s65_0, s65_1, s65_2, s65_5, s65_6, s65_7, s65_10, s65_11, s65_12, s65_15, s65_16, s65_17, s65_20, s65_23, s65_24, s65_25, s65_26, s65_27, s65_30, s65_31, x_dig h1, false_implies, true_implies, not_true_eq_false, not_false_eq_true, true_and, and_true, true_or, or_true, false_or, or_false, false_and, and_false, implies_true, nw_psh_s, nw_psh_n, ni_10, ni_00]
  cases hd : ndg L tx (nnt L tx s) with
  | none =>
    simp only [hd] at hQ
    simp only [e65, s65_0, s65_1, s65_2, s65_5, s65_6, s65_7, s65_10, s65_11, s65_12, s65_15, s65_16, s65_17, s65_20, s65_23, s65_24, s65_25, s65_26, s65_27, s65_30, s65_31, nz_o, x_setKind_n h1.2.1 _ _ (x := -1) (Or.inl (by decide)), false_implies, true_implies, not_true_eq_false, not_false_eq_true, true_and, and_true, true_or, or_true, false_or, or_false, false_and, and_false, implies_true, nw_psh_s, nw_psh_n, ni_10, ni_00]
    exact hQ m1 (nxg_r hf1) h1.2.2.2.1
  | some a =>
    have ha := ndg_lt hd
    simp only [hd] at hQ
    by_cases hn : a < nt_n D.1
    · simp only [hn, not_true_eq_false, if_false] at hQ
      simp only [e65, s65_0, s65_1, s65_2, s65_5, s65_6, s65_7, s65_10, s65_11, s65_12, s65_15, s65_16, s65_17, s65_20, s65_23, s65_24, s65_25, s65_26, s65_27, s65_30, s65_31, nz_o, false_implies, true_implies, not_true_eq_false, not_false_eq_true, true_and, and_true, true_or, or_true, false_or, or_false, false_and, and_false, implies_true, nw_psh_s, nw_psh_n, ni_10, ni_00]
      refine x_setKind hok h1.2.1 (d + 1) _ hn (fun m2 hf2 hD2 => ?_)
      simp only [e65, s65_0, s65_1, s65_2, s65_5, s65_6, s65_7, s65_10, s65_11, s65_12, s65_15, s65_16, s65_17, s65_20, s65_23, s65_24, s65_25, s65_26, s65_27, s65_30, s65_31, false_implies, true_implies, not_true_eq_false, not_false_eq_true, true_and, and_true, true_or, or_true, false_or, or_false, false_and, and_false, implies_true, nw_psh_s, nw_psh_n, ni_10, ni_00]
      refine x_go (nxr_D h1 hf2 hD2) (d + 1) _ (fun m3 hf3 h3 => ?_)
      simp only [e65, s65_0, s65_1, s65_2, s65_5, s65_6, s65_7, s65_10, s65_11, s65_12, s65_15, s65_16, s65_17, s65_20, s65_23, s65_24, s65_25, s65_26, s65_27, s65_30, s65_31, false_implies, true_implies, not_true_eq_false, not_false_eq_true, true_and, and_true, true_or, or_true, false_or, or_false, false_and, and_false, implies_true, nw_psh_s, nw_psh_n, ni_10, ni_00]
      exact hQ m3 (nxg_tr (nxg_r hf1) (nxg_tr (nxg_f hf2) (nxg_r hf3))) h3
    · simp only [hn, not_false_eq_true, if_true] at hQ
      simp only [e65, s65_0, s65_1, s65_2, s65_5, s65_6, s65_7, s65_10, s65_11, s65_12, s65_15, s65_16, s65_17, s65_20, s65_23, s65_24, s65_25, s65_26, s65_27, s65_30, s65_31, nz_o, x_setKind_n h1.2.1 _ _ (x := nI a) (Or.inr (nI_le (by omega) (by omega))), false_implies, true_implies, not_true_eq_false, not_false_eq_true, true_and, and_true, true_or, or_true, false_or, or_false, false_and, and_false, implies_true, nw_psh_s, nw_psh_n, ni_10, ni_00]
      exact hQ m1 (nxg_r hf1) h1.2.2.2.1
theorem x_doWalker {L : Nat} {tx : Nat → Nat} {D : nD} (hok : nd_ok D) {s : Nat} {m : nw_M} (h : nxr L tx D s m) (d : Nat) (Q : nw_K) (hw : nwo L tx s = some 7) (hQ : nxo L tx D s m Q) : nw_Ex (d + 4) nw_shX 68 [.ref 3, .ref 1] m Q := by
  have h8 := hok.1.2.1
  unfold nxo nln at hQ
  simp only [hw, true_and, show ((7 : Nat) = 8) = False from eq_false (by decide), show ((7 : Nat) = 0) = False from eq_false (by decide), if_false, if_true] at hQ
  have hrw := fun Q' => x_roomWalker hok h.2.1 (d + 2) Q'
  by_cases hm5 : nt_m D.1 < 5
  · simp only [hm5, not_true_eq_false, if_false] at hQ
    simp only [e68, s68_0, s68_1, s68_4, s68_7, s68_10, s68_11, s68_12, s68_13, s68_14, s68_17, s68_18, s68_19, s68_22, s68_23, s68_24, s68_27, s68_28, s68_31, s68_34, s68_35, s68_36, s68_37, s68_38, s68_41, s68_42, hrw, hm5, if_true, false_implies, true_implies, not_true_eq_false, not_false_eq_true, true_and, and_true, true_or, or_true, false_or, or_false, false_and, and_false, implies_true, nw_psh_s, nw_psh_n, ni_10, ni_00]
    refine x_go h (d + 1) _ (fun m1 hf1 h1 => ?_)
    simp only [e68, s68_0, s68_1, s68_4, s68_7, s68_10, s68_11, s68_12, s68_13, s68_14, s68_17, s68_18, s68_19, s68_22, s68_23, s68_24, s68_27, s68_28, s68_31, s68_34, s68_35, s68_36, s68_37, s68_38, s68_41, s68_42, x_dig h1, false_implies, true_implies, not_true_eq_false, not_false_eq_true, true_and, and_true, true_or, or_true, false_or, or_false, false_and, and_false, implies_true, nw_psh_s, nw_psh_n, ni_10, ni_00]
    cases hd : ndg L tx (nnt L tx s) with
    | none =>
      simp only [hd] at hQ
      simp only [e68, s68_0, s68_1, s68_4, s68_7, s68_10, s68_11, s68_12, s68_13, s68_14, s68_17, s68_18, s68_19, s68_22, s68_23, s68_24, s68_27, s68_28, s68_31, s68_34, s68_35, s68_36, s68_37, s68_38, s68_41, s68_42, nz_o, x_addWalker_n hok h1.2.1 _ _ (x := -1) hm5 (Or.inl (by decide)), false_implies, true_implies, not_true_eq_false, not_false_eq_true, true_and, and_true, true_or, or_true, false_or, or_false, false_and, and_false, implies_true, nw_psh_s, nw_psh_n, ni_10, ni_00]
      exact hQ m1 (nxg_r hf1) h1.2.2.2.1
    | some a =>
      have ha := ndg_lt hd
      simp only [hd] at hQ
      by_cases hn : a < nt_n D.1
      · simp only [hn, not_true_eq_false, if_false] at hQ
        simp only [e68, s68_0, s68_1, s68_4, s68_7, s68_10, s68_11, s68_12, s68_13, s68_14, s68_17, s68_18, s68_19, s68_22, s68_23, s68_24, s68_27, s68_28, s68_31, s68_34, s68_35, s68_36, s68_37, s68_38, s68_41, s68_42, nz_o, false_implies, true_implies, not_true_eq_false, not_false_eq_true, true_and, and_true, true_or, or_true, false_or, or_false, false_and, and_false, implies_true, nw_psh_s, nw_psh_n, ni_10, ni_00]
        refine x_addWalker hok h1.2.1 (d + 1) _ hm5 hn (fun m2 hf2 hD2 => ?_)
        simp only [e68, s68_0, s68_1, s68_4, s68_7, s68_10, s68_11, s68_12, s68_13, s68_14, s68_17, s68_18, s68_19, s68_22, s68_23, s68_24, s68_27, s68_28, s68_31, s68_34, s68_35, s68_36, s68_37, s68_38, s68_41, s68_42, false_implies, true_implies, not_true_eq_false, not_false_eq_true, true_and, and_true, true_or, or_true, false_or, or_false, false_and, and_false, implies_true, nw_psh_s, nw_psh_n, ni_10, ni_00]
        refine x_go (nxr_D h1 hf2 hD2) (d + 1) _ (fun m3 hf3 h3 => ?_)
        simp only [e68, s68_0, s68_1, s68_4, s68_7, s68_10, s68_11, s68_12, s68_13, s68_14, s68_17, s68_18, s68_19, s68_22, s68_23, s68_24, s68_27, s68_28, s68_31, s68_34, s68_35, s68_36, s68_37, s68_38, s68_41, s68_42, false_implies, true_implies, not_true_eq_false, not_false_eq_true, true_and, and_true, true_or, or_true, false_or, or_false, false_and, and_false, implies_true, nw_psh_s, nw_psh_n, ni_10, ni_00]
        exact hQ m3 (nxg_tr (nxg_r hf1) (nxg_tr (nxg_f hf2) (nxg_r hf3))) h3
      · simp only [hn, not_false_eq_true, if_true] at hQ
        simp only [e68, s68_0, s68_1, s68_4, s68_7, s68_10, s68_11, s68_12, s68_13, s68_14, s68_17, s68_18, s68_19, s68_22, s68_23, s68_24, s68_27, s68_28, s68_31, s68_34, s68_35, s68_36, s68_37, s68_38, s68_41, s68_42, nz_o, x_addWalker_n hok h1.2.1 _ _ (x := nI a) hm5 (Or.inr (nI_le (by omega) (by omega))), false_implies, true_implies, not_true_eq_false, not_false_eq_true, true_and, and_true, true_or, or_true, false_or, or_false, false_and, and_false, implies_true, nw_psh_s, nw_psh_n, ni_10, ni_00]
        exact hQ m1 (nxg_r hf1) h1.2.2.2.1
  · simp only [hm5, not_false_eq_true, if_true] at hQ
    simp only [e68, s68_0, s68_1, s68_4, s68_7, s68_10, s68_11, s68_12, s68_13, s68_14, s68_17, s68_18, s68_19, s68_22, s68_23, s68_24, s68_27, s68_28, s68_31, s68_34, s68_35, s68_36, s68_37, s68_38, s68_41, s68_42, hrw, hm5, if_false, false_implies, true_implies, not_true_eq_false, not_false_eq_true, true_and, and_true, true_or, or_true, false_or, or_false, false_and, and_false, implies_true, nw_psh_s, nw_psh_n, ni_10, ni_00]
    exact hQ m (nxg_rf m) h.2.2.2.1
theorem x_doWay {L : Nat} {tx : Nat → Nat} {D : nD} (hok : nd_ok D) {s : Nat} {m : nw_M} (h : nxr L tx D s m) (d : Nat) (Q : nw_K) (hw : nwo L tx s = some 5) (hQ : nxo L tx D s m Q) : nw_Ex (d + 4) nw_shX 66 [.ref 3, .ref 1] m Q := by
  have h8 := hok.1.2.1
  unfold nxo nln at hQ
  simp only [hw, true_and, show ((5 : Nat) = 7) = False from eq_false (by decide), show ((5 : Nat) = 8) = False from eq_false (by decide), show ((5 : Nat) = 0) = False from eq_false (by decide), show ((5 : Nat) < 5) = False from eq_false (by decide), false_and, if_false, if_true] at hQ
  simp only [e66, s66_0, s66_1, s66_2, s66_5, s66_6, s66_7, s66_10, s66_11, s66_12, s66_15, s66_16, s66_19, s66_22, s66_23, s66_24, s66_25, s66_26, s66_29, s66_30, s66_31, s66_34, s66_35, s66_36, s66_39, s66_40, s66_41, s66_44, s66_47, s66_48, s66_49, s66_50, s66_51, s66_54, s66_55, false_implies, true_implies, not_true_eq_false, not_false_eq_true, true_and, and_true, true_or, or_true, false_or, or_false, false_and, and_false, implies_true, nw_psh_s, nw_psh_n, ni_10, ni_00]
  refine x_go h (d + 1) _ (fun m1 hf1 h1 => ?_)
  simp only [e66, s66_0, s66_1, s66_2, s66_5, s66_6, s66_7, s66_10, s66_11, s66_12, s66_15, s66_16, s66_19, s66_22, s66_23, s66_24, s66_25, s66_26, s66_29, s66_30, s66_31, s66_34, s66_35, s66_36, s66_39, s66_40, s66_41, s66_44, s66_47, s66_48, s66_49, s66_50, s66_51, s66_54, s66_55, x_dig h1, false_implies, true_implies, not_true_eq_false, not_false_eq_true, true_and, and_true, true_or, or_true, false_or, or_false, false_and, and_false, implies_true, nw_psh_s, nw_psh_n, ni_10, ni_00]
  cases hd : ndg L tx (nnt L tx s) with
  | none =>
    simp only [hd] at hQ
    simp only [e66, s66_0, s66_1, s66_2, s66_5, s66_6, s66_7, s66_10, s66_11, s66_12, s66_15, s66_16, s66_19, s66_22, s66_23, s66_24, s66_25, s66_26, s66_29, s66_30, s66_31, s66_34, s66_35, s66_36, s66_39, s66_40, s66_41, s66_44, s66_47, s66_48, s66_49, s66_50, s66_51, s66_54, s66_55, nz_o, x_roomWay_n h1.2.1 _ _ (x := -1) (Or.inl (by decide)), false_implies, true_implies, not_true_eq_false, not_false_eq_true, true_and, and_true, true_or, or_true, false_or, or_false, false_and, and_false, implies_true, nw_psh_s, nw_psh_n, ni_10, ni_00]
    exact hQ m1 (nxg_r hf1) h1.2.2.2.1
  | some a =>
    have ha := ndg_lt hd
    simp only [hd] at hQ
    by_cases hn : a < nt_n D.1
    · simp only [hn, not_true_eq_false, if_false] at hQ
      have hrw := fun Q' => x_roomWay hok h1.2.1 (d + 1) Q' hn
      by_cases hw4 : nt_w D.1 a < 4
      · simp only [hw4, not_true_eq_false, if_false] at hQ
        simp only [e66, s66_0, s66_1, s66_2, s66_5, s66_6, s66_7, s66_10, s66_11, s66_12, s66_15, s66_16, s66_19, s66_22, s66_23, s66_24, s66_25, s66_26, s66_29, s66_30, s66_31, s66_34, s66_35, s66_36, s66_39, s66_40, s66_41, s66_44, s66_47, s66_48, s66_49, s66_50, s66_51, s66_54, s66_55, nz_o, hrw, hw4, if_true, false_implies, true_implies, not_true_eq_false, not_false_eq_true, true_and, and_true, true_or, or_true, false_or, or_false, false_and, and_false, implies_true, nw_psh_s, nw_psh_n, ni_10, ni_00]
        refine x_go h1 (d + 1) _ (fun m2 hf2 h2 => ?_)
        simp only [e66, s66_0, s66_1, s66_2, s66_5, s66_6, s66_7, s66_10, s66_11, s66_12, s66_15, s66_16, s66_19, s66_22, s66_23, s66_24, s66_25, s66_26, s66_29, s66_30, s66_31, s66_34, s66_35, s66_36, s66_39, s66_40, s66_41, s66_44, s66_47, s66_48, s66_49, s66_50, s66_51, s66_54, s66_55, x_dig h2, false_implies, true_implies, not_true_eq_false, not_false_eq_true, true_and, and_true, true_or, or_true, false_or, or_false, false_and, and_false, implies_true, nw_psh_s, nw_psh_n, ni_10, ni_00]
        cases hd2 : ndg L tx (nnt L tx (nnt L tx s)) with
        | none =>
          simp only [hd2] at hQ
          simp only [e66, s66_0, s66_1, s66_2, s66_5, s66_6, s66_7, s66_10, s66_11, s66_12, s66_15, s66_16, s66_19, s66_22, s66_23, s66_24, s66_25, s66_26, s66_29, s66_30, s66_31, s66_34, s66_35, s66_36, s66_39, s66_40, s66_41, s66_44, s66_47, s66_48, s66_49, s66_50, s66_51, s66_54, s66_55, nz_o, x_addWay_n hok h2.2.1 _ _ (x := -1) hn hw4 (Or.inl (by decide)), false_implies, true_implies, not_true_eq_false, not_false_eq_true, true_and, and_true, true_or, or_true, false_or, or_false, false_and, and_false, implies_true, nw_psh_s, nw_psh_n, ni_10, ni_00]
          exact hQ m2 (nxg_tr (nxg_r hf1) (nxg_r hf2)) h2.2.2.2.1
        | some b =>
          have hb := ndg_lt hd2
          simp only [hd2] at hQ
          by_cases hbn : b < nt_n D.1
          · simp only [hbn, if_true] at hQ
            simp only [e66, s66_0, s66_1, s66_2, s66_5, s66_6, s66_7, s66_10, s66_11, s66_12, s66_15, s66_16, s66_19, s66_22, s66_23, s66_24, s66_25, s66_26, s66_29, s66_30, s66_31, s66_34, s66_35, s66_36, s66_39, s66_40, s66_41, s66_44, s66_47, s66_48, s66_49, s66_50, s66_51, s66_54, s66_55, nz_o, false_implies, true_implies, not_true_eq_false, not_false_eq_true, true_and, and_true, true_or, or_true, false_or, or_false, false_and, and_false, implies_true, nw_psh_s, nw_psh_n, ni_10, ni_00]
            refine x_addWay hok h2.2.1 d _ hn hw4 hbn (fun m3 hf3 hD3 => ?_)
            simp only [e66, s66_0, s66_1, s66_2, s66_5, s66_6, s66_7, s66_10, s66_11, s66_12, s66_15, s66_16, s66_19, s66_22, s66_23, s66_24, s66_25, s66_26, s66_29, s66_30, s66_31, s66_34, s66_35, s66_36, s66_39, s66_40, s66_41, s66_44, s66_47, s66_48, s66_49, s66_50, s66_51, s66_54, s66_55, false_implies, true_implies, not_true_eq_false, not_false_eq_true, true_and, and_true, true_or, or_true, false_or, or_false, false_and, and_false, implies_true, nw_psh_s, nw_psh_n, ni_10, ni_00]
            refine x_go (nxr_D h2 hf3 hD3) (d + 1) _ (fun m4 hf4 h4 => ?_)
            simp only [e66, s66_0, s66_1, s66_2, s66_5, s66_6, s66_7, s66_10, s66_11, s66_12, s66_15, s66_16, s66_19, s66_22, s66_23, s66_24, s66_25, s66_26, s66_29, s66_30, s66_31, s66_34, s66_35, s66_36, s66_39, s66_40, s66_41, s66_44, s66_47, s66_48, s66_49, s66_50, s66_51, s66_54, s66_55, false_implies, true_implies, not_true_eq_false, not_false_eq_true, true_and, and_true, true_or, or_true, false_or, or_false, false_and, and_false, implies_true, nw_psh_s, nw_psh_n, ni_10, ni_00]
            exact hQ m4 (nxg_tr (nxg_tr (nxg_r hf1) (nxg_r hf2)) (nxg_tr (nxg_f hf3) (nxg_r hf4))) h4
          · simp only [hbn, if_false] at hQ
            simp only [e66, s66_0, s66_1, s66_2, s66_5, s66_6, s66_7, s66_10, s66_11, s66_12, s66_15, s66_16, s66_19, s66_22, s66_23, s66_24, s66_25, s66_26, s66_29, s66_30, s66_31, s66_34, s66_35, s66_36, s66_39, s66_40, s66_41, s66_44, s66_47, s66_48, s66_49, s66_50, s66_51, s66_54, s66_55, nz_o, x_addWay_n hok h2.2.1 _ _ (x := nI b) hn hw4 (Or.inr (nI_le (by omega) (by omega))), false_implies, true_implies, not_true_eq_false, not_false_eq_true, true_and, and_true, true_or, or_true, false_or, or_false, false_and, and_false, implies_true, nw_psh_s, nw_psh_n, ni_10, ni_00]
            exact hQ m2 (nxg_tr (nxg_r hf1) (nxg_r hf2)) h2.2.2.2.1
      · simp only [hw4, not_false_eq_true, if_true] at hQ
        simp only [e66, s66_0, s66_1, s66_2, s66_5, s66_6, s66_7, s66_10, s66_11, s66_12, s66_15, s66_16, s66_19, s66_22, s66_23, s66_24, s66_25, s66_26, s66_29, s66_30, s66_31, s66_34, s66_35, s66_36, s66_39, s66_40, s66_41, s66_44, s66_47, s66_48, s66_49, s66_50, s66_51, s66_54, s66_55, nz_o, hrw, hw4, if_false, false_implies, true_implies, not_true_eq_false, not_false_eq_true, true_and, and_true, true_or, or_true, false_or, or_false, false_and, and_false, implies_true, nw_psh_s, nw_psh_n, ni_10, ni_00]
        exact hQ m1 (nxg_r hf1) h1.2.2.2.1
    · simp only [hn, not_false_eq_true, if_true] at hQ
      simp only [e66, s66_0, s66_1, s66_2, s66_5, s66_6, s66_7, s66_10, s66_11, s66_12, s66_15, s66_16, s66_19, s66_22, s66_23, s66_24, s66_25, s66_26, s66_29, s66_30, s66_31, s66_34, s66_35, s66_36, s66_39, s66_40, s66_41, s66_44, s66_47, s66_48, s66_49, s66_50, s66_51, s66_54, s66_55, nz_o, x_roomWay_n h1.2.1 _ _ (x := nI a) (Or.inr (nI_le (by omega) (by omega))), false_implies, true_implies, not_true_eq_false, not_false_eq_true, true_and, and_true, true_or, or_true, false_or, or_false, false_and, and_false, implies_true, nw_psh_s, nw_psh_n, ni_10, ni_00]
      exact hQ m1 (nxg_r hf1) h1.2.2.2.1
theorem x_doVane {L : Nat} {tx : Nat → Nat} {D : nD} (hok : nd_ok D) {s : Nat} {m : nw_M} (h : nxr L tx D s m) (d : Nat) (Q : nw_K) (hw : nwo L tx s = some 6) (hQ : nxo L tx D s m Q) : nw_Ex (d + 4) nw_shX 67 [.ref 3, .ref 1] m Q := by
  have h8 := hok.1.2.1
  unfold nxo nln at hQ
  simp only [hw, true_and, show ((6 : Nat) = 7) = False from eq_false (by decide), show ((6 : Nat) = 8) = False from eq_false (by decide), show ((6 : Nat) = 0) = False from eq_false (by decide), show ((6 : Nat) = 5) = False from eq_false (by decide), show ((6 : Nat) < 5) = False from eq_false (by decide), false_and, if_false, if_true] at hQ
  simp only [e67, s67_0, s67_1, s67_2, s67_5, s67_6, s67_7, s67_10, s67_11, s67_12, s67_15, s67_16, s67_19, s67_22, s67_23, s67_24, s67_25, s67_26, s67_29, s67_30, s67_31, s67_34, s67_35, s67_36, s67_39, s67_40, s67_41, s67_44, s67_47, s67_48, s67_49, s67_50, s67_53, s67_54, s67_57, s67_60, s67_61, s67_62, s67_65, s67_68, s67_69, s67_70, s67_73, s67_74, false_implies, true_implies, not_true_eq_false, not_false_eq_true, true_and, and_true, true_or, or_true, false_or, or_false, false_and, and_false, implies_true, nw_psh_s, nw_psh_n, ni_10, ni_00]
  refine x_go h (d + 1) _ (fun m1 hf1 h1 => ?_)
  simp only [e67, s67_0, s67_1, s67_2, s67_5, s67_6, s67_7, s67_10, s67_11, s67_12, s67_15, s67_16, s67_19, s67_22, s67_23, s67_24, s67_25, s67_26, s67_29, s67_30, s67_31, s67_34, s67_35, s67_36, s67_39, s67_40, s67_41, s67_44, s67_47, s67_48, s67_49, s67_50, s67_53, s67_54, s67_57, s67_60, s67_61, s67_62, s67_65, s67_68, s67_69, s67_70, s67_73, s67_74, x_dig h1, false_implies, true_implies, not_true_eq_false, not_false_eq_true, true_and, and_true, true_or, or_true, false_or, or_false, false_and, and_false, implies_true, nw_psh_s, nw_psh_n, ni_10, ni_00]
  cases hd : ndg L tx (nnt L tx s) with
  | none =>
    simp only [hd] at hQ
    simp only [e67, s67_0, s67_1, s67_2, s67_5, s67_6, s67_7, s67_10, s67_11, s67_12, s67_15, s67_16, s67_19, s67_22, s67_23, s67_24, s67_25, s67_26, s67_29, s67_30, s67_31, s67_34, s67_35, s67_36, s67_39, s67_40, s67_41, s67_44, s67_47, s67_48, s67_49, s67_50, s67_53, s67_54, s67_57, s67_60, s67_61, s67_62, s67_65, s67_68, s67_69, s67_70, s67_73, s67_74, nz_o, x_hasCorner_n (Or.inr rfl) h1.2.1.1 _ _ (x := -1) (Or.inl (by decide)), false_implies, true_implies, not_true_eq_false, not_false_eq_true, true_and, and_true, true_or, or_true, false_or, or_false, false_and, and_false, implies_true, nw_psh_s, nw_psh_n, ni_10, ni_00]
    exact hQ m1 (nxg_r hf1) h1.2.2.2.1
  | some a =>
    have ha := ndg_lt hd
    simp only [hd] at hQ
    by_cases hn : a < nt_n D.1
    · simp only [hn, not_true_eq_false, if_false] at hQ
      have h4 := (hok.1.2.2.2 a).2.1
      simp only [e67, s67_0, s67_1, s67_2, s67_5, s67_6, s67_7, s67_10, s67_11, s67_12, s67_15, s67_16, s67_19, s67_22, s67_23, s67_24, s67_25, s67_26, s67_29, s67_30, s67_31, s67_34, s67_35, s67_36, s67_39, s67_40, s67_41, s67_44, s67_47, s67_48, s67_49, s67_50, s67_53, s67_54, s67_57, s67_60, s67_61, s67_62, s67_65, s67_68, s67_69, s67_70, s67_73, s67_74, nz_o, x_hasCorner_y (Or.inr rfl) hok.1 h1.2.1.1 _ _ hn, false_implies, true_implies, not_true_eq_false, not_false_eq_true, true_and, and_true, true_or, or_true, false_or, or_false, false_and, and_false, implies_true, nw_psh_s, nw_psh_n, ni_10, ni_00]
      refine x_go h1 (d + 1) _ (fun m2 hf2 h2 => ?_)
      simp only [e67, s67_0, s67_1, s67_2, s67_5, s67_6, s67_7, s67_10, s67_11, s67_12, s67_15, s67_16, s67_19, s67_22, s67_23, s67_24, s67_25, s67_26, s67_29, s67_30, s67_31, s67_34, s67_35, s67_36, s67_39, s67_40, s67_41, s67_44, s67_47, s67_48, s67_49, s67_50, s67_53, s67_54, s67_57, s67_60, s67_61, s67_62, s67_65, s67_68, s67_69, s67_70, s67_73, s67_74, x_dig h2, false_implies, true_implies, not_true_eq_false, not_false_eq_true, true_and, and_true, true_or, or_true, false_or, or_false, false_and, and_false, implies_true, nw_psh_s, nw_psh_n, ni_10, ni_00]
      cases hd2 : ndg L tx (nnt L tx (nnt L tx s)) with
      | none =>
        simp only [hd2] at hQ
        simp only [e67, s67_0, s67_1, s67_2, s67_5, s67_6, s67_7, s67_10, s67_11, s67_12, s67_15, s67_16, s67_19, s67_22, s67_23, s67_24, s67_25, s67_26, s67_29, s67_30, s67_31, s67_34, s67_35, s67_36, s67_39, s67_40, s67_41, s67_44, s67_47, s67_48, s67_49, s67_50, s67_53, s67_54, s67_57, s67_60, s67_61, s67_62, s67_65, s67_68, s67_69, s67_70, s67_73, s67_74, nz_o, x_hasWay_n (Or.inr rfl) hok.1 h2.2.1.1 _ _ (c := a) (y := -1) (by omega) (Or.inl (by decide)), false_implies, true_implies, not_true_eq_false, not_false_eq_true, true_and, and_true, true_or, or_true, false_or, or_false, false_and, and_false, implies_true, nw_psh_s, nw_psh_n, ni_10, ni_00]
        exact hQ m2 (nxg_tr (nxg_r hf1) (nxg_r hf2)) h2.2.2.2.1
      | some b =>
        have hb := ndg_lt hd2
        simp only [hd2] at hQ
        by_cases hbn : b < nt_w D.1 a
        · simp only [hbn, if_true] at hQ
          have hwv := fun Q' => x_withVane (d + 2) Q' (m2 8 5) a b m2
          simp only [e67, s67_0, s67_1, s67_2, s67_5, s67_6, s67_7, s67_10, s67_11, s67_12, s67_15, s67_16, s67_19, s67_22, s67_23, s67_24, s67_25, s67_26, s67_29, s67_30, s67_31, s67_34, s67_35, s67_36, s67_39, s67_40, s67_41, s67_44, s67_47, s67_48, s67_49, s67_50, s67_53, s67_54, s67_57, s67_60, s67_61, s67_62, s67_65, s67_68, s67_69, s67_70, s67_73, s67_74, nz_o, x_hasWay_y (Or.inr rfl) hok.1 h2.2.1.1 _ _ (c := a) (by omega) hbn, hwv, false_implies, true_implies, not_true_eq_false, not_false_eq_true, true_and, and_true, true_or, or_true, false_or, or_false, false_and, and_false, implies_true, nw_psh_s, nw_psh_n, ni_10, ni_00]
          have hD3 : nx_D (nd_vane a b D) (nw_up m2 8 5 (ns_sv (m2 8 5) a b)) := by
            obtain ⟨⟨a1, a2, a3, a4, a5⟩, bb⟩ := h2.2.1
            refine ⟨⟨?_, ?_, fun j hj => ?_, fun j hj => ?_, fun j hj i hi => ?_⟩, ?_⟩
            · rw [nw_up_at, if_neg (by omega)]; exact a1
            · rw [nw_up_at, if_neg (by omega)]; exact a2
            · rw [nw_up_at, if_neg (by omega)]; exact a3 j hj
            · rw [nw_up_at, if_neg (by omega)]; exact a4 j hj
            · rw [nw_up_at, if_neg (by omega)]; exact a5 j hj i hi
            · rw [nw_up_at, if_pos ⟨rfl, rfl⟩]; exact nx_S_sv bb (by omega) (by omega)
          have hf3 : nxf m2 (nw_up m2 8 5 (ns_sv (m2 8 5) a b)) := nxf_up _ (by omega)
          refine x_go (nxr_D h2 hf3 hD3) (d + 1) _ (fun m4 hf4 h4 => ?_)
          simp only [e67, s67_0, s67_1, s67_2, s67_5, s67_6, s67_7, s67_10, s67_11, s67_12, s67_15, s67_16, s67_19, s67_22, s67_23, s67_24, s67_25, s67_26, s67_29, s67_30, s67_31, s67_34, s67_35, s67_36, s67_39, s67_40, s67_41, s67_44, s67_47, s67_48, s67_49, s67_50, s67_53, s67_54, s67_57, s67_60, s67_61, s67_62, s67_65, s67_68, s67_69, s67_70, s67_73, s67_74, false_implies, true_implies, not_true_eq_false, not_false_eq_true, true_and, and_true, true_or, or_true, false_or, or_false, false_and, and_false, implies_true, nw_psh_s, nw_psh_n, ni_10, ni_00]
          exact hQ m4 (nxg_tr (nxg_tr (nxg_r hf1) (nxg_r hf2)) (nxg_tr (nxg_f hf3) (nxg_r hf4))) h4
        · simp only [hbn, if_false] at hQ
          simp only [e67, s67_0, s67_1, s67_2, s67_5, s67_6, s67_7, s67_10, s67_11, s67_12, s67_15, s67_16, s67_19, s67_22, s67_23, s67_24, s67_25, s67_26, s67_29, s67_30, s67_31, s67_34, s67_35, s67_36, s67_39, s67_40, s67_41, s67_44, s67_47, s67_48, s67_49, s67_50, s67_53, s67_54, s67_57, s67_60, s67_61, s67_62, s67_65, s67_68, s67_69, s67_70, s67_73, s67_74, nz_o, x_hasWay_n (Or.inr rfl) hok.1 h2.2.1.1 _ _ (c := a) (y := nI b) (by omega) (Or.inr (nI_le (by omega) (by omega))), false_implies, true_implies, not_true_eq_false, not_false_eq_true, true_and, and_true, true_or, or_true, false_or, or_false, false_and, and_false, implies_true, nw_psh_s, nw_psh_n, ni_10, ni_00]
          exact hQ m2 (nxg_tr (nxg_r hf1) (nxg_r hf2)) h2.2.2.2.1
    · simp only [hn, not_false_eq_true, if_true] at hQ
      simp only [e67, s67_0, s67_1, s67_2, s67_5, s67_6, s67_7, s67_10, s67_11, s67_12, s67_15, s67_16, s67_19, s67_22, s67_23, s67_24, s67_25, s67_26, s67_29, s67_30, s67_31, s67_34, s67_35, s67_36, s67_39, s67_40, s67_41, s67_44, s67_47, s67_48, s67_49, s67_50, s67_53, s67_54, s67_57, s67_60, s67_61, s67_62, s67_65, s67_68, s67_69, s67_70, s67_73, s67_74, nz_o, x_hasCorner_n (Or.inr rfl) h1.2.1.1 _ _ (x := nI a) (Or.inr (nI_le (by omega) (by omega))), false_implies, true_implies, not_true_eq_false, not_false_eq_true, true_and, and_true, true_or, or_true, false_or, or_false, false_and, and_false, implies_true, nw_psh_s, nw_psh_n, ni_10, ni_00]
      exact hQ m1 (nxg_r hf1) h1.2.2.2.1
