/-! THE WHOLE TEXT -/
abbrev nLn : Type := Nat × Nat × Nat
/-- j LINES more at most, the first from the token at s on -/
def nrl (L : Nat) (tx : Nat → Nat) : Nat → nD → Nat → List nLn → Nat ⊕ (nD × List nLn)
  | 0, _, s, _ => .inl s
  | j + 1, D, s, acc => match nln L tx D s with
    | .inl p => .inl p
    | .inr (D', s', l) => if ¬ s' < L then .inr (D', acc ++ [l]) else if tx s' = 59 ∧ 0 < j then nrl L tx j D' (nnt L tx s') (acc ++ [l]) else .inl s'
theorem nln_ok {L : Nat} {tx : Nat → Nat} {D : nD} (h : nd_ok D) {s : Nat} (hs : s ≤ L) : match nln L tx D s with
    | .inl p => p ≤ L
    | .inr (D', s', _) => nd_ok D' ∧ s' ≤ L := by
  have h1 := nnt_le tx hs
  have h2 := nnt_le tx h1
  have h3 := nnt_le tx h2
  unfold nln
  cases hw : nwo L tx s with
  | none => exact hs
  | some w =>
    have hw9 := nwo_lt hw
    dsimp only
    by_cases q1 : w = 7 ∧ ¬ nt_m D.1 < 5
    · rw [if_pos q1]; exact hs
    · rw [if_neg q1]
      by_cases q2 : w = 8
      · rw [if_pos q2]; exact ⟨nd_nobody_ok h, h1⟩
      · rw [if_neg q2]
        cases hd : ndg L tx (nnt L tx s) with
        | none => exact h1
        | some a =>
          dsimp only
          by_cases q3 : w = 0
          · rw [if_pos q3]
            by_cases q4 : 2 ≤ a ∧ a ≤ 8
            · rw [if_pos q4]; exact ⟨nd_town_ok q4.1 q4.2, h2⟩
            · rw [if_neg q4]; exact h1
          · rw [if_neg q3]
            by_cases q4 : a < nt_n D.1
            · rw [if_neg (fun z => z q4)]
              by_cases q5 : w = 7
              · rw [if_pos q5]
                exact ⟨nd_walker_ok h (Classical.byContradiction (fun z => q1 ⟨q5, z⟩)) q4, h2⟩
              · rw [if_neg q5]
                by_cases q6 : w < 5
                · rw [if_pos q6]; exact ⟨nd_kind_ok h (by omega), h2⟩
                · rw [if_neg q6]
                  by_cases q7 : w = 5 ∧ ¬ nt_w D.1 a < 4
                  · rw [if_pos q7]; exact h1
                  · rw [if_neg q7]
                    cases hd2 : ndg L tx (nnt L tx (nnt L tx s)) with
                    | none => exact h2
                    | some b =>
                      dsimp only
                      by_cases q8 : w = 5
                      · rw [if_pos q8]
                        by_cases q9 : b < nt_n D.1
                        · rw [if_pos q9]
                          exact ⟨nd_way_ok h q4 (Classical.byContradiction (fun z => q7 ⟨q8, z⟩)) q9, h3⟩
                        · rw [if_neg q9]; exact h2
                      · rw [if_neg q8]
                        by_cases q9 : b < nt_w D.1 a
                        · rw [if_pos q9]; exact ⟨nd_vane_ok h q9, h3⟩
                        · rw [if_neg q9]; exact h2
            · rw [if_pos q4]; exact h1
def nxh (m m' : nw_M) : Prop := ∀ c k, ¬ (8 ≤ c ∧ c ≤ 11) → ¬ c = 3 → m' c k = m c k
theorem nxh_rf (m : nw_M) : nxh m m := fun _ _ _ _ => rfl
theorem nxh_tr {m1 m2 m3 : nw_M} (h1 : nxh m1 m2) (h2 : nxh m2 m3) : nxh m1 m3 := fun c k h h' => (h2 c k h h').trans (h1 c k h h')
theorem nxh_g {m m' : nw_M} (h : nxg m m') : nxh m m' := fun c k h1 h2 => h c k h1 (fun z => h2 z.1)
theorem nxh_up {m : nw_M} {k : Nat} (v : Int32) : nxh m (nw_up m 3 k v) := fun c j _ h2 => by rw [nw_up_at, if_neg (fun z => h2 z.1)]
theorem nx_tx_h {L : Nat} {tx : Nat → Nat} {m m' : nw_M} (h : nx_tx L tx m) (hf : nxh m m') : nx_tx L tx m' := by
  refine ⟨by rw [hf 1 1 (by omega) (by omega)]; exact h.1, h.2.1, fun i hi => ?_⟩
  rw [hf 2 i (by omega) (by omega)]
  exact h.2.2 i hi
theorem nx_D_up {D : nD} {m : nw_M} (h : nx_D D m) (k : Nat) (v : Int32) : nx_D D (nw_up m 3 k v) := by
  obtain ⟨⟨a1, a2, a3, a4, a5⟩, b⟩ := h
  refine ⟨⟨?_, ?_, fun j hj => ?_, fun j hj => ?_, fun j hj i hi => ?_⟩, ?_⟩
  · rw [nw_up_at, if_neg (by omega)]; exact a1
  · rw [nw_up_at, if_neg (by omega)]; exact a2
  · rw [nw_up_at, if_neg (by omega)]; exact a3 j hj
  · rw [nw_up_at, if_neg (by omega)]; exact a4 j hj
  · rw [nw_up_at, if_neg (by omega)]; exact a5 j hj i hi
  · rw [nw_up_at, if_neg (by omega)]; exact b
/-- what the reader answers -/
def nxq (L : Nat) (tx : Nat → Nat) (m0 : nw_M) (Q : nw_K) (r : Nat ⊕ (nD × List nLn)) : Prop := match r with
  | .inl p => ∀ m', nxh m0 m' → Q (some (.int (nI p))) m'
  | .inr (D', ls) => ∀ m', nxh m0 m' → nx_D D' m' → m' 3 1 = nI ls.length → Q (some (.int (-1))) m'
theorem x_read_loop {L : Nat} {tx : Nat → Nat} {m0 : nw_M} (h0 : nx_tx L tx m0) (d : Nat) (Q : nw_K) : ∀ j i D e acc m1, i + j + 1 = 12 → nd_ok D → e ≤ L → nxh m0 m1 → nx_D D m1 → m1 3 3 = nI e → m1 3 1 = nI i → acc.length = i → nxq L tx m0 Q (nrl L tx (j + 1) D (ntk L tx e) acc) → nw_Ev (d + 5) nw_shX 58 Q 20 [some (.ref 3), some (.ref 1), some (.ref 4), some (.int (nI i))] [] m1 := by
  have hL := h0.2.1
  intro j
  induction j with
  | zero =>
    intro i D e acc m1 hi hok he hf hD g3 g1 hacc hq
    have hle : ((12 : Int32) ≤ nI i) = False := ni_le_f (a := 12) (by omega) (by decide)
    have hlnok := nln_ok (tx := tx) hok (ntk_le tx he).2
    rw [s58_20]
    simp only [e58, s58_0, s58_1, s58_4, s58_5, s58_8, s58_9, s58_10, s58_13, s58_14, s58_15, s58_18, s58_19, s58_21, s58_23, s58_26, s58_27, s58_28, s58_31, s58_32, s58_33, s58_36, s58_39, s58_40, s58_43, s58_44, s58_45, s58_46, s58_49, s58_50, s58_51, s58_54, s58_55, s58_58, s58_61, s58_62, s58_63, s58_64, s58_65, s58_68, s58_71, s58_73, s58_76, s58_77, s58_80, s58_81, s58_84, s58_87, s58_88, s58_91, hle, false_implies, true_implies, not_true_eq_false, not_false_eq_true, true_and, and_true, true_or, or_true, false_or, or_false, false_and, and_false, implies_true, nw_psh_s, nw_psh_n, ni_10, ni_00]
    refine x_adv (nx_tx_h h0 hf) (d + 3) _ he g3 (fun m2 hf2 k2 k3 k4 => ?_)
    have h2 : nxr L tx D (ntk L tx e) m2 := ⟨nrf_tx (nx_tx_h h0 hf) hf2, nx_D_rf hD hf2, (ntk_le tx he).2, k2, k3, k4⟩
    have hf2' : nxh m0 m2 := nxh_tr hf (nxh_g (nxg_r hf2))
    simp only [e58, s58_0, s58_1, s58_4, s58_5, s58_8, s58_9, s58_10, s58_13, s58_14, s58_15, s58_18, s58_19, s58_21, s58_23, s58_26, s58_27, s58_28, s58_31, s58_32, s58_33, s58_36, s58_39, s58_40, s58_43, s58_44, s58_45, s58_46, s58_49, s58_50, s58_51, s58_54, s58_55, s58_58, s58_61, s58_62, s58_63, s58_64, s58_65, s58_68, s58_71, s58_73, s58_76, s58_77, s58_80, s58_81, s58_84, s58_87, s58_88, s58_91, false_implies, true_implies, not_true_eq_false, not_false_eq_true, true_and, and_true, true_or, or_true, false_or, or_false, false_and, and_false, implies_true, nw_psh_s, nw_psh_n, ni_10, ni_00]
    refine x_doLine hok h2 d _ ?_
    unfold nrl at hq
    unfold nxo
    cases hln : nln L tx D (ntk L tx e) with
    | inl p =>
      rw [hln] at hq
      intro m3 hg3 hp
      simp only [e58, s58_0, s58_1, s58_4, s58_5, s58_8, s58_9, s58_10, s58_13, s58_14, s58_15, s58_18, s58_19, s58_21, s58_23, s58_26, s58_27, s58_28, s58_31, s58_32, s58_33, s58_36, s58_39, s58_40, s58_43, s58_44, s58_45, s58_46, s58_49, s58_50, s58_51, s58_54, s58_55, s58_58, s58_61, s58_62, s58_63, s58_64, s58_65, s58_68, s58_71, s58_73, s58_76, s58_77, s58_80, s58_81, s58_84, s58_87, s58_88, s58_91, hp, false_implies, true_implies, not_true_eq_false, not_false_eq_true, true_and, and_true, true_or, or_true, false_or, or_false, false_and, and_false, implies_true, nw_psh_s, nw_psh_n, ni_10, ni_00]
      exact hq m3 (nxh_tr hf2' (nxh_g hg3))
    | inr z =>
      obtain ⟨D', s', l⟩ := z
      rw [hln] at hq hlnok
      obtain ⟨hok', hs'⟩ := hlnok
      intro m3 hg3 h3
      have g1' : m3 3 1 = nI i := by rw [hg3 3 1 (by omega) (by omega), hf2 3 1 (by omega)]; exact g1
      have hby := fun Q' => x_byteAt (nx_tx_h h3.1 (nxh_up (k := 1) (nI (i + 1)))) (d + 4) Q' (i := s') (by omega)
      by_cases hsl : s' < L
      · have hne : (nI (nsp L tx s') = 0) = False := eq_false (ni_ne0 (by unfold nsp; rw [if_pos hsl]; split <;> omega) (by have := nsp_le L tx s'; omega))
        have hq' : nxq L tx m0 Q (.inl s') := by
          have : (if ¬ s' < L then (.inr (D', acc ++ [l]) : Nat ⊕ (nD × List nLn)) else if tx s' = 59 ∧ 0 < 0 then nrl L tx 0 D' (nnt L tx s') (acc ++ [l]) else .inl s') = .inl s' := by
            rw [if_neg (fun z => z hsl), if_neg (fun z => absurd z.2 (Nat.lt_irrefl 0))]
          rw [← this]; exact hq
        have hfin := hq' (nw_up m3 3 1 (nI (i + 1))) (nxh_tr (nxh_tr hf2' (nxh_g hg3)) (nxh_up _))
        simp only [e58, s58_0, s58_1, s58_4, s58_5, s58_8, s58_9, s58_10, s58_13, s58_14, s58_15, s58_18, s58_19, s58_21, s58_23, s58_26, s58_27, s58_28, s58_31, s58_32, s58_33, s58_36, s58_39, s58_40, s58_43, s58_44, s58_45, s58_46, s58_49, s58_50, s58_51, s58_54, s58_55, s58_58, s58_61, s58_62, s58_63, s58_64, s58_65, s58_68, s58_71, s58_73, s58_76, s58_77, s58_80, s58_81, s58_84, s58_87, s58_88, s58_91, g1', nI_1, nw_up_at, Nat.reduceEqDiff, and_false, if_false, h3.2.2.2.2.2, h3.2.2.2.1, hne, hby, hsl, if_true, false_implies, true_implies, not_true_eq_false, not_false_eq_true, true_and, and_true, true_or, or_true, false_or, or_false, false_and, and_false, implies_true, nw_psh_s, nw_psh_n, ni_10, ni_00]
        by_cases h59 : tx s' = 59
        · simp only [show (nI (tx s') = 59) = True from eq_true (by rw [h59]; rfl), false_implies, true_implies, not_true_eq_false, not_false_eq_true, true_and, and_true, true_or, or_true, false_or, or_false, false_and, and_false, implies_true, nw_psh_s, nw_psh_n, ni_10, ni_00]
          rw [s58_20]
          simp only [e58, s58_0, s58_1, s58_4, s58_5, s58_8, s58_9, s58_10, s58_13, s58_14, s58_15, s58_18, s58_19, s58_21, s58_23, s58_26, s58_27, s58_28, s58_31, s58_32, s58_33, s58_36, s58_39, s58_40, s58_43, s58_44, s58_45, s58_46, s58_49, s58_50, s58_51, s58_54, s58_55, s58_58, s58_61, s58_62, s58_63, s58_64, s58_65, s58_68, s58_71, s58_73, s58_76, s58_77, s58_80, s58_81, s58_84, s58_87, s58_88, s58_91, show ((12 : Int32) ≤ nI (i + 1)) = True from ni_le_t (a := 12) (by omega) (by omega), nw_up_at, Nat.reduceEqDiff, and_false, if_false, h3.2.2.2.1, false_implies, true_implies, not_true_eq_false, not_false_eq_true, true_and, and_true, true_or, or_true, false_or, or_false, false_and, and_false, implies_true, nw_psh_s, nw_psh_n, ni_10, ni_00]
          exact hfin
        · have := (h0.2.2 s' hsl).2
          simp only [show (nI (tx s') = 59) = False from ni_eq_f (b := 59) h59 (by omega) (by decide), false_implies, true_implies, not_true_eq_false, not_false_eq_true, true_and, and_true, true_or, or_true, false_or, or_false, false_and, and_false, implies_true, nw_psh_s, nw_psh_n, ni_10, ni_00]
          exact hfin
      · have hsp : nsp L tx s' = 0 := by unfold nsp; rw [if_neg hsl]
        have hq' : nxq L tx m0 Q (.inr (D', acc ++ [l])) := by
          have : (if ¬ s' < L then (.inr (D', acc ++ [l]) : Nat ⊕ (nD × List nLn)) else if tx s' = 59 ∧ 0 < 0 then nrl L tx 0 D' (nnt L tx s') (acc ++ [l]) else .inl s') = .inr (D', acc ++ [l]) := if_pos hsl
          rw [← this]; exact hq
        have g4 := h3.2.2.2.2.2
        rw [hsp] at g4
        simp only [e58, s58_0, s58_1, s58_4, s58_5, s58_8, s58_9, s58_10, s58_13, s58_14, s58_15, s58_18, s58_19, s58_21, s58_23, s58_26, s58_27, s58_28, s58_31, s58_32, s58_33, s58_36, s58_39, s58_40, s58_43, s58_44, s58_45, s58_46, s58_49, s58_50, s58_51, s58_54, s58_55, s58_58, s58_61, s58_62, s58_63, s58_64, s58_65, s58_68, s58_71, s58_73, s58_76, s58_77, s58_80, s58_81, s58_84, s58_87, s58_88, s58_91, g1', nI_1, nw_up_at, Nat.reduceEqDiff, and_false, if_false, g4, show (nI 0 = 0) = True from eq_true rfl, false_implies, true_implies, not_true_eq_false, not_false_eq_true, true_and, and_true, true_or, or_true, false_or, or_false, false_and, and_false, implies_true, nw_psh_s, nw_psh_n, ni_10, ni_00]
        refine hq' _ (nxh_tr (nxh_tr hf2' (nxh_g hg3)) (nxh_up _)) (nx_D_up h3.2.1 1 _) ?_
        rw [nw_up_at, if_pos ⟨rfl, rfl⟩, List.length_append, hacc]
        rfl
  | succ j ih =>
    intro i D e acc m1 hi hok he hf hD g3 g1 hacc hq
    have hle : ((12 : Int32) ≤ nI i) = False := ni_le_f (a := 12) (by omega) (by decide)
    have hlnok := nln_ok (tx := tx) hok (ntk_le tx he).2
    rw [s58_20]
    simp only [e58, s58_0, s58_1, s58_4, s58_5, s58_8, s58_9, s58_10, s58_13, s58_14, s58_15, s58_18, s58_19, s58_21, s58_23, s58_26, s58_27, s58_28, s58_31, s58_32, s58_33, s58_36, s58_39, s58_40, s58_43, s58_44, s58_45, s58_46, s58_49, s58_50, s58_51, s58_54, s58_55, s58_58, s58_61, s58_62, s58_63, s58_64, s58_65, s58_68, s58_71, s58_73, s58_76, s58_77, s58_80, s58_81, s58_84, s58_87, s58_88, s58_91, hle, false_implies, true_implies, not_true_eq_false, not_false_eq_true, true_and, and_true, true_or, or_true, false_or, or_false, false_and, and_false, implies_true, nw_psh_s, nw_psh_n, ni_10, ni_00]
    refine x_adv (nx_tx_h h0 hf) (d + 3) _ he g3 (fun m2 hf2 k2 k3 k4 => ?_)
    have h2 : nxr L tx D (ntk L tx e) m2 := ⟨nrf_tx (nx_tx_h h0 hf) hf2, nx_D_rf hD hf2, (ntk_le tx he).2, k2, k3, k4⟩
    have hf2' : nxh m0 m2 := nxh_tr hf (nxh_g (nxg_r hf2))
    simp only [e58, s58_0, s58_1, s58_4, s58_5, s58_8, s58_9, s58_10, s58_13, s58_14, s58_15, s58_18, s58_19, s58_21, s58_23, s58_26, s58_27, s58_28, s58_31, s58_32, s58_33, s58_36, s58_39, s58_40, s58_43, s58_44, s58_45, s58_46, s58_49, s58_50, s58_51, s58_54, s58_55, s58_58, s58_61, s58_62, s58_63, s58_64, s58_65, s58_68, s58_71, s58_73, s58_76, s58_77, s58_80, s58_81, s58_84, s58_87, s58_88, s58_91, false_implies, true_implies, not_true_eq_false, not_false_eq_true, true_and, and_true, true_or, or_true, false_or, or_false, false_and, and_false, implies_true, nw_psh_s, nw_psh_n, ni_10, ni_00]
    refine x_doLine hok h2 d _ ?_
    unfold nrl at hq
    unfold nxo
    cases hln : nln L tx D (ntk L tx e) with
    | inl p =>
      rw [hln] at hq
      intro m3 hg3 hp
      simp only [e58, s58_0, s58_1, s58_4, s58_5, s58_8, s58_9, s58_10, s58_13, s58_14, s58_15, s58_18, s58_19, s58_21, s58_23, s58_26, s58_27, s58_28, s58_31, s58_32, s58_33, s58_36, s58_39, s58_40, s58_43, s58_44, s58_45, s58_46, s58_49, s58_50, s58_51, s58_54, s58_55, s58_58, s58_61, s58_62, s58_63, s58_64, s58_65, s58_68, s58_71, s58_73, s58_76, s58_77, s58_80, s58_81, s58_84, s58_87, s58_88, s58_91, hp, false_implies, true_implies, not_true_eq_false, not_false_eq_true, true_and, and_true, true_or, or_true, false_or, or_false, false_and, and_false, implies_true, nw_psh_s, nw_psh_n, ni_10, ni_00]
      exact hq m3 (nxh_tr hf2' (nxh_g hg3))
    | inr z =>
      obtain ⟨D', s', l⟩ := z
      rw [hln] at hq hlnok
      obtain ⟨hok', hs'⟩ := hlnok
      intro m3 hg3 h3
      have g1' : m3 3 1 = nI i := by rw [hg3 3 1 (by omega) (by omega), hf2 3 1 (by omega)]; exact g1
      have hby := fun Q' => x_byteAt (nx_tx_h h3.1 (nxh_up (k := 1) (nI (i + 1)))) (d + 4) Q' (i := s') (by omega)
      have hfr : nxh m0 (nw_up m3 3 1 (nI (i + 1))) := nxh_tr (nxh_tr hf2' (nxh_g hg3)) (nxh_up _)
      by_cases hsl : s' < L
      · have hne : (nI (nsp L tx s') = 0) = False := eq_false (ni_ne0 (by unfold nsp; rw [if_pos hsl]; split <;> omega) (by have := nsp_le L tx s'; omega))
        by_cases h59 : tx s' = 59
        · have hq' : nxq L tx m0 Q (nrl L tx (j + 1) D' (nnt L tx s') (acc ++ [l])) := by
            have : (if ¬ s' < L then (.inr (D', acc ++ [l]) : Nat ⊕ (nD × List nLn)) else if tx s' = 59 ∧ 0 < j + 1 then nrl L tx (j + 1) D' (nnt L tx s') (acc ++ [l]) else .inl s') = nrl L tx (j + 1) D' (nnt L tx s') (acc ++ [l]) := by
              rw [if_neg (fun z => z hsl), if_pos ⟨h59, Nat.succ_pos j⟩]
            rw [← this]; exact hq
          simp only [e58, s58_0, s58_1, s58_4, s58_5, s58_8, s58_9, s58_10, s58_13, s58_14, s58_15, s58_18, s58_19, s58_21, s58_23, s58_26, s58_27, s58_28, s58_31, s58_32, s58_33, s58_36, s58_39, s58_40, s58_43, s58_44, s58_45, s58_46, s58_49, s58_50, s58_51, s58_54, s58_55, s58_58, s58_61, s58_62, s58_63, s58_64, s58_65, s58_68, s58_71, s58_73, s58_76, s58_77, s58_80, s58_81, s58_84, s58_87, s58_88, s58_91, g1', nI_1, nw_up_at, Nat.reduceEqDiff, and_false, if_false, h3.2.2.2.2.2, h3.2.2.2.1, hne, hby, hsl, if_true, show (nI (tx s') = 59) = True from eq_true (by rw [h59]; rfl), false_implies, true_implies, not_true_eq_false, not_false_eq_true, true_and, and_true, true_or, or_true, false_or, or_false, false_and, and_false, implies_true, nw_psh_s, nw_psh_n, ni_10, ni_00]
          refine ih (i + 1) D' (nen L tx s') (acc ++ [l]) _ (by omega) hok' (nen_le tx hs').2 hfr (nx_D_up h3.2.1 1 _) ?_ ?_ ?_ hq'
          · rw [nw_up_at, if_neg (by omega)]; exact h3.2.2.2.2.1
          · rw [nw_up_at, if_pos ⟨rfl, rfl⟩]
          · rw [List.length_append, hacc]; rfl
        · have hq' : nxq L tx m0 Q (.inl s') := by
            have : (if ¬ s' < L then (.inr (D', acc ++ [l]) : Nat ⊕ (nD × List nLn)) else if tx s' = 59 ∧ 0 < j + 1 then nrl L tx (j + 1) D' (nnt L tx s') (acc ++ [l]) else .inl s') = .inl s' := by
              rw [if_neg (fun z => z hsl), if_neg (fun z => h59 z.1)]
            rw [← this]; exact hq
          have := (h0.2.2 s' hsl).2
          simp only [e58, s58_0, s58_1, s58_4, s58_5, s58_8, s58_9, s58_10, s58_13, s58_14, s58_15, s58_18, s58_19, s58_21, s58_23, s58_26, s58_27, s58_28, s58_31, s58_32, s58_33, s58_36, s58_39, s58_40, s58_43, s58_44, s58_45, s58_46, s58_49, s58_50, s58_51, s58_54, s58_55, s58_58, s58_61, s58_62, s58_63, s58_64, s58_65, s58_68, s58_71, s58_73, s58_76, s58_77, s58_80, s58_81, s58_84, s58_87, s58_88, s58_91, g1', nI_1, nw_up_at, Nat.reduceEqDiff, and_false, if_false, h3.2.2.2.2.2, h3.2.2.2.1, hne, hby, hsl, if_true, show (nI (tx s') = 59) = False from ni_eq_f (b := 59) h59 (by omega) (by decide), false_implies, true_implies, not_true_eq_false, not_false_eq_true, true_and, and_true, true_or, or_true, false_or, or_false, false_and, and_false, implies_true, nw_psh_s, nw_psh_n, ni_10, ni_00]
          exact hq' _ hfr
      · have hsp : nsp L tx s' = 0 := by unfold nsp; rw [if_neg hsl]
        have hq' : nxq L tx m0 Q (.inr (D', acc ++ [l])) := by
          have : (if ¬ s' < L then (.inr (D', acc ++ [l]) : Nat ⊕ (nD × List nLn)) else if tx s' = 59 ∧ 0 < j + 1 then nrl L tx (j + 1) D' (nnt L tx s') (acc ++ [l]) else .inl s') = .inr (D', acc ++ [l]) := if_pos hsl
          rw [← this]; exact hq
        have g4 := h3.2.2.2.2.2
        rw [hsp] at g4
        simp only [e58, s58_0, s58_1, s58_4, s58_5, s58_8, s58_9, s58_10, s58_13, s58_14, s58_15, s58_18, s58_19, s58_21, s58_23, s58_26, s58_27, s58_28, s58_31, s58_32, s58_33, s58_36, s58_39, s58_40, s58_43, s58_44, s58_45, s58_46, s58_49, s58_50, s58_51, s58_54, s58_55, s58_58, s58_61, s58_62, s58_63, s58_64, s58_65, s58_68, s58_71, s58_73, s58_76, s58_77, s58_80, s58_81, s58_84, s58_87, s58_88, s58_91, g1', nI_1, nw_up_at, Nat.reduceEqDiff, and_false, if_false, g4, show (nI 0 = 0) = True from eq_true rfl, false_implies, true_implies, not_true_eq_false, not_false_eq_true, true_and, and_true, true_or, or_true, false_or, or_false, false_and, and_false, implies_true, nw_psh_s, nw_psh_n, ni_10, ni_00]
        refine hq' _ hfr (nx_D_up h3.2.1 1 _) ?_
        rw [nw_up_at, if_pos ⟨rfl, rfl⟩, List.length_append, hacc]
        rfl
theorem x_read {L : Nat} {tx : Nat → Nat} {D : nD} (hok : nd_ok D) {m0 : nw_M} (h0 : nx_tx L tx m0) (h : nx_T 4 D.1 m0) (hS : nx_S (m0 4 5) D.2) (d : Nat) (Q : nw_K) (hq : nxq L tx m0 Q (nrl L tx 12 D (ntk L tx 0) [])) : nw_Ex (d + 6) nw_shX 58 [.ref 3, .ref 1, .ref 4] m0 Q := by
  simp only [e58, s58_0, s58_1, s58_4, s58_5, s58_8, s58_9, s58_10, s58_13, s58_14, s58_15, s58_18, s58_19, s58_21, s58_23, s58_26, s58_27, s58_28, s58_31, s58_32, s58_33, s58_36, s58_39, s58_40, s58_43, s58_44, s58_45, s58_46, s58_49, s58_50, s58_51, s58_54, s58_55, s58_58, s58_61, s58_62, s58_63, s58_64, s58_65, s58_68, s58_71, s58_73, s58_76, s58_77, s58_80, s58_81, s58_84, s58_87, s58_88, s58_91, false_implies, true_implies, not_true_eq_false, not_false_eq_true, true_and, and_true, true_or, or_true, false_or, or_false, false_and, and_false, implies_true, nw_psh_s, nw_psh_n, ni_10, ni_00]
  refine x_copy84 hok h hS (d + 4) _ (fun m1 hf1 hD1 => ?_)
  simp only [e58, s58_0, s58_1, s58_4, s58_5, s58_8, s58_9, s58_10, s58_13, s58_14, s58_15, s58_18, s58_19, s58_21, s58_23, s58_26, s58_27, s58_28, s58_31, s58_32, s58_33, s58_36, s58_39, s58_40, s58_43, s58_44, s58_45, s58_46, s58_49, s58_50, s58_51, s58_54, s58_55, s58_58, s58_61, s58_62, s58_63, s58_64, s58_65, s58_68, s58_71, s58_73, s58_76, s58_77, s58_80, s58_81, s58_84, s58_87, s58_88, s58_91, false_implies, true_implies, not_true_eq_false, not_false_eq_true, true_and, and_true, true_or, or_true, false_or, or_false, false_and, and_false, implies_true, nw_psh_s, nw_psh_n, ni_10, ni_00]
  refine x_read_loop h0 d Q 11 0 D 0 [] _ (by omega) hok (Nat.zero_le L) (nxh_tr (nxh_g (nxg_f hf1)) (nxh_tr (nxh_up (k := 1) _) (nxh_up _))) (nx_D_up (nx_D_up hD1 1 _) 3 _) ?_ ?_ rfl hq
  · rw [nw_up_at, if_pos ⟨rfl, rfl⟩]; rfl
  · rw [nw_up_at, if_neg (by omega), nw_up_at, if_pos ⟨rfl, rfl⟩]; rfl
