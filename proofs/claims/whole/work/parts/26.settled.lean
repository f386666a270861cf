/-! SETTLED -/
def nt_hs (u : Int32) (c : Nat) : Bool := decide ((u >>> (nI c &&& 31)) &&& 1 = 1)
theorem x_isTaken (d : Nat) (Q : nw_K) (u : Int32) (c : Nat) (mem : nw_M) : nw_Ex (d + 1) nw_shX 44 [.int u, .int (nI c)] mem Q = Q (some (.int (if nt_hs u c then 1 else 0))) mem := by
  unfold nt_hs
  by_cases h : (u >>> (nI c &&& 31)) &&& 1 = 1
  · simp only [e44, s44_0, s44_1, s44_2, s44_3, s44_4, s44_5, s44_6, s44_9, s44_10, s44_13, s44_14, h, decide_true, if_true, false_implies, true_implies, not_true_eq_false, not_false_eq_true, true_and, and_true, true_or, or_true, false_or, or_false, false_and, and_false, implies_true, nw_psh_s, nw_psh_n, ni_10, ni_00]
  · simp only [e44, s44_0, s44_1, s44_2, s44_3, s44_4, s44_5, s44_6, s44_9, s44_10, s44_13, s44_14, h, decide_false, if_false, Bool.false_eq_true, false_implies, true_implies, not_true_eq_false, not_false_eq_true, true_and, and_true, true_or, or_true, false_or, or_false, false_and, and_false, implies_true, nw_psh_s, nw_psh_n, ni_10, ni_00]
theorem m_has (d : Nat) (Q : nw_K) (u : Int32) (c : Nat) (mem : nw_M) : nw_Ex (d + 1) nw_shM 97 [.int u, .int (nI c)] mem Q = Q (some (.int (if nt_hs u c then 1 else 0))) mem := by
  unfold nt_hs
  by_cases h : (u >>> (nI c &&& 31)) &&& 1 = 1
  · simp only [e97, s97_0, s97_1, s97_2, s97_3, s97_4, s97_5, s97_6, s97_9, s97_10, s97_13, s97_14, h, decide_true, if_true, false_implies, true_implies, not_true_eq_false, not_false_eq_true, true_and, and_true, true_or, or_true, false_or, or_false, false_and, and_false, implies_true, nw_psh_s, nw_psh_n, ni_10, ni_00]
  · simp only [e97, s97_0, s97_1, s97_2, s97_3, s97_4, s97_5, s97_6, s97_9, s97_10, s97_13, s97_14, h, decide_false, if_false, Bool.false_eq_true, false_implies, true_implies, not_true_eq_false, not_false_eq_true, true_and, and_true, true_or, or_true, false_or, or_false, false_and, and_false, implies_true, nw_psh_s, nw_psh_n, ni_10, ni_00]
/-- one goes till he is at a corner that isn't in u, j beats at most -/
def nt_gm (T : nt_T) (u : Int32) : Nat → nq → nq
  | 0, q => q
  | j + 1, q => if nt_hs u q.2 then nt_gm T u j (nt_lv T q.1 q.2) else q
theorem nt_gm_ok {T : nt_T} (hT : nt_ok T) (u : Int32) : ∀ j (q : nq), nt_vok T q.1 → q.2 < nt_n T → nt_vok T (nt_gm T u j q).1 ∧ (nt_gm T u j q).2 < nt_n T
  | 0, q, h1, h2 => ⟨h1, h2⟩
  | j + 1, q, h1, h2 => by
    unfold nt_gm
    split
    · obtain ⟨a, b⟩ := nt_lv_ok hT h1 h2
      exact nt_gm_ok hT u j _ a b
    · exact ⟨h1, h2⟩
theorem nf_self (f : Nat → Nat) (w : Nat) : nf_up f w (f w) = f := by
  funext j
  by_cases h : j = w
  · simp [nf_up, h]
  · simp [nf_up, h]
theorem nf_twice (f : Nat → Nat) (w a b : Nat) : nf_up (nf_up f w a) w b = nf_up f w b := by
  funext j
  by_cases h : j = w
  · simp [nf_up, h]
  · simp [nf_up, h]
theorem x_setStand_loop {T : nt_T} (hT : nt_ok T) {mem : nw_M} (hm : nx_T 4 T mem) (d : Nat) (Q : nw_K) (s0 u : Int32) {w : Nat} (hw : w < 5) :
    ∀ j b (σ : nt_S) (s : Int32), b + j = 999 → nx_S s σ → (∀ s', nx_S s' ((nt_gm T u j (σ.1, σ.2 w)).1, nf_up σ.2 w (nt_gm T u j (σ.1, σ.2 w)).2) → Q (some (.int s')) mem) → nw_Ev (d + 4) nw_shX 43 Q 6 [some (.ref 4), some (.int s0), some (.int (nI w)), some (.int u), some (.int s), some (.int (nI b))] [] mem := by
  intro j
  induction j with
  | zero =>
    intro b σ s hb hs hQ
    have hb' : b = 999 := by omega
    subst hb'
    rw [s43_6]
    simp only [e43, s43_0, s43_1, s43_3, s43_4, s43_8, s43_11, s43_14, s43_15, s43_17, s43_18, s43_21, s43_24, s43_27, s43_28, s43_30, s43_31, s43_34, s43_36, s43_39, s43_42, s43_44, show ((999 : Int32) ≤ nI 999) = True from eq_true (by decide), false_implies, true_implies, not_true_eq_false, not_false_eq_true, true_and, and_true, true_or, or_true, false_or, or_false, false_and, and_false, implies_true, nw_psh_s, nw_psh_n, ni_10, ni_00]
    refine hQ s ?_
    show nx_S s (σ.1, nf_up σ.2 w (σ.2 w))
    rw [nf_self]
    exact hs
  | succ j ih =>
    intro b σ s hb hs hQ
    have hle : ((999 : Int32) ≤ nI b) = False := ni_le_f (a := 999) (by omega) (by decide)
    obtain ⟨hp1, hp2⟩ := hs.2.2 w hw
    unfold nt_gm at hQ
    rw [s43_6]
    by_cases hl : nt_hs u (σ.2 w) = true
    · rw [if_pos hl] at hQ
      simp only [e43, s43_0, s43_1, s43_3, s43_4, s43_8, s43_11, s43_14, s43_15, s43_17, s43_18, s43_21, s43_24, s43_27, s43_28, s43_30, s43_31, s43_34, s43_36, s43_39, s43_42, s43_44, hle, x_placeOf, hp1, x_isTaken, hl, if_true, x_walked hT hm _ _ hs hw, nI_1, false_implies, true_implies, not_true_eq_false, not_false_eq_true, true_and, and_true, true_or, or_true, false_or, or_false, false_and, and_false, implies_true, nw_psh_s, nw_psh_n, ni_10, ni_00]
      refine ih (b + 1) (nt_wk T σ w) _ (by omega) (nx_wk_S hT hs hw) (fun s' hs' => hQ s' ?_)
      have e1 : (nt_wk T σ w).2 w = (nt_lv T σ.1 (σ.2 w)).2 := by
        show nf_up σ.2 w _ w = _
        simp [nf_up]
      have e2 : ∀ z, nf_up (nt_wk T σ w).2 w z = nf_up σ.2 w z := fun z => nf_twice σ.2 w _ z
      rw [e1, e2] at hs'
      exact hs'
    · rw [if_neg hl] at hQ
      simp only [e43, s43_0, s43_1, s43_3, s43_4, s43_8, s43_11, s43_14, s43_15, s43_17, s43_18, s43_21, s43_24, s43_27, s43_28, s43_30, s43_31, s43_34, s43_36, s43_39, s43_42, s43_44, hle, x_placeOf, hp1, x_isTaken, hl, if_false, Bool.false_eq_true, false_implies, true_implies, not_true_eq_false, not_false_eq_true, true_and, and_true, true_or, or_true, false_or, or_false, false_and, and_false, implies_true, nw_psh_s, nw_psh_n, ni_10, ni_00]
      refine hQ s ?_
      show nx_S s (σ.1, nf_up σ.2 w (σ.2 w))
      rw [nf_self]
      exact hs
/-- all, one behind the other: corners at which one is settled -/
def nt_se (T : nt_T) (pl : Nat → Nat) : Nat → Nat → (Nat → Nat) → Int32 → Option Int32
  | 0, _, _, u => some u
  | j + 1, i, v, u => if nt_hs u (nt_gm T u 999 (v, pl i)).2 then none else nt_se T pl j (i + 1) (nt_gm T u 999 (v, pl i)).1 (u ||| ((1 : Int32) <<< (nI (nt_gm T u 999 (v, pl i)).2 &&& 31)))
def nz_i : Option Int32 → Int32
  | some u => u
  | none => -1
def nt_wn (fl : Bool) (m i : Nat) : Nat := if fl then m - 1 - i else i
theorem x_settled_loop {T : nt_T} (hT : nt_ok T) {mem : nw_M} (hm : nx_T 4 T mem) (d : Nat) (Q : nw_K) (s0 : Int32) (fl : Bool) {σ0 : nt_S} :
    ∀ j i (s : Int32) (σ : nt_S) (u : Int32) (l6 l7 : Option Value), i + j = nt_m T → nx_S s σ → (∀ i', i ≤ i' → i' < nt_m T → σ.2 (nt_wn fl (nt_m T) i') = σ0.2 (nt_wn fl (nt_m T) i')) → (l6 = none ∨ ∃ z, l6 = some (.int z)) → (l7 = none ∨ ∃ z, l7 = some (.int z)) → Q (some (.int (nz_i (nt_se T (fun i => σ0.2 (nt_wn fl (nt_m T) i)) j i σ.1 u)))) mem → nw_Ev (d + 5) nw_shX 42 Q 8 [some (.ref 4), some (.int s0), some (.int (if fl then 1 else 0)), some (.int s), some (.int u), some (.int (nI i)), l6, l7] [] mem := by
  have h5 := hT.2.2.1
  intro j
  induction j with
  | zero =>
    intro i s σ u l6 l7 hi hs hσ hl6 hl7 hQ
    have hi' : i = nt_m T := by omega
    subst hi'
    rw [s42_8]
    simp only [e42, s42_0, s42_1, s42_2, s42_3, s42_5, s42_6, s42_10, s42_11, s42_14, s42_17, s42_18, s42_21, s42_22, s42_25, s42_26, s42_27, s42_29, s42_30, s42_33, s42_35, s42_37, s42_38, s42_39, s42_41, s42_43, s42_46, s42_47, s42_48, s42_50, s42_53, s42_55, s42_57, s42_59, s42_62, s42_65, s42_66, s42_67, s42_69, s42_70, s42_72, s42_73, s42_74, s42_76, s42_79, s42_82, s42_84, hm.2.1, ni_le_t (Nat.le_refl (nt_m T)) (show nt_m T < 2 ^ 31 by omega), false_implies, true_implies, not_true_eq_false, not_false_eq_true, true_and, and_true, true_or, or_true, false_or, or_false, false_and, and_false, implies_true, nw_psh_s, nw_psh_n, ni_10, ni_00]
    exact hQ
  | succ j ih =>
    intro i s σ u l6 l7 hi hs hσ hl6 hl7 hQ
    have hwn : nt_wn fl (nt_m T) i < nt_m T := by unfold nt_wn; split <;> omega
    have hpl := hσ i (Nat.le_refl _) (by omega)
    have hcond : ∀ Q' : Prop, Q' → (((if fl then (1 : Int32) else 0) = 0 → (fl = false → Q')) ∧ (¬ (if fl then (1 : Int32) else 0) = 0 → (fl = true → Q'))) := fun Q' q => ⟨fun _ _ => q, fun _ _ => q⟩
    -- the common end, from the choice of the walker on
    have hend : nw_Ev (d + 5) nw_shX 42 Q 35 [some (.ref 4), some (.int s0), some (.int (if fl then 1 else 0)), some (.int s), some (.int u), some (.int (nI i)), l6, l7] [.int (nI (nt_wn fl (nt_m T) i))] mem := by
      simp only [e42, s42_0, s42_1, s42_2, s42_3, s42_5, s42_6, s42_10, s42_11, s42_14, s42_17, s42_18, s42_21, s42_22, s42_25, s42_26, s42_27, s42_29, s42_30, s42_33, s42_35, s42_37, s42_38, s42_39, s42_41, s42_43, s42_46, s42_47, s42_48, s42_50, s42_53, s42_55, s42_57, s42_59, s42_62, s42_65, s42_66, s42_67, s42_69, s42_70, s42_72, s42_73, s42_74, s42_76, s42_79, s42_82, s42_84, e43, s43_0, s43_1, s43_3, s43_4, s43_8, s43_11, s43_14, s43_15, s43_17, s43_18, s43_21, s43_24, s43_27, s43_28, s43_30, s43_31, s43_34, s43_36, s43_39, s43_42, s43_44, false_implies, true_implies, not_true_eq_false, not_false_eq_true, true_and, and_true, true_or, or_true, false_or, or_false, false_and, and_false, implies_true, nw_psh_s, nw_psh_n, ni_10, ni_00]
      refine x_setStand_loop hT hm d _ _ _ (by omega) 999 0 σ s (by omega) hs (fun s' hs' => ?_)
      rw [hpl] at hs'
      unfold nt_se at hQ
      have hp := hs'.2.2 (nt_wn fl (nt_m T) i) (by omega)
      have e1 : nf_up σ.2 (nt_wn fl (nt_m T) i) (nt_gm T u 999 (σ.1, σ0.2 (nt_wn fl (nt_m T) i))).2 (nt_wn fl (nt_m T) i) = (nt_gm T u 999 (σ.1, σ0.2 (nt_wn fl (nt_m T) i))).2 := by simp [nf_up]
      simp only [e1] at hp
      by_cases ht : nt_hs u (nt_gm T u 999 (σ.1, σ0.2 (nt_wn fl (nt_m T) i))).2 = true
      · rw [if_pos ht] at hQ
        rcases hl6 with rfl | ⟨z6, rfl⟩ <;> rcases hl7 with rfl | ⟨z7, rfl⟩ <;>
        · simp only [e42, s42_0, s42_1, s42_2, s42_3, s42_5, s42_6, s42_10, s42_11, s42_14, s42_17, s42_18, s42_21, s42_22, s42_25, s42_26, s42_27, s42_29, s42_30, s42_33, s42_35, s42_37, s42_38, s42_39, s42_41, s42_43, s42_46, s42_47, s42_48, s42_50, s42_53, s42_55, s42_57, s42_59, s42_62, s42_65, s42_66, s42_67, s42_69, s42_70, s42_72, s42_73, s42_74, s42_76, s42_79, s42_82, s42_84, x_placeOf, hp.1, x_isTaken, ht, if_true, false_implies, true_implies, not_true_eq_false, not_false_eq_true, true_and, and_true, true_or, or_true, false_or, or_false, false_and, and_false, implies_true, nw_psh_s, nw_psh_n, ni_10, ni_00]
          exact hQ
      · rw [if_neg ht] at hQ
        have hh := fun l6 l7 h6 h7 => ih (i + 1) s' _ _ l6 l7 (by omega) hs' (fun i' h1 h2 => ?_) h6 h7 hQ
        · rcases hl6 with rfl | ⟨z6, rfl⟩ <;> rcases hl7 with rfl | ⟨z7, rfl⟩ <;>
          · simp only [e42, s42_0, s42_1, s42_2, s42_3, s42_5, s42_6, s42_10, s42_11, s42_14, s42_17, s42_18, s42_21, s42_22, s42_25, s42_26, s42_27, s42_29, s42_30, s42_33, s42_35, s42_37, s42_38, s42_39, s42_41, s42_43, s42_46, s42_47, s42_48, s42_50, s42_53, s42_55, s42_57, s42_59, s42_62, s42_65, s42_66, s42_67, s42_69, s42_70, s42_72, s42_73, s42_74, s42_76, s42_79, s42_82, s42_84, x_placeOf, hp.1, x_isTaken, ht, if_false, Bool.false_eq_true, nI_1, false_implies, true_implies, not_true_eq_false, not_false_eq_true, true_and, and_true, true_or, or_true, false_or, or_false, false_and, and_false, implies_true, nw_psh_s, nw_psh_n, ni_10, ni_00]
            exact hh _ _ (Or.inr ⟨_, rfl⟩) (Or.inr ⟨_, rfl⟩)
        · show nf_up σ.2 _ _ _ = _
          have hne : ¬ nt_wn fl (nt_m T) i' = nt_wn fl (nt_m T) i := by unfold nt_wn; split <;> omega
          simp only [nf_up, if_neg hne]
          exact hσ i' (by omega) h2
    have hle := ni_le_f (show i < nt_m T by omega) (show nt_m T < 2 ^ 31 by omega)
    rw [s42_8]
    cases fl with
    | false =>
      simp only [Bool.false_eq_true, if_false] at hend ⊢
      simp only [e42, s42_0, s42_1, s42_2, s42_3, s42_5, s42_6, s42_10, s42_11, s42_14, s42_17, s42_18, s42_21, s42_22, s42_25, s42_26, s42_27, s42_29, s42_30, s42_33, s42_37, s42_38, s42_39, s42_41, s42_43, s42_46, s42_47, s42_48, s42_50, s42_53, s42_55, s42_57, s42_59, s42_62, s42_65, s42_66, s42_67, s42_69, s42_70, s42_72, s42_73, s42_74, s42_76, s42_79, s42_82, s42_84, hm.2.1, hle, false_implies, true_implies, not_true_eq_false, not_false_eq_true, true_and, and_true, true_or, or_true, false_or, or_false, false_and, and_false, implies_true, nw_psh_s, nw_psh_n, ni_10, ni_00]
      exact hend
    | true =>
      simp only [if_true] at hend ⊢
      have hz : nI (nt_m T) - 1 - nI i = nI (nt_m T - 1 - i) := by rw [ni_m1 (by omega), pk_sub (by omega)]
      simp only [e42, s42_0, s42_1, s42_2, s42_3, s42_5, s42_6, s42_10, s42_11, s42_14, s42_17, s42_18, s42_21, s42_22, s42_25, s42_26, s42_27, s42_29, s42_30, s42_33, s42_37, s42_38, s42_39, s42_41, s42_43, s42_46, s42_47, s42_48, s42_50, s42_53, s42_55, s42_57, s42_59, s42_62, s42_65, s42_66, s42_67, s42_69, s42_70, s42_72, s42_73, s42_74, s42_76, s42_79, s42_82, s42_84, hm.2.1, hle, hz, false_implies, true_implies, not_true_eq_false, not_false_eq_true, true_and, and_true, true_or, or_true, false_or, or_false, false_and, and_false, implies_true, nw_psh_s, nw_psh_n, ni_10, ni_00]
      exact hend
theorem m_settled_in {T : nt_T} (hT : nt_ok T) {mm : nw_M} (hm : nm_T T mm) (d : Nat) (Q : nw_K) (a1 u a3 : Int32) :
    ∀ j b (q : nq) m1, b + j = 999 → nt_vok T q.1 → q.2 < nt_n T → nm_tv mm q.1 m1 → (∀ m2 b', nm_tv mm (nt_gm T u j q).1 m2 → nw_Ev (d + 3) nw_shM 149 Q 93 [some (.ref 0), some (.int a1), some (.int u), some (.int a3), some (.int (nI (nt_gm T u j q).2)), some (.int b')] [] m2) → nw_Ev (d + 3) nw_shM 149 Q 60 [some (.ref 0), some (.int a1), some (.int u), some (.int a3), some (.int (nI q.2)), some (.int (nI b))] [] m1 := by
  have h8 := hT.2.1
  intro j
  induction j with
  | zero =>
    intro b q m1 hb hvo hq h hQ
    have hb' : b = 999 := by omega
    subst hb'
    rw [s149_60]
    simp only [e149, s149_0, s149_1, s149_2, s149_3, s149_4, s149_7, s149_10, s149_12, s149_13, s149_14, s149_15, s149_16, s149_19, s149_20, s149_21, s149_22, s149_24, s149_25, s149_28, s149_31, s149_32, s149_35, s149_37, s149_38, s149_41, s149_42, s149_45, s149_46, s149_49, s149_50, s149_51, s149_52, s149_53, s149_54, s149_55, s149_57, s149_58, s149_62, s149_65, s149_68, s149_69, s149_71, s149_74, s149_77, s149_78, s149_80, s149_82, s149_85, s149_87, s149_90, s149_94, s149_96, s149_99, s149_102, s149_103, s149_104, s149_105, s149_106, s149_108, s149_109, s149_110, s149_111, s149_114, s149_117, s149_118, show ((999 : Int32) ≤ nI 999) = True from eq_true (by decide), false_implies, true_implies, not_true_eq_false, not_false_eq_true, true_and, and_true, true_or, or_true, false_or, or_false, false_and, and_false, implies_true, nw_psh_s, nw_psh_n, ni_10, ni_00]
    exact hQ m1 _ h
  | succ j ih =>
    intro b q m1 hb hvo hq h hQ
    have hle : ((999 : Int32) ≤ nI b) = False := ni_le_f (a := 999) (by omega) (by decide)
    unfold nt_gm at hQ
    rw [s149_60]
    by_cases hl : nt_hs u q.2 = true
    · rw [if_pos hl] at hQ
      simp only [e149, s149_0, s149_1, s149_2, s149_3, s149_4, s149_7, s149_10, s149_12, s149_13, s149_14, s149_15, s149_16, s149_19, s149_20, s149_21, s149_22, s149_24, s149_25, s149_28, s149_31, s149_32, s149_35, s149_37, s149_38, s149_41, s149_42, s149_45, s149_46, s149_49, s149_50, s149_51, s149_52, s149_53, s149_54, s149_55, s149_57, s149_58, s149_62, s149_65, s149_68, s149_69, s149_71, s149_74, s149_77, s149_78, s149_80, s149_82, s149_85, s149_87, s149_90, s149_94, s149_96, s149_99, s149_102, s149_103, s149_104, s149_105, s149_106, s149_108, s149_109, s149_110, s149_111, s149_114, s149_117, s149_118, hle, m_has, hl, if_true, false_implies, true_implies, not_true_eq_false, not_false_eq_true, true_and, and_true, true_or, or_true, false_or, or_false, false_and, and_false, implies_true, nw_psh_s, nw_psh_n, ni_10, ni_00]
      refine m_leave42 hT hm hvo h d _ (by omega) (fun m2 h2 => ?_)
      simp only [e149, s149_0, s149_1, s149_2, s149_3, s149_4, s149_7, s149_10, s149_12, s149_13, s149_14, s149_15, s149_16, s149_19, s149_20, s149_21, s149_22, s149_24, s149_25, s149_28, s149_31, s149_32, s149_35, s149_37, s149_38, s149_41, s149_42, s149_45, s149_46, s149_49, s149_50, s149_51, s149_52, s149_53, s149_54, s149_55, s149_57, s149_58, s149_62, s149_65, s149_68, s149_69, s149_71, s149_74, s149_77, s149_78, s149_80, s149_82, s149_85, s149_87, s149_90, s149_94, s149_96, s149_99, s149_102, s149_103, s149_104, s149_105, s149_106, s149_108, s149_109, s149_110, s149_111, s149_114, s149_117, s149_118, nI_1, false_implies, true_implies, not_true_eq_false, not_false_eq_true, true_and, and_true, true_or, or_true, false_or, or_false, false_and, and_false, implies_true, nw_psh_s, nw_psh_n, ni_10, ni_00]
      obtain ⟨g1, g2⟩ := nt_lv_ok hT hvo hq
      exact ih (b + 1) _ m2 (by omega) g1 g2 h2 hQ
    · rw [if_neg hl] at hQ
      simp only [e149, s149_0, s149_1, s149_2, s149_3, s149_4, s149_7, s149_10, s149_12, s149_13, s149_14, s149_15, s149_16, s149_19, s149_20, s149_21, s149_22, s149_24, s149_25, s149_28, s149_31, s149_32, s149_35, s149_37, s149_38, s149_41, s149_42, s149_45, s149_46, s149_49, s149_50, s149_51, s149_52, s149_53, s149_54, s149_55, s149_57, s149_58, s149_62, s149_65, s149_68, s149_69, s149_71, s149_74, s149_77, s149_78, s149_80, s149_82, s149_85, s149_87, s149_90, s149_94, s149_96, s149_99, s149_102, s149_103, s149_104, s149_105, s149_106, s149_108, s149_109, s149_110, s149_111, s149_114, s149_117, s149_118, hle, m_has, hl, if_false, Bool.false_eq_true, false_implies, true_implies, not_true_eq_false, not_false_eq_true, true_and, and_true, true_or, or_true, false_or, or_false, false_and, and_false, implies_true, nw_psh_s, nw_psh_n, ni_10, ni_00]
      exact hQ m1 _ h
theorem m_settled_loop {T : nt_T} (hT : nt_ok T) {mm : nw_M} (hm : nm_T T mm) (d : Nat) (Q : nw_K) (fl : Bool) {σ0 : nt_S} (hok : nt_sok T σ0) (hS : nm_S T 0 σ0 mm) :
    ∀ j i m1 (v : Nat → Nat) (u : Int32) (l4 l5 : Option Value), i + j = nt_m T → nt_vok T v → nm_tv mm v m1 → (l4 = none ∨ ∃ z, l4 = some (.int z)) → (l5 = none ∨ ∃ z, l5 = some (.int z)) → (∀ m2, nm_sc mm m2 → Q (some (.int (nz_i (nt_se T (fun i => σ0.2 (nt_wn fl (nt_m T) i)) j i v u)))) m2) → nw_Ev (d + 3) nw_shM 149 Q 23 [some (.ref 0), some (.int (if fl then 1 else 0)), some (.int u), some (.int (nI i)), l4, l5] [] m1 := by
  have h5 := hT.2.2.1
  have h8 := hT.2.1
  intro j
  induction j with
  | zero =>
    intro i m1 v u l4 l5 hi hv h hl4 hl5 hQ
    have hi' : i = nt_m T := by omega
    subst hi'
    rw [s149_23]
    simp only [e149, s149_0, s149_1, s149_2, s149_3, s149_4, s149_7, s149_10, s149_12, s149_13, s149_14, s149_15, s149_16, s149_19, s149_20, s149_21, s149_22, s149_24, s149_25, s149_28, s149_31, s149_32, s149_35, s149_37, s149_38, s149_41, s149_42, s149_45, s149_46, s149_49, s149_50, s149_51, s149_52, s149_53, s149_54, s149_55, s149_57, s149_58, s149_62, s149_65, s149_68, s149_69, s149_71, s149_74, s149_77, s149_78, s149_80, s149_82, s149_85, s149_87, s149_90, s149_93, s149_94, s149_96, s149_99, s149_102, s149_103, s149_104, s149_105, s149_106, s149_108, s149_109, s149_110, s149_111, s149_114, s149_117, s149_118, (nm_T_sc hm h.1).2.1, ni_le_t (Nat.le_refl (nt_m T)) (show nt_m T < 2 ^ 31 by omega), false_implies, true_implies, not_true_eq_false, not_false_eq_true, true_and, and_true, true_or, or_true, false_or, or_false, false_and, and_false, implies_true, nw_psh_s, nw_psh_n, ni_10, ni_00]
    exact hQ m1 h.1
  | succ j ih =>
    intro i m1 v u l4 l5 hi hv h hl4 hl5 hQ
    have hwn : nt_wn fl (nt_m T) i < nt_m T := by unfold nt_wn; split <;> omega
    have hpl := hok.2 _ hwn
    have hrow : m1 1 (8 + nt_wn fl (nt_m T) i) = nI (σ0.2 (nt_wn fl (nt_m T) i)) := by
      rw [h.1 1 _ (by omega)]
      have := hS.2 _ hwn
      rwa [Nat.zero_add] at this
    have hi2 : vp_in (nI (8 + nt_wn fl (nt_m T) i)) 70 := vp_in_nI (by omega) (by decide)
    unfold nt_se at hQ
    have hend : nw_Ev (d + 3) nw_shM 149 Q 54 [some (.ref 0), some (.int (if fl then 1 else 0)), some (.int u), some (.int (nI i)), l4, l5] [.int (nI (8 + nt_wn fl (nt_m T) i)), .ref 1] m1 := by
      have hin : nw_Ev (d + 3) nw_shM 149 Q 60 [some (.ref 0), some (.int (if fl then 1 else 0)), some (.int u), some (.int (nI i)), some (.int (nI (σ0.2 (nt_wn fl (nt_m T) i)))), some (.int (nI 0))] [] m1 := by
        refine m_settled_in hT hm d Q _ _ _ 999 0 (v, σ0.2 (nt_wn fl (nt_m T) i)) m1 (by omega) hv hpl h (fun m2 b' h2 => ?_)
        obtain ⟨g1, g2⟩ := nt_gm_ok hT u 999 (v, σ0.2 (nt_wn fl (nt_m T) i)) hv hpl
        by_cases ht : nt_hs u (nt_gm T u 999 (v, σ0.2 (nt_wn fl (nt_m T) i))).2 = true
        · rw [if_pos ht] at hQ
          simp only [e149, s149_0, s149_1, s149_2, s149_3, s149_4, s149_7, s149_10, s149_12, s149_13, s149_14, s149_15, s149_16, s149_19, s149_20, s149_21, s149_22, s149_24, s149_25, s149_28, s149_31, s149_32, s149_35, s149_37, s149_38, s149_41, s149_42, s149_45, s149_46, s149_49, s149_50, s149_51, s149_52, s149_53, s149_54, s149_55, s149_57, s149_58, s149_62, s149_65, s149_68, s149_69, s149_71, s149_74, s149_77, s149_78, s149_80, s149_82, s149_85, s149_87, s149_90, s149_93, s149_94, s149_96, s149_99, s149_102, s149_103, s149_104, s149_105, s149_106, s149_108, s149_109, s149_110, s149_111, s149_114, s149_117, s149_118, m_has, ht, if_true, false_implies, true_implies, not_true_eq_false, not_false_eq_true, true_and, and_true, true_or, or_true, false_or, or_false, false_and, and_false, implies_true, nw_psh_s, nw_psh_n, ni_10, ni_00]
          exact hQ m2 h2.1
        · rw [if_neg ht] at hQ
          simp only [e149, s149_0, s149_1, s149_2, s149_3, s149_4, s149_7, s149_10, s149_12, s149_13, s149_14, s149_15, s149_16, s149_19, s149_20, s149_21, s149_22, s149_24, s149_25, s149_28, s149_31, s149_32, s149_35, s149_37, s149_38, s149_41, s149_42, s149_45, s149_46, s149_49, s149_50, s149_51, s149_52, s149_53, s149_54, s149_55, s149_57, s149_58, s149_62, s149_65, s149_68, s149_69, s149_71, s149_74, s149_77, s149_78, s149_80, s149_82, s149_85, s149_87, s149_90, s149_93, s149_94, s149_96, s149_99, s149_102, s149_103, s149_104, s149_105, s149_106, s149_108, s149_109, s149_110, s149_111, s149_114, s149_117, s149_118, m_has, ht, if_false, Bool.false_eq_true, nI_1, false_implies, true_implies, not_true_eq_false, not_false_eq_true, true_and, and_true, true_or, or_true, false_or, or_false, false_and, and_false, implies_true, nw_psh_s, nw_psh_n, ni_10, ni_00]
          exact ih (i + 1) m2 _ _ _ _ (by omega) g1 h2 (Or.inr ⟨_, rfl⟩) (Or.inr ⟨_, rfl⟩) hQ
      rcases hl4 with rfl | ⟨z4, rfl⟩ <;> rcases hl5 with rfl | ⟨z5, rfl⟩ <;>
      · simp only [e149, s149_0, s149_1, s149_2, s149_3, s149_4, s149_7, s149_10, s149_12, s149_13, s149_14, s149_15, s149_16, s149_19, s149_20, s149_21, s149_22, s149_24, s149_25, s149_28, s149_31, s149_32, s149_35, s149_37, s149_38, s149_41, s149_42, s149_45, s149_46, s149_49, s149_50, s149_51, s149_52, s149_53, s149_54, s149_55, s149_57, s149_58, s149_62, s149_65, s149_68, s149_69, s149_71, s149_74, s149_77, s149_78, s149_80, s149_82, s149_85, s149_87, s149_90, s149_93, s149_94, s149_96, s149_99, s149_102, s149_103, s149_104, s149_105, s149_106, s149_108, s149_109, s149_110, s149_111, s149_114, s149_117, s149_118, hi2, ni_cl (show 8 + nt_wn fl (nt_m T) i < 2 ^ 31 by omega), hrow, false_implies, true_implies, not_true_eq_false, not_false_eq_true, true_and, and_true, true_or, or_true, false_or, or_false, false_and, and_false, implies_true, nw_psh_s, nw_psh_n, ni_10, ni_00]
        exact hin
    have hle := ni_le_f (show i < nt_m T by omega) (show nt_m T < 2 ^ 31 by omega)
    have e8 : ∀ k, (8 : Int32) + nI k = nI (8 + k) := fun k => nI_add 8 k
    rw [s149_23]
    cases fl with
    | false =>
      simp only [Bool.false_eq_true, if_false] at hend ⊢
      simp only [e149, s149_0, s149_1, s149_2, s149_3, s149_4, s149_7, s149_10, s149_12, s149_13, s149_14, s149_15, s149_16, s149_19, s149_20, s149_21, s149_22, s149_24, s149_25, s149_28, s149_31, s149_32, s149_35, s149_37, s149_38, s149_41, s149_42, s149_45, s149_46, s149_49, s149_50, s149_51, s149_52, s149_53, s149_55, s149_57, s149_58, s149_62, s149_65, s149_68, s149_69, s149_71, s149_74, s149_77, s149_78, s149_80, s149_82, s149_85, s149_87, s149_90, s149_93, s149_94, s149_96, s149_99, s149_102, s149_103, s149_104, s149_105, s149_106, s149_108, s149_109, s149_110, s149_111, s149_114, s149_117, s149_118, (nm_T_sc hm h.1).2.1, hle, e8, false_implies, true_implies, not_true_eq_false, not_false_eq_true, true_and, and_true, true_or, or_true, false_or, or_false, false_and, and_false, implies_true, nw_psh_s, nw_psh_n, ni_10, ni_00]
      exact hend
    | true =>
      simp only [if_true] at hend ⊢
      have hz : nI (nt_m T) - 1 - nI i = nI (nt_m T - 1 - i) := by rw [ni_m1 (by omega), pk_sub (by omega)]
      simp only [e149, s149_0, s149_1, s149_2, s149_3, s149_4, s149_7, s149_10, s149_12, s149_13, s149_14, s149_15, s149_16, s149_19, s149_20, s149_21, s149_22, s149_24, s149_25, s149_28, s149_31, s149_32, s149_35, s149_37, s149_38, s149_41, s149_42, s149_45, s149_46, s149_49, s149_50, s149_51, s149_52, s149_53, s149_55, s149_57, s149_58, s149_62, s149_65, s149_68, s149_69, s149_71, s149_74, s149_77, s149_78, s149_80, s149_82, s149_85, s149_87, s149_90, s149_93, s149_94, s149_96, s149_99, s149_102, s149_103, s149_104, s149_105, s149_106, s149_108, s149_109, s149_110, s149_111, s149_114, s149_117, s149_118, (nm_T_sc hm h.1).2.1, hle, hz, e8, false_implies, true_implies, not_true_eq_false, not_false_eq_true, true_and, and_true, true_or, or_true, false_or, or_false, false_and, and_false, implies_true, nw_psh_s, nw_psh_n, ni_10, ni_00]
      exact hend
theorem p_settled (A : nA) (y : Int32) : nP2 A 92 149 [.int y] := by
  intro mx mm hX hM
  obtain ⟨T, τ, σ, g, kp, L, tx⟩ := A
  have hX0 := hX
  have hM0 := hM
  obtain ⟨h1, h2, h3, ⟨h5, h6⟩, -⟩ := hX
  obtain ⟨-, k2, -, ⟨-, k4⟩, -⟩ := hM
  have hin := fun Q' => m_in 38 Q' y 0 1 mm
  rcases ix3 y (n := 2) (by decide) with hy | ⟨a, ha, rfl⟩
  · have hyo : (y < 0 ∨ (1 : Int32) < y) = True := in_lit_out (n := 1) (by decide) hy
    refine nP_same (r := -3) hX0 hM0 (fun Q hQ => ?_) (fun Q hQ => ?_)
    · simp only [e92, s92_0, s92_1, s92_4, s92_7, s92_8, s92_11, s92_12, s92_15, s92_16, s92_17, s92_20, s92_21, s92_24, s92_25, s92_28, s92_31, s92_33, x_isEither, hyo, if_true, false_implies, true_implies, not_true_eq_false, not_false_eq_true, true_and, and_true, true_or, or_true, false_or, or_false, false_and, and_false, implies_true, nw_psh_s, nw_psh_n, ni_10, ni_00]
      exact hQ
    · simp only [e149, s149_0, s149_1, s149_2, s149_3, s149_4, s149_7, s149_10, s149_12, s149_13, s149_14, s149_15, s149_16, s149_19, s149_20, s149_21, s149_22, s149_24, s149_25, s149_28, s149_31, s149_32, s149_35, s149_37, s149_38, s149_41, s149_42, s149_45, s149_46, s149_49, s149_50, s149_51, s149_52, s149_53, s149_54, s149_55, s149_57, s149_58, s149_62, s149_65, s149_68, s149_69, s149_71, s149_74, s149_77, s149_78, s149_80, s149_82, s149_85, s149_87, s149_90, s149_93, s149_94, s149_96, s149_99, s149_102, s149_103, s149_104, s149_105, s149_106, s149_108, s149_109, s149_110, s149_111, s149_114, s149_117, s149_118, lw_0, lw_1, hin, hyo, if_true, false_implies, true_implies, not_true_eq_false, not_false_eq_true, true_and, and_true, true_or, or_true, false_or, or_false, false_and, and_false, implies_true, nw_psh_s, nw_psh_n, ni_10, ni_00]
      exact hQ mm (nm_sc_rf mm)
  · have hya : (nI a < 0 ∨ (1 : Int32) < nI a) = False := in_lit (n := 1) (by omega) (by decide)
    have key : ∀ fl : Bool, nI a = (if fl then 1 else 0) → ∃ A' r', nP A' r' 92 149 [.int (nI a)] mx mm := by
      intro fl hfl
      refine nP_same (r := nz_i (nt_se T (fun i => σ.2 (nt_wn fl (nt_m T) i)) (nt_m T) 0 σ.1 0)) hX0 hM0 (fun Q hQ => ?_) (fun Q hQ => ?_)
      · have hcall : nw_Ev 39 nw_shX 92 Q 25 [some (.ref 0), some (.int (nI a))] [.int (if fl then 1 else 0), .int (mx 0 5), .ref 4] mx := by
          simp only [e92, s92_0, s92_1, s92_4, s92_7, s92_8, s92_11, s92_12, s92_15, s92_16, s92_17, s92_20, s92_21, s92_24, s92_25, s92_28, s92_31, s92_33, e42, s42_0, s42_1, s42_2, s42_3, s42_5, s42_6, s42_10, s42_11, s42_14, s42_17, s42_18, s42_21, s42_22, s42_25, s42_26, s42_27, s42_29, s42_30, s42_33, s42_35, s42_37, s42_38, s42_39, s42_41, s42_43, s42_46, s42_47, s42_48, s42_50, s42_53, s42_55, s42_57, s42_59, s42_62, s42_65, s42_66, s42_67, s42_69, s42_70, s42_72, s42_73, s42_74, s42_76, s42_79, s42_82, s42_84, false_implies, true_implies, not_true_eq_false, not_false_eq_true, true_and, and_true, true_or, or_true, false_or, or_false, false_and, and_false, implies_true, nw_psh_s, nw_psh_n, ni_10, ni_00]
          refine x_settled_loop h1 h2 33 _ _ fl (nt_m T) 0 (mx 0 5) σ 0 none none (by omega) h6 (fun _ _ _ => rfl) (Or.inl rfl) (Or.inl rfl) ?_
          simp only [e92, s92_0, s92_1, s92_4, s92_7, s92_8, s92_11, s92_12, s92_15, s92_16, s92_17, s92_20, s92_21, s92_24, s92_25, s92_28, s92_31, s92_33, false_implies, true_implies, not_true_eq_false, not_false_eq_true, true_and, and_true, true_or, or_true, false_or, or_false, false_and, and_false, implies_true, nw_psh_s, nw_psh_n, ni_10, ni_00]
          exact hQ
        cases fl with
        | false =>
          simp only [Bool.false_eq_true, if_false] at hcall hfl
          simp only [e92, s92_0, s92_1, s92_4, s92_7, s92_8, s92_11, s92_12, s92_15, s92_16, s92_17, s92_20, s92_21, s92_24, s92_28, s92_31, s92_33, x_isEither, hya, if_false, show (nI a = 1) = False from eq_false (by rw [hfl]; decide), false_implies, true_implies, not_true_eq_false, not_false_eq_true, true_and, and_true, true_or, or_true, false_or, or_false, false_and, and_false, implies_true, nw_psh_s, nw_psh_n, ni_10, ni_00]
          exact hcall
        | true =>
          simp only [if_true] at hcall hfl
          simp only [e92, s92_0, s92_1, s92_4, s92_7, s92_8, s92_11, s92_12, s92_15, s92_16, s92_17, s92_20, s92_21, s92_24, s92_28, s92_31, s92_33, x_isEither, hya, if_false, show (nI a = 1) = True from eq_true hfl, false_implies, true_implies, not_true_eq_false, not_false_eq_true, true_and, and_true, true_or, or_true, false_or, or_false, false_and, and_false, implies_true, nw_psh_s, nw_psh_n, ni_10, ni_00]
          exact hcall
      · simp only [e149, s149_0, s149_1, s149_2, s149_3, s149_4, s149_7, s149_10, s149_12, s149_13, s149_14, s149_15, s149_16, s149_19, s149_20, s149_21, s149_22, s149_24, s149_25, s149_28, s149_31, s149_32, s149_35, s149_37, s149_38, s149_41, s149_42, s149_45, s149_46, s149_49, s149_50, s149_51, s149_52, s149_53, s149_54, s149_55, s149_57, s149_58, s149_62, s149_65, s149_68, s149_69, s149_71, s149_74, s149_77, s149_78, s149_80, s149_82, s149_85, s149_87, s149_90, s149_93, s149_94, s149_96, s149_99, s149_102, s149_103, s149_104, s149_105, s149_106, s149_108, s149_109, s149_110, s149_111, s149_114, s149_117, s149_118, lw_0, lw_1, hin, hya, if_false, false_implies, true_implies, not_true_eq_false, not_false_eq_true, true_and, and_true, true_or, or_true, false_or, or_false, false_and, and_false, implies_true, nw_psh_s, nw_psh_n, ni_10, ni_00]
        refine m_try h1 k4 38 _ (fun m1 ht2 => ?_)
        simp only [e149, s149_0, s149_1, s149_2, s149_3, s149_4, s149_7, s149_10, s149_12, s149_13, s149_14, s149_15, s149_16, s149_19, s149_20, s149_21, s149_22, s149_24, s149_25, s149_28, s149_31, s149_32, s149_35, s149_37, s149_38, s149_41, s149_42, s149_45, s149_46, s149_49, s149_50, s149_51, s149_52, s149_53, s149_54, s149_55, s149_57, s149_58, s149_62, s149_65, s149_68, s149_69, s149_71, s149_74, s149_77, s149_78, s149_80, s149_82, s149_85, s149_87, s149_90, s149_93, s149_94, s149_96, s149_99, s149_102, s149_103, s149_104, s149_105, s149_106, s149_108, s149_109, s149_110, s149_111, s149_114, s149_117, s149_118, false_implies, true_implies, not_true_eq_false, not_false_eq_true, true_and, and_true, true_or, or_true, false_or, or_false, false_and, and_false, implies_true, nw_psh_s, nw_psh_n, ni_10, ni_00]
        rw [hfl]
        exact m_settled_loop h1 k2 36 Q fl h5 k4 (nt_m T) 0 m1 σ.1 0 none none (by omega) h5.1 (nm_tr_tv ht2) (Or.inl rfl) (Or.inl rfl) hQ
    have ha2 : a = 0 ∨ a = 1 := by omega
    rcases ha2 with rfl | rfl
    · exact key false rfl
    · exact key true rfl
