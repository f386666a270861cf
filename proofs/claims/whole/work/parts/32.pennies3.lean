/-! PENNIES: both -/
def nfw (F : Nat → Option (List Nat)) : Nat → Nat → Option (Nat × List Nat)
  | 0, _ => none
  | j + 1, p => match F p with
    | some l => some (p, l)
    | none => nfw F j (p + 1)
def nwz (i : Int32) (k : Nat) : Option (Nat × List Nat) → Int32
  | none => -1
  | some (p, l) => if i = -1 then nI p else nI (l.getD k 0)
theorem m_best {T : nt_T} (hT : nt_ok T) {m0 : nw_M} (hm : nm_T T m0) (d : Nat) (Q : nw_K) (a1 a2 a3 a4 a5 : Int32) {l : List Nat} (hQ : ∀ m2, nm_sc m0 m2 → (∀ i, i < nt_n T → m2 11 i = nI (l.getD i 0)) → Q (some (.int a4)) m2) :
    ∀ j k m1, k + j = nt_n T → nm_sc m0 m1 → ntl (nt_n T) l m1 → (∀ i, i < k → m1 11 i = nI (l.getD i 0)) → nw_Ev d nw_shM 146 Q 79 [some (.ref 0), some (.int a1), some (.int a2), some (.int a3), some (.int a4), some (.int a5), some (.int (nI k))] [] m1 := by
  have h8 := hT.2.1
  intro j
  induction j with
  | zero =>
    intro k m1 hk hs ht hb
    have hk' : k = nt_n T := by omega
    subst hk'
    have hm1 := nm_T_sc hm hs
    rw [s146_79]
    simp only [e146, s146_0, s146_1, s146_5, s146_6, s146_9, s146_10, s146_14, s146_15, s146_18, s146_21, s146_22, s146_25, s146_27, s146_29, s146_30, s146_33, s146_34, s146_35, s146_38, s146_40, s146_43, s146_44, s146_45, s146_48, s146_51, s146_52, s146_56, s146_59, s146_60, s146_63, s146_66, s146_67, s146_68, s146_69, s146_70, s146_73, s146_76, s146_77, s146_81, s146_82, s146_85, s146_88, s146_89, s146_92, s146_94, s146_95, s146_98, s146_100, s146_101, s146_102, s146_105, s146_108, s146_110, s146_111, s146_112, s146_115, s146_117, s146_120, s146_123, s146_126, s146_127, hm1.1, ni_le_t (Nat.le_refl (nt_n T)) (show nt_n T < 2 ^ 31 by omega), false_implies, true_implies, not_true_eq_false, not_false_eq_true, true_and, and_true, true_or, or_true, false_or, or_false, false_and, and_false, implies_true, nw_psh_s, nw_psh_n, ni_10, ni_00]
    exact hQ m1 hs hb
  | succ j ih =>
    intro k m1 hk hs ht hb
    have hm1 := nm_T_sc hm hs
    have hi : vp_in (nI k) 8 := vp_in_nI (by omega) (by decide)
    rw [s146_79]
    simp only [e146, s146_0, s146_1, s146_5, s146_6, s146_9, s146_10, s146_14, s146_15, s146_18, s146_21, s146_22, s146_25, s146_27, s146_29, s146_30, s146_33, s146_34, s146_35, s146_38, s146_40, s146_43, s146_44, s146_45, s146_48, s146_51, s146_52, s146_56, s146_59, s146_60, s146_63, s146_66, s146_67, s146_68, s146_69, s146_70, s146_73, s146_76, s146_77, s146_81, s146_82, s146_85, s146_88, s146_89, s146_92, s146_94, s146_95, s146_98, s146_100, s146_101, s146_102, s146_105, s146_108, s146_110, s146_111, s146_112, s146_115, s146_117, s146_120, s146_123, s146_126, s146_127, hm1.1, ni_le_f (show k < nt_n T by omega) (show nt_n T < 2 ^ 31 by omega), hi, ni_cl (show k < 2 ^ 31 by omega), ht k (by omega), nI_1, false_implies, true_implies, not_true_eq_false, not_false_eq_true, true_and, and_true, true_or, or_true, false_or, or_false, false_and, and_false, implies_true, nw_psh_s, nw_psh_n, ni_10, ni_00]
    refine ih (k + 1) _ (by omega) (nm_sc_tr hs (nm_sc_up (by omega))) (fun i hi => ?_) (fun i hi => ?_)
    · rw [nw_up_at, if_neg (by omega)]; exact ht i hi
    · rw [nw_up_at]
      by_cases q : i = k
      · rw [if_pos ⟨rfl, q⟩, q]
      · rw [if_neg (by omega)]; exact hb i (by omega)
theorem nl_4 {l : List Nat} (h : ∀ x, x ∈ l → x ≤ 4) (i : Nat) : l.getD i 0 ≤ 4 := by
  rw [List.getD_eq_getElem?_getD]
  cases hg : l[i]? with
  | none => exact Nat.zero_le 4
  | some x => exact h x (List.mem_of_getElem? hg)
theorem m_few_step {T : nt_T} (hT : nt_ok T) {mm : nw_M} (hm : nm_T T mm) {σ : nt_S} (hok : nt_sok T σ) (hS : nm_S T 0 σ mm) (d : Nat) (Q : nw_K) {w c most : Nat} (hw : w < nt_m T) (hc : c < 8) (hmo : most < 2 ^ 30) (a4 : Int32) {l : List Nat} (hl : l.length = nt_n T) (h4 : ∀ x, x ∈ l → x ≤ 4) {m1 : nw_M} (hs : nm_sc mm m1) (ht : ntl (nt_n T) l m1)
    (h1 : npP T w c most σ 0 l = true → ∀ m2, nm_sc mm m2 → (∀ i, i < nt_n T → m2 11 i = nI (l.getD i 0)) → Q (some (.int a4)) m2)
    (h0 : npP T w c most σ 0 l = false → ∀ m2, nm_sc mm m2 → ntl (nt_n T) l m2 → nw_Ev (d + 6) nw_shM 146 Q 111 [some (.ref 0), some (.int (nI w)), some (.int (nI c)), some (.int (nI most)), some (.int a4), some (.int 1), none] [] m2) :
    nw_Ev (d + 6) nw_shM 146 Q 54 [some (.ref 0), some (.int (nI w)), some (.int (nI c)), some (.int (nI most)), some (.int a4), some (.int 1), none] [] m1 := by
  have h8 := hT.2.1
  have hm1 := nm_T_sc hm hs
  have hlc : ntlc 0 l m1 := fun i hi => by rw [Nat.zero_add]; exact ht i (by omega)
  have hare : ∀ Q' : nw_K, Q' (some (.int (if ngd T 0 l then 1 else 0))) m1 → nw_Ex (d + 6) nw_shM 144 [.ref 0] m1 Q' := by
    intro Q' hQ'
    simp only [e144, s144_0, s144_1, s144_2, s144_3, s144_5, s144_6, s144_9, s144_12, s144_13, s144_16, s144_17, s144_20, s144_21, s144_22, s144_25, s144_26, s144_27, s144_30, s144_33, s144_34, s144_37, s144_38, s144_39, s144_42, s144_45, s144_46, false_implies, true_implies, not_true_eq_false, not_false_eq_true, true_and, and_true, true_or, or_true, false_or, or_false, false_and, and_false, implies_true, nw_psh_s, nw_psh_n, ni_10, ni_00]
    have := m_are hT hm1 (d + 4) Q' l 0 true (by omega) hlc h4 (by rw [Bool.true_and]; exact hQ')
    exact this
  rw [s146_54]
  simp only [e146, s146_0, s146_1, s146_5, s146_6, s146_9, s146_10, s146_14, s146_15, s146_18, s146_21, s146_22, s146_25, s146_27, s146_29, s146_30, s146_33, s146_34, s146_35, s146_38, s146_40, s146_43, s146_44, s146_45, s146_48, s146_51, s146_52, s146_56, s146_59, s146_60, s146_63, s146_66, s146_67, s146_68, s146_69, s146_70, s146_73, s146_76, s146_77, s146_81, s146_82, s146_85, s146_88, s146_89, s146_92, s146_94, s146_95, s146_98, s146_100, s146_101, s146_102, s146_105, s146_108, s146_110, s146_112, s146_115, s146_117, s146_120, s146_123, s146_126, s146_127, show ((1 : Int32) = 0) = False from eq_false (by decide), false_implies, true_implies, not_true_eq_false, not_false_eq_true, true_and, and_true, true_or, or_true, false_or, or_false, false_and, and_false, implies_true, nw_psh_s, nw_psh_n, ni_10, ni_00]
  refine hare _ ?_
  by_cases hg : ngd T 0 l = true
  · have hP : npP T w c most σ 0 l = (nt_ft T (nt_isat w c) most (ntul T σ 0 l) 0).isSome := by unfold npP; rw [hg, Bool.true_and]
    simp only [e146, s146_0, s146_1, s146_5, s146_6, s146_9, s146_10, s146_14, s146_15, s146_18, s146_21, s146_22, s146_25, s146_27, s146_29, s146_30, s146_33, s146_34, s146_35, s146_38, s146_40, s146_43, s146_44, s146_45, s146_48, s146_51, s146_52, s146_56, s146_59, s146_60, s146_63, s146_66, s146_67, s146_68, s146_69, s146_70, s146_73, s146_76, s146_77, s146_81, s146_82, s146_85, s146_88, s146_89, s146_92, s146_94, s146_95, s146_98, s146_100, s146_101, s146_102, s146_105, s146_108, s146_110, s146_112, s146_115, s146_117, s146_120, s146_123, s146_126, s146_127, hg, if_true, false_implies, true_implies, not_true_eq_false, not_false_eq_true, true_and, and_true, true_or, or_true, false_or, or_false, false_and, and_false, implies_true, nw_psh_s, nw_psh_n, ni_10, ni_00]
    refine m_comes hT hm1 hok (nm_S_sc hT hS hs (by omega)) d _ hw hc hmo hl ht h4 hg (fun m2 hf => ?_)
    have ht2 : ntl (nt_n T) l m2 := fun i hi => by rw [hf 10 i (by omega)]; exact ht i hi
    have hs2 : nm_sc mm m2 := nm_sc_tr hs (nm_sc_fr hf)
    rw [← hP]
    cases hPP : npP T w c most σ 0 l with
    | true =>
      simp only [e146, s146_0, s146_1, s146_5, s146_6, s146_9, s146_10, s146_14, s146_15, s146_18, s146_21, s146_22, s146_25, s146_27, s146_29, s146_30, s146_33, s146_34, s146_35, s146_38, s146_40, s146_43, s146_44, s146_45, s146_48, s146_51, s146_52, s146_56, s146_59, s146_60, s146_63, s146_66, s146_67, s146_68, s146_69, s146_70, s146_73, s146_76, s146_77, s146_81, s146_82, s146_85, s146_88, s146_89, s146_92, s146_94, s146_95, s146_98, s146_100, s146_101, s146_102, s146_105, s146_108, s146_110, s146_112, s146_115, s146_117, s146_120, s146_123, s146_126, s146_127, if_true, false_implies, true_implies, not_true_eq_false, not_false_eq_true, true_and, and_true, true_or, or_true, false_or, or_false, false_and, and_false, implies_true, nw_psh_s, nw_psh_n, ni_10, ni_00]
      exact m_best hT hm (d + 6) Q _ _ _ _ _ (h1 hPP) (nt_n T) 0 m2 (by omega) hs2 ht2 (fun i hi => by omega)
    | false =>
      simp only [e146, s146_0, s146_1, s146_5, s146_6, s146_9, s146_10, s146_14, s146_15, s146_18, s146_21, s146_22, s146_25, s146_27, s146_29, s146_30, s146_33, s146_34, s146_35, s146_38, s146_40, s146_43, s146_44, s146_45, s146_48, s146_51, s146_52, s146_56, s146_59, s146_60, s146_63, s146_66, s146_67, s146_68, s146_69, s146_70, s146_73, s146_76, s146_77, s146_81, s146_82, s146_85, s146_88, s146_89, s146_92, s146_94, s146_95, s146_98, s146_100, s146_101, s146_102, s146_105, s146_108, s146_110, s146_112, s146_115, s146_117, s146_120, s146_123, s146_126, s146_127, if_false, Bool.false_eq_true, false_implies, true_implies, not_true_eq_false, not_false_eq_true, true_and, and_true, true_or, or_true, false_or, or_false, false_and, and_false, implies_true, nw_psh_s, nw_psh_n, ni_10, ni_00]
      exact h0 hPP m2 hs2 ht2
  · have hP : npP T w c most σ 0 l = false := by unfold npP; rw [(Bool.not_eq_true _).mp hg]; rfl
    simp only [e146, s146_0, s146_1, s146_5, s146_6, s146_9, s146_10, s146_14, s146_15, s146_18, s146_21, s146_22, s146_25, s146_27, s146_29, s146_30, s146_33, s146_34, s146_35, s146_38, s146_40, s146_43, s146_44, s146_45, s146_48, s146_51, s146_52, s146_56, s146_59, s146_60, s146_63, s146_66, s146_67, s146_68, s146_69, s146_70, s146_73, s146_76, s146_77, s146_81, s146_82, s146_85, s146_88, s146_89, s146_92, s146_94, s146_95, s146_98, s146_100, s146_101, s146_102, s146_105, s146_108, s146_110, s146_112, s146_115, s146_117, s146_120, s146_123, s146_126, s146_127, hg, if_false, Bool.false_eq_true, false_implies, true_implies, not_true_eq_false, not_false_eq_true, true_and, and_true, true_or, or_true, false_or, or_false, false_and, and_false, implies_true, nw_psh_s, nw_psh_n, ni_10, ni_00]
    exact h0 hP m1 hs ht
theorem m_few_in {T : nt_T} (hT : nt_ok T) {mm : nw_M} (hm : nm_T T mm) {σ : nt_S} (hok : nt_sok T σ) (hS : nm_S T 0 σ mm) (d : Nat) (Q : nw_K) {w c most : Nat} (hw : w < nt_m T) (hc : c < 8) (hmo : most < 2 ^ 30) (a4 : Int32) :
    ∀ (ls : List (List Nat)) (l : List Nat) m1, (∀ x, x ∈ l :: ls → x.length = nt_n T ∧ ∀ y, y ∈ x → y ≤ 4) → nm_sc mm m1 → ntl (nt_n T) l m1 → nchk (nt_n T) l ls = true → (∀ l', (l :: ls).find? (npP T w c most σ 0) = some l' → ∀ m2, nm_sc mm m2 → (∀ i, i < nt_n T → m2 11 i = nI (l'.getD i 0)) → Q (some (.int a4)) m2) → ((l :: ls).find? (npP T w c most σ 0) = none → ∀ m2, nm_sc mm m2 → nw_Ev (d + 6) nw_shM 146 Q 120 [some (.ref 0), some (.int (nI w)), some (.int (nI c)), some (.int (nI most)), some (.int a4), some (.int 0), none] [] m2) → nw_Ev (d + 6) nw_shM 146 Q 54 [some (.ref 0), some (.int (nI w)), some (.int (nI c)), some (.int (nI most)), some (.int a4), some (.int 1), none] [] m1 := by
  have h8 := hT.2.1
  intro ls
  induction ls with
  | nil =>
    intro l m1 hin hs ht hch hf hno
    obtain ⟨hl, h4⟩ := hin l List.mem_cons_self
    refine m_few_step hT hm hok hS d Q hw hc hmo a4 hl h4 hs ht (fun hP m2 hs2 hb => hf l (List.find?_cons_of_pos hP) m2 hs2 hb) (fun hP m2 hs2 ht2 => ?_)
    simp only [e146, s146_0, s146_1, s146_5, s146_6, s146_9, s146_10, s146_14, s146_15, s146_18, s146_21, s146_22, s146_25, s146_27, s146_29, s146_30, s146_33, s146_34, s146_35, s146_38, s146_40, s146_43, s146_44, s146_45, s146_48, s146_51, s146_52, s146_56, s146_59, s146_60, s146_63, s146_66, s146_67, s146_68, s146_69, s146_70, s146_73, s146_76, s146_77, s146_81, s146_82, s146_85, s146_88, s146_89, s146_92, s146_94, s146_95, s146_98, s146_100, s146_101, s146_102, s146_105, s146_108, s146_110, s146_111, s146_112, s146_115, s146_117, s146_120, s146_123, s146_126, s146_127, false_implies, true_implies, not_true_eq_false, not_false_eq_true, true_and, and_true, true_or, or_true, false_or, or_false, false_and, and_false, implies_true, nw_psh_s, nw_psh_n, ni_10, ni_00]
    refine m_next hT (nm_T_sc hm hs2) (d + 5) _ ht2 (fun i => by have := nl_4 h4 i; omega) (fun _ m3 hs3 => ?_) (fun l' hl' => ?_)
    · simp only [e146, s146_0, s146_1, s146_5, s146_6, s146_9, s146_10, s146_14, s146_15, s146_18, s146_21, s146_22, s146_25, s146_27, s146_29, s146_30, s146_33, s146_34, s146_35, s146_38, s146_40, s146_43, s146_44, s146_45, s146_48, s146_51, s146_52, s146_56, s146_59, s146_60, s146_63, s146_66, s146_67, s146_68, s146_69, s146_70, s146_73, s146_76, s146_77, s146_81, s146_82, s146_85, s146_88, s146_89, s146_92, s146_94, s146_95, s146_98, s146_100, s146_101, s146_102, s146_105, s146_108, s146_110, s146_111, s146_112, s146_115, s146_117, s146_120, s146_123, s146_126, s146_127, false_implies, true_implies, not_true_eq_false, not_false_eq_true, true_and, and_true, true_or, or_true, false_or, or_false, false_and, and_false, implies_true, nw_psh_s, nw_psh_n, ni_10, ni_00]
      rw [s146_54]
      simp only [e146, s146_0, s146_1, s146_5, s146_6, s146_9, s146_10, s146_14, s146_15, s146_18, s146_21, s146_22, s146_25, s146_27, s146_29, s146_30, s146_33, s146_34, s146_35, s146_38, s146_40, s146_43, s146_44, s146_45, s146_48, s146_51, s146_52, s146_56, s146_59, s146_60, s146_63, s146_66, s146_67, s146_68, s146_69, s146_70, s146_73, s146_76, s146_77, s146_81, s146_82, s146_85, s146_88, s146_89, s146_92, s146_94, s146_95, s146_98, s146_100, s146_101, s146_102, s146_105, s146_108, s146_110, s146_111, s146_112, s146_115, s146_117, s146_123, s146_126, s146_127, false_implies, true_implies, not_true_eq_false, not_false_eq_true, true_and, and_true, true_or, or_true, false_or, or_false, false_and, and_false, implies_true, nw_psh_s, nw_psh_n, ni_10, ni_00]
      exact hno (by rw [List.find?_cons_of_neg (by rw [hP]; exact Bool.false_ne_true)]; rfl) m3 (nm_sc_tr hs2 hs3)
    · have : (nnl (nt_n T) l).isNone = true := hch
      rw [hl'] at this
      cases this
  | cons l2 ls ih =>
    intro l m1 hin hs ht hch hf hno
    obtain ⟨hl, h4⟩ := hin l List.mem_cons_self
    have hch' : (decide (nnl (nt_n T) l = some l2) && nchk (nt_n T) l2 ls) = true := hch
    obtain ⟨q1, q2⟩ := Bool.and_eq_true_iff.mp hch'
    have q1' := of_decide_eq_true q1
    refine m_few_step hT hm hok hS d Q hw hc hmo a4 hl h4 hs ht (fun hP m2 hs2 hb => hf l (List.find?_cons_of_pos hP) m2 hs2 hb) (fun hP m2 hs2 ht2 => ?_)
    have hne : ¬ npP T w c most σ 0 l = true := by rw [hP]; exact Bool.false_ne_true
    rw [List.find?_cons_of_neg hne] at hf hno
    simp only [e146, s146_0, s146_1, s146_5, s146_6, s146_9, s146_10, s146_14, s146_15, s146_18, s146_21, s146_22, s146_25, s146_27, s146_29, s146_30, s146_33, s146_34, s146_35, s146_38, s146_40, s146_43, s146_44, s146_45, s146_48, s146_51, s146_52, s146_56, s146_59, s146_60, s146_63, s146_66, s146_67, s146_68, s146_69, s146_70, s146_73, s146_76, s146_77, s146_81, s146_82, s146_85, s146_88, s146_89, s146_92, s146_94, s146_95, s146_98, s146_100, s146_101, s146_102, s146_105, s146_108, s146_110, s146_111, s146_112, s146_115, s146_117, s146_120, s146_123, s146_126, s146_127, false_implies, true_implies, not_true_eq_false, not_false_eq_true, true_and, and_true, true_or, or_true, false_or, or_false, false_and, and_false, implies_true, nw_psh_s, nw_psh_n, ni_10, ni_00]
    refine m_next hT (nm_T_sc hm hs2) (d + 5) _ ht2 (fun i => by have := nl_4 h4 i; omega) (fun hz => ?_) (fun l' hl' m3 hs3 ht3 => ?_)
    · rw [hz] at q1'
      cases q1'
    · rw [hl'] at q1'
      cases q1'
      simp only [e146, s146_0, s146_1, s146_5, s146_6, s146_9, s146_10, s146_14, s146_15, s146_18, s146_21, s146_22, s146_25, s146_27, s146_29, s146_30, s146_33, s146_34, s146_35, s146_38, s146_40, s146_43, s146_44, s146_45, s146_48, s146_51, s146_52, s146_56, s146_59, s146_60, s146_63, s146_66, s146_67, s146_68, s146_69, s146_70, s146_73, s146_76, s146_77, s146_81, s146_82, s146_85, s146_88, s146_89, s146_92, s146_94, s146_95, s146_98, s146_100, s146_101, s146_102, s146_105, s146_108, s146_110, s146_111, s146_112, s146_115, s146_117, s146_120, s146_123, s146_126, s146_127, false_implies, true_implies, not_true_eq_false, not_false_eq_true, true_and, and_true, true_or, or_true, false_or, or_false, false_and, and_false, implies_true, nw_psh_s, nw_psh_n, ni_10, ni_00]
      exact ih l2 m3 (fun x hx => hin x (List.mem_cons_of_mem _ hx)) (nm_sc_tr hs2 hs3) ht3 q2 hf hno
def nst (n p : Nat) : List Nat := List.replicate (n - 1) 0 ++ [p]
theorem nst_at {n p i : Nat} (h : i < n) : (nst n p).getD i 0 = if i = n - 1 then p else 0 := by
  unfold nst
  rw [List.getD_eq_getElem?_getD]
  by_cases q : i = n - 1
  · rw [if_pos q, List.getElem?_append_right (by rw [List.length_replicate]; omega), List.length_replicate, show i - (n - 1) = 0 by omega]
    rfl
  · rw [if_neg q, List.getElem?_append_left (by rw [List.length_replicate]; omega), List.getElem?_replicate, if_pos (by omega)]
    rfl
theorem m_few_init {T : nt_T} (hT : nt_ok T) {mm : nw_M} (hm : nm_T T mm) (d : Nat) (Q : nw_K) (a1 a2 a3 : Int32) {p : Nat} (hQ : ∀ m2, nm_sc mm m2 → ntl (nt_n T) (nst (nt_n T) p) m2 → nw_Ev d nw_shM 146 Q 54 [some (.ref 0), some (.int a1), some (.int a2), some (.int a3), some (.int (nI p)), some (.int 1), none] [] m2) :
    ∀ j k m1, k + j = nt_n T → nm_sc mm m1 → (∀ i, i < k → m1 10 i = nI (if i = nt_n T - 1 then p else 0)) → nw_Ev d nw_shM 146 Q 12 [some (.ref 0), some (.int a1), some (.int a2), some (.int a3), some (.int (nI p)), some (.int (nI k)), none] [] m1 := by
  have h8 := hT.2.1
  have h2 := hT.1
  intro j
  induction j with
  | zero =>
    intro k m1 hk hs ht
    have hk' : k = nt_n T := by omega
    subst hk'
    have hm1 := nm_T_sc hm hs
    rw [s146_12]
    simp only [e146, s146_0, s146_1, s146_5, s146_6, s146_9, s146_10, s146_14, s146_15, s146_18, s146_21, s146_22, s146_25, s146_27, s146_29, s146_30, s146_33, s146_34, s146_35, s146_38, s146_40, s146_43, s146_44, s146_45, s146_48, s146_51, s146_52, s146_56, s146_59, s146_60, s146_63, s146_66, s146_67, s146_68, s146_69, s146_70, s146_73, s146_76, s146_77, s146_81, s146_82, s146_85, s146_88, s146_89, s146_92, s146_94, s146_95, s146_98, s146_100, s146_101, s146_102, s146_105, s146_108, s146_110, s146_111, s146_112, s146_115, s146_117, s146_120, s146_123, s146_126, s146_127, hm1.1, ni_le_t (Nat.le_refl (nt_n T)) (show nt_n T < 2 ^ 31 by omega), false_implies, true_implies, not_true_eq_false, not_false_eq_true, true_and, and_true, true_or, or_true, false_or, or_false, false_and, and_false, implies_true, nw_psh_s, nw_psh_n, ni_10, ni_00]
    exact hQ m1 hs (fun i hi => by rw [nst_at hi]; exact ht i hi)
  | succ j ih =>
    intro k m1 hk hs ht
    have hm1 := nm_T_sc hm hs
    have hi : vp_in (nI k) 8 := vp_in_nI (by omega) (by decide)
    have hgo : nw_Ev d nw_shM 146 Q 12 [some (.ref 0), some (.int a1), some (.int a2), some (.int a3), some (.int (nI p)), some (.int (nI (k + 1))), none] [] (nw_up m1 10 k (nI (if k = nt_n T - 1 then p else 0))) := by
      refine ih (k + 1) _ (by omega) (nm_sc_tr hs (nm_sc_up (by omega))) (fun i hi => ?_)
      rw [nw_up_at]
      by_cases q : i = k
      · rw [if_pos ⟨rfl, q⟩, q]
      · rw [if_neg (by omega)]; exact ht i (by omega)
    rw [s146_12]
    by_cases q : k = nt_n T - 1
    · rw [if_pos q] at hgo
      simp only [e146, s146_0, s146_1, s146_5, s146_6, s146_9, s146_10, s146_14, s146_15, s146_18, s146_21, s146_22, s146_25, s146_27, s146_29, s146_30, s146_33, s146_34, s146_35, s146_38, s146_40, s146_43, s146_44, s146_45, s146_48, s146_51, s146_52, s146_56, s146_59, s146_60, s146_63, s146_66, s146_67, s146_68, s146_69, s146_70, s146_73, s146_76, s146_77, s146_81, s146_82, s146_85, s146_88, s146_89, s146_92, s146_94, s146_95, s146_98, s146_100, s146_101, s146_102, s146_105, s146_108, s146_110, s146_111, s146_112, s146_115, s146_117, s146_120, s146_123, s146_126, s146_127, hm1.1, ni_le_f (show k < nt_n T by omega) (show nt_n T < 2 ^ 31 by omega), hi, ni_cl (show k < 2 ^ 31 by omega), ni_m1 (show 0 < nt_n T by omega), ni_eq_t q, nI_1, false_implies, true_implies, not_true_eq_false, not_false_eq_true, true_and, and_true, true_or, or_true, false_or, or_false, false_and, and_false, implies_true, nw_psh_s, nw_psh_n, ni_10, ni_00]
      exact hgo
    · rw [if_neg q] at hgo
      simp only [e146, s146_0, s146_1, s146_5, s146_6, s146_9, s146_10, s146_14, s146_15, s146_18, s146_21, s146_22, s146_25, s146_27, s146_29, s146_30, s146_33, s146_34, s146_35, s146_38, s146_40, s146_43, s146_44, s146_45, s146_48, s146_51, s146_52, s146_56, s146_59, s146_60, s146_63, s146_66, s146_67, s146_68, s146_69, s146_70, s146_73, s146_76, s146_77, s146_81, s146_82, s146_85, s146_88, s146_89, s146_92, s146_94, s146_95, s146_98, s146_100, s146_101, s146_102, s146_105, s146_108, s146_110, s146_111, s146_112, s146_115, s146_117, s146_120, s146_123, s146_126, s146_127, hm1.1, ni_le_f (show k < nt_n T by omega) (show nt_n T < 2 ^ 31 by omega), hi, ni_cl (show k < 2 ^ 31 by omega), ni_m1 (show 0 < nt_n T by omega), ni_eq_f q (show k < 2 ^ 31 by omega) (show nt_n T - 1 < 2 ^ 31 by omega), nI_1, false_implies, true_implies, not_true_eq_false, not_false_eq_true, true_and, and_true, true_or, or_true, false_or, or_false, false_and, and_false, implies_true, nw_psh_s, nw_psh_n, ni_10, ni_00]
      exact hgo
theorem m_few {T : nt_T} (hT : nt_ok T) {mm : nw_M} (hm : nm_T T mm) {σ : nt_S} (hok : nt_sok T σ) (hS : nm_S T 0 σ mm) (d : Nat) (Q : nw_K) {w c most : Nat} (hw : w < nt_m T) (hc : c < 8) (hmo : most < 2 ^ 30) :
    ∀ j p m1 (l5 : Option Value), p + j = 5 → nm_sc mm m1 → (l5 = none ∨ ∃ z, l5 = some (.int z)) → (nfw (fun p => (ncomps (nt_n T) p).find? (npP T w c most σ 0)) j p = none → ∀ m2, nm_sc mm m2 → Q (some (.int (-1))) m2) → (∀ p' l, nfw (fun p => (ncomps (nt_n T) p).find? (npP T w c most σ 0)) j p = some (p', l) → ∀ m2, nm_sc mm m2 → (∀ i, i < nt_n T → m2 11 i = nI (l.getD i 0)) → Q (some (.int (nI p'))) m2) → nw_Ev (d + 6) nw_shM 146 Q 3 [some (.ref 0), some (.int (nI w)), some (.int (nI c)), some (.int (nI most)), some (.int (nI p)), l5, none] [] m1 := by
  have h8 := hT.2.1
  intro j
  induction j with
  | zero =>
    intro p m1 l5 hp hs hl5 h0 h1
    have hp' : p = 5 := by omega
    subst hp'
    rw [s146_3]
    simp only [e146, s146_0, s146_1, s146_5, s146_6, s146_9, s146_10, s146_14, s146_15, s146_18, s146_21, s146_22, s146_25, s146_27, s146_29, s146_30, s146_33, s146_34, s146_35, s146_38, s146_40, s146_43, s146_44, s146_45, s146_48, s146_51, s146_52, s146_56, s146_59, s146_60, s146_63, s146_66, s146_67, s146_68, s146_69, s146_70, s146_73, s146_76, s146_77, s146_81, s146_82, s146_85, s146_88, s146_89, s146_92, s146_94, s146_95, s146_98, s146_100, s146_101, s146_102, s146_105, s146_108, s146_110, s146_111, s146_112, s146_115, s146_117, s146_120, s146_123, s146_126, s146_127, show ((5 : Int32) ≤ nI 5) = True from eq_true (by decide), false_implies, true_implies, not_true_eq_false, not_false_eq_true, true_and, and_true, true_or, or_true, false_or, or_false, false_and, and_false, implies_true, nw_psh_s, nw_psh_n, ni_10, ni_00]
    exact h0 rfl m1 hs
  | succ j ih =>
    intro p m1 l5 hp hs hl5 h0 h1
    have hle : ((5 : Int32) ≤ nI p) = False := ni_le_f (a := 5) (by omega) (by decide)
    have hall := nok_all (nt_n T) (by omega) p (by omega) hT.1
    have hin : nw_Ev (d + 6) nw_shM 146 Q 12 [some (.ref 0), some (.int (nI w)), some (.int (nI c)), some (.int (nI most)), some (.int (nI p)), some (.int (nI 0)), none] [] m1 := by
      refine m_few_init hT hm (d + 6) Q _ _ _ (fun m2 hs2 ht2 => ?_) (nt_n T) 0 m1 (by omega) hs (fun i hi => by omega)
      unfold nok at hall
      cases hcm : ncomps (nt_n T) p with
      | nil => rw [hcm] at hall; cases hall
      | cons l ls =>
        rw [hcm] at hall
        obtain ⟨q1, q2⟩ := Bool.and_eq_true_iff.mp hall
        have q1' : l = nst (nt_n T) p := of_decide_eq_true q1
        rw [← q1'] at ht2
        have hF : ∀ r, (l :: ls).find? (npP T w c most σ 0) = r → (ncomps (nt_n T) p).find? (npP T w c most σ 0) = r := fun r hr => by
          rw [hcm]; exact hr
        refine m_few_in hT hm hok hS d Q hw hc hmo _ ls l m2 (fun x hx => ?_) hs2 ht2 q2 (fun l' hl' m3 hs3 hb3 => ?_) (fun hno m3 hs3 => ?_)
        · have := ncomps_ok (nt_n T) p x (by rw [hcm]; exact hx)
          exact ⟨this.1, fun y hy => by have := this.2 y hy; omega⟩
        · refine h1 p l' ?_ m3 hs3 hb3
          unfold nfw
          rw [hF _ hl']
        · have hn : nfw (fun p => (ncomps (nt_n T) p).find? (npP T w c most σ 0)) (j + 1) p = nfw (fun p => (ncomps (nt_n T) p).find? (npP T w c most σ 0)) j (p + 1) := by
            conv => lhs; unfold nfw
            rw [hF _ hno]
          rw [hn] at h0 h1
          simp only [e146, s146_0, s146_1, s146_5, s146_6, s146_9, s146_10, s146_14, s146_15, s146_18, s146_21, s146_22, s146_25, s146_27, s146_29, s146_30, s146_33, s146_34, s146_35, s146_38, s146_40, s146_43, s146_44, s146_45, s146_48, s146_51, s146_52, s146_56, s146_59, s146_60, s146_63, s146_66, s146_67, s146_68, s146_69, s146_70, s146_73, s146_76, s146_77, s146_81, s146_82, s146_85, s146_88, s146_89, s146_92, s146_94, s146_95, s146_98, s146_100, s146_101, s146_102, s146_105, s146_108, s146_110, s146_111, s146_112, s146_115, s146_117, s146_120, s146_123, s146_126, s146_127, nI_1, false_implies, true_implies, not_true_eq_false, not_false_eq_true, true_and, and_true, true_or, or_true, false_or, or_false, false_and, and_false, implies_true, nw_psh_s, nw_psh_n, ni_10, ni_00]
          exact ih (p + 1) m3 _ (by omega) hs3 (Or.inr ⟨_, rfl⟩) h0 h1
    rw [s146_3]
    rcases hl5 with rfl | ⟨z, rfl⟩ <;>
    · simp only [e146, s146_0, s146_1, s146_5, s146_6, s146_9, s146_10, s146_14, s146_15, s146_18, s146_21, s146_22, s146_25, s146_27, s146_29, s146_30, s146_33, s146_34, s146_35, s146_38, s146_40, s146_43, s146_44, s146_45, s146_48, s146_51, s146_52, s146_56, s146_59, s146_60, s146_63, s146_66, s146_67, s146_68, s146_69, s146_70, s146_73, s146_76, s146_77, s146_81, s146_82, s146_85, s146_88, s146_89, s146_92, s146_94, s146_95, s146_98, s146_100, s146_101, s146_102, s146_105, s146_108, s146_110, s146_111, s146_112, s146_115, s146_117, s146_120, s146_123, s146_126, s146_127, hle, false_implies, true_implies, not_true_eq_false, not_false_eq_true, true_and, and_true, true_or, or_true, false_or, or_false, false_and, and_false, implies_true, nw_psh_s, nw_psh_n, ni_10, ni_00]
      exact hin
theorem x_pen_loop {T : nt_T} (hT : nt_ok T) {mem : nw_M} (hm : nx_T 4 T mem) {σ : nt_S} (hs : nx_S (mem 0 5) σ) (Q : nw_K) {w c most : Nat} (hw5 : w < 5) (hc8 : c < 8) (hmo : most < 2 ^ 30) {i : Int32} {i0 : Nat} (hi : i = -1 ∨ i = nI i0 ∧ i0 < 8) :
    ∀ j p (l6 : Option Value), p + j = 5 → (l6 = none ∨ ∃ z, l6 = some (.int z)) → Q (some (.int (nwz i i0 (nfw (fun p => (ncomps (nt_n T) p).find? (npP T w c most σ 0)) j p)))) mem → nw_Ev 39 nw_shX 90 Q 59 [some (.ref 0), some (.int (nI w)), some (.int (nI c)), some (.int (nI most)), some (.int i), some (.int (nI p)), l6] [] mem := by
  have h8 := hT.2.1
  intro j
  induction j with
  | zero =>
    intro p l6 hp hl6 hQ
    have hp' : p = 5 := by omega
    subst hp'
    rw [s90_59]
    simp only [e90, s90_0, s90_1, s90_4, s90_5, s90_8, s90_11, s90_12, s90_15, s90_16, s90_19, s90_22, s90_24, s90_25, s90_28, s90_31, s90_34, s90_36, s90_37, s90_38, s90_41, s90_42, s90_44, s90_47, s90_49, s90_50, s90_53, s90_55, s90_56, s90_57, s90_61, s90_62, s90_65, s90_66, s90_69, s90_70, s90_73, s90_74, s90_75, s90_76, s90_78, s90_79, s90_82, s90_84, s90_86, s90_87, s90_90, s90_92, s90_93, s90_96, s90_98, s90_101, s90_103, s90_105, s90_108, s90_109, s90_112, s90_115, s90_116, show ((4 : Int32) < nI 5) = True from eq_true (by decide), show (nI 5 ≤ 4) = False from eq_false (by decide), false_implies, true_implies, not_true_eq_false, not_false_eq_true, true_and, and_true, true_or, or_true, false_or, or_false, false_and, and_false, implies_true, nw_psh_s, nw_psh_n, ni_10, ni_00]
    exact hQ
  | succ j ih =>
    intro p l6 hp hl6 hQ
    have hgt : ((4 : Int32) < nI p) = False := ni_lt_f (a := 4) (by omega) (by decide)
    have hcall := x_cheap hT hm hw5 hc8 hmo (nt_n T) (31 - nt_n T) (fun v m => nw_Ev 39 nw_shX 90 Q 82 [some (.ref 0), some (.int (nI w)), some (.int (nI c)), some (.int (nI most)), some (.int i), some (.int (nI p)), l6] (nw_psh v []) m) σ (mem 0 5) p 0 (by omega) (by omega) hs (by
      unfold nfw at hQ
      cases hfd : (ncomps (nt_n T) p).find? (npP T w c most σ 0) with
      | none =>
        rw [hfd] at hQ
        have hh := fun l6 h6 => ih (p + 1) l6 (by omega) h6 hQ
        rcases hl6 with rfl | ⟨z, rfl⟩ <;>
        · simp only [e90, s90_0, s90_1, s90_4, s90_5, s90_8, s90_11, s90_12, s90_15, s90_16, s90_19, s90_22, s90_24, s90_25, s90_28, s90_31, s90_34, s90_36, s90_37, s90_38, s90_41, s90_42, s90_44, s90_47, s90_49, s90_50, s90_53, s90_55, s90_56, s90_57, s90_61, s90_62, s90_65, s90_66, s90_69, s90_70, s90_73, s90_74, s90_75, s90_76, s90_78, s90_79, s90_82, s90_84, s90_86, s90_87, s90_90, s90_92, s90_93, s90_96, s90_98, s90_101, s90_103, s90_105, s90_108, s90_109, s90_112, s90_115, s90_116, nez, nI_1, false_implies, true_implies, not_true_eq_false, not_false_eq_true, true_and, and_true, true_or, or_true, false_or, or_false, false_and, and_false, implies_true, nw_psh_s, nw_psh_n, ni_10, ni_00]
          exact hh _ (Or.inr ⟨_, rfl⟩)
      | some l =>
        rw [hfd] at hQ
        obtain ⟨hlen, hall⟩ := ncomps_ok _ _ _ (List.mem_of_find?_eq_some hfd)
        have h4 : ∀ x, x ∈ l → x ≤ 4 := fun x hx => by have := hall x hx; omega
        have hE := nE_lt l h4
        have hbd : nE l < 2 ^ 31 := by
          rw [hlen] at hE
          have a2 : 2 ^ (3 * nt_n T) ≤ 2 ^ 31 := Nat.pow_le_pow_right (by decide) (by omega)
          omega
        have e1 : 2 ^ (3 * 0) * nE l = nE l := by rw [Nat.mul_zero, Nat.pow_zero, Nat.one_mul]
        rcases hi with hi1 | ⟨hi1, hi8⟩
        · have hQ' : Q (some (.int (if i = -1 then nI p else nI (l.getD i0 0)))) mem := hQ
          rw [if_pos hi1] at hQ'
          rcases hl6 with rfl | ⟨z, rfl⟩ <;>
          · simp only [e90, s90_0, s90_1, s90_4, s90_5, s90_8, s90_11, s90_12, s90_15, s90_16, s90_19, s90_22, s90_24, s90_25, s90_28, s90_31, s90_34, s90_36, s90_37, s90_38, s90_41, s90_42, s90_44, s90_47, s90_49, s90_50, s90_53, s90_55, s90_56, s90_57, s90_61, s90_62, s90_65, s90_66, s90_69, s90_70, s90_73, s90_74, s90_75, s90_76, s90_78, s90_79, s90_82, s90_84, s90_86, s90_87, s90_90, s90_92, s90_93, s90_96, s90_98, s90_101, s90_103, s90_105, s90_108, s90_109, s90_112, s90_115, s90_116, nez, e1, ni_ne_m1 hbd, eq_true hi1, false_implies, true_implies, not_true_eq_false, not_false_eq_true, true_and, and_true, true_or, or_true, false_or, or_false, false_and, and_false, implies_true, nw_psh_s, nw_psh_n, ni_10, ni_00]
            exact hQ'
        · have hQ' : Q (some (.int (if i = -1 then nI p else nI (l.getD i0 0)))) mem := hQ
          subst hi1
          have hne := ni_ne_m1 (show i0 < 2 ^ 31 by omega)
          rw [if_neg (of_eq_false hne)] at hQ'
          have hsh : nI (nE l) >>> ((3 : Int32) * nI i0 &&& 31) &&& 7 = nI (l.getD i0 0) := by
            rw [show (3 : Int32) * nI i0 = nI (3 * i0) from pk_mul 3 i0, pk_shrN hbd (nI (3 * i0) &&& 31) (3 * i0) (s_l (3 * i0) (by omega)), pk_andN (m := 7) (by
              have := Nat.div_le_self (nE l) (2 ^ (3 * i0))
              omega) 3 (by decide), nE_dg l i0 h4]
          rcases hl6 with rfl | ⟨z, rfl⟩ <;>
          · simp only [e90, s90_0, s90_1, s90_4, s90_5, s90_8, s90_11, s90_12, s90_15, s90_16, s90_19, s90_22, s90_24, s90_25, s90_28, s90_31, s90_34, s90_36, s90_37, s90_38, s90_41, s90_42, s90_44, s90_47, s90_49, s90_50, s90_53, s90_55, s90_56, s90_57, s90_61, s90_62, s90_65, s90_66, s90_69, s90_70, s90_73, s90_74, s90_75, s90_76, s90_78, s90_79, s90_82, s90_84, s90_86, s90_87, s90_90, s90_92, s90_93, s90_96, s90_98, s90_101, s90_103, s90_105, s90_108, s90_109, s90_112, s90_115, s90_116, nez, e1, ni_ne_m1 hbd, hne, e41, s41_0, s41_1, s41_2, s41_3, s41_4, s41_5, s41_7, s41_8, hsh, false_implies, true_implies, not_true_eq_false, not_false_eq_true, true_and, and_true, true_or, or_true, false_or, or_false, false_and, and_false, implies_true, nw_psh_s, nw_psh_n, ni_10, ni_00]
            exact hQ')
    rw [show 31 - nt_n T + nt_n T + 8 = 39 by omega] at hcall
    rw [s90_59]
    simp only [s90_0, s90_1, s90_4, s90_5, s90_8, s90_11, s90_12, s90_15, s90_16, s90_19, s90_22, s90_24, s90_25, s90_28, s90_31, s90_34, s90_36, s90_37, s90_38, s90_41, s90_42, s90_44, s90_47, s90_49, s90_50, s90_53, s90_55, s90_56, s90_57, s90_61, s90_62, s90_65, s90_66, s90_69, s90_70, s90_73, s90_74, s90_75, s90_76, s90_78, s90_79, s90_84, s90_86, s90_87, s90_90, s90_92, s90_93, s90_96, s90_98, s90_101, s90_103, s90_105, s90_108, s90_109, s90_112, s90_115, s90_116, hgt, false_implies, true_implies, not_true_eq_false, not_false_eq_true, true_and, and_true, true_or, or_true, false_or, or_false, false_and, and_false, implies_true, nw_psh_s, nw_psh_n, ni_10, ni_00]
    exact hcall
theorem p_pennies (A : nA) (x y z i : Int32) : nP2 A 90 147 [.int x, .int y, .int z, .int i] := by
  intro mx mm hX hM
  obtain ⟨T, τ, σ, g, kp, L, tx⟩ := A
  have hX0 := hX
  have hM0 := hM
  obtain ⟨h1, h2, h3, ⟨h5, h6⟩, -⟩ := hX
  obtain ⟨-, k2, -, ⟨-, k4⟩, -⟩ := hM
  have h8 := h1.2.1
  have hm5 := h1.2.2.1
  have hin := fun Q' => m_in 38 Q' z 0 99 mm
  rcases ix3 x (n := nt_m T) (by omega) with hx | ⟨w, hw, rfl⟩
  · refine nP_same (r := -2) hX0 hM0 (fun Q hQ => ?_) (fun Q hQ => ?_)
    · simp only [e90, s90_0, s90_1, s90_4, s90_5, s90_8, s90_11, s90_12, s90_15, s90_16, s90_19, s90_22, s90_24, s90_25, s90_28, s90_31, s90_34, s90_36, s90_37, s90_38, s90_41, s90_42, s90_44, s90_47, s90_49, s90_50, s90_53, s90_55, s90_56, s90_57, s90_61, s90_62, s90_65, s90_66, s90_69, s90_70, s90_73, s90_74, s90_75, s90_76, s90_78, s90_79, s90_82, s90_84, s90_86, s90_87, s90_90, s90_92, s90_93, s90_96, s90_98, s90_101, s90_103, s90_105, s90_108, s90_109, s90_112, s90_115, s90_116, x_hasWalker_n h2 38 _ hx, false_implies, true_implies, not_true_eq_false, not_false_eq_true, true_and, and_true, true_or, or_true, false_or, or_false, false_and, and_false, implies_true, nw_psh_s, nw_psh_n, ni_10, ni_00]
      exact hQ
    · simp only [e147, s147_0, s147_1, s147_2, s147_5, s147_8, s147_9, s147_10, s147_13, s147_16, s147_18, s147_21, s147_22, s147_24, s147_27, s147_30, s147_32, s147_33, s147_34, s147_35, s147_36, s147_39, s147_42, s147_45, s147_47, s147_48, s147_51, s147_53, s147_54, s147_55, s147_56, s147_57, s147_58, s147_61, s147_63, s147_65, s147_66, s147_69, s147_71, s147_72, s147_75, s147_77, s147_80, s147_81, s147_84, s147_86, s147_87, m_isWalker_n h1 k2 37 _ hx, false_implies, true_implies, not_true_eq_false, not_false_eq_true, true_and, and_true, true_or, or_true, false_or, or_false, false_and, and_false, implies_true, nw_psh_s, nw_psh_n, ni_10, ni_00]
      exact hQ mm (nm_sc_rf mm)
  rcases ix3 y (n := nt_n T) (by omega) with hy | ⟨c, hc, rfl⟩
  · refine nP_same (r := -2) hX0 hM0 (fun Q hQ => ?_) (fun Q hQ => ?_)
    · simp only [e90, s90_0, s90_1, s90_4, s90_5, s90_8, s90_11, s90_12, s90_15, s90_16, s90_19, s90_22, s90_24, s90_25, s90_28, s90_31, s90_34, s90_36, s90_37, s90_38, s90_41, s90_42, s90_44, s90_47, s90_49, s90_50, s90_53, s90_55, s90_56, s90_57, s90_61, s90_62, s90_65, s90_66, s90_69, s90_70, s90_73, s90_74, s90_75, s90_76, s90_78, s90_79, s90_82, s90_84, s90_86, s90_87, s90_90, s90_92, s90_93, s90_96, s90_98, s90_101, s90_103, s90_105, s90_108, s90_109, s90_112, s90_115, s90_116, x_hasWalker_y h1 h2 38 _ hw, x_hasCorner_n (Or.inl rfl) h2 38 _ hy, false_implies, true_implies, not_true_eq_false, not_false_eq_true, true_and, and_true, true_or, or_true, false_or, or_false, false_and, and_false, implies_true, nw_psh_s, nw_psh_n, ni_10, ni_00]
      exact hQ
    · simp only [e147, s147_0, s147_1, s147_2, s147_5, s147_8, s147_9, s147_10, s147_13, s147_16, s147_18, s147_21, s147_22, s147_24, s147_27, s147_30, s147_32, s147_33, s147_34, s147_35, s147_36, s147_39, s147_42, s147_45, s147_47, s147_48, s147_51, s147_53, s147_54, s147_55, s147_56, s147_57, s147_58, s147_61, s147_63, s147_65, s147_66, s147_69, s147_71, s147_72, s147_75, s147_77, s147_80, s147_81, s147_84, s147_86, s147_87, m_isWalker_y h1 k2 37 _ hw, m_isCorner_n h1 k2 37 _ hy, false_implies, true_implies, not_true_eq_false, not_false_eq_true, true_and, and_true, true_or, or_true, false_or, or_false, false_and, and_false, implies_true, nw_psh_s, nw_psh_n, ni_10, ni_00]
      exact hQ mm (nm_sc_rf mm)
  have hcn := h2.1
  by_cases hin1 : nI (nt_n T) ≤ i
  · have hi0 : (i < 0) = False := eq_false (fun q => by
      rw [fa_lt] at q
      rw [fa_le, nI_toInt (by omega)] at hin1
      have : (0 : Int32).toInt = 0 := rfl
      omega)
    have hilt : (i < nI (nt_n T)) = False := eq_false (fun q => by
      rw [fa_lt] at q
      rw [fa_le] at hin1
      omega)
    refine nP_same (r := -2) hX0 hM0 (fun Q hQ => ?_) (fun Q hQ => ?_)
    · simp only [e90, s90_0, s90_1, s90_4, s90_5, s90_8, s90_11, s90_12, s90_15, s90_16, s90_19, s90_22, s90_24, s90_25, s90_28, s90_31, s90_34, s90_36, s90_37, s90_38, s90_41, s90_42, s90_44, s90_47, s90_49, s90_50, s90_53, s90_55, s90_56, s90_57, s90_61, s90_62, s90_65, s90_66, s90_69, s90_70, s90_73, s90_74, s90_75, s90_76, s90_78, s90_79, s90_82, s90_84, s90_86, s90_87, s90_90, s90_92, s90_93, s90_96, s90_98, s90_101, s90_103, s90_105, s90_108, s90_109, s90_112, s90_115, s90_116, x_hasWalker_y h1 h2 38 _ hw, x_hasCorner_y (Or.inl rfl) h1 h2 38 _ hc, hcn, hilt, false_implies, true_implies, not_true_eq_false, not_false_eq_true, true_and, and_true, true_or, or_true, false_or, or_false, false_and, and_false, implies_true, nw_psh_s, nw_psh_n, ni_10, ni_00]
      exact hQ
    · simp only [e147, s147_0, s147_1, s147_2, s147_5, s147_8, s147_9, s147_10, s147_13, s147_16, s147_18, s147_21, s147_22, s147_24, s147_27, s147_30, s147_32, s147_33, s147_34, s147_35, s147_36, s147_39, s147_42, s147_45, s147_47, s147_48, s147_51, s147_53, s147_54, s147_55, s147_56, s147_57, s147_58, s147_61, s147_63, s147_65, s147_66, s147_69, s147_71, s147_72, s147_75, s147_77, s147_80, s147_81, s147_84, s147_86, s147_87, m_isWalker_y h1 k2 37 _ hw, m_isCorner_y h1 k2 37 _ hc, hi0, m_isCorner_n h1 k2 37 _ (Or.inr hin1), false_implies, true_implies, not_true_eq_false, not_false_eq_true, true_and, and_true, true_or, or_true, false_or, or_false, false_and, and_false, implies_true, nw_psh_s, nw_psh_n, ni_10, ni_00]
      exact hQ mm (nm_sc_rf mm)
  have hilt : (i < nI (nt_n T)) = True := eq_true (by
    rw [fa_lt]
    rw [fa_le] at hin1
    omega)
  have hMi : ∀ Q : nw_K, nw_Ev 39 nw_shM 147 Q 33 [some (.ref 0), some (.int (nI w)), some (.int (nI c)), some (.int z), some (.int i), none] [] mm → nw_Ex 40 nw_shM 147 [.ref 0, .int (nI w), .int (nI c), .int z, .int i] mm Q := by
    intro Q hQ
    by_cases hi0 : i < 0
    · simp only [e147, s147_0, s147_1, s147_2, s147_5, s147_8, s147_9, s147_10, s147_13, s147_16, s147_18, s147_21, s147_22, s147_24, s147_27, s147_30, s147_32, s147_34, s147_35, s147_36, s147_39, s147_42, s147_45, s147_47, s147_48, s147_51, s147_53, s147_54, s147_55, s147_56, s147_57, s147_58, s147_61, s147_63, s147_65, s147_66, s147_69, s147_71, s147_72, s147_75, s147_77, s147_80, s147_81, s147_84, s147_86, s147_87, m_isWalker_y h1 k2 37 _ hw, m_isCorner_y h1 k2 37 _ hc, hi0, false_implies, true_implies, not_true_eq_false, not_false_eq_true, true_and, and_true, true_or, or_true, false_or, or_false, false_and, and_false, implies_true, nw_psh_s, nw_psh_n, ni_10, ni_00]
      exact hQ
    · rcases ix3 i (n := nt_n T) (by omega) with hq | ⟨i0, hi0', rfl⟩
      · exact absurd hq (fun q => q.elim hi0 hin1)
      · simp only [e147, s147_0, s147_1, s147_2, s147_5, s147_8, s147_9, s147_10, s147_13, s147_16, s147_18, s147_21, s147_22, s147_24, s147_27, s147_30, s147_32, s147_34, s147_35, s147_36, s147_39, s147_42, s147_45, s147_47, s147_48, s147_51, s147_53, s147_54, s147_55, s147_56, s147_57, s147_58, s147_61, s147_63, s147_65, s147_66, s147_69, s147_71, s147_72, s147_75, s147_77, s147_80, s147_81, s147_84, s147_86, s147_87, m_isWalker_y h1 k2 37 _ hw, m_isCorner_y h1 k2 37 _ hc, hi0, m_isCorner_y h1 k2 37 _ hi0', false_implies, true_implies, not_true_eq_false, not_false_eq_true, true_and, and_true, true_or, or_true, false_or, or_false, false_and, and_false, implies_true, nw_psh_s, nw_psh_n, ni_10, ni_00]
        exact hQ
  have hXi : ∀ Q : nw_K, nw_Ev 39 nw_shX 90 Q 37 [some (.ref 0), some (.int (nI w)), some (.int (nI c)), some (.int z), some (.int i), none, none] [] mx → nw_Ex 40 nw_shX 90 [.ref 0, .int (nI w), .int (nI c), .int z, .int i] mx Q := by
    intro Q hQ
    simp only [e90, s90_0, s90_1, s90_4, s90_5, s90_8, s90_11, s90_12, s90_15, s90_16, s90_19, s90_22, s90_24, s90_25, s90_28, s90_31, s90_34, s90_36, s90_38, s90_41, s90_42, s90_44, s90_47, s90_49, s90_50, s90_53, s90_55, s90_56, s90_57, s90_61, s90_62, s90_65, s90_66, s90_69, s90_70, s90_73, s90_74, s90_75, s90_76, s90_78, s90_79, s90_82, s90_84, s90_86, s90_87, s90_90, s90_92, s90_93, s90_96, s90_98, s90_101, s90_103, s90_105, s90_108, s90_109, s90_112, s90_115, s90_116, x_hasWalker_y h1 h2 38 _ hw, x_hasCorner_y (Or.inl rfl) h1 h2 38 _ hc, hcn, hilt, false_implies, true_implies, not_true_eq_false, not_false_eq_true, true_and, and_true, true_or, or_true, false_or, or_false, false_and, and_false, implies_true, nw_psh_s, nw_psh_n, ni_10, ni_00]
    exact hQ
  rcases ix3 z (n := 100) (by decide) with hz | ⟨t, ht, rfl⟩
  · refine nP_same (r := -3) hX0 hM0 (fun Q hQ => hXi Q ?_) (fun Q hQ => hMi Q ?_)
    · by_cases q : z < 0
      · simp only [e90, s90_0, s90_1, s90_4, s90_5, s90_8, s90_11, s90_12, s90_15, s90_16, s90_19, s90_22, s90_24, s90_25, s90_28, s90_31, s90_34, s90_36, s90_37, s90_38, s90_41, s90_42, s90_44, s90_47, s90_49, s90_50, s90_53, s90_55, s90_56, s90_57, s90_61, s90_62, s90_65, s90_66, s90_69, s90_70, s90_73, s90_74, s90_75, s90_76, s90_78, s90_79, s90_82, s90_84, s90_86, s90_87, s90_90, s90_92, s90_93, s90_96, s90_98, s90_101, s90_103, s90_105, s90_108, s90_109, s90_112, s90_115, s90_116, q, false_implies, true_implies, not_true_eq_false, not_false_eq_true, true_and, and_true, true_or, or_true, false_or, or_false, false_and, and_false, implies_true, nw_psh_s, nw_psh_n, ni_10, ni_00]
        exact hQ
      · have q2 : ((99 : Int32) < z) = True := eq_true (gt_lit_out (n := 99) (by decide) (hz.resolve_left q))
        simp only [e90, s90_0, s90_1, s90_4, s90_5, s90_8, s90_11, s90_12, s90_15, s90_16, s90_19, s90_22, s90_24, s90_25, s90_28, s90_31, s90_34, s90_36, s90_37, s90_38, s90_41, s90_42, s90_44, s90_47, s90_49, s90_50, s90_53, s90_55, s90_56, s90_57, s90_61, s90_62, s90_65, s90_66, s90_69, s90_70, s90_73, s90_74, s90_75, s90_76, s90_78, s90_79, s90_82, s90_84, s90_86, s90_87, s90_90, s90_92, s90_93, s90_96, s90_98, s90_101, s90_103, s90_105, s90_108, s90_109, s90_112, s90_115, s90_116, q, q2, false_implies, true_implies, not_true_eq_false, not_false_eq_true, true_and, and_true, true_or, or_true, false_or, or_false, false_and, and_false, implies_true, nw_psh_s, nw_psh_n, ni_10, ni_00]
        exact hQ
    · simp only [e147, s147_0, s147_1, s147_2, s147_5, s147_8, s147_9, s147_10, s147_13, s147_16, s147_18, s147_21, s147_22, s147_24, s147_27, s147_30, s147_32, s147_33, s147_34, s147_35, s147_36, s147_39, s147_42, s147_45, s147_47, s147_48, s147_51, s147_53, s147_54, s147_55, s147_56, s147_57, s147_58, s147_61, s147_63, s147_65, s147_66, s147_69, s147_71, s147_72, s147_75, s147_77, s147_80, s147_81, s147_84, s147_86, s147_87, lw_0, lw_99, hin, show (z < 0 ∨ (99 : Int32) < z) = True from in_lit_out (n := 99) (by decide) hz, if_true, false_implies, true_implies, not_true_eq_false, not_false_eq_true, true_and, and_true, true_or, or_true, false_or, or_false, false_and, and_false, implies_true, nw_psh_s, nw_psh_n, ni_10, ni_00]
      exact hQ mm (nm_sc_rf mm)
  have z1 : (nI t < 0) = False := eq_false (nI_pos (by omega))
  have z2 : ((99 : Int32) < nI t) = False := ni_lt_f (a := 99) (by omega) (by decide)
  have z3 : (nI t < 0 ∨ (99 : Int32) < nI t) = False := in_lit (n := 99) (by omega) (by decide)
  by_cases him : (-1 : Int32) ≤ i
  · have hcase : ∃ i0, i0 < nt_n T ∧ (i = -1 ∨ i = nI i0 ∧ i0 < 8) := by
      rcases ix3 i (n := nt_n T) (by omega) with hq | ⟨i0, hi0', rfl⟩
      · refine ⟨0, by omega, Or.inl ?_⟩
        have q := hq.resolve_right hin1
        rw [fa_lt] at q
        rw [fa_le] at him
        have e0 : (0 : Int32).toInt = 0 := rfl
        have e1 : (-1 : Int32).toInt = -1 := rfl
        exact Int32.toInt_inj.mp (by omega)
      · exact ⟨i0, hi0', Or.inr ⟨rfl, by omega⟩⟩
    obtain ⟨i0, hi0, hi⟩ := hcase
    refine nP_same (r := nwz i i0 (nfw (fun p => (ncomps (nt_n T) p).find? (npP T w c t σ 0)) 5 0)) hX0 hM0 (fun Q hQ => hXi Q ?_) (fun Q hQ => hMi Q ?_)
    · simp only [e90, s90_0, s90_1, s90_4, s90_5, s90_8, s90_11, s90_12, s90_15, s90_16, s90_19, s90_22, s90_24, s90_25, s90_28, s90_31, s90_34, s90_36, s90_37, s90_38, s90_41, s90_42, s90_44, s90_47, s90_49, s90_50, s90_53, s90_55, s90_56, s90_57, s90_61, s90_62, s90_65, s90_66, s90_69, s90_70, s90_73, s90_74, s90_75, s90_76, s90_78, s90_79, s90_82, s90_84, s90_86, s90_87, s90_90, s90_92, s90_93, s90_96, s90_98, s90_101, s90_103, s90_105, s90_108, s90_109, s90_112, s90_115, s90_116, z1, z2, him, false_implies, true_implies, not_true_eq_false, not_false_eq_true, true_and, and_true, true_or, or_true, false_or, or_false, false_and, and_false, implies_true, nw_psh_s, nw_psh_n, ni_10, ni_00]
      exact x_pen_loop h1 h2 h6 Q (by omega) (by omega) (by omega) hi 5 0 none (by omega) (Or.inl rfl) hQ
    · simp only [e147, s147_0, s147_1, s147_2, s147_5, s147_8, s147_9, s147_10, s147_13, s147_16, s147_18, s147_21, s147_22, s147_24, s147_27, s147_30, s147_32, s147_33, s147_34, s147_35, s147_36, s147_39, s147_42, s147_45, s147_47, s147_48, s147_51, s147_53, s147_54, s147_55, s147_56, s147_57, s147_58, s147_61, s147_63, s147_65, s147_66, s147_69, s147_71, s147_72, s147_75, s147_77, s147_80, s147_81, s147_84, s147_86, s147_87, lw_0, lw_99, hin, z3, if_false, him, e146, s146_0, s146_1, s146_5, s146_6, s146_9, s146_10, s146_14, s146_15, s146_18, s146_21, s146_22, s146_25, s146_27, s146_29, s146_30, s146_33, s146_34, s146_35, s146_38, s146_40, s146_43, s146_44, s146_45, s146_48, s146_51, s146_52, s146_56, s146_59, s146_60, s146_63, s146_66, s146_67, s146_68, s146_69, s146_70, s146_73, s146_76, s146_77, s146_81, s146_82, s146_85, s146_88, s146_89, s146_92, s146_94, s146_95, s146_98, s146_100, s146_101, s146_102, s146_105, s146_108, s146_110, s146_111, s146_112, s146_115, s146_117, s146_120, s146_123, s146_126, s146_127, false_implies, true_implies, not_true_eq_false, not_false_eq_true, true_and, and_true, true_or, or_true, false_or, or_false, false_and, and_false, implies_true, nw_psh_s, nw_psh_n, ni_10, ni_00]
      refine m_few h1 k2 h5 k4 32 _ hw (by omega) (by omega) 5 0 mm none (by omega) (nm_sc_rf mm) (Or.inl rfl) (fun hno m2 hs2 => ?_) (fun p l hfd m2 hs2 hb2 => ?_)
      · rw [hno] at hQ
        simp only [e147, s147_0, s147_1, s147_2, s147_5, s147_8, s147_9, s147_10, s147_13, s147_16, s147_18, s147_21, s147_22, s147_24, s147_27, s147_30, s147_32, s147_33, s147_34, s147_35, s147_36, s147_39, s147_42, s147_45, s147_47, s147_48, s147_51, s147_53, s147_54, s147_55, s147_56, s147_57, s147_58, s147_61, s147_63, s147_65, s147_66, s147_69, s147_71, s147_72, s147_75, s147_77, s147_80, s147_81, s147_84, s147_86, s147_87, false_implies, true_implies, not_true_eq_false, not_false_eq_true, true_and, and_true, true_or, or_true, false_or, or_false, false_and, and_false, implies_true, nw_psh_s, nw_psh_n, ni_10, ni_00]
        exact hQ m2 hs2
      · rw [hfd] at hQ
        have hp5 : p < 5 := by
          have : ∀ (F : Nat → Option (List Nat)) j q, q + j = 5 → ∀ p l, nfw F j q = some (p, l) → p < 5 := by
            intro F j
            induction j with
            | zero => intro q _ p l h; cases h
            | succ j ihj =>
              intro q hq p l h
              unfold nfw at h
              cases hF : F q with
              | none => rw [hF] at h; exact ihj (q + 1) (by omega) p l h
              | some l' => rw [hF] at h; cases h; omega
          exact this _ 5 0 (by omega) p l hfd
        have hpm := ni_ne_m1 (show p < 2 ^ 31 by omega)
        have hQ' : Q (some (.int (if i = -1 then nI p else nI (l.getD i0 0)))) m2 := hQ m2 hs2
        rcases hi with hi1 | ⟨hi1, hi8⟩
        · rw [if_pos hi1] at hQ'
          simp only [e147, s147_0, s147_1, s147_2, s147_5, s147_8, s147_9, s147_10, s147_13, s147_16, s147_18, s147_21, s147_22, s147_24, s147_27, s147_30, s147_32, s147_33, s147_34, s147_35, s147_36, s147_39, s147_42, s147_45, s147_47, s147_48, s147_51, s147_53, s147_54, s147_55, s147_56, s147_57, s147_58, s147_61, s147_63, s147_65, s147_66, s147_69, s147_71, s147_72, s147_75, s147_77, s147_80, s147_81, s147_84, s147_86, s147_87, hpm, eq_true hi1, false_implies, true_implies, not_true_eq_false, not_false_eq_true, true_and, and_true, true_or, or_true, false_or, or_false, false_and, and_false, implies_true, nw_psh_s, nw_psh_n, ni_10, ni_00]
          exact hQ'
        · subst hi1
          have hne := ni_ne_m1 (show i0 < 2 ^ 31 by omega)
          rw [if_neg (of_eq_false hne)] at hQ'
          have hiv : vp_in (nI i0) 8 := vp_in_nI (by omega) (by decide)
          simp only [e147, s147_0, s147_1, s147_2, s147_5, s147_8, s147_9, s147_10, s147_13, s147_16, s147_18, s147_21, s147_22, s147_24, s147_27, s147_30, s147_32, s147_33, s147_34, s147_35, s147_36, s147_39, s147_42, s147_45, s147_47, s147_48, s147_51, s147_53, s147_54, s147_55, s147_56, s147_57, s147_58, s147_61, s147_63, s147_65, s147_66, s147_69, s147_71, s147_72, s147_75, s147_77, s147_80, s147_81, s147_84, s147_86, s147_87, hpm, hne, hiv, ni_cl (show i0 < 2 ^ 31 by omega), hb2 i0 hi0, false_implies, true_implies, not_true_eq_false, not_false_eq_true, true_and, and_true, true_or, or_true, false_or, or_false, false_and, and_false, implies_true, nw_psh_s, nw_psh_n, ni_10, ni_00]
          exact hQ'
  · refine nP_same (r := -3) hX0 hM0 (fun Q hQ => hXi Q ?_) (fun Q hQ => hMi Q ?_)
    · simp only [e90, s90_0, s90_1, s90_4, s90_5, s90_8, s90_11, s90_12, s90_15, s90_16, s90_19, s90_22, s90_24, s90_25, s90_28, s90_31, s90_34, s90_36, s90_37, s90_38, s90_41, s90_42, s90_44, s90_47, s90_49, s90_50, s90_53, s90_55, s90_56, s90_57, s90_61, s90_62, s90_65, s90_66, s90_69, s90_70, s90_73, s90_74, s90_75, s90_76, s90_78, s90_79, s90_82, s90_84, s90_86, s90_87, s90_90, s90_92, s90_93, s90_96, s90_98, s90_101, s90_103, s90_105, s90_108, s90_109, s90_112, s90_115, s90_116, z1, z2, him, false_implies, true_implies, not_true_eq_false, not_false_eq_true, true_and, and_true, true_or, or_true, false_or, or_false, false_and, and_false, implies_true, nw_psh_s, nw_psh_n, ni_10, ni_00]
      exact hQ
    · simp only [e147, s147_0, s147_1, s147_2, s147_5, s147_8, s147_9, s147_10, s147_13, s147_16, s147_18, s147_21, s147_22, s147_24, s147_27, s147_30, s147_32, s147_33, s147_34, s147_35, s147_36, s147_39, s147_42, s147_45, s147_47, s147_48, s147_51, s147_53, s147_54, s147_55, s147_56, s147_57, s147_58, s147_61, s147_63, s147_65, s147_66, s147_69, s147_71, s147_72, s147_75, s147_77, s147_80, s147_81, s147_84, s147_86, s147_87, lw_0, lw_99, hin, z3, if_false, him, false_implies, true_implies, not_true_eq_false, not_false_eq_true, true_and, and_true, true_or, or_true, false_or, or_false, false_and, and_false, implies_true, nw_psh_s, nw_psh_n, ni_10, ni_00]
      exact hQ mm (nm_sc_rf mm)
