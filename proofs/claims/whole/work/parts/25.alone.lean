/-! ONE ALONE; SHARES -/
abbrev nq : Type := (Nat → Nat) × Nat
/-- one alone at a corner, as a stand -/
def na (q : nq) : nt_S := (q.1, fun w => if w = 0 then q.2 else 0)
theorem na_wk (T : nt_T) (q : nq) : nt_wk T (na q) 0 = na (nt_lv T q.1 q.2) := by
  unfold nt_wk na
  refine Prod.ext rfl ?_
  funext w
  by_cases h : w = 0
  · simp [nf_up, h]
  · simp [nf_up, h]
theorem na_from {s : Int32} {σ : nt_S} (hs : nx_S s σ) {c : Nat} (hc : c < 8) : nx_S (ns_sp (s &&& 65535) 0 c) (na (σ.1, c)) := by
  have h0 : nx_S (s &&& 65535) (σ.1, fun _ => 0) := by
    refine ⟨ns_sign_and, fun j hj => ?_, fun w hw => ⟨?_, by show 0 < 8; decide⟩⟩
    · rw [ns_v_and hj]; exact hs.2.1 j hj
    · rw [ns_p_and hw]; rfl
  have h := nx_S_sp h0 (w := 0) (x := c) (by decide) hc
  exact h
theorem na_from0 {c : Nat} (hc : c < 8) : nx_S (ns_sp ((0 : Int32) &&& 65535) 0 c) (na (fun _ => 0, c)) := by
  have h0 : nx_S (0 : Int32) (fun _ => 0, fun _ => 0) := by
    refine ⟨by decide, fun j hj => ⟨?_, by show 0 < 4; decide⟩, fun w hw => ⟨?_, by show 0 < 8; decide⟩⟩
    · exact (by decide +kernel : ∀ j, j < 8 → ns_v 0 j = nI 0) j hj
    · exact (by decide +kernel : ∀ j, j < 5 → ns_p 0 j = nI 0) w hw
  exact na_from h0 hc
theorem x_from (d : Nat) (Q : nw_K) (s : Int32) (c : Nat) (mem : nw_M) : nw_Ex (d + 2) nw_shX 45 [.int s, .int (nI c)] mem Q = Q (some (.int (ns_sp (s &&& 65535) 0 c))) mem := by
  have h := fun Q' => x_withPlace d Q' (s &&& 65535) 0 c mem
  simp only [e45, s45_0, s45_1, s45_3, s45_4, s45_5, s45_6, s45_9, show (0 : Int32) = nI 0 from rfl, h, false_implies, true_implies, not_true_eq_false, not_false_eq_true, true_and, and_true, true_or, or_true, false_or, or_false, false_and, and_false, implies_true, nw_psh_s, nw_psh_n, ni_10, ni_00]
/-- one walks alone: the stand, and where he is -/
theorem x_walk0 {T : nt_T} (hT : nt_ok T) {mem : nw_M} (hm : nx_T 4 T mem) (d : Nat) (Q : nw_K) {s : Int32} {q : nq} (hs : nx_S s (na q)) : nw_Ex (d + 4) nw_shX 34 [.ref 4, .int s, .int 0] mem Q = Q (some (.int (nx_wk T s (na q) 0))) mem := x_walked hT hm d Q hs (w := 0) (by decide)
theorem na_wk_S {T : nt_T} (hT : nt_ok T) {s : Int32} {q : nq} (hs : nx_S s (na q)) : nx_S (nx_wk T s (na q) 0) (na (nt_lv T q.1 q.2)) := by
  have := nx_wk_S hT hs (w := 0) (by decide)
  rwa [na_wk] at this
theorem x_place0 (d : Nat) (Q : nw_K) {s : Int32} {q : nq} (hs : nx_S s (na q)) (mem : nw_M) : nw_Ex (d + 1) nw_shX 25 [.int s, .int 0] mem Q = Q (some (.int (nI q.2))) mem := by
  have h := x_placeOf d Q s 0 mem
  rw [(hs.2.2 0 (by decide)).1] at h
  exact h
theorem na_lt {s : Int32} {q : nq} (hs : nx_S s (na q)) : q.2 < 8 := (hs.2.2 0 (by decide)).2
/-- till he is at a corner that nobody leaves, j beats at most -/
def nt_go (T : nt_T) : Nat → nq → nq
  | 0, q => q
  | j + 1, q => if nt_left T q.2 then nt_go T j (nt_lv T q.1 q.2) else q
theorem nt_go_ok {T : nt_T} (hT : nt_ok T) : ∀ j (q : nq), nt_vok T q.1 → q.2 < nt_n T → nt_vok T (nt_go T j q).1 ∧ (nt_go T j q).2 < nt_n T
  | 0, q, h1, h2 => ⟨h1, h2⟩
  | j + 1, q, h1, h2 => by
    unfold nt_go
    split
    · obtain ⟨a, b⟩ := nt_lv_ok hT h1 h2
      exact nt_go_ok hT j _ a b
    · exact ⟨h1, h2⟩
theorem x_ends_in {T : nt_T} (hT : nt_ok T) {mem : nw_M} (hm : nx_T 4 T mem) (d : Nat) (Q : nw_K) (a1 a2 a3 a4 a6 a7 : Int32) :
    ∀ j b (q : nq) (s : Int32), b + j = 999 → nx_S s (na q) → (∀ s' b', nx_S s' (na (nt_go T j q)) → nw_Ev (d + 4) nw_shX 54 Q 62 [some (.ref 4), some (.int a1), some (.int a2), some (.int a3), some (.int a4), some (.int s'), some (.int a6), some (.int a7), some (.int b')] [] mem) → nw_Ev (d + 4) nw_shX 54 Q 26 [some (.ref 4), some (.int a1), some (.int a2), some (.int a3), some (.int a4), some (.int s), some (.int a6), some (.int a7), some (.int (nI b))] [] mem := by
  intro j
  induction j with
  | zero =>
    intro b q s hb hs hQ
    have hb' : b = 999 := by omega
    subst hb'
    rw [s54_26]
    simp only [e54, s54_0, s54_1, s54_3, s54_4, s54_6, s54_7, s54_11, s54_12, s54_15, s54_17, s54_18, s54_21, s54_23, s54_24, s54_28, s54_31, s54_34, s54_35, s54_37, s54_38, s54_41, s54_44, s54_47, s54_48, s54_50, s54_51, s54_54, s54_56, s54_59, s54_64, s54_65, s54_68, s54_70, s54_72, s54_74, s54_77, s54_78, s54_80, s54_83, s54_86, s54_89, s54_92, s54_95, s54_97, show ((999 : Int32) ≤ nI 999) = True from eq_true (by decide), false_implies, true_implies, not_true_eq_false, not_false_eq_true, true_and, and_true, true_or, or_true, false_or, or_false, false_and, and_false, implies_true, nw_psh_s, nw_psh_n, ni_10, ni_00]
    exact hQ s _ hs
  | succ j ih =>
    intro b q s hb hs hQ
    have hle : ((999 : Int32) ≤ nI b) = False := ni_le_f (a := 999) (by omega) (by decide)
    unfold nt_go at hQ
    rw [s54_26]
    by_cases hl : nt_left T q.2 = true
    · rw [if_pos hl] at hQ
      simp only [e54, s54_0, s54_1, s54_3, s54_4, s54_6, s54_7, s54_11, s54_12, s54_15, s54_17, s54_18, s54_21, s54_23, s54_24, s54_28, s54_31, s54_34, s54_35, s54_37, s54_38, s54_41, s54_44, s54_47, s54_48, s54_50, s54_51, s54_54, s54_56, s54_59, s54_64, s54_65, s54_68, s54_70, s54_72, s54_74, s54_77, s54_78, s54_80, s54_83, s54_86, s54_89, s54_92, s54_95, s54_97, hle, x_place0 _ _ hs, x_isLeft hT hm _ _ (na_lt hs), hl, if_true, x_walk0 hT hm _ _ hs, nI_1, false_implies, true_implies, not_true_eq_false, not_false_eq_true, true_and, and_true, true_or, or_true, false_or, or_false, false_and, and_false, implies_true, nw_psh_s, nw_psh_n, ni_10, ni_00]
      exact ih (b + 1) _ _ (by omega) (na_wk_S hT hs) hQ
    · rw [if_neg hl] at hQ
      simp only [e54, s54_0, s54_1, s54_3, s54_4, s54_6, s54_7, s54_11, s54_12, s54_15, s54_17, s54_18, s54_21, s54_23, s54_24, s54_28, s54_31, s54_34, s54_35, s54_37, s54_38, s54_41, s54_44, s54_47, s54_48, s54_50, s54_51, s54_54, s54_56, s54_59, s54_64, s54_65, s54_68, s54_70, s54_72, s54_74, s54_77, s54_78, s54_80, s54_83, s54_86, s54_89, s54_92, s54_95, s54_97, hle, x_place0 _ _ hs, x_isLeft hT hm _ _ (na_lt hs), hl, if_false, Bool.false_eq_true, false_implies, true_implies, not_true_eq_false, not_false_eq_true, true_and, and_true, true_or, or_true, false_or, or_false, false_and, and_false, implies_true, nw_psh_s, nw_psh_n, ni_10, ni_00]
      exact hQ s _ hs
/-- vanes when k have gone; how many of them ended at a -/
def nt_shv (T : nt_T) (c : Nat) (v : Nat → Nat) : Nat → Nat → Nat
  | 0 => v
  | k + 1 => (nt_go T 999 (nt_shv T c v k, c)).1
def nt_she (T : nt_T) (c : Nat) (v : Nat → Nat) (k : Nat) : Nat := (nt_go T 999 (nt_shv T c v k, c)).2
def nt_shn (T : nt_T) (c a : Nat) (v : Nat → Nat) : Nat → Nat
  | 0 => 0
  | k + 1 => if nt_she T c v k = a ∧ ¬ nt_left T (nt_she T c v k) = true then nt_shn T c a v k + 1 else nt_shn T c a v k
theorem nt_shv_ok {T : nt_T} (hT : nt_ok T) {c : Nat} (hc : c < nt_n T) {v : Nat → Nat} (hv : nt_vok T v) : ∀ k, nt_vok T (nt_shv T c v k)
  | 0 => hv
  | k + 1 => (nt_go_ok hT 999 (nt_shv T c v k, c) (nt_shv_ok hT hc hv k) hc).1
theorem x_ends_out {T : nt_T} (hT : nt_ok T) {mem : nw_M} (hm : nx_T 4 T mem) (d : Nat) (Q : nw_K) (s0 : Int32) {v : Nat → Nat} {c a t : Nat} (hc : c < nt_n T) (ha : a < nt_n T) (ht : t < 2 ^ 30) (hQ : Q (some (.int (nI (nt_shn T c a v t)))) mem) :
    ∀ j k (s : Int32) (σ : nt_S) (l8 : Option Value), k + j = t → nx_S s σ → σ.1 = nt_shv T c v k → (l8 = none ∨ ∃ z, l8 = some (.int z)) → nw_Ev (d + 4) nw_shX 54 Q 9 [some (.ref 4), some (.int s0), some (.int (nI c)), some (.int (nI t)), some (.int (nI a)), some (.int s), some (.int (nI (nt_shn T c a v k))), some (.int (nI k)), l8] [] mem := by
  have h8 := hT.2.1
  intro j
  induction j with
  | zero =>
    intro k s σ l8 hk hs he hl8
    have hk' : k = t := by omega
    subst hk'
    rw [s54_9]
    simp only [e54, s54_0, s54_1, s54_3, s54_4, s54_6, s54_7, s54_11, s54_12, s54_15, s54_17, s54_18, s54_21, s54_23, s54_24, s54_28, s54_31, s54_34, s54_35, s54_37, s54_38, s54_41, s54_44, s54_47, s54_48, s54_50, s54_51, s54_54, s54_56, s54_59, s54_62, s54_64, s54_65, s54_68, s54_70, s54_72, s54_74, s54_77, s54_78, s54_80, s54_83, s54_86, s54_89, s54_92, s54_95, s54_97, ni_le_t (Nat.le_refl k) (show k < 2 ^ 31 by omega), false_implies, true_implies, not_true_eq_false, not_false_eq_true, true_and, and_true, true_or, or_true, false_or, or_false, false_and, and_false, implies_true, nw_psh_s, nw_psh_n, ni_10, ni_00]
    exact hQ
  | succ j ih =>
    intro k s σ l8 hk hs he hl8
    have hfr := na_from hs (c := c) (by omega)
    rw [he] at hfr
    rw [s54_9]
    simp only [e54, s54_0, s54_1, s54_3, s54_4, s54_6, s54_7, s54_11, s54_12, s54_15, s54_17, s54_18, s54_21, s54_23, s54_24, s54_28, s54_31, s54_34, s54_35, s54_37, s54_38, s54_41, s54_44, s54_47, s54_48, s54_50, s54_51, s54_54, s54_56, s54_59, s54_62, s54_64, s54_65, s54_68, s54_70, s54_72, s54_74, s54_77, s54_78, s54_80, s54_83, s54_86, s54_89, s54_92, s54_95, s54_97, ni_le_f (show k < t by omega) (show t < 2 ^ 31 by omega), x_from, false_implies, true_implies, not_true_eq_false, not_false_eq_true, true_and, and_true, true_or, or_true, false_or, or_false, false_and, and_false, implies_true, nw_psh_s, nw_psh_n, ni_10, ni_00]
    refine x_ends_in hT hm d Q _ _ _ _ _ _ 999 0 (nt_shv T c v k, c) _ (by omega) hfr (fun s' b' hs' => ?_)
    have hlt : (nt_go T 999 (nt_shv T c v k, c)).2 < 8 := na_lt hs'
    have hh := fun l8 hl => ih (k + 1) s' _ l8 (by omega) hs' rfl hl
    unfold nt_shn at hh
    by_cases hea : nt_she T c v k = a
    · by_cases hlf : nt_left T (nt_she T c v k) = true
      · rw [if_neg (fun q => q.2 hlf)] at hh
        simp only [e54, s54_0, s54_1, s54_3, s54_4, s54_6, s54_7, s54_11, s54_12, s54_15, s54_17, s54_18, s54_21, s54_23, s54_24, s54_28, s54_31, s54_34, s54_35, s54_37, s54_38, s54_41, s54_44, s54_47, s54_48, s54_50, s54_51, s54_54, s54_56, s54_59, s54_62, s54_64, s54_65, s54_68, s54_70, s54_72, s54_74, s54_77, s54_78, s54_80, s54_83, s54_86, s54_89, s54_92, s54_95, s54_97, x_place0 _ _ hs', ni_eq_t (show (nt_go T 999 (nt_shv T c v k, c)).2 = a from hea), x_isLeft hT hm _ _ hlt, show nt_left T (nt_go T 999 (nt_shv T c v k, c)).2 = true from hlf, if_true, nI_1, false_implies, true_implies, not_true_eq_false, not_false_eq_true, true_and, and_true, true_or, or_true, false_or, or_false, false_and, and_false, implies_true, nw_psh_s, nw_psh_n, ni_10, ni_00]
        exact hh _ (Or.inr ⟨_, rfl⟩)
      · rw [if_pos ⟨hea, hlf⟩] at hh
        simp only [e54, s54_0, s54_1, s54_3, s54_4, s54_6, s54_7, s54_11, s54_12, s54_15, s54_17, s54_18, s54_21, s54_23, s54_24, s54_28, s54_31, s54_34, s54_35, s54_37, s54_38, s54_41, s54_44, s54_47, s54_48, s54_50, s54_51, s54_54, s54_56, s54_59, s54_62, s54_64, s54_65, s54_68, s54_70, s54_72, s54_74, s54_77, s54_78, s54_80, s54_83, s54_86, s54_89, s54_92, s54_95, s54_97, x_place0 _ _ hs', ni_eq_t (show (nt_go T 999 (nt_shv T c v k, c)).2 = a from hea), x_isLeft hT hm _ _ hlt, show nt_left T (nt_go T 999 (nt_shv T c v k, c)).2 = false from (Bool.not_eq_true _).mp hlf, if_false, Bool.false_eq_true, nI_1, false_implies, true_implies, not_true_eq_false, not_false_eq_true, true_and, and_true, true_or, or_true, false_or, or_false, false_and, and_false, implies_true, nw_psh_s, nw_psh_n, ni_10, ni_00]
        exact hh _ (Or.inr ⟨_, rfl⟩)
    · rw [if_neg (fun q => hea q.1)] at hh
      simp only [e54, s54_0, s54_1, s54_3, s54_4, s54_6, s54_7, s54_11, s54_12, s54_15, s54_17, s54_18, s54_21, s54_23, s54_24, s54_28, s54_31, s54_34, s54_35, s54_37, s54_38, s54_41, s54_44, s54_47, s54_48, s54_50, s54_51, s54_54, s54_56, s54_59, s54_62, s54_64, s54_65, s54_68, s54_70, s54_72, s54_74, s54_77, s54_78, s54_80, s54_83, s54_86, s54_89, s54_92, s54_95, s54_97, x_place0 _ _ hs', ni_eq_f (show ¬ (nt_go T 999 (nt_shv T c v k, c)).2 = a from hea) (show (nt_go T 999 (nt_shv T c v k, c)).2 < 2 ^ 31 by omega) (show a < 2 ^ 31 by omega), nI_1, false_implies, true_implies, not_true_eq_false, not_false_eq_true, true_and, and_true, true_or, or_true, false_or, or_false, false_and, and_false, implies_true, nw_psh_s, nw_psh_n, ni_10, ni_00]
      exact hh _ (Or.inr ⟨_, rfl⟩)
/-! the reference alone: vanes in what it tries -/
def nm_tv (mm : nw_M) (v : Nat → Nat) (m1 : nw_M) : Prop := nm_sc mm m1 ∧ nm_V 42 v m1
theorem nm_tr_tv {T : nt_T} {mm m1 : nw_M} {σ : nt_S} (h : nm_tr T mm σ m1) : nm_tv mm σ.1 m1 := ⟨h.1, h.2.1⟩
theorem m_leave42 {T : nt_T} (hT : nt_ok T) {mm : nw_M} (hm : nm_T T mm) {v : Nat → Nat} (hvo : nt_vok T v) {m1 : nw_M} (h : nm_tv mm v m1) (d : Nat) (Q : nw_K) {c : Nat} (hc : c < 8) (hQ : ∀ m2, nm_tv mm (nt_lv T v c).1 m2 → Q (some (.int (nI (nt_lv T v c).2))) m2) : nw_Ex (d + 3) nw_shM 124 [.ref 0, .int 42, .int (nI c)] m1 Q := by
  have := m_leave hT (nm_T_sc hm h.1) (b := 42) h.2 (by decide) hvo d Q hc
  rw [show (42 : Int32) = nI 42 from rfl, this]
  exact hQ _ ⟨nm_sc_tr h.1 (nm_sc_fr (nm_lv_fr T v hc m1)), nm_lv_V h.2⟩
theorem m_shares_in {T : nt_T} (hT : nt_ok T) {mm : nw_M} (hm : nm_T T mm) (d : Nat) (Q : nw_K) (a1 a2 a3 a4 a5 : Int32) :
    ∀ j b (q : nq) m1, b + j = 999 → nt_vok T q.1 → q.2 < nt_n T → nm_tv mm q.1 m1 → (∀ m2 b', nm_tv mm (nt_go T j q).1 m2 → nw_Ev (d + 3) nw_shM 148 Q 91 [some (.ref 0), some (.int a1), some (.int a2), some (.int a3), some (.int a4), some (.int a5), some (.int (nI (nt_go T j q).2)), some (.int b')] [] m2) → nw_Ev (d + 3) nw_shM 148 Q 58 [some (.ref 0), some (.int a1), some (.int a2), some (.int a3), some (.int a4), some (.int a5), some (.int (nI q.2)), some (.int (nI b))] [] m1 := by
  have h8 := hT.2.1
  intro j
  induction j with
  | zero =>
    intro b q m1 hb hvo hq h hQ
    have hb' : b = 999 := by omega
    subst hb'
    rw [s148_58]
    simp only [e148, s148_0, s148_1, s148_2, s148_5, s148_8, s148_9, s148_10, s148_13, s148_16, s148_18, s148_19, s148_20, s148_21, s148_22, s148_25, s148_28, s148_31, s148_33, s148_34, s148_35, s148_36, s148_37, s148_40, s148_41, s148_43, s148_44, s148_48, s148_49, s148_52, s148_53, s148_55, s148_56, s148_60, s148_63, s148_66, s148_67, s148_69, s148_72, s148_75, s148_76, s148_78, s148_80, s148_83, s148_85, s148_88, s148_93, s148_95, s148_96, s148_99, s148_100, s148_102, s148_105, s148_108, s148_109, s148_112, s148_113, s148_114, s148_116, s148_119, s148_122, s148_124, show ((999 : Int32) ≤ nI 999) = True from eq_true (by decide), false_implies, true_implies, not_true_eq_false, not_false_eq_true, true_and, and_true, true_or, or_true, false_or, or_false, false_and, and_false, implies_true, nw_psh_s, nw_psh_n, ni_10, ni_00]
    exact hQ m1 _ h
  | succ j ih =>
    intro b q m1 hb hvo hq h hQ
    have hle : ((999 : Int32) ≤ nI b) = False := ni_le_f (a := 999) (by omega) (by decide)
    unfold nt_go at hQ
    rw [s148_58]
    by_cases hl : nt_left T q.2 = true
    · rw [if_pos hl] at hQ
      simp only [e148, s148_0, s148_1, s148_2, s148_5, s148_8, s148_9, s148_10, s148_13, s148_16, s148_18, s148_19, s148_20, s148_21, s148_22, s148_25, s148_28, s148_31, s148_33, s148_34, s148_35, s148_36, s148_37, s148_40, s148_41, s148_43, s148_44, s148_48, s148_49, s148_52, s148_53, s148_55, s148_56, s148_60, s148_63, s148_66, s148_67, s148_69, s148_72, s148_75, s148_76, s148_78, s148_80, s148_83, s148_85, s148_88, s148_93, s148_95, s148_96, s148_99, s148_100, s148_102, s148_105, s148_108, s148_109, s148_112, s148_113, s148_114, s148_116, s148_119, s148_122, s148_124, hle, m_isLeft hT (nm_T_sc hm h.1) _ _ (show q.2 < 8 by omega), hl, if_true, false_implies, true_implies, not_true_eq_false, not_false_eq_true, true_and, and_true, true_or, or_true, false_or, or_false, false_and, and_false, implies_true, nw_psh_s, nw_psh_n, ni_10, ni_00]
      refine m_leave42 hT hm hvo h d _ (by omega) (fun m2 h2 => ?_)
      simp only [e148, s148_0, s148_1, s148_2, s148_5, s148_8, s148_9, s148_10, s148_13, s148_16, s148_18, s148_19, s148_20, s148_21, s148_22, s148_25, s148_28, s148_31, s148_33, s148_34, s148_35, s148_36, s148_37, s148_40, s148_41, s148_43, s148_44, s148_48, s148_49, s148_52, s148_53, s148_55, s148_56, s148_60, s148_63, s148_66, s148_67, s148_69, s148_72, s148_75, s148_76, s148_78, s148_80, s148_83, s148_85, s148_88, s148_93, s148_95, s148_96, s148_99, s148_100, s148_102, s148_105, s148_108, s148_109, s148_112, s148_113, s148_114, s148_116, s148_119, s148_122, s148_124, nI_1, false_implies, true_implies, not_true_eq_false, not_false_eq_true, true_and, and_true, true_or, or_true, false_or, or_false, false_and, and_false, implies_true, nw_psh_s, nw_psh_n, ni_10, ni_00]
      obtain ⟨g1, g2⟩ := nt_lv_ok hT hvo hq
      exact ih (b + 1) _ m2 (by omega) g1 g2 h2 hQ
    · rw [if_neg hl] at hQ
      simp only [e148, s148_0, s148_1, s148_2, s148_5, s148_8, s148_9, s148_10, s148_13, s148_16, s148_18, s148_19, s148_20, s148_21, s148_22, s148_25, s148_28, s148_31, s148_33, s148_34, s148_35, s148_36, s148_37, s148_40, s148_41, s148_43, s148_44, s148_48, s148_49, s148_52, s148_53, s148_55, s148_56, s148_60, s148_63, s148_66, s148_67, s148_69, s148_72, s148_75, s148_76, s148_78, s148_80, s148_83, s148_85, s148_88, s148_93, s148_95, s148_96, s148_99, s148_100, s148_102, s148_105, s148_108, s148_109, s148_112, s148_113, s148_114, s148_116, s148_119, s148_122, s148_124, hle, m_isLeft hT (nm_T_sc hm h.1) _ _ (show q.2 < 8 by omega), hl, if_false, Bool.false_eq_true, false_implies, true_implies, not_true_eq_false, not_false_eq_true, true_and, and_true, true_or, or_true, false_or, or_false, false_and, and_false, implies_true, nw_psh_s, nw_psh_n, ni_10, ni_00]
      exact hQ m1 _ h
theorem m_shares_out {T : nt_T} (hT : nt_ok T) {mm : nw_M} (hm : nm_T T mm) (d : Nat) (Q : nw_K) {v : Nat → Nat} (hv : nt_vok T v) {c a t : Nat} (hc : c < nt_n T) (ha : a < nt_n T) (ht : t < 2 ^ 30) (hQ : ∀ m2, nm_sc mm m2 → Q (some (.int (nI (nt_shn T c a v t)))) m2) :
    ∀ j k m1 (l6 l7 : Option Value), k + j = t → nm_tv mm (nt_shv T c v k) m1 → (l6 = none ∨ ∃ z, l6 = some (.int z)) → (l7 = none ∨ ∃ z, l7 = some (.int z)) → nw_Ev (d + 3) nw_shM 148 Q 46 [some (.ref 0), some (.int (nI c)), some (.int (nI t)), some (.int (nI a)), some (.int (nI (nt_shn T c a v k))), some (.int (nI k)), l6, l7] [] m1 := by
  have h8 := hT.2.1
  intro j
  induction j with
  | zero =>
    intro k m1 l6 l7 hk h hl6 hl7
    have hk' : k = t := by omega
    subst hk'
    rw [s148_46]
    simp only [e148, s148_0, s148_1, s148_2, s148_5, s148_8, s148_9, s148_10, s148_13, s148_16, s148_18, s148_19, s148_20, s148_21, s148_22, s148_25, s148_28, s148_31, s148_33, s148_34, s148_35, s148_36, s148_37, s148_40, s148_41, s148_43, s148_44, s148_48, s148_49, s148_52, s148_53, s148_55, s148_56, s148_60, s148_63, s148_66, s148_67, s148_69, s148_72, s148_75, s148_76, s148_78, s148_80, s148_83, s148_85, s148_88, s148_91, s148_93, s148_95, s148_96, s148_99, s148_100, s148_102, s148_105, s148_108, s148_109, s148_112, s148_113, s148_114, s148_116, s148_119, s148_122, s148_124, ni_le_t (Nat.le_refl k) (show k < 2 ^ 31 by omega), false_implies, true_implies, not_true_eq_false, not_false_eq_true, true_and, and_true, true_or, or_true, false_or, or_false, false_and, and_false, implies_true, nw_psh_s, nw_psh_n, ni_10, ni_00]
    exact hQ m1 h.1
  | succ j ih =>
    intro k m1 l6 l7 hk h hl6 hl7
    have hvk := nt_shv_ok hT hc hv k
    rw [s148_46]
    simp only [e148, s148_0, s148_1, s148_2, s148_5, s148_8, s148_9, s148_10, s148_13, s148_16, s148_18, s148_19, s148_20, s148_21, s148_22, s148_25, s148_28, s148_31, s148_33, s148_34, s148_35, s148_36, s148_37, s148_40, s148_41, s148_43, s148_44, s148_48, s148_49, s148_52, s148_53, s148_55, s148_56, s148_60, s148_63, s148_66, s148_67, s148_69, s148_72, s148_75, s148_76, s148_78, s148_80, s148_83, s148_85, s148_88, s148_91, s148_93, s148_95, s148_96, s148_99, s148_100, s148_102, s148_105, s148_108, s148_109, s148_112, s148_113, s148_114, s148_116, s148_119, s148_122, s148_124, ni_le_f (show k < t by omega) (show t < 2 ^ 31 by omega), false_implies, true_implies, not_true_eq_false, not_false_eq_true, true_and, and_true, true_or, or_true, false_or, or_false, false_and, and_false, implies_true, nw_psh_s, nw_psh_n, ni_10, ni_00]
    refine m_shares_in hT hm d Q _ _ _ _ _ 999 0 (nt_shv T c v k, c) m1 (by omega) hvk hc h (fun m2 b' h2 => ?_)
    have hlt : (nt_go T 999 (nt_shv T c v k, c)).2 < nt_n T := (nt_go_ok hT 999 (nt_shv T c v k, c) hvk hc).2
    have hh := ih (k + 1) m2 (some (.int (nI (nt_go T 999 (nt_shv T c v k, c)).2))) (some (.int b')) (by omega) h2 (Or.inr ⟨_, rfl⟩) (Or.inr ⟨_, rfl⟩)
    unfold nt_shn at hh
    by_cases hea : nt_she T c v k = a
    · by_cases hlf : nt_left T (nt_she T c v k) = true
      · rw [if_neg (fun q => q.2 hlf)] at hh
        simp only [e148, s148_0, s148_1, s148_2, s148_5, s148_8, s148_9, s148_10, s148_13, s148_16, s148_18, s148_19, s148_20, s148_21, s148_22, s148_25, s148_28, s148_31, s148_33, s148_34, s148_35, s148_36, s148_37, s148_40, s148_41, s148_43, s148_44, s148_48, s148_49, s148_52, s148_53, s148_55, s148_56, s148_60, s148_63, s148_66, s148_67, s148_69, s148_72, s148_75, s148_76, s148_78, s148_80, s148_83, s148_85, s148_88, s148_91, s148_93, s148_95, s148_96, s148_99, s148_100, s148_102, s148_105, s148_108, s148_109, s148_112, s148_113, s148_114, s148_116, s148_119, s148_122, s148_124, ni_eq_t (show (nt_go T 999 (nt_shv T c v k, c)).2 = a from hea), m_isLeft hT (nm_T_sc hm h2.1) _ _ (show (nt_go T 999 (nt_shv T c v k, c)).2 < 8 by omega), show nt_left T (nt_go T 999 (nt_shv T c v k, c)).2 = true from hlf, if_true, nI_1, Int32.add_zero, false_implies, true_implies, not_true_eq_false, not_false_eq_true, true_and, and_true, true_or, or_true, false_or, or_false, false_and, and_false, implies_true, nw_psh_s, nw_psh_n, ni_10, ni_00]
        exact hh
      · rw [if_pos ⟨hea, hlf⟩] at hh
        simp only [e148, s148_0, s148_1, s148_2, s148_5, s148_8, s148_9, s148_10, s148_13, s148_16, s148_18, s148_19, s148_20, s148_21, s148_22, s148_25, s148_28, s148_31, s148_33, s148_34, s148_35, s148_36, s148_37, s148_40, s148_41, s148_43, s148_44, s148_48, s148_49, s148_52, s148_53, s148_55, s148_56, s148_60, s148_63, s148_66, s148_67, s148_69, s148_72, s148_75, s148_76, s148_78, s148_80, s148_83, s148_85, s148_88, s148_91, s148_93, s148_95, s148_96, s148_99, s148_100, s148_102, s148_105, s148_108, s148_109, s148_112, s148_113, s148_114, s148_116, s148_119, s148_122, s148_124, ni_eq_t (show (nt_go T 999 (nt_shv T c v k, c)).2 = a from hea), m_isLeft hT (nm_T_sc hm h2.1) _ _ (show (nt_go T 999 (nt_shv T c v k, c)).2 < 8 by omega), show nt_left T (nt_go T 999 (nt_shv T c v k, c)).2 = false from (Bool.not_eq_true _).mp hlf, if_false, Bool.false_eq_true, nI_1, false_implies, true_implies, not_true_eq_false, not_false_eq_true, true_and, and_true, true_or, or_true, false_or, or_false, false_and, and_false, implies_true, nw_psh_s, nw_psh_n, ni_10, ni_00]
        exact hh
    · rw [if_neg (fun q => hea q.1)] at hh
      simp only [e148, s148_0, s148_1, s148_2, s148_5, s148_8, s148_9, s148_10, s148_13, s148_16, s148_18, s148_19, s148_20, s148_21, s148_22, s148_25, s148_28, s148_31, s148_33, s148_34, s148_35, s148_36, s148_37, s148_40, s148_41, s148_43, s148_44, s148_48, s148_49, s148_52, s148_53, s148_55, s148_56, s148_60, s148_63, s148_66, s148_67, s148_69, s148_72, s148_75, s148_76, s148_78, s148_80, s148_83, s148_85, s148_88, s148_91, s148_93, s148_95, s148_96, s148_99, s148_100, s148_102, s148_105, s148_108, s148_109, s148_112, s148_113, s148_114, s148_116, s148_119, s148_122, s148_124, ni_eq_f (show ¬ (nt_go T 999 (nt_shv T c v k, c)).2 = a from hea) (show (nt_go T 999 (nt_shv T c v k, c)).2 < 2 ^ 31 by omega) (show a < 2 ^ 31 by omega), nI_1, Int32.add_zero, false_implies, true_implies, not_true_eq_false, not_false_eq_true, true_and, and_true, true_or, or_true, false_or, or_false, false_and, and_false, implies_true, nw_psh_s, nw_psh_n, ni_10, ni_00]
      exact hh
theorem p_shares (A : nA) (x z y : Int32) : nP2 A 91 148 [.int x, .int z, .int y] := by
  intro mx mm hX hM
  obtain ⟨T, τ, σ, g, kp, L, tx⟩ := A
  have hX0 := hX
  have hM0 := hM
  obtain ⟨h1, h2, h3, ⟨h5, h6⟩, -⟩ := hX
  obtain ⟨-, k2, -, ⟨-, k4⟩, -⟩ := hM
  have h8 := h1.2.1
  have hin := fun Q' => m_in 38 Q' z 1 99 mm
  rcases ix3 x (n := nt_n T) (by omega) with hx | ⟨c, hc, rfl⟩
  · refine nP_same (r := -2) hX0 hM0 (fun Q hQ => ?_) (fun Q hQ => ?_)
    · simp only [e91, s91_0, s91_1, s91_4, s91_5, s91_8, s91_11, s91_12, s91_15, s91_16, s91_19, s91_22, s91_24, s91_25, s91_26, s91_27, s91_30, s91_31, s91_33, s91_36, s91_38, s91_39, s91_40, s91_43, s91_44, s91_47, s91_48, s91_49, s91_50, s91_53, x_hasCorner_n (Or.inl rfl) h2 38 _ hx, false_implies, true_implies, not_true_eq_false, not_false_eq_true, true_and, and_true, true_or, or_true, false_or, or_false, false_and, and_false, implies_true, nw_psh_s, nw_psh_n, ni_10, ni_00]
      exact hQ
    · simp only [e148, s148_0, s148_1, s148_2, s148_5, s148_8, s148_9, s148_10, s148_13, s148_16, s148_18, s148_19, s148_20, s148_21, s148_22, s148_25, s148_28, s148_31, s148_33, s148_34, s148_35, s148_36, s148_37, s148_40, s148_41, s148_43, s148_44, s148_48, s148_49, s148_52, s148_53, s148_55, s148_56, s148_60, s148_63, s148_66, s148_67, s148_69, s148_72, s148_75, s148_76, s148_78, s148_80, s148_83, s148_85, s148_88, s148_91, s148_93, s148_95, s148_96, s148_99, s148_100, s148_102, s148_105, s148_108, s148_109, s148_112, s148_113, s148_114, s148_116, s148_119, s148_122, s148_124, m_isCorner_n h1 k2 37 _ hx, false_implies, true_implies, not_true_eq_false, not_false_eq_true, true_and, and_true, true_or, or_true, false_or, or_false, false_and, and_false, implies_true, nw_psh_s, nw_psh_n, ni_10, ni_00]
      exact hQ mm (nm_sc_rf mm)
  · rcases ix3 y (n := nt_n T) (by omega) with hy | ⟨a, ha, rfl⟩
    · refine nP_same (r := -2) hX0 hM0 (fun Q hQ => ?_) (fun Q hQ => ?_)
      · simp only [e91, s91_0, s91_1, s91_4, s91_5, s91_8, s91_11, s91_12, s91_15, s91_16, s91_19, s91_22, s91_24, s91_25, s91_26, s91_27, s91_30, s91_31, s91_33, s91_36, s91_38, s91_39, s91_40, s91_43, s91_44, s91_47, s91_48, s91_49, s91_50, s91_53, x_hasCorner_y (Or.inl rfl) h1 h2 38 _ hc, x_hasCorner_n (Or.inl rfl) h2 38 _ hy, false_implies, true_implies, not_true_eq_false, not_false_eq_true, true_and, and_true, true_or, or_true, false_or, or_false, false_and, and_false, implies_true, nw_psh_s, nw_psh_n, ni_10, ni_00]
        exact hQ
      · simp only [e148, s148_0, s148_1, s148_2, s148_5, s148_8, s148_9, s148_10, s148_13, s148_16, s148_18, s148_19, s148_20, s148_21, s148_22, s148_25, s148_28, s148_31, s148_33, s148_34, s148_35, s148_36, s148_37, s148_40, s148_41, s148_43, s148_44, s148_48, s148_49, s148_52, s148_53, s148_55, s148_56, s148_60, s148_63, s148_66, s148_67, s148_69, s148_72, s148_75, s148_76, s148_78, s148_80, s148_83, s148_85, s148_88, s148_91, s148_93, s148_95, s148_96, s148_99, s148_100, s148_102, s148_105, s148_108, s148_109, s148_112, s148_113, s148_114, s148_116, s148_119, s148_122, s148_124, m_isCorner_y h1 k2 37 _ hc, m_isCorner_n h1 k2 37 _ hy, false_implies, true_implies, not_true_eq_false, not_false_eq_true, true_and, and_true, true_or, or_true, false_or, or_false, false_and, and_false, implies_true, nw_psh_s, nw_psh_n, ni_10, ni_00]
        exact hQ mm (nm_sc_rf mm)
    · rcases ix1 z (n := 100) (by decide) with hz | ⟨t, ht1, ht, rfl⟩
      · refine nP_same (r := -3) hX0 hM0 (fun Q hQ => ?_) (fun Q hQ => ?_)
        · by_cases q : z < 1
          · simp only [e91, s91_0, s91_1, s91_4, s91_5, s91_8, s91_11, s91_12, s91_15, s91_16, s91_19, s91_22, s91_24, s91_25, s91_26, s91_27, s91_30, s91_31, s91_33, s91_36, s91_38, s91_39, s91_40, s91_43, s91_44, s91_47, s91_48, s91_49, s91_50, s91_53, x_hasCorner_y (Or.inl rfl) h1 h2 38 _ hc, x_hasCorner_y (Or.inl rfl) h1 h2 38 _ ha, q, false_implies, true_implies, not_true_eq_false, not_false_eq_true, true_and, and_true, true_or, or_true, false_or, or_false, false_and, and_false, implies_true, nw_psh_s, nw_psh_n, ni_10, ni_00]
            exact hQ
          · have q2 : (z ≤ 99) = False := eq_false (fun y => by
              have := gt_lit_out (n := 99) (by decide) (hz.resolve_left q)
              rw [fa_lt] at this
              rw [fa_le] at y
              have h99 : (99 : Int32) = nI 99 := rfl
              rw [h99] at y
              omega)
            simp only [e91, s91_0, s91_1, s91_4, s91_5, s91_8, s91_11, s91_12, s91_15, s91_16, s91_19, s91_22, s91_24, s91_25, s91_26, s91_27, s91_30, s91_31, s91_33, s91_36, s91_38, s91_39, s91_40, s91_43, s91_44, s91_47, s91_48, s91_49, s91_50, s91_53, x_hasCorner_y (Or.inl rfl) h1 h2 38 _ hc, x_hasCorner_y (Or.inl rfl) h1 h2 38 _ ha, q, q2, false_implies, true_implies, not_true_eq_false, not_false_eq_true, true_and, and_true, true_or, or_true, false_or, or_false, false_and, and_false, implies_true, nw_psh_s, nw_psh_n, ni_10, ni_00]
            exact hQ
        · simp only [e148, s148_0, s148_1, s148_2, s148_5, s148_8, s148_9, s148_10, s148_13, s148_16, s148_18, s148_19, s148_20, s148_21, s148_22, s148_25, s148_28, s148_31, s148_33, s148_34, s148_35, s148_36, s148_37, s148_40, s148_41, s148_43, s148_44, s148_48, s148_49, s148_52, s148_53, s148_55, s148_56, s148_60, s148_63, s148_66, s148_67, s148_69, s148_72, s148_75, s148_76, s148_78, s148_80, s148_83, s148_85, s148_88, s148_91, s148_93, s148_95, s148_96, s148_99, s148_100, s148_102, s148_105, s148_108, s148_109, s148_112, s148_113, s148_114, s148_116, s148_119, s148_122, s148_124, m_isCorner_y h1 k2 37 _ hc, m_isCorner_y h1 k2 37 _ ha, lw_1, lw_99, hin, show (z < 1 ∨ (99 : Int32) < z) = True from in1_out (n := 99) (by decide) hz, if_true, false_implies, true_implies, not_true_eq_false, not_false_eq_true, true_and, and_true, true_or, or_true, false_or, or_false, false_and, and_false, implies_true, nw_psh_s, nw_psh_n, ni_10, ni_00]
          exact hQ mm (nm_sc_rf mm)
      · have z1 : (nI t < 1) = False := ni_lt_f (b := 1) ht1 (by omega)
        have z2 : (nI t ≤ 99) = True := ni_le_t (b := 99) (by omega) (by decide)
        have z3 : (nI t < 1 ∨ (99 : Int32) < nI t) = False := in1_in (n := 99) ht1 (by omega) (by decide)
        refine nP_same (r := nI (nt_shn T c a σ.1 t)) hX0 hM0 (fun Q hQ => ?_) (fun Q hQ => ?_)
        · simp only [e91, s91_0, s91_1, s91_4, s91_5, s91_8, s91_11, s91_12, s91_15, s91_16, s91_19, s91_22, s91_24, s91_25, s91_26, s91_27, s91_30, s91_31, s91_33, s91_36, s91_38, s91_39, s91_40, s91_43, s91_44, s91_47, s91_48, s91_49, s91_50, s91_53, x_hasCorner_y (Or.inl rfl) h1 h2 38 _ hc, x_hasCorner_y (Or.inl rfl) h1 h2 38 _ ha, z1, z2, e54, s54_0, s54_1, s54_3, s54_4, s54_6, s54_7, s54_11, s54_12, s54_15, s54_17, s54_18, s54_21, s54_23, s54_24, s54_28, s54_31, s54_34, s54_35, s54_37, s54_38, s54_41, s54_44, s54_47, s54_48, s54_50, s54_51, s54_54, s54_56, s54_59, s54_62, s54_64, s54_65, s54_68, s54_70, s54_72, s54_74, s54_77, s54_78, s54_80, s54_83, s54_86, s54_89, s54_92, s54_95, s54_97, false_implies, true_implies, not_true_eq_false, not_false_eq_true, true_and, and_true, true_or, or_true, false_or, or_false, false_and, and_false, implies_true, nw_psh_s, nw_psh_n, ni_10, ni_00]
          refine x_ends_out h1 h2 34 _ _ hc ha (by omega) ?_ t 0 _ σ none (by omega) h6 rfl (Or.inl rfl)
          simp only [e91, s91_0, s91_1, s91_4, s91_5, s91_8, s91_11, s91_12, s91_15, s91_16, s91_19, s91_22, s91_24, s91_25, s91_26, s91_27, s91_30, s91_31, s91_33, s91_36, s91_38, s91_39, s91_40, s91_43, s91_44, s91_47, s91_48, s91_49, s91_50, s91_53, false_implies, true_implies, not_true_eq_false, not_false_eq_true, true_and, and_true, true_or, or_true, false_or, or_false, false_and, and_false, implies_true, nw_psh_s, nw_psh_n, ni_10, ni_00]
          exact hQ
        · simp only [e148, s148_0, s148_1, s148_2, s148_5, s148_8, s148_9, s148_10, s148_13, s148_16, s148_18, s148_19, s148_20, s148_21, s148_22, s148_25, s148_28, s148_31, s148_33, s148_34, s148_35, s148_36, s148_37, s148_40, s148_41, s148_43, s148_44, s148_48, s148_49, s148_52, s148_53, s148_55, s148_56, s148_60, s148_63, s148_66, s148_67, s148_69, s148_72, s148_75, s148_76, s148_78, s148_80, s148_83, s148_85, s148_88, s148_91, s148_93, s148_95, s148_96, s148_99, s148_100, s148_102, s148_105, s148_108, s148_109, s148_112, s148_113, s148_114, s148_116, s148_119, s148_122, s148_124, m_isCorner_y h1 k2 37 _ hc, m_isCorner_y h1 k2 37 _ ha, lw_1, lw_99, hin, z3, if_false, false_implies, true_implies, not_true_eq_false, not_false_eq_true, true_and, and_true, true_or, or_true, false_or, or_false, false_and, and_false, implies_true, nw_psh_s, nw_psh_n, ni_10, ni_00]
          refine m_try h1 k4 38 _ (fun m1 ht2 => ?_)
          simp only [e148, s148_0, s148_1, s148_2, s148_5, s148_8, s148_9, s148_10, s148_13, s148_16, s148_18, s148_19, s148_20, s148_21, s148_22, s148_25, s148_28, s148_31, s148_33, s148_34, s148_35, s148_36, s148_37, s148_40, s148_41, s148_43, s148_44, s148_48, s148_49, s148_52, s148_53, s148_55, s148_56, s148_60, s148_63, s148_66, s148_67, s148_69, s148_72, s148_75, s148_76, s148_78, s148_80, s148_83, s148_85, s148_88, s148_91, s148_93, s148_95, s148_96, s148_99, s148_100, s148_102, s148_105, s148_108, s148_109, s148_112, s148_113, s148_114, s148_116, s148_119, s148_122, s148_124, false_implies, true_implies, not_true_eq_false, not_false_eq_true, true_and, and_true, true_or, or_true, false_or, or_false, false_and, and_false, implies_true, nw_psh_s, nw_psh_n, ni_10, ni_00]
          exact m_shares_out h1 k2 36 Q h5.1 hc ha (by omega) hQ t 0 m1 none none (by omega) (nm_tr_tv ht2) (Or.inl rfl) (Or.inl rfl)
