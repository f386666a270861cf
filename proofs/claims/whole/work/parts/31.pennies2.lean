/-! PENNIES: the reference -/
def nnx (last : Nat) : Nat → Nat → (Nat → Nat) → Option (Nat → Nat)
  | 0, _, _ => none
  | c + 1, left, f => if left = 0 then nnx last c (f c) (nf_up f c 0) else some (nf_up (nf_up f c (f c + 1)) last (left - 1))
def nnl (n : Nat) (l : List Nat) : Option (List Nat) := (nnx (n - 1) (n - 1) (l.getD (n - 1) 0) (nf_up (fun i => l.getD i 0) (n - 1) 0)).map (fun f => (List.range n).map f)
def nchk (n : Nat) : List Nat → List (List Nat) → Bool
  | l, [] => (nnl n l).isNone
  | l, l' :: ls => decide (nnl n l = some l') && nchk n l' ls
def nok (n p : Nat) : Bool := match ncomps n p with
  | [] => false
  | l :: ls => decide (l = List.replicate (n - 1) 0 ++ [p]) && nchk n l ls
theorem nok_all : ∀ n, n < 9 → ∀ p, p < 5 → 2 ≤ n → nok n p = true := by decide +kernel
/-- what is tried -/
def ntl (n : Nat) (l : List Nat) (m : nw_M) : Prop := ∀ i, i < n → m 10 i = nI (l.getD i 0)
theorem nl_getD {n i : Nat} (f : Nat → Nat) (h : i < n) : ((List.range n).map f).getD i 0 = f i := by
  rw [List.getD_eq_getElem?_getD, List.getElem?_map, List.getElem?_range h]
  rfl
theorem m_next_loop {T : nt_T} (hT : nt_ok T) {m0 : nw_M} (hm : nm_T T m0) (d : Nat) (Q : nw_K) (Z : Option (Nat → Nat)) (h0 : Z = none → ∀ m2, nm_sc m0 m2 → Q (some (.int 0)) m2) (h1 : ∀ f', Z = some f' → ∀ m2, nm_sc m0 m2 → (∀ i, i < nt_n T → m2 10 i = nI (f' i)) → Q (some (.int 1)) m2) :
    ∀ c left (f : Nat → Nat) m1, c < nt_n T → left < 2 ^ 30 → (∀ i, f i < 2 ^ 30) → nm_sc m0 m1 → (∀ i, i < nt_n T → m1 10 i = nI (f i)) → nnx (nt_n T - 1) c left f = Z → nw_Ev d nw_shM 143 Q 25 [some (.ref 0), some (.int (nI (nt_n T - 1))), some (.int (nI left)), some (.int (nI c - 1))] [] m1 := by
  have h8 := hT.2.1
  have h2 := hT.1
  intro c
  induction c with
  | zero =>
    intro left f m1 hc hl hf hs hm1 hZ
    have hZ' : none = Z := hZ
    rw [s143_25]
    simp only [e143, s143_0, s143_1, s143_4, s143_5, s143_6, s143_7, s143_8, s143_11, s143_12, s143_13, s143_14, s143_15, s143_16, s143_17, s143_18, s143_19, s143_22, s143_23, s143_24, s143_26, s143_29, s143_30, s143_33, s143_34, s143_37, s143_38, s143_39, s143_40, s143_41, s143_44, s143_45, s143_46, s143_47, s143_50, s143_53, s143_54, s143_57, s143_58, s143_59, s143_60, s143_63, s143_64, s143_65, s143_66, s143_67, s143_68, s143_69, s143_70, s143_73, s143_74, s143_75, s143_76, s143_77, s143_78, s143_79, show (nI 0 - 1 < 0) = True from eq_true (by decide), show ((0 : Int32) ≤ nI 0 - 1) = False from eq_false (by decide), false_implies, true_implies, not_true_eq_false, not_false_eq_true, true_and, and_true, true_or, or_true, false_or, or_false, false_and, and_false, implies_true, nw_psh_s, nw_psh_n, ni_10, ni_00]
    exact h0 hZ'.symm m1 hs
  | succ c ih =>
    intro left f m1 hc hl hf hs hm1 hZ
    have e1 : nI (c + 1) - 1 = nI c := nI_pred c
    have hn : (nI c < 0) = False := eq_false (nI_pos (by omega))
    have hge : ((0 : Int32) ≤ nI c) = True := eq_true (nI_le (a := 0) (Nat.zero_le c) (by omega))
    have hi : vp_in (nI c) 8 := vp_in_nI (by omega) (by decide)
    have hil : vp_in (nI (nt_n T - 1)) 8 := vp_in_nI (by omega) (by decide)
    unfold nnx at hZ
    rw [s143_25]
    by_cases hl0 : left = 0
    · rw [if_pos hl0] at hZ
      subst hl0
      have em : nI c + -1 = nI c - 1 := by rw [Int32.sub_eq_add_neg]
      simp only [e143, s143_0, s143_1, s143_4, s143_5, s143_6, s143_7, s143_8, s143_11, s143_12, s143_13, s143_14, s143_15, s143_16, s143_17, s143_18, s143_19, s143_22, s143_23, s143_24, s143_26, s143_29, s143_30, s143_33, s143_34, s143_37, s143_38, s143_39, s143_40, s143_41, s143_44, s143_45, s143_46, s143_47, s143_50, s143_53, s143_54, s143_57, s143_58, s143_59, s143_60, s143_63, s143_64, s143_65, s143_66, s143_67, s143_68, s143_69, s143_70, s143_73, s143_74, s143_75, s143_76, s143_77, s143_78, s143_79, e1, hn, show (nI 0 = 0) = True from eq_true rfl, hi, ni_cl (show c < 2 ^ 31 by omega), hm1 c (by omega), em, false_implies, true_implies, not_true_eq_false, not_false_eq_true, true_and, and_true, true_or, or_true, false_or, or_false, false_and, and_false, implies_true, nw_psh_s, nw_psh_n, ni_10, ni_00]
      refine ih (f c) _ _ (by omega) (hf c) (fun i => ?_) (nm_sc_tr hs (nm_sc_up (by omega))) (fun i hi => ?_) hZ
      · by_cases q : i = c
        · simp [nf_up, q]
        · simp only [nf_up, if_neg q]; exact hf i
      · rw [nw_up_at]
        by_cases q : i = c
        · simp only [q, and_self, if_true, nf_up]; rfl
        · rw [if_neg (by omega)]
          simp only [nf_up, if_neg q]
          exact hm1 i hi
    · rw [if_neg hl0] at hZ
      have hlz : (nI left = 0) = False := eq_false (ni_ne0 (by omega) (by omega))
      simp only [e143, s143_0, s143_1, s143_4, s143_5, s143_6, s143_7, s143_8, s143_11, s143_12, s143_13, s143_14, s143_15, s143_16, s143_17, s143_18, s143_19, s143_22, s143_23, s143_24, s143_26, s143_29, s143_30, s143_33, s143_34, s143_37, s143_38, s143_39, s143_40, s143_41, s143_44, s143_45, s143_46, s143_47, s143_50, s143_53, s143_54, s143_57, s143_58, s143_59, s143_60, s143_63, s143_64, s143_65, s143_66, s143_67, s143_68, s143_69, s143_70, s143_73, s143_74, s143_75, s143_76, s143_77, s143_78, s143_79, e1, hn, hge, hlz, hi, hil, ni_cl (show c < 2 ^ 31 by omega), ni_cl (show nt_n T - 1 < 2 ^ 31 by omega), hm1 c (by omega), ni_m1 (show 0 < left by omega), nI_1, false_implies, true_implies, not_true_eq_false, not_false_eq_true, true_and, and_true, true_or, or_true, false_or, or_false, false_and, and_false, implies_true, nw_psh_s, nw_psh_n, ni_10, ni_00]
      refine h1 _ hZ.symm _ (nm_sc_tr (nm_sc_tr hs (nm_sc_up (c := 10) (by omega))) (nm_sc_up (by omega))) (fun i hi => ?_)
      rw [nw_up_at]
      by_cases q : i = nt_n T - 1
      · simp only [q, and_self, if_true, nf_up]
      · rw [if_neg (by omega), nw_up_at]
        by_cases q2 : i = c
        · simp only [q2, and_self, if_true, nf_up, show (c = nt_n T - 1) = False from eq_false (by omega), if_false]
        · rw [if_neg (by omega)]
          simp only [nf_up, if_neg q, if_neg q2]
          exact hm1 i hi
theorem m_next {T : nt_T} (hT : nt_ok T) {m1 : nw_M} (hm : nm_T T m1) (d : Nat) (Q : nw_K) {l : List Nat} (hl : ntl (nt_n T) l m1) (hb : ∀ i, l.getD i 0 < 2 ^ 30) (h0 : nnl (nt_n T) l = none → ∀ m2, nm_sc m1 m2 → Q (some (.int 0)) m2) (h1 : ∀ l', nnl (nt_n T) l = some l' → ∀ m2, nm_sc m1 m2 → ntl (nt_n T) l' m2 → Q (some (.int 1)) m2) : nw_Ex (d + 1) nw_shM 143 [.ref 0] m1 Q := by
  have h8 := hT.2.1
  have h2 := hT.1
  have hil : vp_in (nI (nt_n T - 1)) 8 := vp_in_nI (by omega) (by decide)
  simp only [e143, s143_0, s143_1, s143_4, s143_5, s143_6, s143_7, s143_8, s143_11, s143_12, s143_13, s143_14, s143_15, s143_16, s143_17, s143_18, s143_19, s143_22, s143_23, s143_24, s143_26, s143_29, s143_30, s143_33, s143_34, s143_37, s143_38, s143_39, s143_40, s143_41, s143_44, s143_45, s143_46, s143_47, s143_50, s143_53, s143_54, s143_57, s143_58, s143_59, s143_60, s143_63, s143_64, s143_65, s143_66, s143_67, s143_68, s143_69, s143_70, s143_73, s143_74, s143_75, s143_76, s143_77, s143_78, s143_79, hm.1, ni_m1 (show 0 < nt_n T by omega), hil, ni_cl (show nt_n T - 1 < 2 ^ 31 by omega), hl (nt_n T - 1) (by omega), false_implies, true_implies, not_true_eq_false, not_false_eq_true, true_and, and_true, true_or, or_true, false_or, or_false, false_and, and_false, implies_true, nw_psh_s, nw_psh_n, ni_10, ni_00]
  refine m_next_loop hT hm d Q _ (fun hz m2 hs => h0 ?_ m2 hs) (fun f' hz m2 hs hm2 => h1 ((List.range (nt_n T)).map f') ?_ m2 hs (fun i hi => ?_)) (nt_n T - 1) _ (nf_up (fun i => l.getD i 0) (nt_n T - 1) 0) _ (by omega) (hb _) (fun i => ?_) (nm_sc_up (by omega)) (fun i hi => ?_) rfl
  · unfold nnl; rw [hz]; rfl
  · unfold nnl; rw [hz]; rfl
  · rw [hm2 i hi, nl_getD f' hi]
  · by_cases q : i = nt_n T - 1
    · simp [nf_up, q]
    · simp only [nf_up, if_neg q]; exact hb i
  · rw [nw_up_at]
    by_cases q : i = nt_n T - 1
    · simp only [q, and_self, if_true, nf_up]; rfl
    · rw [if_neg (by omega)]
      simp only [nf_up, if_neg q]
      exact hl i hi
theorem nl_cons (t : Nat) (ts : List Nat) (i : Nat) : (t :: ts).getD (i + 1) 0 = ts.getD i 0 := rfl
/-- what is tried, from the corner c on -/
def ntlc (c : Nat) (ts : List Nat) (m : nw_M) : Prop := ∀ i, i < ts.length → m 10 (c + i) = nI (ts.getD i 0)
theorem ntlc_cons {c t : Nat} {ts : List Nat} {m : nw_M} (h : ntlc c (t :: ts) m) : m 10 c = nI t ∧ ntlc (c + 1) ts m := by
  refine ⟨h 0 (by rw [List.length_cons]; omega), fun i hi => ?_⟩
  have := h (i + 1) (by rw [List.length_cons]; omega)
  rw [show c + (i + 1) = c + 1 + i by omega] at this
  exact this
theorem m_are {T : nt_T} (hT : nt_ok T) {m1 : nw_M} (hm : nm_T T m1) (d : Nat) (Q : nw_K) : ∀ (ts : List Nat) c (a : Bool), c + ts.length = nt_n T → ntlc c ts m1 → (∀ x, x ∈ ts → x ≤ 4) → Q (some (.int (if a && ngd T c ts then 1 else 0))) m1 → nw_Ev (d + 1) nw_shM 144 Q 4 [some (.ref 0), some (.int (if a then 1 else 0)), some (.int (nI c))] [] m1 := by
  have h8 := hT.2.1
  intro ts
  induction ts with
  | nil =>
    intro c a hc ht hb hQ
    have hc' : c = nt_n T := hc
    subst hc'
    rw [s144_4]
    simp only [e144, s144_0, s144_1, s144_2, s144_3, s144_5, s144_6, s144_9, s144_12, s144_13, s144_16, s144_17, s144_20, s144_21, s144_22, s144_25, s144_26, s144_27, s144_30, s144_33, s144_34, s144_37, s144_38, s144_39, s144_42, s144_45, s144_46, hm.1, ni_le_t (Nat.le_refl (nt_n T)) (show nt_n T < 2 ^ 31 by omega), false_implies, true_implies, not_true_eq_false, not_false_eq_true, true_and, and_true, true_or, or_true, false_or, or_false, false_and, and_false, implies_true, nw_psh_s, nw_psh_n, ni_10, ni_00]
    have : (a && ngd T (nt_n T) []) = a := by unfold ngd; rw [Bool.and_true]
    rw [this] at hQ
    exact ⟨by cases a <;> simp, hQ⟩
  | cons t ts ih =>
    intro c a hc ht hb hQ
    rw [List.length_cons] at hc
    obtain ⟨g1, g2⟩ := ntlc_cons ht
    have hi : vp_in (nI c) 8 := vp_in_nI (by omega) (by decide)
    have hle := ni_le_f (show c < nt_n T by omega) (show nt_n T < 2 ^ 31 by omega)
    have ht4 := hb t List.mem_cons_self
    have hh := fun a' => ih (c + 1) a' (by omega) g2 (fun x hx => hb x (List.mem_cons_of_mem _ hx))
    have hQ2 : Q (some (.int (if a && ((decide (t = 0) || nt_left T c) && ngd T (c + 1) ts) then 1 else 0))) m1 := hQ
    rw [← Bool.and_assoc] at hQ2
    have hgo := hh _ hQ2
    have hl := fun Q' => m_isLeft hT hm d Q' (c := c) (by omega)
    rw [s144_4]
    cases a with
    | false =>
      rw [Bool.false_and] at hgo
      simp only [e144, s144_0, s144_1, s144_2, s144_3, s144_5, s144_6, s144_9, s144_12, s144_13, s144_16, s144_17, s144_20, s144_21, s144_22, s144_25, s144_26, s144_27, s144_30, s144_33, s144_34, s144_37, s144_38, s144_39, s144_42, s144_45, s144_46, hm.1, hle, Bool.false_eq_true, if_false, nI_1, false_implies, true_implies, not_true_eq_false, not_false_eq_true, true_and, and_true, true_or, or_true, false_or, or_false, false_and, and_false, implies_true, nw_psh_s, nw_psh_n, ni_10, ni_00]
      exact hgo
    | true =>
      rw [Bool.true_and] at hgo
      by_cases ht0 : t = 0
      · subst ht0
        simp only [decide_true, Bool.true_or] at hgo
        simp only [e144, s144_0, s144_1, s144_2, s144_3, s144_5, s144_6, s144_9, s144_12, s144_13, s144_16, s144_17, s144_20, s144_21, s144_22, s144_25, s144_26, s144_27, s144_30, s144_33, s144_34, s144_37, s144_38, s144_39, s144_42, s144_45, s144_46, hm.1, hle, if_true, hi, ni_cl (show c < 2 ^ 31 by omega), g1, show (nI 0 = 0) = True from eq_true rfl, nI_1, false_implies, true_implies, not_true_eq_false, not_false_eq_true, true_and, and_true, true_or, or_true, false_or, or_false, false_and, and_false, implies_true, nw_psh_s, nw_psh_n, ni_10, ni_00]
        exact hgo
      · have htz : (nI t = 0) = False := eq_false (ni_ne0 (by omega) (by omega))
        rw [show decide (t = 0) = false from decide_eq_false ht0, Bool.false_or] at hgo
        by_cases hlf : nt_left T c = true
        · rw [hlf] at hgo
          simp only [e144, s144_0, s144_1, s144_2, s144_3, s144_5, s144_6, s144_9, s144_12, s144_13, s144_16, s144_17, s144_20, s144_21, s144_22, s144_25, s144_26, s144_27, s144_30, s144_33, s144_34, s144_37, s144_38, s144_39, s144_42, s144_45, s144_46, hm.1, hle, if_true, hi, ni_cl (show c < 2 ^ 31 by omega), g1, htz, hl, hlf, nI_1, false_implies, true_implies, not_true_eq_false, not_false_eq_true, true_and, and_true, true_or, or_true, false_or, or_false, false_and, and_false, implies_true, nw_psh_s, nw_psh_n, ni_10, ni_00]
          exact hgo
        · rw [(Bool.not_eq_true _).mp hlf] at hgo
          simp only [e144, s144_0, s144_1, s144_2, s144_3, s144_5, s144_6, s144_9, s144_12, s144_13, s144_16, s144_17, s144_20, s144_21, s144_22, s144_25, s144_26, s144_27, s144_30, s144_33, s144_34, s144_37, s144_38, s144_39, s144_42, s144_45, s144_46, hm.1, hle, if_true, hi, ni_cl (show c < 2 ^ 31 by omega), g1, htz, hl, hlf, if_false, Bool.false_eq_true, nI_1, false_implies, true_implies, not_true_eq_false, not_false_eq_true, true_and, and_true, true_or, or_true, false_or, or_false, false_and, and_false, implies_true, nw_psh_s, nw_psh_n, ni_10, ni_00]
          exact hgo
def nm_tg (T : nt_T) (mm : nw_M) (σ : nt_S) (m1 : nw_M) : Prop := nm_fr 42 mm m1 ∧ nm_S T 42 σ m1
theorem m_beat42g {T : nt_T} (hT : nt_ok T) {mm : nw_M} (hm : nm_T T mm) {σ : nt_S} (hok : nt_sok T σ) {m1 : nw_M} (h : nm_tg T mm σ m1) (d : Nat) (Q : nw_K) (hQ : ∀ m2, nm_tg T mm (nt_b1 T σ) m2 → Q none m2) : nw_Ex (d + 4) nw_shM 125 [.ref 0, .int 42] m1 Q :=
  m_beat hT (nm_T_fr hm h.1) (b := 42) (by decide) hok h.2 d Q (fun m2 hS hf _ => hQ m2 ⟨nm_fr_tr h.1 hf, hS⟩)
theorem m_firstAt_loopg {T : nt_T} (hT : nt_ok T) {mm : nw_M} (hm : nm_T T mm) (d : Nat) (Q : nw_K) {w c most : Nat} (hw : w < nt_m T) (hc : c < 8) (hmo : most < 2 ^ 30) :
    ∀ j b (σ : nt_S) m1, b + j = most → nt_sok T σ → nm_tg T mm σ m1 → (∀ m2, nm_fr 42 mm m2 → Q (some (.int (nz_o (nt_ft T (nt_isat w c) j σ b)))) m2) → nw_Ev (d + 4) nw_shM 132 Q 3 [some (.ref 0), some (.int (nI w)), some (.int (nI c)), some (.int (nI most)), some (.int (nI b))] [] m1 := by
  have h5 := hT.2.2.1
  have h8 := hT.2.1
  intro j
  induction j with
  | zero =>
    intro b σ m1 hb hok h hQ
    have hp := h.2.2 w hw
    have hlt := hok.2 w hw
    have hz : (50 : Int32) + nI w = nI (50 + w) := nI_add 50 w
    have hi : vp_in (nI (50 + w)) 70 := vp_in_nI (by omega) (by decide)
    unfold nt_ft at hQ
    have hq := hQ m1 h.1
    rw [s132_3]
    by_cases he : σ.2 w = c
    · rw [if_pos (show nt_isat w c σ = true from decide_eq_true he)] at hq
      simp only [e132, s132_0, s132_1, s132_5, s132_6, s132_9, s132_10, s132_13, s132_15, s132_16, s132_17, s132_18, s132_19, s132_22, s132_23, s132_25, s132_28, s132_31, s132_34, s132_35, s132_38, s132_40, s132_41, s132_42, s132_43, s132_44, s132_47, s132_49, s132_52, s132_53, ni_le_t (show most ≤ b by omega) (show b < 2 ^ 31 by omega), hz, hi, ni_cl (show 50 + w < 2 ^ 31 by omega), hp, ni_eq_t he, false_implies, true_implies, not_true_eq_false, not_false_eq_true, true_and, and_true, true_or, or_true, false_or, or_false, false_and, and_false, implies_true, nw_psh_s, nw_psh_n, ni_10, ni_00]
      exact hq
    · rw [if_neg (show ¬ nt_isat w c σ = true from fun q => he (of_decide_eq_true q))] at hq
      simp only [e132, s132_0, s132_1, s132_5, s132_6, s132_9, s132_10, s132_13, s132_15, s132_16, s132_17, s132_18, s132_19, s132_22, s132_23, s132_25, s132_28, s132_31, s132_34, s132_35, s132_38, s132_40, s132_41, s132_42, s132_43, s132_44, s132_47, s132_49, s132_52, s132_53, ni_le_t (show most ≤ b by omega) (show b < 2 ^ 31 by omega), hz, hi, ni_cl (show 50 + w < 2 ^ 31 by omega), hp, ni_eq_f he (show σ.2 w < 2 ^ 31 by omega) (show c < 2 ^ 31 by omega), false_implies, true_implies, not_true_eq_false, not_false_eq_true, true_and, and_true, true_or, or_true, false_or, or_false, false_and, and_false, implies_true, nw_psh_s, nw_psh_n, ni_10, ni_00]
      exact hq
  | succ j ih =>
    intro b σ m1 hb hok h hQ
    have hp := h.2.2 w hw
    have hlt := hok.2 w hw
    have hz : (50 : Int32) + nI w = nI (50 + w) := nI_add 50 w
    have hi : vp_in (nI (50 + w)) 70 := vp_in_nI (by omega) (by decide)
    unfold nt_ft at hQ
    rw [s132_3]
    by_cases he : σ.2 w = c
    · have hq := hQ m1 h.1
      rw [if_pos (show nt_isat w c σ = true from decide_eq_true he)] at hq
      simp only [e132, s132_0, s132_1, s132_5, s132_6, s132_9, s132_10, s132_13, s132_15, s132_16, s132_17, s132_18, s132_19, s132_22, s132_23, s132_25, s132_28, s132_31, s132_34, s132_35, s132_38, s132_40, s132_41, s132_42, s132_43, s132_44, s132_47, s132_49, s132_52, s132_53, ni_le_f (show b < most by omega) (show most < 2 ^ 31 by omega), hz, hi, ni_cl (show 50 + w < 2 ^ 31 by omega), hp, ni_eq_t he, false_implies, true_implies, not_true_eq_false, not_false_eq_true, true_and, and_true, true_or, or_true, false_or, or_false, false_and, and_false, implies_true, nw_psh_s, nw_psh_n, ni_10, ni_00]
      exact hq
    · rw [if_neg (show ¬ nt_isat w c σ = true from fun q => he (of_decide_eq_true q))] at hQ
      simp only [e132, s132_0, s132_1, s132_5, s132_6, s132_9, s132_10, s132_13, s132_15, s132_16, s132_17, s132_18, s132_19, s132_22, s132_23, s132_25, s132_28, s132_31, s132_34, s132_35, s132_38, s132_40, s132_41, s132_42, s132_43, s132_44, s132_47, s132_49, s132_52, s132_53, ni_le_f (show b < most by omega) (show most < 2 ^ 31 by omega), hz, hi, ni_cl (show 50 + w < 2 ^ 31 by omega), hp, ni_eq_f he (show σ.2 w < 2 ^ 31 by omega) (show c < 2 ^ 31 by omega), false_implies, true_implies, not_true_eq_false, not_false_eq_true, true_and, and_true, true_or, or_true, false_or, or_false, false_and, and_false, implies_true, nw_psh_s, nw_psh_n, ni_10, ni_00]
      refine m_beat42g hT hm hok h d _ (fun m2 h2 => ?_)
      simp only [e132, s132_0, s132_1, s132_5, s132_6, s132_9, s132_10, s132_13, s132_15, s132_16, s132_17, s132_18, s132_19, s132_22, s132_23, s132_25, s132_28, s132_31, s132_34, s132_35, s132_38, s132_40, s132_41, s132_42, s132_43, s132_44, s132_47, s132_49, s132_52, s132_53, nI_1, false_implies, true_implies, not_true_eq_false, not_false_eq_true, true_and, and_true, true_or, or_true, false_or, or_false, false_and, and_false, implies_true, nw_psh_s, nw_psh_n, ni_10, ni_00]
      exact ih (b + 1) _ m2 (by omega) (nt_b1_ok hT hok) h2 hQ
theorem m_firstAtg {T : nt_T} (hT : nt_ok T) {mm : nw_M} (hm : nm_T T mm) (d : Nat) (Q : nw_K) {w c most : Nat} (hw : w < nt_m T) (hc : c < 8) (hmo : most < 2 ^ 30) {σ : nt_S} {m1 : nw_M} (hok : nt_sok T σ) (h : nm_tg T mm σ m1) (hQ : ∀ m2, nm_fr 42 mm m2 → Q (some (.int (nz_o (nt_ft T (nt_isat w c) most σ 0)))) m2) : nw_Ex (d + 5) nw_shM 132 [.ref 0, .int (nI w), .int (nI c), .int (nI most)] m1 Q := by
  simp only [e132, s132_0, s132_1, s132_5, s132_6, s132_9, s132_10, s132_13, s132_15, s132_16, s132_17, s132_18, s132_19, s132_22, s132_23, s132_25, s132_28, s132_31, s132_34, s132_35, s132_38, s132_40, s132_41, s132_42, s132_43, s132_44, s132_47, s132_49, s132_52, s132_53]
  exact m_firstAt_loopg hT hm d Q hw hc hmo most 0 σ m1 (by omega) hok h hQ
theorem ntu1_ok {T : nt_T} {σ : nt_S} (h : nt_sok T σ) {c : Nat} (hw : 0 < nt_w T c) : nt_sok T (ntu1 T σ c) := by
  refine ⟨fun j => ?_, h.2⟩
  show (0 < nt_w T j → nf_up σ.1 c (nt_nv T c (σ.1 c)) j < nt_w T j) ∧ (nt_w T j = 0 → nf_up σ.1 c (nt_nv T c (σ.1 c)) j = 0)
  by_cases hj : j = c
  · subst hj
    refine ⟨fun _ => ?_, fun z => by omega⟩
    simp only [nf_up, if_true]
    exact nt_nv_lt hw
  · simp only [nf_up, if_neg hj]
    exact h.1 j
theorem nm_tg_up {T : nt_T} {mm m1 : nw_M} {σ : nt_S} {c : Nat} (hc : c < 8) (h : nm_tg T mm σ m1) : nm_tg T mm (ntu1 T σ c) (nw_up m1 1 (42 + c) (nI (nt_nv T c (σ.1 c)))) := by
  refine ⟨nm_fr_tr h.1 (nm_fr_up m1 _ (by omega) (by omega)), fun j hj => ?_, fun w hw => ?_⟩
  · rw [nw_up_at]
    show _ = nI (nf_up σ.1 c (nt_nv T c (σ.1 c)) j)
    by_cases hjc : j = c
    · simp [nf_up, hjc]
    · rw [if_neg (by omega)]
      simp only [nf_up, if_neg hjc]
      exact h.2.1 j hj
  · rw [nw_up_at, if_neg (by omega)]
    exact h.2.2 w hw
theorem m_comes_in {T : nt_T} (hT : nt_ok T) {mm : nw_M} (hm : nm_T T mm) (d : Nat) (Q : nw_K) (a1 a2 a3 : Int32) {c t : Nat} (hc : c < nt_n T) (hmt : mm 10 c = nI t) (ht4 : t ≤ 4) (hw : t = 0 ∨ nt_left T c = true) (σ : nt_S) :
    ∀ j k m1, k + j = t → nt_sok T (ntun T c k σ) → nm_tg T mm (ntun T c k σ) m1 → (∀ m2 k', nt_sok T (ntun T c t σ) → nm_tg T mm (ntun T c t σ) m2 → nw_Ev (d + 2) nw_shM 145 Q 57 [some (.ref 0), some (.int a1), some (.int a2), some (.int a3), some (.int (nI c)), some (.int k')] [] m2) → nw_Ev (d + 2) nw_shM 145 Q 21 [some (.ref 0), some (.int a1), some (.int a2), some (.int a3), some (.int (nI c)), some (.int (nI k))] [] m1 := by
  have h8 := hT.2.1
  have hi : vp_in (nI c) 8 := vp_in_nI (by omega) (by decide)
  intro j
  induction j with
  | zero =>
    intro k m1 hk hok h hQ
    have hk' : k = t := by omega
    subst hk'
    have hmt1 : m1 10 c = nI k := by rw [h.1 10 c (by omega)]; exact hmt
    rw [s145_21]
    simp only [e145, s145_0, s145_1, s145_2, s145_3, s145_6, s145_7, s145_11, s145_12, s145_15, s145_18, s145_19, s145_23, s145_24, s145_27, s145_29, s145_30, s145_33, s145_34, s145_37, s145_39, s145_41, s145_42, s145_43, s145_45, s145_47, s145_50, s145_51, s145_54, s145_60, s145_63, s145_64, s145_65, s145_66, s145_67, s145_70, s145_71, s145_74, s145_75, s145_78, s145_79, hi, ni_cl (show c < 2 ^ 31 by omega), hmt1, ni_le_t (Nat.le_refl k) (show k < 2 ^ 31 by omega), false_implies, true_implies, not_true_eq_false, not_false_eq_true, true_and, and_true, true_or, or_true, false_or, or_false, false_and, and_false, implies_true, nw_psh_s, nw_psh_n, ni_10, ni_00]
    exact hQ m1 _ hok h
  | succ j ih =>
    intro k m1 hk hok h hQ
    have hl : nt_left T c = true := hw.resolve_left (by omega)
    have hw0 := nt_left_w hl
    have h4 := (hT.2.2.2 c).2.1
    have hvc := (hok.1 c).1 hw0
    have hmt1 : m1 10 c = nI t := by rw [h.1 10 c (by omega)]; exact hmt
    have e42 : nI 42 + nI c = nI (42 + c) := nI_add 42 c
    have hi2 : vp_in (nI (42 + c)) 70 := vp_in_nI (by omega) (by decide)
    have hn := fun Q' => m_nextVane hT (nm_T_fr hm h.1) (b := 42) h.2.1 (by decide) d Q' (c := c) (by omega) hw0 (by omega)
    rw [s145_21]
    simp only [e145, s145_0, s145_1, s145_2, s145_3, s145_6, s145_7, s145_11, s145_12, s145_15, s145_18, s145_19, s145_23, s145_24, s145_27, s145_29, s145_30, s145_33, s145_34, s145_37, s145_39, s145_41, s145_42, s145_43, s145_45, s145_47, s145_50, s145_51, s145_54, s145_60, s145_63, s145_64, s145_65, s145_66, s145_67, s145_70, s145_71, s145_74, s145_75, s145_78, s145_79, hi, ni_cl (show c < 2 ^ 31 by omega), hmt1, ni_le_f (show k < t by omega) (show t < 2 ^ 31 by omega), e42, hi2, show (42 : Int32) = nI 42 from rfl, hn, ni_cl (show 42 + c < 2 ^ 31 by omega), nI_1, false_implies, true_implies, not_true_eq_false, not_false_eq_true, true_and, and_true, true_or, or_true, false_or, or_false, false_and, and_false, implies_true, nw_psh_s, nw_psh_n, ni_10, ni_00]
    exact ih (k + 1) _ (by omega) (ntu1_ok hok hw0) (nm_tg_up (by omega) h) hQ
theorem m_comes_out {T : nt_T} (hT : nt_ok T) {mm : nw_M} (hm : nm_T T mm) (d : Nat) (Q : nw_K) {w c most : Nat} (hw : w < nt_m T) (hc : c < 8) (hmo : most < 2 ^ 30) :
    ∀ (ts : List Nat) b (σ : nt_S) m1 (l5 : Option Value), b + ts.length = nt_n T → ntlc b ts mm → (∀ x, x ∈ ts → x ≤ 4) → ngd T b ts = true → nt_sok T σ → nm_tg T mm σ m1 → (l5 = none ∨ ∃ z, l5 = some (.int z)) → (∀ m2, nm_fr 42 mm m2 → Q (some (.int (if (nt_ft T (nt_isat w c) most (ntul T σ b ts) 0).isSome then 1 else 0))) m2) → nw_Ev (d + 5) nw_shM 145 Q 9 [some (.ref 0), some (.int (nI w)), some (.int (nI c)), some (.int (nI most)), some (.int (nI b)), l5] [] m1 := by
  have h8 := hT.2.1
  intro ts
  induction ts with
  | nil =>
    intro b σ m1 l5 hb ht h4 hg hok h hl5 hQ
    have hb' : b = nt_n T := hb
    subst hb'
    have hm1 := nm_T_fr hm h.1
    rw [s145_9]
    simp only [e145, s145_0, s145_1, s145_2, s145_3, s145_6, s145_7, s145_11, s145_12, s145_15, s145_18, s145_19, s145_23, s145_24, s145_27, s145_29, s145_30, s145_33, s145_34, s145_37, s145_39, s145_41, s145_42, s145_43, s145_45, s145_47, s145_50, s145_51, s145_54, s145_57, s145_60, s145_63, s145_64, s145_65, s145_66, s145_67, s145_70, s145_71, s145_74, s145_75, s145_78, s145_79, hm1.1, ni_le_t (Nat.le_refl (nt_n T)) (show nt_n T < 2 ^ 31 by omega), false_implies, true_implies, not_true_eq_false, not_false_eq_true, true_and, and_true, true_or, or_true, false_or, or_false, false_and, and_false, implies_true, nw_psh_s, nw_psh_n, ni_10, ni_00]
    refine m_firstAtg hT hm d _ hw hc hmo hok h (fun m2 h2 => ?_)
    have hQ2 := hQ m2 h2
    have hQ3 : Q (some (.int (if (nt_ft T (nt_isat w c) most σ 0).isSome then 1 else 0))) m2 := hQ2
    cases hft : nt_ft T (nt_isat w c) most σ 0 with
    | none =>
      rw [hft] at hQ3
      simp only [e145, s145_0, s145_1, s145_2, s145_3, s145_6, s145_7, s145_11, s145_12, s145_15, s145_18, s145_19, s145_23, s145_24, s145_27, s145_29, s145_30, s145_33, s145_34, s145_37, s145_39, s145_41, s145_42, s145_43, s145_45, s145_47, s145_50, s145_51, s145_54, s145_57, s145_60, s145_63, s145_64, s145_65, s145_66, s145_67, s145_70, s145_71, s145_74, s145_75, s145_78, s145_79, nz_o, false_implies, true_implies, not_true_eq_false, not_false_eq_true, true_and, and_true, true_or, or_true, false_or, or_false, false_and, and_false, implies_true, nw_psh_s, nw_psh_n, ni_10, ni_00]
      exact hQ3
    | some m =>
      obtain ⟨-, hle, -⟩ := nt_ft_ok T _ _ _ _ _ hft
      rw [hft] at hQ3
      simp only [e145, s145_0, s145_1, s145_2, s145_3, s145_6, s145_7, s145_11, s145_12, s145_15, s145_18, s145_19, s145_23, s145_24, s145_27, s145_29, s145_30, s145_33, s145_34, s145_37, s145_39, s145_41, s145_42, s145_43, s145_45, s145_47, s145_50, s145_51, s145_54, s145_57, s145_60, s145_63, s145_64, s145_65, s145_66, s145_67, s145_70, s145_71, s145_74, s145_75, s145_78, s145_79, nz_o, ni_ne_m1 (show m < 2 ^ 31 by omega), false_implies, true_implies, not_true_eq_false, not_false_eq_true, true_and, and_true, true_or, or_true, false_or, or_false, false_and, and_false, implies_true, nw_psh_s, nw_psh_n, ni_10, ni_00]
      exact hQ3
  | cons t ts ih =>
    intro b σ m1 l5 hb ht h4 hg hok h hl5 hQ
    rw [List.length_cons] at hb
    obtain ⟨g1, g2⟩ := ntlc_cons ht
    have hm1 := nm_T_fr hm h.1
    have hg' : ((decide (t = 0) || nt_left T b) && ngd T (b + 1) ts) = true := hg
    obtain ⟨q1, q2⟩ := Bool.and_eq_true_iff.mp hg'
    have q1' : t = 0 ∨ nt_left T b = true := (Bool.or_eq_true_iff.mp q1).imp of_decide_eq_true id
    have hin := m_comes_in hT hm (d + 3) Q (nI w) (nI c) (nI most) (c := b) (t := t) (by omega) g1 (h4 t List.mem_cons_self) q1' σ t 0 m1 (by omega) hok h (fun m2 k' hok2 h2 => by
      simp only [e145, s145_0, s145_1, s145_2, s145_3, s145_6, s145_7, s145_11, s145_12, s145_15, s145_18, s145_19, s145_23, s145_24, s145_27, s145_29, s145_30, s145_33, s145_34, s145_37, s145_39, s145_41, s145_42, s145_43, s145_45, s145_47, s145_50, s145_51, s145_54, s145_57, s145_60, s145_63, s145_64, s145_65, s145_66, s145_67, s145_70, s145_71, s145_74, s145_75, s145_78, s145_79, nI_1, false_implies, true_implies, not_true_eq_false, not_false_eq_true, true_and, and_true, true_or, or_true, false_or, or_false, false_and, and_false, implies_true, nw_psh_s, nw_psh_n, ni_10, ni_00]
      exact ih (b + 1) _ m2 _ (by omega) g2 (fun x hx => h4 x (List.mem_cons_of_mem _ hx)) q2 hok2 h2 (Or.inr ⟨_, rfl⟩) hQ)
    rw [s145_9]
    rcases hl5 with rfl | ⟨z, rfl⟩ <;>
    · simp only [e145, s145_0, s145_1, s145_2, s145_3, s145_6, s145_7, s145_11, s145_12, s145_15, s145_18, s145_19, s145_23, s145_24, s145_27, s145_29, s145_30, s145_33, s145_34, s145_37, s145_39, s145_41, s145_42, s145_43, s145_45, s145_47, s145_50, s145_51, s145_54, s145_57, s145_60, s145_63, s145_64, s145_65, s145_66, s145_67, s145_70, s145_71, s145_74, s145_75, s145_78, s145_79, hm1.1, ni_le_f (show b < nt_n T by omega) (show nt_n T < 2 ^ 31 by omega), false_implies, true_implies, not_true_eq_false, not_false_eq_true, true_and, and_true, true_or, or_true, false_or, or_false, false_and, and_false, implies_true, nw_psh_s, nw_psh_n, ni_10, ni_00]
      exact hin
theorem m_tryg {T : nt_T} (hT : nt_ok T) {mm : nw_M} {σ : nt_S} (hS : nm_S T 0 σ mm) (d : Nat) (Q : nw_K) (hQ : ∀ m1, nm_tg T mm σ m1 → Q none m1) : nw_Ex (d + 1) nw_shM 98 [.ref 0, .int 0, .int 3] mm Q :=
  m_copy (a := 0) (b := 3) (by decide) (by decide) (by decide) d Q (hQ _ ⟨nm_cp_fr _ 42 mm, nm_cp_S hT (a := 0) (b := 42) hS⟩)
theorem m_comes {T : nt_T} (hT : nt_ok T) {mm : nw_M} (hm : nm_T T mm) {σ : nt_S} (hok : nt_sok T σ) (hS : nm_S T 0 σ mm) (d : Nat) (Q : nw_K) {w c most : Nat} (hw : w < nt_m T) (hc : c < 8) (hmo : most < 2 ^ 30) {l : List Nat} (hl : l.length = nt_n T) (ht : ntl (nt_n T) l mm) (h4 : ∀ x, x ∈ l → x ≤ 4) (hg : ngd T 0 l = true) (hQ : ∀ m2, nm_fr 42 mm m2 → Q (some (.int (if (nt_ft T (nt_isat w c) most (ntul T σ 0 l) 0).isSome then 1 else 0))) m2) : nw_Ex (d + 6) nw_shM 145 [.ref 0, .int (nI w), .int (nI c), .int (nI most)] mm Q := by
  have hlc : ntlc 0 l mm := fun i hi => by rw [Nat.zero_add]; exact ht i (by omega)
  simp only [e145, s145_0, s145_1, s145_2, s145_3, s145_6, s145_7, s145_11, s145_12, s145_15, s145_18, s145_19, s145_23, s145_24, s145_27, s145_29, s145_30, s145_33, s145_34, s145_37, s145_39, s145_41, s145_42, s145_43, s145_45, s145_47, s145_50, s145_51, s145_54, s145_57, s145_60, s145_63, s145_64, s145_65, s145_66, s145_67, s145_70, s145_71, s145_74, s145_75, s145_78, s145_79, false_implies, true_implies, not_true_eq_false, not_false_eq_true, true_and, and_true, true_or, or_true, false_or, or_false, false_and, and_false, implies_true, nw_psh_s, nw_psh_n, ni_10, ni_00]
  refine m_tryg hT hS (d + 4) _ (fun m1 h1 => ?_)
  simp only [e145, s145_0, s145_1, s145_2, s145_3, s145_6, s145_7, s145_11, s145_12, s145_15, s145_18, s145_19, s145_23, s145_24, s145_27, s145_29, s145_30, s145_33, s145_34, s145_37, s145_39, s145_41, s145_42, s145_43, s145_45, s145_47, s145_50, s145_51, s145_54, s145_57, s145_60, s145_63, s145_64, s145_65, s145_66, s145_67, s145_70, s145_71, s145_74, s145_75, s145_78, s145_79, false_implies, true_implies, not_true_eq_false, not_false_eq_true, true_and, and_true, true_or, or_true, false_or, or_false, false_and, and_false, implies_true, nw_psh_s, nw_psh_n, ni_10, ni_00]
  exact m_comes_out hT hm d Q hw hc hmo l 0 σ m1 none (by omega) hlc h4 hg hok h1 (Or.inl rfl) hQ
