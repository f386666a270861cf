/-! PAST -/
def nfo (op : Int32 → Int32 → Int32) (F : Nat → Int32) : Nat → Int32
  | 0 => 0
  | k + 1 => op (nfo op F k) (F k)
theorem nfo_cong {op : Int32 → Int32 → Int32} {F G : Nat → Int32} : ∀ m, (∀ i, i < m → F i = G i) → nfo op F m = nfo op G m
  | 0, _ => rfl
  | m + 1, h => by
    show op (nfo op F m) (F m) = op (nfo op G m) (G m)
    rw [nfo_cong m (fun i hi => h i (by omega)), h m (by omega)]
theorem nfo_zero {op : Int32 → Int32 → Int32} (h0 : ∀ x, op x 0 = x) : ∀ m, nfo op (fun _ => 0) m = 0
  | 0 => rfl
  | m + 1 => by
    show op (nfo op (fun _ => 0) m) 0 = 0
    rw [h0, nfo_zero h0 m]
theorem nfo_add {op : Int32 → Int32 → Int32} (h0 : ∀ x, op x 0 = x) (ha : ∀ x y z, op (op x y) z = op x (op y z)) (F : Nat → Int32) (a : Nat) : ∀ b, nfo op F (a + b) = op (nfo op F a) (nfo op (fun r => F (a + r)) b)
  | 0 => (h0 _).symm
  | b + 1 => by
    show op (nfo op F (a + b)) (F (a + b)) = op (nfo op F a) (op (nfo op (fun r => F (a + r)) b) (F (a + b)))
    rw [nfo_add h0 ha F a b, ha]
theorem nfo_mul {op : Int32 → Int32 → Int32} (h0 : ∀ x, op x 0 = x) (ha : ∀ x y z, op (op x y) z = op x (op y z)) (F : Nat → Int32) (b : Nat) : ∀ a, nfo op F (a * b) = nfo op (fun c => nfo op (fun r => F (c * b + r)) b) a
  | 0 => by rw [Nat.zero_mul]; rfl
  | a + 1 => by
    rw [Nat.succ_mul, nfo_add h0 ha, nfo_mul h0 ha F b a]
    rfl
/-- can one have left c; how it stood before -/
def nt_cb (T : nt_T) (q : nq) (c : Nat) : Bool := nt_left T c && decide (nt_e T c (q.1 c) = q.2)
def nt_bk (T : nt_T) (q : nq) (c : Nat) : nq := (nf_up q.1 c (nt_pv T c (q.1 c)), c)
theorem nt_bk_ok {T : nt_T} {q : nq} (hv : nt_vok T q.1) {c : Nat} (hw : 0 < nt_w T c) : nt_vok T (nt_bk T q c).1 := by
  intro j
  show (0 < nt_w T j → nf_up q.1 c (nt_pv T c (q.1 c)) j < nt_w T j) ∧ (nt_w T j = 0 → nf_up q.1 c (nt_pv T c (q.1 c)) j = 0)
  by_cases h : j = c
  · subst h
    refine ⟨fun _ => ?_, fun z => by omega⟩
    simp only [nf_up, if_true]
    exact Nat.mod_lt _ hw
  · simp only [nf_up, if_neg h]
    exact hv j
def nt_pr (T : nt_T) (op : Int32 → Int32 → Int32) (z : Nat → Int32) : Nat → nq → Int32
  | 0, q => z q.2
  | k + 1, q => nfo op (fun c => if nt_cb T q c then nt_pr T op z k (nt_bk T q c) else 0) (nt_n T)
def nt_ws (T : nt_T) : Nat → nq → Nat → Option Nat
  | 0, q, _ => some q.2
  | k + 1, q, v => if nt_cb T q (v / nt_n T ^ k % nt_n T) then nt_ws T k (nt_bk T q (v / nt_n T ^ k % nt_n T)) v else none
def nt_wz (z : Nat → Int32) : Option Nat → Int32
  | none => 0
  | some a => z a
theorem nt_ws_s (T : nt_T) (k : Nat) (q : nq) (v : Nat) : nt_ws T (k + 1) q v = if nt_cb T q (v / nt_n T ^ k % nt_n T) then nt_ws T k (nt_bk T q (v / nt_n T ^ k % nt_n T)) v else none := rfl
theorem nt_ws_cong (T : nt_T) {v w : Nat} : ∀ k (q : nq), (∀ i, i < k → v / nt_n T ^ i % nt_n T = w / nt_n T ^ i % nt_n T) → nt_ws T k q v = nt_ws T k q w
  | 0, _, _ => rfl
  | k + 1, q, h => by
    unfold nt_ws
    rw [h k (by omega)]
    split
    · exact nt_ws_cong T k _ (fun i hi => h i (by omega))
    · rfl
theorem nt_dg {n : Nat} (hn : 0 < n) (c r : Nat) {i k : Nat} (h : i < k) : (c * n ^ k + r) / n ^ i % n = r / n ^ i % n := by
  obtain ⟨j, rfl⟩ := Nat.exists_eq_add_of_lt h
  have e : c * n ^ (i + j + 1) + r = r + n ^ i * (c * n ^ j * n) := by
    rw [Nat.pow_succ, Nat.pow_add]
    have : c * (n ^ i * n ^ j * n) = n ^ i * (c * n ^ j * n) := by
      simp only [Nat.mul_assoc, Nat.mul_comm, Nat.mul_left_comm]
    omega
  rw [e, Nat.add_mul_div_left _ _ (Nat.pow_pos hn), Nat.add_mul_mod_self_right]
theorem nt_pr_eq {T : nt_T} (hn : 0 < nt_n T) {op : Int32 → Int32 → Int32} (h0 : ∀ x, op x 0 = x) (h1 : ∀ x, op 0 x = x) (ha : ∀ x y z, op (op x y) z = op x (op y z)) (z : Nat → Int32) : ∀ k (q : nq), nfo op (fun v => nt_wz z (nt_ws T k q v)) (nt_n T ^ k) = nt_pr T op z k q
  | 0, q => by
    rw [Nat.pow_zero]
    exact h1 _
  | k + 1, q => by
    rw [Nat.pow_succ, Nat.mul_comm, nfo_mul h0 ha]
    unfold nt_pr
    refine nfo_cong _ (fun c hc => ?_)
    have hp : 0 < nt_n T ^ k := Nat.pow_pos hn
    have hd : ∀ r, r < nt_n T ^ k → (c * nt_n T ^ k + r) / nt_n T ^ k % nt_n T = c := fun r hr => by
      rw [Nat.add_comm, Nat.add_mul_div_right _ _ hp, Nat.div_eq_of_lt hr, Nat.zero_add, Nat.mod_eq_of_lt hc]
    by_cases hb : nt_cb T q c = true
    · rw [if_pos hb, ← nt_pr_eq hn h0 h1 ha z k]
      refine nfo_cong _ (fun r hr => ?_)
      show nt_wz z (nt_ws T (k + 1) q (c * nt_n T ^ k + r)) = _
      rw [nt_ws_s, hd r hr, if_pos hb, nt_ws_cong T k _ (fun i hi => nt_dg hn c r hi)]
    · rw [if_neg hb, ← nfo_zero h0 (nt_n T ^ k)]
      refine nfo_cong _ (fun r hr => ?_)
      show nt_wz z (nt_ws T (k + 1) q (c * nt_n T ^ k + r)) = _
      rw [nt_ws_s, hd r hr, if_neg hb]
      rfl
theorem x_canLeft {T : nt_T} (hT : nt_ok T) {mem : nw_M} (hm : nx_T 4 T mem) (d : Nat) (Q : nw_K) {s : Int32} {q : nq} (hs : nx_S s (na q)) (hv : nt_vok T q.1) {c : Nat} (hc : c < nt_n T) : nw_Ex (d + 5) nw_shX 57 [.ref 4, .int s, .int (nI c)] mem Q = Q (some (.int (if nt_cb T q c then 1 else 0))) mem := by
  have h8 := hT.2.1
  have hl := fun Q' => x_isLeft hT hm (d + 2) Q' (c := c) (by omega)
  unfold nt_cb
  by_cases h : nt_left T c = true
  · have hvc : (na q).1 c < nt_w T c := (hv c).1 (nt_left_w h)
    have he := (hT.2.2.2 c).2.2.2 _ hvc
    have hlt := na_lt hs
    have hsh := fun Q' => x_shownEnd hT hm d Q' hs (c := c) (by omega) hvc
    by_cases h2 : nt_e T c (q.1 c) = q.2
    · simp only [e57, s57_0, s57_1, s57_2, s57_5, s57_8, s57_9, s57_10, s57_11, s57_14, s57_15, s57_16, s57_19, s57_22, s57_23, s57_26, s57_27, hl, h, if_true, hsh, x_place0 _ _ hs, ni_eq_t (show nt_e T c ((na q).1 c) = q.2 from h2), h2, decide_true, Bool.and_self, false_implies, true_implies, not_true_eq_false, not_false_eq_true, true_and, and_true, true_or, or_true, false_or, or_false, false_and, and_false, implies_true, nw_psh_s, nw_psh_n, ni_10, ni_00]
    · have hne := ni_eq_f (show ¬ nt_e T c ((na q).1 c) = q.2 from h2) (by omega) (show q.2 < 2 ^ 31 by omega)
      simp only [e57, s57_0, s57_1, s57_2, s57_5, s57_8, s57_9, s57_10, s57_11, s57_14, s57_15, s57_16, s57_19, s57_22, s57_23, s57_26, s57_27, hl, h, if_true, hsh, x_place0 _ _ hs, hne, h2, decide_false, Bool.and_false, Bool.false_eq_true, if_false, false_implies, true_implies, not_true_eq_false, not_false_eq_true, true_and, and_true, true_or, or_true, false_or, or_false, false_and, and_false, implies_true, nw_psh_s, nw_psh_n, ni_10, ni_00]
  · simp only [e57, s57_0, s57_1, s57_2, s57_5, s57_8, s57_9, s57_10, s57_11, s57_14, s57_15, s57_16, s57_19, s57_22, s57_23, s57_26, s57_27, hl, h, if_false, Bool.false_and, Bool.false_eq_true, false_implies, true_implies, not_true_eq_false, not_false_eq_true, true_and, and_true, true_or, or_true, false_or, or_false, false_and, and_false, implies_true, nw_psh_s, nw_psh_n, ni_10, ni_00]
theorem nx_back {T : nt_T} (hT : nt_ok T) {s : Int32} {q : nq} (hs : nx_S s (na q)) {c : Nat} (hc : c < 8) (hw : 0 < nt_w T c) : nx_S (ns_sp (ns_sv s c (nt_pv T c ((na q).1 c)) &&& 65535) 0 c) (na (nt_bk T q c)) := by
  have h4 := (hT.2.2.2 c).2.1
  have hp : nt_pv T c ((na q).1 c) < nt_w T c := Nat.mod_lt _ hw
  exact na_from (nx_S_sv hs hc (show nt_pv T c ((na q).1 c) < 4 by omega)) hc
theorem nt_cb_w {T : nt_T} {q : nq} {c : Nat} (h : nt_cb T q c = true) : 0 < nt_w T c := by
  unfold nt_cb at h
  exact nt_left_w (Bool.and_eq_true_iff.mp h).1
theorem x_pastRows {T : nt_T} (hT : nt_ok T) {mem : nw_M} (hm : nx_T 4 T mem) : ∀ k d (Q : nw_K) (q : nq) (s : Int32), k ≤ 6 → nx_S s (na q) → nt_vok T q.1 → nw_Ex (d + k + 6) nw_shX 55 [.ref 4, .int s, .int (nI k)] mem Q = Q (some (.int (nt_pr T (· + ·) (fun _ => 1) k q))) mem := by
  have h8 := hT.2.1
  have hn := hm.1
  intro k
  induction k with
  | zero =>
    intro d Q q s _ hs hv
    simp only [e55, s55_0, s55_1, s55_4, s55_5, s55_6, s55_7, s55_8, s55_9, s55_13, s55_14, s55_17, s55_20, s55_21, s55_22, s55_24, s55_27, s55_30, s55_31, s55_32, s55_33, s55_34, s55_36, s55_39, s55_41, s55_44, s55_45, s55_46, s55_47, s55_50, s55_51, s55_52, s55_55, s55_58, s55_59, show (nI 0 ≤ 0) = True from eq_true (by decide), show ((0 : Int32) < nI 0) = False from eq_false (by decide), false_implies, true_implies, not_true_eq_false, not_false_eq_true, true_and, and_true, true_or, or_true, false_or, or_false, false_and, and_false, implies_true, nw_psh_s, nw_psh_n, ni_10, ni_00]
    rfl
  | succ k ih =>
    intro d Q q s hk hs hv
    have hlp : ∀ j c, c + j = nt_n T → nw_Ev (d + k + 6) nw_shX 55 Q 11 [some (.ref 4), some (.int s), some (.int (nI (k + 1))), some (.int (nfo (· + ·) (fun c => if nt_cb T q c then nt_pr T (· + ·) (fun _ => 1) k (nt_bk T q c) else 0) c)), some (.int (nI c))] [] mem = Q (some (.int (nt_pr T (· + ·) (fun _ => 1) (k + 1) q))) mem := by
      intro j
      induction j with
      | zero =>
        intro c hc
        have hc' : c = nt_n T := by omega
        subst hc'
        rw [s55_11]
        simp only [e55, s55_0, s55_1, s55_4, s55_5, s55_6, s55_7, s55_8, s55_9, s55_13, s55_14, s55_17, s55_20, s55_21, s55_22, s55_24, s55_27, s55_30, s55_31, s55_32, s55_33, s55_34, s55_36, s55_39, s55_41, s55_44, s55_45, s55_46, s55_47, s55_50, s55_51, s55_52, s55_55, s55_58, s55_59, hn, ni_le_t (Nat.le_refl (nt_n T)) (show nt_n T < 2 ^ 31 by omega), false_implies, true_implies, not_true_eq_false, not_false_eq_true, true_and, and_true, true_or, or_true, false_or, or_false, false_and, and_false, implies_true, nw_psh_s, nw_psh_n, ni_10, ni_00]
        rfl
      | succ j ihj =>
        intro c hc
        have hh := ihj (c + 1) (by omega)
        have hcl := fun Q' => x_canLeft hT hm (d + k + 1) Q' hs hv (show c < nt_n T by omega)
        have hle := ni_le_f (show c < nt_n T by omega) (show nt_n T < 2 ^ 31 by omega)
        rw [show nfo (· + ·) (fun c => if nt_cb T q c then nt_pr T (· + ·) (fun _ => 1) k (nt_bk T q c) else 0) (c + 1) = nfo (· + ·) (fun c => if nt_cb T q c then nt_pr T (· + ·) (fun _ => 1) k (nt_bk T q c) else 0) c + (if nt_cb T q c then nt_pr T (· + ·) (fun _ => 1) k (nt_bk T q c) else 0) from rfl] at hh
        rw [s55_11]
        by_cases hb : nt_cb T q c = true
        · rw [if_pos hb] at hh
          have hw := nt_cb_w hb
          have hun := fun Q' => x_unturned hT hm (d + k + 3) Q' hs (c := c) (by omega) hw
          have hfr := fun Q' s' => x_from (d + k + 4) Q' s' c mem
          have hrec := fun Q' => ih d Q' (nt_bk T q c) _ (by omega) (nx_back hT hs (c := c) (by omega) hw) (nt_bk_ok hv hw)
          simp only [e55, s55_0, s55_1, s55_4, s55_5, s55_6, s55_7, s55_8, s55_9, s55_13, s55_14, s55_17, s55_20, s55_21, s55_22, s55_24, s55_27, s55_30, s55_31, s55_32, s55_33, s55_34, s55_36, s55_39, s55_41, s55_44, s55_45, s55_46, s55_47, s55_50, s55_51, s55_52, s55_55, s55_58, s55_59, hn, hle, hcl, hb, if_true, hun, hfr, ni_m1 (show 0 < k + 1 by omega), Nat.add_sub_cancel, hrec, nI_1, false_implies, true_implies, not_true_eq_false, not_false_eq_true, true_and, and_true, true_or, or_true, false_or, or_false, false_and, and_false, implies_true, nw_psh_s, nw_psh_n, ni_10, ni_00]
          exact hh
        · rw [if_neg hb, Int32.add_zero] at hh
          simp only [e55, s55_0, s55_1, s55_4, s55_5, s55_6, s55_7, s55_8, s55_9, s55_13, s55_14, s55_17, s55_20, s55_21, s55_22, s55_24, s55_27, s55_30, s55_31, s55_32, s55_33, s55_34, s55_36, s55_39, s55_41, s55_44, s55_45, s55_46, s55_47, s55_50, s55_51, s55_52, s55_55, s55_58, s55_59, hn, hle, hcl, hb, if_false, Bool.false_eq_true, nI_1, false_implies, true_implies, not_true_eq_false, not_false_eq_true, true_and, and_true, true_or, or_true, false_or, or_false, false_and, and_false, implies_true, nw_psh_s, nw_psh_n, ni_10, ni_00]
          exact hh
    have h := hlp (nt_n T) 0 (by omega)
    have hp : ((0 : Int32) < nI (k + 1)) = True := eq_true (nI_lt (a := 0) (by omega) (by omega))
    have hp2 : (nI (k + 1) ≤ 0) = False := ni_le_f (b := 0) (by omega) (by omega)
    simp only [e55, s55_0, s55_1, s55_4, s55_5, s55_6, s55_7, s55_8, s55_9, s55_13, s55_14, s55_17, s55_20, s55_21, s55_22, s55_24, s55_27, s55_30, s55_31, s55_32, s55_33, s55_34, s55_36, s55_39, s55_41, s55_44, s55_45, s55_46, s55_47, s55_50, s55_51, s55_52, s55_55, s55_58, s55_59, hp, hp2, false_implies, true_implies, not_true_eq_false, not_false_eq_true, true_and, and_true, true_or, or_true, false_or, or_false, false_and, and_false, implies_true, nw_psh_s, nw_psh_n, ni_10, ni_00]
    exact h
theorem x_pastCorners {T : nt_T} (hT : nt_ok T) {mem : nw_M} (hm : nx_T 4 T mem) : ∀ k d (Q : nw_K) (q : nq) (s : Int32), k ≤ 6 → nx_S s (na q) → nt_vok T q.1 → nw_Ex (d + k + 6) nw_shX 56 [.ref 4, .int s, .int (nI k)] mem Q = Q (some (.int (nt_pr T (· ||| ·) (fun a => 1 <<< (nI a &&& 31)) k q))) mem := by
  have h8 := hT.2.1
  have hn := hm.1
  intro k
  induction k with
  | zero =>
    intro d Q q s _ hs hv
    simp only [e56, s56_0, s56_1, s56_4, s56_5, s56_6, s56_7, s56_10, s56_11, s56_12, s56_13, s56_14, s56_15, s56_19, s56_20, s56_23, s56_26, s56_27, s56_28, s56_30, s56_33, s56_36, s56_37, s56_38, s56_39, s56_40, s56_42, s56_45, s56_47, s56_50, s56_51, s56_52, s56_53, s56_56, s56_57, s56_58, s56_61, s56_64, s56_65, x_place0 _ _ hs, show (nI 0 ≤ 0) = True from eq_true (by decide), show ((0 : Int32) < nI 0) = False from eq_false (by decide), false_implies, true_implies, not_true_eq_false, not_false_eq_true, true_and, and_true, true_or, or_true, false_or, or_false, false_and, and_false, implies_true, nw_psh_s, nw_psh_n, ni_10, ni_00]
    rfl
  | succ k ih =>
    intro d Q q s hk hs hv
    have hlp : ∀ j c, c + j = nt_n T → nw_Ev (d + k + 6) nw_shX 56 Q 17 [some (.ref 4), some (.int s), some (.int (nI (k + 1))), some (.int (nfo (· ||| ·) (fun c => if nt_cb T q c then nt_pr T (· ||| ·) (fun a => 1 <<< (nI a &&& 31)) k (nt_bk T q c) else 0) c)), some (.int (nI c))] [] mem = Q (some (.int (nt_pr T (· ||| ·) (fun a => 1 <<< (nI a &&& 31)) (k + 1) q))) mem := by
      intro j
      induction j with
      | zero =>
        intro c hc
        have hc' : c = nt_n T := by omega
        subst hc'
        rw [s56_17]
        simp only [e56, s56_0, s56_1, s56_4, s56_5, s56_6, s56_7, s56_10, s56_11, s56_12, s56_13, s56_14, s56_15, s56_19, s56_20, s56_23, s56_26, s56_27, s56_28, s56_30, s56_33, s56_36, s56_37, s56_38, s56_39, s56_40, s56_42, s56_45, s56_47, s56_50, s56_51, s56_52, s56_53, s56_56, s56_57, s56_58, s56_61, s56_64, s56_65, hn, ni_le_t (Nat.le_refl (nt_n T)) (show nt_n T < 2 ^ 31 by omega), false_implies, true_implies, not_true_eq_false, not_false_eq_true, true_and, and_true, true_or, or_true, false_or, or_false, false_and, and_false, implies_true, nw_psh_s, nw_psh_n, ni_10, ni_00]
        rfl
      | succ j ihj =>
        intro c hc
        have hh := ihj (c + 1) (by omega)
        have hcl := fun Q' => x_canLeft hT hm (d + k + 1) Q' hs hv (show c < nt_n T by omega)
        have hle := ni_le_f (show c < nt_n T by omega) (show nt_n T < 2 ^ 31 by omega)
        rw [show nfo (· ||| ·) (fun c => if nt_cb T q c then nt_pr T (· ||| ·) (fun a => 1 <<< (nI a &&& 31)) k (nt_bk T q c) else 0) (c + 1) = nfo (· ||| ·) (fun c => if nt_cb T q c then nt_pr T (· ||| ·) (fun a => 1 <<< (nI a &&& 31)) k (nt_bk T q c) else 0) c ||| (if nt_cb T q c then nt_pr T (· ||| ·) (fun a => 1 <<< (nI a &&& 31)) k (nt_bk T q c) else 0) from rfl] at hh
        rw [s56_17]
        by_cases hb : nt_cb T q c = true
        · rw [if_pos hb] at hh
          have hw := nt_cb_w hb
          have hun := fun Q' => x_unturned hT hm (d + k + 3) Q' hs (c := c) (by omega) hw
          have hfr := fun Q' s' => x_from (d + k + 4) Q' s' c mem
          have hrec := fun Q' => ih d Q' (nt_bk T q c) _ (by omega) (nx_back hT hs (c := c) (by omega) hw) (nt_bk_ok hv hw)
          simp only [e56, s56_0, s56_1, s56_4, s56_5, s56_6, s56_7, s56_10, s56_11, s56_12, s56_13, s56_14, s56_15, s56_19, s56_20, s56_23, s56_26, s56_27, s56_28, s56_30, s56_33, s56_36, s56_37, s56_38, s56_39, s56_40, s56_42, s56_45, s56_47, s56_50, s56_51, s56_52, s56_53, s56_56, s56_57, s56_58, s56_61, s56_64, s56_65, hn, hle, hcl, hb, if_true, hun, hfr, ni_m1 (show 0 < k + 1 by omega), Nat.add_sub_cancel, hrec, nI_1, false_implies, true_implies, not_true_eq_false, not_false_eq_true, true_and, and_true, true_or, or_true, false_or, or_false, false_and, and_false, implies_true, nw_psh_s, nw_psh_n, ni_10, ni_00]
          exact hh
        · rw [if_neg hb, Int32.or_zero] at hh
          simp only [e56, s56_0, s56_1, s56_4, s56_5, s56_6, s56_7, s56_10, s56_11, s56_12, s56_13, s56_14, s56_15, s56_19, s56_20, s56_23, s56_26, s56_27, s56_28, s56_30, s56_33, s56_36, s56_37, s56_38, s56_39, s56_40, s56_42, s56_45, s56_47, s56_50, s56_51, s56_52, s56_53, s56_56, s56_57, s56_58, s56_61, s56_64, s56_65, hn, hle, hcl, hb, if_false, Bool.false_eq_true, nI_1, false_implies, true_implies, not_true_eq_false, not_false_eq_true, true_and, and_true, true_or, or_true, false_or, or_false, false_and, and_false, implies_true, nw_psh_s, nw_psh_n, ni_10, ni_00]
          exact hh
    have h := hlp (nt_n T) 0 (by omega)
    have hp : ((0 : Int32) < nI (k + 1)) = True := eq_true (nI_lt (a := 0) (by omega) (by omega))
    have hp2 : (nI (k + 1) ≤ 0) = False := ni_le_f (b := 0) (by omega) (by omega)
    simp only [e56, s56_0, s56_1, s56_4, s56_5, s56_6, s56_7, s56_10, s56_11, s56_12, s56_13, s56_14, s56_15, s56_19, s56_20, s56_23, s56_26, s56_27, s56_28, s56_30, s56_33, s56_36, s56_37, s56_38, s56_39, s56_40, s56_42, s56_45, s56_47, s56_50, s56_51, s56_52, s56_53, s56_56, s56_57, s56_58, s56_61, s56_64, s56_65, hp, hp2, false_implies, true_implies, not_true_eq_false, not_false_eq_true, true_and, and_true, true_or, or_true, false_or, or_false, false_and, and_false, implies_true, nw_psh_s, nw_psh_n, ni_10, ni_00]
    exact h
/-! the reference's rows -/
theorem np_le {n k : Nat} (hn : n ≤ 8) (hk : k ≤ 6) : n ^ k ≤ 262144 := by
  have h1 : n ^ k ≤ 8 ^ k := Nat.pow_le_pow_left hn k
  have h2 : 8 ^ k ≤ 8 ^ 6 := Nat.pow_le_pow_right (by decide) hk
  have h3 : (8 : Nat) ^ 6 = 262144 := by decide
  omega
theorem nm_tv_up {T : nt_T} {mm m1 : nw_M} {v : Nat → Nat} {c x : Nat} (hc : c < 8) (h : nm_tv mm v m1) : nm_tv mm (nf_up v c x) (nw_up m1 1 (42 + c) (nI x)) := by
  refine ⟨nm_sc_tr h.1 (nm_sc_fr (nm_fr_up m1 _ (by omega) (by omega))), fun j hj => ?_⟩
  rw [nw_up_at]
  by_cases hjc : j = c
  · simp [nf_up, hjc]
  · rw [if_neg (by omega)]
    simp only [nf_up, if_neg hjc]
    exact h.2 j hj
theorem m_was_in {T : nt_T} (hT : nt_ok T) {mm : nw_M} (hm : nm_T T mm) (d : Nat) (Q : nw_K) {v t : Nat} (ht : t ≤ 6) (hv : v < nt_n T ^ t) (a2 : Int32) :
    ∀ j b (q : nq) m1 (l7 : Option Value), b + j = t → nt_vok T q.1 → q.2 < nt_n T → nm_tv mm q.1 m1 → (l7 = none ∨ ∃ z, l7 = some (.int z)) → (∀ m2, nm_sc mm m2 → Q (some (.int (nz_o (nt_ws T j q v)))) m2) → nw_Ev (d + 3) nw_shM 150 Q 39 [some (.ref 0), some (.int (nI v)), some (.int a2), some (.int (nI t)), some (.int (nI (nt_n T ^ (j - 1)))), some (.int (nI q.2)), some (.int (nI b)), l7] [] m1 := by
  have h8 := hT.2.1
  have h2 := hT.1
  have hvb := np_le (k := t) h8 ht
  intro j
  induction j with
  | zero =>
    intro b q m1 l7 hb hvo hq h hl7 hQ
    have hb' : b = t := by omega
    subst hb'
    rw [s150_39]
    simp only [e150, s150_0, s150_1, s150_3, s150_4, s150_8, s150_9, s150_12, s150_14, s150_15, s150_18, s150_19, s150_21, s150_24, s150_27, s150_28, s150_29, s150_30, s150_33, s150_34, s150_36, s150_37, s150_41, s150_42, s150_45, s150_46, s150_48, s150_49, s150_50, s150_53, s150_54, s150_56, s150_58, s150_59, s150_62, s150_64, s150_65, s150_68, s150_69, s150_72, s150_73, s150_75, s150_76, s150_78, s150_81, s150_84, s150_85, s150_88, s150_89, s150_91, s150_92, s150_93, s150_96, s150_98, s150_100, s150_101, s150_102, s150_103, s150_104, s150_106, s150_109, s150_110, s150_111, s150_112, s150_115, s150_117, s150_119, s150_120, s150_121, s150_124, s150_126, s150_128, s150_129, s150_130, s150_131, s150_132, s150_135, s150_137, s150_138, s150_139, s150_140, s150_141, s150_143, s150_146, s150_147, s150_148, s150_151, s150_153, s150_154, s150_155, s150_156, s150_158, s150_160, s150_163, s150_166, s150_168, ni_le_t (Nat.le_refl b) (show b < 2 ^ 31 by omega), false_implies, true_implies, not_true_eq_false, not_false_eq_true, true_and, and_true, true_or, or_true, false_or, or_false, false_and, and_false, implies_true, nw_psh_s, nw_psh_n, ni_10, ni_00]
    exact hQ m1 h.1
  | succ j ih =>
    intro b q m1 l7 hb hvo hq h hl7 hQ
    have hub := np_le (k := j) h8 (by omega)
    have hup : 0 < nt_n T ^ j := Nat.pow_pos (by omega)
    have hm1 := nm_T_sc hm h.1
    have hn := hm1.1
    have hle := ni_le_f (show b < t by omega) (show t < 2 ^ 31 by omega)
    have hdv := pk_div (a := v) (d := nt_n T ^ j) (by omega) hup (by omega)
    have hlt : v / nt_n T ^ j ≤ v := Nat.div_le_self _ _
    have hrm := pk_rem (a := v / nt_n T ^ j) (d := nt_n T) (by omega) (by omega) (by omega)
    have hn0 := ni_ne0 (show 0 < nt_n T by omega) (show nt_n T < 2 ^ 31 by omega)
    have hu0 := ni_ne0 hup (show nt_n T ^ j < 2 ^ 31 by omega)
    have hcn : v / nt_n T ^ j % nt_n T < nt_n T := Nat.mod_lt _ (by omega)
    have hQ' : ∀ m2, nm_sc mm m2 → Q (some (.int (nz_o (if nt_cb T q (v / nt_n T ^ j % nt_n T) then nt_ws T j (nt_bk T q (v / nt_n T ^ j % nt_n T)) v else none)))) m2 := hQ
    rw [Nat.add_sub_cancel]
    generalize hcd : v / nt_n T ^ j % nt_n T = c at *
    have hun : nw_Ev (d + 3) nw_shM 150 Q 75 [some (.ref 0), some (.int (nI v)), some (.int a2), some (.int (nI t)), some (.int (nI (nt_n T ^ (j - 1)))), some (.int (nI q.2)), some (.int (nI b)), some (.int (nI c))] [] m1 := by
      have hl := fun Q' => m_isLeft hT hm1 (d + 2) Q' (c := c) (by omega)
      by_cases hlf : nt_left T c = true
      · have hw := nt_left_w hlf
        have h4 := (hT.2.2.2 c).2.1
        have hvc := (hvo c).1 hw
        have hi1 : vp_in (nI (42 + c)) 70 := vp_in_nI (by omega) (by decide)
        have hi2 : vp_in (nI (4 * c + q.1 c)) 32 := vp_in_nI (by omega) (by decide)
        have hi3 : vp_in (nI c) 8 := vp_in_nI (by omega) (by decide)
        have e4 : (4 : Int32) * nI c = nI (4 * c) := pk_mul 4 c
        have e42 : (42 : Int32) + nI c = nI (42 + c) := nI_add 42 c
        have e2 : (2 : Int32) * nI (nt_w T c) = nI (2 * nt_w T c) := pk_mul 2 _
        have hvv := h.2 c (by omega)
        have hee := hm1.2.2.2.2 c (by omega) _ hvc
        have hww := hm1.2.2.2.1 c (by omega)
        have hel := (hT.2.2.2 c).2.2.2 _ hvc
        by_cases hb2 : nt_e T c (q.1 c) = q.2
        · have hcb : nt_cb T q c = true := by unfold nt_cb; rw [hlf, hb2]; simp
          rw [hcb] at hQ'
          have ht0 := fun Q' => m_turns hT hm1 (d + 2) Q' (c := c) (by omega) hw
          have htn : nt_tn T c ≤ q.1 c + 2 * nt_w T c := by unfold nt_tn; split <;> (try split) <;> omega
          have hr2 := pk_rem (a := q.1 c + 2 * nt_w T c - nt_tn T c) (d := nt_w T c) (by omega) hw (by omega)
          simp only [e150, s150_0, s150_1, s150_3, s150_4, s150_8, s150_9, s150_12, s150_14, s150_15, s150_18, s150_19, s150_21, s150_24, s150_27, s150_28, s150_29, s150_30, s150_33, s150_34, s150_36, s150_37, s150_41, s150_42, s150_45, s150_46, s150_48, s150_49, s150_50, s150_53, s150_54, s150_56, s150_58, s150_59, s150_62, s150_64, s150_65, s150_68, s150_69, s150_72, s150_73, s150_75, s150_76, s150_78, s150_81, s150_84, s150_85, s150_88, s150_89, s150_91, s150_92, s150_93, s150_96, s150_98, s150_100, s150_101, s150_102, s150_103, s150_104, s150_106, s150_109, s150_110, s150_111, s150_112, s150_115, s150_117, s150_119, s150_120, s150_121, s150_124, s150_126, s150_128, s150_129, s150_130, s150_131, s150_132, s150_135, s150_137, s150_138, s150_139, s150_140, s150_141, s150_143, s150_146, s150_147, s150_148, s150_151, s150_153, s150_154, s150_155, s150_156, s150_158, s150_160, s150_163, s150_166, s150_168, hl, hlf, if_true, e4, e42, e2, nI_add, hi1, hi2, hi3, ni_cl (show 42 + c < 2 ^ 31 by omega), ni_cl (show 4 * c + q.1 c < 2 ^ 31 by omega), ni_cl (show c < 2 ^ 31 by omega), hvv, hee, hww, ni_eq_t hb2, ht0, pk_sub htn, hr2, ni_ne0 hw (show nt_w T c < 2 ^ 31 by omega), nI_1, false_implies, true_implies, not_true_eq_false, not_false_eq_true, true_and, and_true, true_or, or_true, false_or, or_false, false_and, and_false, implies_true, nw_psh_s, nw_psh_n, ni_10, ni_00]
          exact ih (b + 1) (nt_bk T q c) _ _ (by omega) (nt_bk_ok hvo hw) (show c < nt_n T by omega) (nm_tv_up (T := T) (by omega) h) (Or.inr ⟨_, rfl⟩) hQ'
        · have hcb : nt_cb T q c = false := by unfold nt_cb; rw [hlf]; simp [hb2]
          rw [hcb] at hQ'
          simp only [e150, s150_0, s150_1, s150_3, s150_4, s150_8, s150_9, s150_12, s150_14, s150_15, s150_18, s150_19, s150_21, s150_24, s150_27, s150_28, s150_29, s150_30, s150_33, s150_34, s150_36, s150_37, s150_41, s150_42, s150_45, s150_46, s150_48, s150_49, s150_50, s150_53, s150_54, s150_56, s150_58, s150_59, s150_62, s150_64, s150_65, s150_68, s150_69, s150_72, s150_73, s150_75, s150_76, s150_78, s150_81, s150_84, s150_85, s150_88, s150_89, s150_91, s150_92, s150_93, s150_96, s150_98, s150_100, s150_101, s150_102, s150_103, s150_104, s150_106, s150_109, s150_110, s150_111, s150_112, s150_115, s150_117, s150_119, s150_120, s150_121, s150_124, s150_126, s150_128, s150_129, s150_130, s150_131, s150_132, s150_135, s150_137, s150_138, s150_139, s150_140, s150_141, s150_143, s150_146, s150_147, s150_148, s150_151, s150_153, s150_154, s150_155, s150_156, s150_158, s150_160, s150_163, s150_166, s150_168, hl, hlf, if_true, e4, e42, nI_add, hi1, hi2, ni_cl (show 42 + c < 2 ^ 31 by omega), ni_cl (show 4 * c + q.1 c < 2 ^ 31 by omega), hvv, hee, ni_eq_f hb2 (show nt_e T c (q.1 c) < 2 ^ 31 by omega) (show q.2 < 2 ^ 31 by omega), false_implies, true_implies, not_true_eq_false, not_false_eq_true, true_and, and_true, true_or, or_true, false_or, or_false, false_and, and_false, implies_true, nw_psh_s, nw_psh_n, ni_10, ni_00]
          exact hQ' m1 h.1
      · have hcb : nt_cb T q c = false := by unfold nt_cb; rw [(Bool.not_eq_true _).mp hlf]; rfl
        rw [hcb] at hQ'
        simp only [e150, s150_0, s150_1, s150_3, s150_4, s150_8, s150_9, s150_12, s150_14, s150_15, s150_18, s150_19, s150_21, s150_24, s150_27, s150_28, s150_29, s150_30, s150_33, s150_34, s150_36, s150_37, s150_41, s150_42, s150_45, s150_46, s150_48, s150_49, s150_50, s150_53, s150_54, s150_56, s150_58, s150_59, s150_62, s150_64, s150_65, s150_68, s150_69, s150_72, s150_73, s150_75, s150_76, s150_78, s150_81, s150_84, s150_85, s150_88, s150_89, s150_91, s150_92, s150_93, s150_96, s150_98, s150_100, s150_101, s150_102, s150_103, s150_104, s150_106, s150_109, s150_110, s150_111, s150_112, s150_115, s150_117, s150_119, s150_120, s150_121, s150_124, s150_126, s150_128, s150_129, s150_130, s150_131, s150_132, s150_135, s150_137, s150_138, s150_139, s150_140, s150_141, s150_143, s150_146, s150_147, s150_148, s150_151, s150_153, s150_154, s150_155, s150_156, s150_158, s150_160, s150_163, s150_166, s150_168, hl, hlf, if_false, Bool.false_eq_true, false_implies, true_implies, not_true_eq_false, not_false_eq_true, true_and, and_true, true_or, or_true, false_or, or_false, false_and, and_false, implies_true, nw_psh_s, nw_psh_n, ni_10, ni_00]
        exact hQ' m1 h.1
    rw [s150_39]
    have hfin : nw_Ev (d + 3) nw_shM 150 Q 56 [some (.ref 0), some (.int (nI v)), some (.int a2), some (.int (nI t)), some (.int (nI (nt_n T ^ j))), some (.int (nI q.2)), some (.int (nI b)), some (.int (nI c))] [] m1 := by
      cases j with
      | zero =>
        rw [Nat.pow_zero]
        simp only [e150, s150_0, s150_1, s150_3, s150_4, s150_8, s150_9, s150_12, s150_14, s150_15, s150_18, s150_19, s150_21, s150_24, s150_27, s150_28, s150_29, s150_30, s150_33, s150_34, s150_36, s150_37, s150_41, s150_42, s150_45, s150_46, s150_48, s150_49, s150_50, s150_53, s150_54, s150_56, s150_58, s150_59, s150_62, s150_64, s150_65, s150_68, s150_69, s150_72, s150_73, s150_76, s150_78, s150_81, s150_84, s150_85, s150_88, s150_89, s150_91, s150_92, s150_93, s150_96, s150_98, s150_100, s150_101, s150_102, s150_103, s150_104, s150_106, s150_109, s150_110, s150_111, s150_112, s150_115, s150_117, s150_119, s150_120, s150_121, s150_124, s150_126, s150_128, s150_129, s150_130, s150_131, s150_132, s150_135, s150_137, s150_138, s150_139, s150_140, s150_141, s150_143, s150_146, s150_147, s150_148, s150_151, s150_153, s150_154, s150_155, s150_156, s150_158, s150_160, s150_163, s150_166, s150_168, show (nI 1 ≤ 1) = True from eq_true (by decide), false_implies, true_implies, not_true_eq_false, not_false_eq_true, true_and, and_true, true_or, or_true, false_or, or_false, false_and, and_false, implies_true, nw_psh_s, nw_psh_n, ni_10, ni_00]
        exact hun
      | succ j =>
        have hgt : (nI (nt_n T ^ (j + 1)) ≤ 1) = False := ni_le_f (b := 1) (by
          rw [Nat.pow_succ]
          have h1 : 0 < nt_n T ^ j := Nat.pow_pos (by omega)
          have h3 := Nat.mul_le_mul h1 h2
          omega) (by omega)
        have hd2 := pk_div (a := nt_n T ^ (j + 1)) (d := nt_n T) (by omega) (by omega) (by omega)
        have hd3 : nt_n T ^ (j + 1) / nt_n T = nt_n T ^ (j + 1 - 1) := by
          rw [Nat.pow_succ, Nat.mul_div_cancel _ (by omega), Nat.add_sub_cancel]
        simp only [e150, s150_0, s150_1, s150_3, s150_4, s150_8, s150_9, s150_12, s150_14, s150_15, s150_18, s150_19, s150_21, s150_24, s150_27, s150_28, s150_29, s150_30, s150_33, s150_34, s150_36, s150_37, s150_41, s150_42, s150_45, s150_46, s150_48, s150_49, s150_50, s150_53, s150_54, s150_56, s150_58, s150_59, s150_62, s150_64, s150_65, s150_68, s150_69, s150_72, s150_73, s150_76, s150_78, s150_81, s150_84, s150_85, s150_88, s150_89, s150_91, s150_92, s150_93, s150_96, s150_98, s150_100, s150_101, s150_102, s150_103, s150_104, s150_106, s150_109, s150_110, s150_111, s150_112, s150_115, s150_117, s150_119, s150_120, s150_121, s150_124, s150_126, s150_128, s150_129, s150_130, s150_131, s150_132, s150_135, s150_137, s150_138, s150_139, s150_140, s150_141, s150_143, s150_146, s150_147, s150_148, s150_151, s150_153, s150_154, s150_155, s150_156, s150_158, s150_160, s150_163, s150_166, s150_168, hgt, hn, hn0, hd2, hd3, false_implies, true_implies, not_true_eq_false, not_false_eq_true, true_and, and_true, true_or, or_true, false_or, or_false, false_and, and_false, implies_true, nw_psh_s, nw_psh_n, ni_10, ni_00]
        exact hun
    rcases hl7 with rfl | ⟨z7, rfl⟩ <;>
    · simp only [e150, s150_0, s150_1, s150_3, s150_4, s150_8, s150_9, s150_12, s150_14, s150_15, s150_18, s150_19, s150_21, s150_24, s150_27, s150_28, s150_29, s150_30, s150_33, s150_34, s150_36, s150_37, s150_41, s150_42, s150_45, s150_46, s150_48, s150_49, s150_50, s150_53, s150_54, s150_58, s150_59, s150_62, s150_64, s150_65, s150_68, s150_69, s150_72, s150_73, s150_75, s150_76, s150_78, s150_81, s150_84, s150_85, s150_88, s150_89, s150_91, s150_92, s150_93, s150_96, s150_98, s150_100, s150_101, s150_102, s150_103, s150_104, s150_106, s150_109, s150_110, s150_111, s150_112, s150_115, s150_117, s150_119, s150_120, s150_121, s150_124, s150_126, s150_128, s150_129, s150_130, s150_131, s150_132, s150_135, s150_137, s150_138, s150_139, s150_140, s150_141, s150_143, s150_146, s150_147, s150_148, s150_151, s150_153, s150_154, s150_155, s150_156, s150_158, s150_160, s150_163, s150_166, s150_168, hle, hn, hdv, hrm, hn0, hu0, hcd, false_implies, true_implies, not_true_eq_false, not_false_eq_true, true_and, and_true, true_or, or_true, false_or, or_false, false_and, and_false, implies_true, nw_psh_s, nw_psh_n, ni_10, ni_00]
      exact hfin
theorem m_was {T : nt_T} (hT : nt_ok T) {mm : nw_M} (hm : nm_T T mm) {σ : nt_S} (hv : nt_sok T σ) (hS : nm_S T 0 σ mm) (d : Nat) (Q : nw_K) {v t c : Nat} (ht1 : 1 ≤ t) (ht : t ≤ 6) (hvt : v < nt_n T ^ t) (hc : c < nt_n T) {m1 : nw_M} (h1 : nm_sc mm m1) (hQ : ∀ m2, nm_sc mm m2 → Q (some (.int (nz_o (nt_ws T t (σ.1, c) v)))) m2) : nw_Ex (d + 4) nw_shM 150 [.ref 0, .int (nI v), .int (nI c), .int (nI t)] m1 Q := by
  have h8 := hT.2.1
  have h2 := hT.1
  have hm1 := nm_T_sc hm h1
  have hlp : ∀ j k, k + j = t → 1 ≤ k → nw_Ev (d + 3) nw_shM 150 Q 6 [some (.ref 0), some (.int (nI v)), some (.int (nI c)), some (.int (nI t)), some (.int (nI (nt_n T ^ (k - 1)))), some (.int (nI k)), none, none] [] m1 := by
    intro j
    induction j with
    | zero =>
      intro k hk h0
      have hk' : k = t := by omega
      subst hk'
      rw [s150_6]
      simp only [e150, s150_0, s150_1, s150_3, s150_4, s150_8, s150_9, s150_12, s150_14, s150_15, s150_18, s150_19, s150_21, s150_24, s150_27, s150_28, s150_29, s150_30, s150_33, s150_34, s150_36, s150_37, s150_41, s150_42, s150_45, s150_46, s150_48, s150_49, s150_50, s150_53, s150_54, s150_56, s150_58, s150_59, s150_62, s150_64, s150_65, s150_68, s150_69, s150_72, s150_73, s150_75, s150_76, s150_78, s150_81, s150_84, s150_85, s150_88, s150_89, s150_91, s150_92, s150_93, s150_96, s150_98, s150_100, s150_101, s150_102, s150_103, s150_104, s150_106, s150_109, s150_110, s150_111, s150_112, s150_115, s150_117, s150_119, s150_120, s150_121, s150_124, s150_126, s150_128, s150_129, s150_130, s150_131, s150_132, s150_135, s150_137, s150_138, s150_139, s150_140, s150_141, s150_143, s150_146, s150_147, s150_148, s150_151, s150_153, s150_154, s150_155, s150_156, s150_158, s150_160, s150_163, s150_166, s150_168, ni_le_t (Nat.le_refl k) (show k < 2 ^ 31 by omega), false_implies, true_implies, not_true_eq_false, not_false_eq_true, true_and, and_true, true_or, or_true, false_or, or_false, false_and, and_false, implies_true, nw_psh_s, nw_psh_n, ni_10, ni_00]
      refine m_try hT (nm_S_sc hT hS h1 (by omega)) (d + 2) _ (fun m2 ht2 => ?_)
      simp only [e150, s150_0, s150_1, s150_3, s150_4, s150_8, s150_9, s150_12, s150_14, s150_15, s150_18, s150_19, s150_21, s150_24, s150_27, s150_28, s150_29, s150_30, s150_33, s150_34, s150_36, s150_37, s150_41, s150_42, s150_45, s150_46, s150_48, s150_49, s150_50, s150_53, s150_54, s150_56, s150_58, s150_59, s150_62, s150_64, s150_65, s150_68, s150_69, s150_72, s150_73, s150_75, s150_76, s150_78, s150_81, s150_84, s150_85, s150_88, s150_89, s150_91, s150_92, s150_93, s150_96, s150_98, s150_100, s150_101, s150_102, s150_103, s150_104, s150_106, s150_109, s150_110, s150_111, s150_112, s150_115, s150_117, s150_119, s150_120, s150_121, s150_124, s150_126, s150_128, s150_129, s150_130, s150_131, s150_132, s150_135, s150_137, s150_138, s150_139, s150_140, s150_141, s150_143, s150_146, s150_147, s150_148, s150_151, s150_153, s150_154, s150_155, s150_156, s150_158, s150_160, s150_163, s150_166, s150_168, false_implies, true_implies, not_true_eq_false, not_false_eq_true, true_and, and_true, true_or, or_true, false_or, or_false, false_and, and_false, implies_true, nw_psh_s, nw_psh_n, ni_10, ni_00]
      have htv := nm_tr_tv ht2
      exact m_was_in hT hm d Q ht hvt _ k 0 (σ.1, c) m2 none (by omega) hv.1 hc ⟨nm_sc_tr h1 htv.1, htv.2⟩ (Or.inl rfl) hQ
    | succ j ih =>
      intro k hk h0
      have hp : nI (nt_n T ^ (k - 1)) * nI (nt_n T) = nI (nt_n T ^ (k + 1 - 1)) := by
        rw [pk_mul, ← Nat.pow_succ, show (k - 1).succ = k + 1 - 1 by omega]
      rw [s150_6]
      simp only [e150, s150_0, s150_1, s150_3, s150_4, s150_8, s150_9, s150_12, s150_14, s150_15, s150_18, s150_19, s150_21, s150_24, s150_27, s150_28, s150_29, s150_30, s150_33, s150_34, s150_36, s150_37, s150_41, s150_42, s150_45, s150_46, s150_48, s150_49, s150_50, s150_53, s150_54, s150_56, s150_58, s150_59, s150_62, s150_64, s150_65, s150_68, s150_69, s150_72, s150_73, s150_75, s150_76, s150_78, s150_81, s150_84, s150_85, s150_88, s150_89, s150_91, s150_92, s150_93, s150_96, s150_98, s150_100, s150_101, s150_102, s150_103, s150_104, s150_106, s150_109, s150_110, s150_111, s150_112, s150_115, s150_117, s150_119, s150_120, s150_121, s150_124, s150_126, s150_128, s150_129, s150_130, s150_131, s150_132, s150_135, s150_137, s150_138, s150_139, s150_140, s150_141, s150_143, s150_146, s150_147, s150_148, s150_151, s150_153, s150_154, s150_155, s150_156, s150_158, s150_160, s150_163, s150_166, s150_168, ni_le_f (show k < t by omega) (show t < 2 ^ 31 by omega), hm1.1, hp, nI_1, false_implies, true_implies, not_true_eq_false, not_false_eq_true, true_and, and_true, true_or, or_true, false_or, or_false, false_and, and_false, implies_true, nw_psh_s, nw_psh_n, ni_10, ni_00]
      exact ih (k + 1) (by omega) (by omega)
  have h := hlp (t - 1) 1 (by omega) (by omega)
  simp only [e150, s150_0, s150_1, s150_3, s150_4, s150_8, s150_9, s150_12, s150_14, s150_15, s150_18, s150_19, s150_21, s150_24, s150_27, s150_28, s150_29, s150_30, s150_33, s150_34, s150_36, s150_37, s150_41, s150_42, s150_45, s150_46, s150_48, s150_49, s150_50, s150_53, s150_54, s150_56, s150_58, s150_59, s150_62, s150_64, s150_65, s150_68, s150_69, s150_72, s150_73, s150_75, s150_76, s150_78, s150_81, s150_84, s150_85, s150_88, s150_89, s150_91, s150_92, s150_93, s150_96, s150_98, s150_100, s150_101, s150_102, s150_103, s150_104, s150_106, s150_109, s150_110, s150_111, s150_112, s150_115, s150_117, s150_119, s150_120, s150_121, s150_124, s150_126, s150_128, s150_129, s150_130, s150_131, s150_132, s150_135, s150_137, s150_138, s150_139, s150_140, s150_141, s150_143, s150_146, s150_147, s150_148, s150_151, s150_153, s150_154, s150_155, s150_156, s150_158, s150_160, s150_163, s150_166, s150_168, false_implies, true_implies, not_true_eq_false, not_false_eq_true, true_and, and_true, true_or, or_true, false_or, or_false, false_and, and_false, implies_true, nw_psh_s, nw_psh_n, ni_10, ni_00]
  exact h
def nt_z1 (_ : Nat) : Int32 := 1
def nt_z2 (a : Nat) : Int32 := 1 <<< (nI a &&& 31)
theorem m_past_loop {T : nt_T} (hT : nt_ok T) {mm : nw_M} (hm : nm_T T mm) {σ : nt_S} (hv : nt_sok T σ) (hS : nm_S T 0 σ mm) (d : Nat) (Q : nw_K) {t c : Nat} (a : Int32) (ht1 : 1 ≤ t) (ht : t ≤ 6) (hc : c < nt_n T) (hQ : ∀ m2, nm_sc mm m2 → Q (some (.int (if a = 0 then nfo (· + ·) (fun v => nt_wz nt_z1 (nt_ws T t (σ.1, c) v)) (nt_n T ^ t) else nfo (· ||| ·) (fun v => nt_wz nt_z2 (nt_ws T t (σ.1, c) v)) (nt_n T ^ t)))) m2) :
    ∀ j v m1 (l8 : Option Value), v + j = nt_n T ^ t → nm_sc mm m1 → (l8 = none ∨ ∃ z, l8 = some (.int z)) → nw_Ev (d + 4) nw_shM 151 Q 72 [some (.ref 0), some (.int (nI c)), some (.int (nI t)), some (.int a), some (.int (nI (nt_n T ^ t))), some (.int (nfo (· + ·) (fun v => nt_wz nt_z1 (nt_ws T t (σ.1, c) v)) v)), some (.int (nfo (· ||| ·) (fun v => nt_wz nt_z2 (nt_ws T t (σ.1, c) v)) v)), some (.int (nI v)), l8] [] m1 := by
  have hb := np_le (k := t) hT.2.1 ht
  intro j
  induction j with
  | zero =>
    intro v m1 l8 hj h hl8
    have hk' : v = nt_n T ^ t := by omega
    subst hk'
    rw [s151_72]
    by_cases ha : a = 0
    · rw [if_pos ha] at hQ
      simp only [e151, s151_0, s151_1, s151_2, s151_5, s151_8, s151_10, s151_11, s151_12, s151_13, s151_14, s151_17, s151_20, s151_23, s151_24, s151_25, s151_26, s151_27, s151_30, s151_33, s151_35, s151_36, s151_37, s151_39, s151_40, s151_44, s151_45, s151_48, s151_50, s151_51, s151_54, s151_55, s151_57, s151_60, s151_63, s151_64, s151_66, s151_67, s151_69, s151_70, s151_74, s151_76, s151_79, s151_80, s151_82, s151_83, s151_84, s151_87, s151_89, s151_91, s151_93, s151_94, s151_97, s151_98, s151_101, s151_102, s151_103, s151_105, s151_107, s151_109, s151_110, s151_113, s151_114, s151_117, s151_118, s151_120, s151_121, s151_122, s151_124, s151_127, s151_130, s151_131, s151_134, s151_136, s151_139, s151_141, ni_le_t (Nat.le_refl (nt_n T ^ t)) (show nt_n T ^ t < 2 ^ 31 by omega), ha, false_implies, true_implies, not_true_eq_false, not_false_eq_true, true_and, and_true, true_or, or_true, false_or, or_false, false_and, and_false, implies_true, nw_psh_s, nw_psh_n, ni_10, ni_00]
      exact hQ m1 h
    · rw [if_neg ha] at hQ
      simp only [e151, s151_0, s151_1, s151_2, s151_5, s151_8, s151_10, s151_11, s151_12, s151_13, s151_14, s151_17, s151_20, s151_23, s151_24, s151_25, s151_26, s151_27, s151_30, s151_33, s151_35, s151_36, s151_37, s151_39, s151_40, s151_44, s151_45, s151_48, s151_50, s151_51, s151_54, s151_55, s151_57, s151_60, s151_63, s151_64, s151_66, s151_67, s151_69, s151_70, s151_74, s151_76, s151_79, s151_80, s151_82, s151_83, s151_84, s151_87, s151_89, s151_91, s151_93, s151_94, s151_97, s151_98, s151_101, s151_102, s151_103, s151_105, s151_107, s151_109, s151_110, s151_113, s151_114, s151_117, s151_118, s151_120, s151_121, s151_122, s151_124, s151_127, s151_130, s151_131, s151_134, s151_136, s151_139, s151_141, ni_le_t (Nat.le_refl (nt_n T ^ t)) (show nt_n T ^ t < 2 ^ 31 by omega), ha, false_implies, true_implies, not_true_eq_false, not_false_eq_true, true_and, and_true, true_or, or_true, false_or, or_false, false_and, and_false, implies_true, nw_psh_s, nw_psh_n, ni_10, ni_00]
      exact hQ m1 h
  | succ j ih =>
    intro v m1 l8 hj h hl8
    have hle := ni_le_f (show v < nt_n T ^ t by omega) (show nt_n T ^ t < 2 ^ 31 by omega)
    have hin : ∀ l8, (l8 = none ∨ ∃ z, l8 = some (.int z)) → nw_Ev (d + 4) nw_shM 151 Q 72 [some (.ref 0), some (.int (nI c)), some (.int (nI t)), some (.int a), some (.int (nI (nt_n T ^ t))), some (.int (nfo (· + ·) (fun v => nt_wz nt_z1 (nt_ws T t (σ.1, c) v)) v)), some (.int (nfo (· ||| ·) (fun v => nt_wz nt_z2 (nt_ws T t (σ.1, c) v)) v)), some (.int (nI v)), l8] [] m1 := by
      intro l8 hl8
      rw [s151_72]
      rcases hl8 with rfl | ⟨z8, rfl⟩ <;>
      · simp only [e151, s151_0, s151_1, s151_2, s151_5, s151_8, s151_10, s151_11, s151_12, s151_13, s151_14, s151_17, s151_20, s151_23, s151_24, s151_25, s151_26, s151_27, s151_30, s151_33, s151_35, s151_36, s151_37, s151_39, s151_40, s151_44, s151_45, s151_48, s151_50, s151_51, s151_54, s151_55, s151_57, s151_60, s151_63, s151_64, s151_66, s151_67, s151_69, s151_70, s151_74, s151_76, s151_79, s151_80, s151_82, s151_83, s151_84, s151_87, s151_89, s151_91, s151_93, s151_94, s151_97, s151_98, s151_101, s151_102, s151_103, s151_105, s151_107, s151_109, s151_110, s151_113, s151_114, s151_117, s151_118, s151_120, s151_121, s151_122, s151_124, s151_127, s151_130, s151_131, s151_134, s151_136, s151_139, s151_141, hle, false_implies, true_implies, not_true_eq_false, not_false_eq_true, true_and, and_true, true_or, or_true, false_or, or_false, false_and, and_false, implies_true, nw_psh_s, nw_psh_n, ni_10, ni_00]
        refine m_was hT hm hv hS d _ ht1 ht (show v < nt_n T ^ t by omega) hc h (fun m2 h2 => ?_)
        have hh := fun l8 hl => ih (v + 1) m2 l8 (by omega) h2 hl
        rw [show nfo (· + ·) (fun v => nt_wz nt_z1 (nt_ws T t (σ.1, c) v)) (v + 1) = nfo (· + ·) (fun v => nt_wz nt_z1 (nt_ws T t (σ.1, c) v)) v + nt_wz nt_z1 (nt_ws T t (σ.1, c) v) from rfl, show nfo (· ||| ·) (fun v => nt_wz nt_z2 (nt_ws T t (σ.1, c) v)) (v + 1) = nfo (· ||| ·) (fun v => nt_wz nt_z2 (nt_ws T t (σ.1, c) v)) v ||| nt_wz nt_z2 (nt_ws T t (σ.1, c) v) from rfl] at hh
        cases hw : nt_ws T t (σ.1, c) v with
        | none =>
          rw [hw] at hh
          simp only [nt_wz, Int32.add_zero, Int32.or_zero] at hh
          simp only [e151, s151_0, s151_1, s151_2, s151_5, s151_8, s151_10, s151_11, s151_12, s151_13, s151_14, s151_17, s151_20, s151_23, s151_24, s151_25, s151_26, s151_27, s151_30, s151_33, s151_35, s151_36, s151_37, s151_39, s151_40, s151_44, s151_45, s151_48, s151_50, s151_51, s151_54, s151_55, s151_57, s151_60, s151_63, s151_64, s151_66, s151_67, s151_69, s151_70, s151_74, s151_76, s151_79, s151_80, s151_82, s151_83, s151_84, s151_87, s151_89, s151_91, s151_93, s151_94, s151_97, s151_98, s151_101, s151_102, s151_103, s151_105, s151_107, s151_109, s151_110, s151_113, s151_114, s151_117, s151_118, s151_120, s151_121, s151_122, s151_124, s151_127, s151_130, s151_131, s151_134, s151_136, s151_139, s151_141, nz_o, Int32.add_zero, Int32.or_zero, nI_1, false_implies, true_implies, not_true_eq_false, not_false_eq_true, true_and, and_true, true_or, or_true, false_or, or_false, false_and, and_false, implies_true, nw_psh_s, nw_psh_n, ni_10, ni_00]
          exact hh _ (Or.inr ⟨_, rfl⟩)
        | some w =>
          have hw8 : w < 8 := by
            have : ∀ k (q : nq), q.2 < nt_n T → ∀ w, nt_ws T k q v = some w → w < nt_n T := by
              intro k
              induction k with
              | zero => intro q hq w hw; cases hw; exact hq
              | succ k ihk =>
                intro q hq w hw
                rw [nt_ws_s] at hw
                split at hw
                · exact ihk _ (Nat.mod_lt _ (by omega)) w hw
                · cases hw
            have := this t (σ.1, c) hc w hw
            have := hT.2.1
            omega
          rw [hw] at hh
          simp only [nt_wz, nt_z1, nt_z2] at hh
          simp only [e151, s151_0, s151_1, s151_2, s151_5, s151_8, s151_10, s151_11, s151_12, s151_13, s151_14, s151_17, s151_20, s151_23, s151_24, s151_25, s151_26, s151_27, s151_30, s151_33, s151_35, s151_36, s151_37, s151_39, s151_40, s151_44, s151_45, s151_48, s151_50, s151_51, s151_54, s151_55, s151_57, s151_60, s151_63, s151_64, s151_66, s151_67, s151_69, s151_70, s151_74, s151_76, s151_79, s151_80, s151_82, s151_83, s151_84, s151_87, s151_89, s151_91, s151_93, s151_94, s151_97, s151_98, s151_101, s151_102, s151_103, s151_105, s151_107, s151_109, s151_110, s151_113, s151_114, s151_117, s151_118, s151_120, s151_121, s151_122, s151_124, s151_127, s151_130, s151_131, s151_134, s151_136, s151_139, s151_141, nz_o, ni_ne_m1 (show w < 2 ^ 31 by omega), nI_1, false_implies, true_implies, not_true_eq_false, not_false_eq_true, true_and, and_true, true_or, or_true, false_or, or_false, false_and, and_false, implies_true, nw_psh_s, nw_psh_n, ni_10, ni_00]
          exact hh _ (Or.inr ⟨_, rfl⟩)
    exact hin l8 hl8
theorem p_past (A : nA) (x z y : Int32) : nP2 A 93 151 [.int x, .int z, .int y] := by
  intro mx mm hX hM
  obtain ⟨T, τ, σ, g, kp, L, tx⟩ := A
  have hX0 := hX
  have hM0 := hM
  obtain ⟨h1, h2, h3, ⟨h5, h6⟩, -⟩ := hX
  obtain ⟨-, k2, -, ⟨-, k4⟩, -⟩ := hM
  have h8 := h1.2.1
  have hin1 := fun Q' => m_in 38 Q' z 1 6 mm
  have hin2 := fun Q' => m_in 38 Q' y 0 1 mm
  rcases ix3 x (n := nt_n T) (by omega) with hx | ⟨c, hc, rfl⟩
  · refine nP_same (r := -2) hX0 hM0 (fun Q hQ => ?_) (fun Q hQ => ?_)
    · simp only [e93, s93_0, s93_1, s93_4, s93_5, s93_8, s93_11, s93_13, s93_14, s93_15, s93_16, s93_19, s93_20, s93_22, s93_25, s93_26, s93_29, s93_32, s93_34, s93_35, s93_36, s93_39, s93_40, s93_43, s93_45, s93_46, s93_49, s93_50, s93_53, s93_55, s93_56, s93_59, s93_62, s93_63, s93_66, s93_68, s93_69, s93_72, x_hasCorner_n (Or.inl rfl) h2 38 _ hx, false_implies, true_implies, not_true_eq_false, not_false_eq_true, true_and, and_true, true_or, or_true, false_or, or_false, false_and, and_false, implies_true, nw_psh_s, nw_psh_n, ni_10, ni_00]
      exact hQ
    · simp only [e151, s151_0, s151_1, s151_2, s151_5, s151_8, s151_10, s151_11, s151_12, s151_13, s151_14, s151_17, s151_20, s151_23, s151_24, s151_25, s151_26, s151_27, s151_30, s151_33, s151_35, s151_36, s151_37, s151_39, s151_40, s151_44, s151_45, s151_48, s151_50, s151_51, s151_54, s151_55, s151_57, s151_60, s151_63, s151_64, s151_66, s151_67, s151_69, s151_70, s151_74, s151_76, s151_79, s151_80, s151_82, s151_83, s151_84, s151_87, s151_89, s151_91, s151_93, s151_94, s151_97, s151_98, s151_101, s151_102, s151_103, s151_105, s151_107, s151_109, s151_110, s151_113, s151_114, s151_117, s151_118, s151_120, s151_121, s151_122, s151_124, s151_127, s151_130, s151_131, s151_134, s151_136, s151_139, s151_141, m_isCorner_n h1 k2 37 _ hx, false_implies, true_implies, not_true_eq_false, not_false_eq_true, true_and, and_true, true_or, or_true, false_or, or_false, false_and, and_false, implies_true, nw_psh_s, nw_psh_n, ni_10, ni_00]
      exact hQ mm (nm_sc_rf mm)
  · rcases ix1 z (n := 7) (by decide) with hz | ⟨t, ht1, ht, rfl⟩
    · refine nP_same (r := -3) hX0 hM0 (fun Q hQ => ?_) (fun Q hQ => ?_)
      · by_cases q : z < 1
        · simp only [e93, s93_0, s93_1, s93_4, s93_5, s93_8, s93_11, s93_13, s93_14, s93_15, s93_16, s93_19, s93_20, s93_22, s93_25, s93_26, s93_29, s93_32, s93_34, s93_35, s93_36, s93_39, s93_40, s93_43, s93_45, s93_46, s93_49, s93_50, s93_53, s93_55, s93_56, s93_59, s93_62, s93_63, s93_66, s93_68, s93_69, s93_72, x_hasCorner_y (Or.inl rfl) h1 h2 38 _ hc, q, false_implies, true_implies, not_true_eq_false, not_false_eq_true, true_and, and_true, true_or, or_true, false_or, or_false, false_and, and_false, implies_true, nw_psh_s, nw_psh_n, ni_10, ni_00]
          exact hQ
        · have q2 : ((6 : Int32) < z) = True := eq_true (gt_lit_out (n := 6) (by decide) (hz.resolve_left q))
          have q3 : (z ≤ 6) = False := eq_false (fun y => by
            have := of_eq_true q2
            rw [fa_lt] at this
            rw [fa_le] at y
            omega)
          simp only [e93, s93_0, s93_1, s93_4, s93_5, s93_8, s93_11, s93_13, s93_14, s93_15, s93_16, s93_19, s93_20, s93_22, s93_25, s93_26, s93_29, s93_32, s93_34, s93_35, s93_36, s93_39, s93_40, s93_43, s93_45, s93_46, s93_49, s93_50, s93_53, s93_55, s93_56, s93_59, s93_62, s93_63, s93_66, s93_68, s93_69, s93_72, x_hasCorner_y (Or.inl rfl) h1 h2 38 _ hc, q, q2, q3, false_implies, true_implies, not_true_eq_false, not_false_eq_true, true_and, and_true, true_or, or_true, false_or, or_false, false_and, and_false, implies_true, nw_psh_s, nw_psh_n, ni_10, ni_00]
          exact hQ
      · simp only [e151, s151_0, s151_1, s151_2, s151_5, s151_8, s151_10, s151_11, s151_12, s151_13, s151_14, s151_17, s151_20, s151_23, s151_24, s151_25, s151_26, s151_27, s151_30, s151_33, s151_35, s151_36, s151_37, s151_39, s151_40, s151_44, s151_45, s151_48, s151_50, s151_51, s151_54, s151_55, s151_57, s151_60, s151_63, s151_64, s151_66, s151_67, s151_69, s151_70, s151_74, s151_76, s151_79, s151_80, s151_82, s151_83, s151_84, s151_87, s151_89, s151_91, s151_93, s151_94, s151_97, s151_98, s151_101, s151_102, s151_103, s151_105, s151_107, s151_109, s151_110, s151_113, s151_114, s151_117, s151_118, s151_120, s151_121, s151_122, s151_124, s151_127, s151_130, s151_131, s151_134, s151_136, s151_139, s151_141, m_isCorner_y h1 k2 37 _ hc, lw_1, lw_6, hin1, show (z < 1 ∨ (6 : Int32) < z) = True from in1_out (n := 6) (by decide) hz, if_true, false_implies, true_implies, not_true_eq_false, not_false_eq_true, true_and, and_true, true_or, or_true, false_or, or_false, false_and, and_false, implies_true, nw_psh_s, nw_psh_n, ni_10, ni_00]
        exact hQ mm (nm_sc_rf mm)
    · have z1 : (nI t < 1) = False := ni_lt_f (b := 1) ht1 (by omega)
      have z2 : (nI t ≤ 6) = True := ni_le_t (b := 6) (by omega) (by decide)
      have z2' : ((6 : Int32) < nI t) = False := ni_lt_f (a := 6) (by omega) (by decide)
      have z3 : (nI t < 1 ∨ (6 : Int32) < nI t) = False := in1_in (n := 6) ht1 (by omega) (by decide)
      rcases ix3 y (n := 2) (by decide) with hy | ⟨a, ha, rfl⟩
      · have hyo : (y < 0 ∨ (1 : Int32) < y) = True := in_lit_out (n := 1) (by decide) hy
        refine nP_same (r := -3) hX0 hM0 (fun Q hQ => ?_) (fun Q hQ => ?_)
        · simp only [e93, s93_0, s93_1, s93_4, s93_5, s93_8, s93_11, s93_13, s93_14, s93_15, s93_16, s93_19, s93_20, s93_22, s93_25, s93_26, s93_29, s93_32, s93_34, s93_35, s93_36, s93_39, s93_40, s93_43, s93_45, s93_46, s93_49, s93_50, s93_53, s93_55, s93_56, s93_59, s93_62, s93_63, s93_66, s93_68, s93_69, s93_72, x_hasCorner_y (Or.inl rfl) h1 h2 38 _ hc, z1, z2, z2', x_isEither, hyo, if_true, false_implies, true_implies, not_true_eq_false, not_false_eq_true, true_and, and_true, true_or, or_true, false_or, or_false, false_and, and_false, implies_true, nw_psh_s, nw_psh_n, ni_10, ni_00]
          exact hQ
        · simp only [e151, s151_0, s151_1, s151_2, s151_5, s151_8, s151_10, s151_11, s151_12, s151_13, s151_14, s151_17, s151_20, s151_23, s151_24, s151_25, s151_26, s151_27, s151_30, s151_33, s151_35, s151_36, s151_37, s151_39, s151_40, s151_44, s151_45, s151_48, s151_50, s151_51, s151_54, s151_55, s151_57, s151_60, s151_63, s151_64, s151_66, s151_67, s151_69, s151_70, s151_74, s151_76, s151_79, s151_80, s151_82, s151_83, s151_84, s151_87, s151_89, s151_91, s151_93, s151_94, s151_97, s151_98, s151_101, s151_102, s151_103, s151_105, s151_107, s151_109, s151_110, s151_113, s151_114, s151_117, s151_118, s151_120, s151_121, s151_122, s151_124, s151_127, s151_130, s151_131, s151_134, s151_136, s151_139, s151_141, m_isCorner_y h1 k2 37 _ hc, lw_0, lw_1, lw_6, hin1, hin2, z3, hyo, if_true, if_false, false_implies, true_implies, not_true_eq_false, not_false_eq_true, true_and, and_true, true_or, or_true, false_or, or_false, false_and, and_false, implies_true, nw_psh_s, nw_psh_n, ni_10, ni_00]
          exact hQ mm (nm_sc_rf mm)
      · have hya : (nI a < 0 ∨ (1 : Int32) < nI a) = False := in_lit (n := 1) (by omega) (by decide)
        have hn0 : 0 < nt_n T := by omega
        refine nP_same (r := if nI a = 0 then nt_pr T (· + ·) nt_z1 t (σ.1, c) else nt_pr T (· ||| ·) nt_z2 t (σ.1, c)) hX0 hM0 (fun Q hQ => ?_) (fun Q hQ => ?_)
        · have hst := na_from h6 (c := c) (by omega)
          by_cases hy : nI a = 0
          · rw [if_pos hy] at hQ
            have hp := fun Q' => x_pastRows h1 h2 t (33 - t) Q' (σ.1, c) _ (by omega) hst h5.1
            rw [show 33 - t + t + 6 = 39 by omega] at hp
            simp only [e93, s93_0, s93_1, s93_4, s93_5, s93_8, s93_11, s93_13, s93_14, s93_15, s93_16, s93_19, s93_20, s93_22, s93_25, s93_26, s93_29, s93_32, s93_34, s93_35, s93_36, s93_39, s93_40, s93_43, s93_45, s93_46, s93_49, s93_50, s93_53, s93_55, s93_56, s93_59, s93_62, s93_63, s93_66, s93_68, s93_69, s93_72, x_hasCorner_y (Or.inl rfl) h1 h2 38 _ hc, z1, z2, z2', x_isEither, hya, if_false, x_from, eq_true hy, hp, false_implies, true_implies, not_true_eq_false, not_false_eq_true, true_and, and_true, true_or, or_true, false_or, or_false, false_and, and_false, implies_true, nw_psh_s, nw_psh_n, ni_10, ni_00]
            exact hQ
          · rw [if_neg hy] at hQ
            have hp := fun Q' => x_pastCorners h1 h2 t (33 - t) Q' (σ.1, c) _ (by omega) hst h5.1
            rw [show 33 - t + t + 6 = 39 by omega] at hp
            simp only [e93, s93_0, s93_1, s93_4, s93_5, s93_8, s93_11, s93_13, s93_14, s93_15, s93_16, s93_19, s93_20, s93_22, s93_25, s93_26, s93_29, s93_32, s93_34, s93_35, s93_36, s93_39, s93_40, s93_43, s93_45, s93_46, s93_49, s93_50, s93_53, s93_55, s93_56, s93_59, s93_62, s93_63, s93_66, s93_68, s93_69, s93_72, x_hasCorner_y (Or.inl rfl) h1 h2 38 _ hc, z1, z2, z2', x_isEither, hya, if_false, x_from, hy, hp, false_implies, true_implies, not_true_eq_false, not_false_eq_true, true_and, and_true, true_or, or_true, false_or, or_false, false_and, and_false, implies_true, nw_psh_s, nw_psh_n, ni_10, ni_00]
            exact hQ
        · have hlp : ∀ j k, k + j = t → nw_Ev 39 nw_shM 151 Q 42 [some (.ref 0), some (.int (nI c)), some (.int (nI t)), some (.int (nI a)), some (.int (nI (nt_n T ^ k))), some (.int (nI k)), none, none, none] [] mm := by
            intro j
            induction j with
            | zero =>
              intro k hk
              have hk' : k = t := by omega
              subst hk'
              rw [s151_42]
              simp only [e151, s151_0, s151_1, s151_2, s151_5, s151_8, s151_10, s151_11, s151_12, s151_13, s151_14, s151_17, s151_20, s151_23, s151_24, s151_25, s151_26, s151_27, s151_30, s151_33, s151_35, s151_36, s151_37, s151_39, s151_40, s151_44, s151_45, s151_48, s151_50, s151_51, s151_54, s151_55, s151_57, s151_60, s151_63, s151_64, s151_66, s151_67, s151_69, s151_70, s151_74, s151_76, s151_79, s151_80, s151_82, s151_83, s151_84, s151_87, s151_89, s151_91, s151_93, s151_94, s151_97, s151_98, s151_101, s151_102, s151_103, s151_105, s151_107, s151_109, s151_110, s151_113, s151_114, s151_117, s151_118, s151_120, s151_121, s151_122, s151_124, s151_127, s151_130, s151_131, s151_134, s151_136, s151_139, s151_141, ni_le_t (Nat.le_refl k) (show k < 2 ^ 31 by omega), false_implies, true_implies, not_true_eq_false, not_false_eq_true, true_and, and_true, true_or, or_true, false_or, or_false, false_and, and_false, implies_true, nw_psh_s, nw_psh_n, ni_10, ni_00]
              refine m_past_loop h1 k2 h5 k4 35 Q (nI a) ht1 (by omega) hc ?_ (nt_n T ^ k) 0 mm none (by omega) (nm_sc_rf mm) (Or.inl rfl)
              rw [nt_pr_eq hn0 (fun x => Int32.add_zero x) (fun x => Int32.zero_add x) (fun x y z => Int32.add_assoc x y z), nt_pr_eq hn0 (fun x => Int32.or_zero) (fun x => Int32.zero_or) (fun x y z => Int32.or_assoc x y z)]
              exact hQ
            | succ j ih =>
              intro k hk
              have hp : nI (nt_n T ^ k) * nI (nt_n T) = nI (nt_n T ^ (k + 1)) := by rw [pk_mul, ← Nat.pow_succ]
              rw [s151_42]
              simp only [e151, s151_0, s151_1, s151_2, s151_5, s151_8, s151_10, s151_11, s151_12, s151_13, s151_14, s151_17, s151_20, s151_23, s151_24, s151_25, s151_26, s151_27, s151_30, s151_33, s151_35, s151_36, s151_37, s151_39, s151_40, s151_44, s151_45, s151_48, s151_50, s151_51, s151_54, s151_55, s151_57, s151_60, s151_63, s151_64, s151_66, s151_67, s151_69, s151_70, s151_74, s151_76, s151_79, s151_80, s151_82, s151_83, s151_84, s151_87, s151_89, s151_91, s151_93, s151_94, s151_97, s151_98, s151_101, s151_102, s151_103, s151_105, s151_107, s151_109, s151_110, s151_113, s151_114, s151_117, s151_118, s151_120, s151_121, s151_122, s151_124, s151_127, s151_130, s151_131, s151_134, s151_136, s151_139, s151_141, ni_le_f (show k < t by omega) (show t < 2 ^ 31 by omega), k2.1, hp, nI_1, false_implies, true_implies, not_true_eq_false, not_false_eq_true, true_and, and_true, true_or, or_true, false_or, or_false, false_and, and_false, implies_true, nw_psh_s, nw_psh_n, ni_10, ni_00]
              exact ih (k + 1) (by omega)
          have h := hlp t 0 (by omega)
          simp only [e151, s151_0, s151_1, s151_2, s151_5, s151_8, s151_10, s151_11, s151_12, s151_13, s151_14, s151_17, s151_20, s151_23, s151_24, s151_25, s151_26, s151_27, s151_30, s151_33, s151_35, s151_36, s151_37, s151_39, s151_40, s151_44, s151_45, s151_48, s151_50, s151_51, s151_54, s151_55, s151_57, s151_60, s151_63, s151_64, s151_66, s151_67, s151_69, s151_70, s151_74, s151_76, s151_79, s151_80, s151_82, s151_83, s151_84, s151_87, s151_89, s151_91, s151_93, s151_94, s151_97, s151_98, s151_101, s151_102, s151_103, s151_105, s151_107, s151_109, s151_110, s151_113, s151_114, s151_117, s151_118, s151_120, s151_121, s151_122, s151_124, s151_127, s151_130, s151_131, s151_134, s151_136, s151_139, s151_141, m_isCorner_y h1 k2 37 _ hc, lw_0, lw_1, lw_6, hin1, hin2, z3, hya, if_false, false_implies, true_implies, not_true_eq_false, not_false_eq_true, true_and, and_true, true_or, or_true, false_or, or_false, false_and, and_false, implies_true, nw_psh_s, nw_psh_n, ni_10, ni_00]
          exact h
