/-! A DRAFT: a town and how it is told to stand -/
abbrev nD : Type := nt_T × nt_S
def nd_ok (D : nD) : Prop := nt_ok D.1 ∧ nt_sok D.1 D.2
def nd_town (n : Nat) (D : nD) : nD := ((n, fun _ => 0, fun _ => 0, nt_e D.1, 0), (fun _ => 0, fun _ => 0))
def nd_kind (c k : Nat) (D : nD) : nD := ((nt_n D.1, nf_up (nt_k D.1) c k, nt_w D.1, nt_e D.1, nt_m D.1), D.2)
def nd_way (c x : Nat) (D : nD) : nD := ((nt_n D.1, nt_k D.1, nf_up (nt_w D.1) c (nt_w D.1 c + 1), fun a j => if a = c ∧ j = nt_w D.1 c then x else nt_e D.1 a j, nt_m D.1), D.2)
def nd_vane (c x : Nat) (D : nD) : nD := (D.1, (nf_up D.2.1 c x, D.2.2))
def nd_walker (c : Nat) (D : nD) : nD := ((nt_n D.1, nt_k D.1, nt_w D.1, nt_e D.1, nt_m D.1 + 1), (D.2.1, nf_up D.2.2 (nt_m D.1) c))
def nd_nobody (D : nD) : nD := ((nt_n D.1, nt_k D.1, nt_w D.1, nt_e D.1, 0), D.2)
theorem nd_town_ok {n : Nat} {D : nD} (h1 : 2 ≤ n) (h2 : n ≤ 8) : nd_ok (nd_town n D) := by
  refine ⟨⟨h1, h2, Nat.zero_le 5, fun c => ⟨Nat.zero_le 3, Nat.zero_le 4, fun _ => rfl, fun j hj => ?_⟩⟩, fun c => ⟨fun h => h, fun _ => rfl⟩, fun w hw => ?_⟩
  · exact absurd (show j < 0 from hj) (Nat.not_lt_zero j)
  · exact absurd (show w < 0 from hw) (Nat.not_lt_zero w)
theorem nd_kind_ok {c k : Nat} {D : nD} (h : nd_ok D) (hk : k ≤ 3) : nd_ok (nd_kind c k D) := by
  obtain ⟨⟨a1, a2, a3, a4⟩, b1, b2⟩ := h
  refine ⟨⟨a1, a2, a3, fun j => ⟨?_, (a4 j).2⟩⟩, b1, b2⟩
  show nf_up (nt_k D.1) c k j ≤ 3
  by_cases q : j = c
  · simp only [nf_up, q, if_true]; exact hk
  · simp only [nf_up, if_neg q]; exact (a4 j).1
theorem nd_way_ok {c x : Nat} {D : nD} (h : nd_ok D) (hc : c < nt_n D.1) (hw : nt_w D.1 c < 4) (hx : x < nt_n D.1) : nd_ok (nd_way c x D) := by
  obtain ⟨⟨a1, a2, a3, a4⟩, b1, b2⟩ := h
  refine ⟨⟨a1, a2, a3, fun j => ⟨(a4 j).1, ?_, fun hj => ?_, fun i hi => ?_⟩⟩, fun j => ?_, b2⟩
  · show nf_up (nt_w D.1) c (nt_w D.1 c + 1) j ≤ 4
    by_cases q : j = c
    · simp only [nf_up, q, if_true]; omega
    · simp only [nf_up, if_neg q]; exact (a4 j).2.1
  · show nf_up (nt_w D.1) c (nt_w D.1 c + 1) j = 0
    have hj' : nt_n D.1 ≤ j := hj
    simp only [nf_up, if_neg (show ¬ j = c by omega)]; exact (a4 j).2.2.1 hj'
  · have hi' : i < nf_up (nt_w D.1) c (nt_w D.1 c + 1) j := hi
    show (if j = c ∧ i = nt_w D.1 c then x else nt_e D.1 j i) < nt_n D.1
    by_cases q : j = c
    · simp only [nf_up, q, if_true] at hi'
      by_cases q2 : i = nt_w D.1 c
      · rw [if_pos ⟨q, q2⟩]; exact hx
      · rw [if_neg (fun z => q2 z.2), q]; exact (a4 c).2.2.2 i (by omega)
    · simp only [nf_up, if_neg q] at hi'
      rw [if_neg (fun z => q z.1)]; exact (a4 j).2.2.2 i hi'
  · show (0 < nf_up (nt_w D.1) c (nt_w D.1 c + 1) j → D.2.1 j < nf_up (nt_w D.1) c (nt_w D.1 c + 1) j) ∧ (nf_up (nt_w D.1) c (nt_w D.1 c + 1) j = 0 → D.2.1 j = 0)
    by_cases q : j = c
    · simp only [nf_up, q, if_true]
      refine ⟨fun _ => ?_, fun z => by omega⟩
      rcases Nat.eq_zero_or_pos (nt_w D.1 c) with z | z
      · rw [(b1 c).2 z]; omega
      · have := (b1 c).1 z; omega
    · simp only [nf_up, if_neg q]; exact b1 j
theorem nd_vane_ok {c x : Nat} {D : nD} (h : nd_ok D) (hx : x < nt_w D.1 c) : nd_ok (nd_vane c x D) := by
  obtain ⟨a, b1, b2⟩ := h
  refine ⟨a, fun j => ?_, b2⟩
  show (0 < nt_w D.1 j → nf_up D.2.1 c x j < nt_w D.1 j) ∧ (nt_w D.1 j = 0 → nf_up D.2.1 c x j = 0)
  by_cases q : j = c
  · simp only [nf_up, q, if_true]; exact ⟨fun _ => hx, fun z => by omega⟩
  · simp only [nf_up, if_neg q]; exact b1 j
theorem nd_walker_ok {c : Nat} {D : nD} (h : nd_ok D) (hm : nt_m D.1 < 5) (hc : c < nt_n D.1) : nd_ok (nd_walker c D) := by
  obtain ⟨⟨a1, a2, a3, a4⟩, b1, b2⟩ := h
  refine ⟨⟨a1, a2, hm, a4⟩, b1, fun w hw => ?_⟩
  have hw' : w < nt_m D.1 + 1 := hw
  show nf_up D.2.2 (nt_m D.1) c w < nt_n D.1
  by_cases q : w = nt_m D.1
  · simp only [nf_up, q, if_true]; exact hc
  · simp only [nf_up, if_neg q]; exact b2 w (by omega)
theorem nd_nobody_ok {D : nD} (h : nd_ok D) : nd_ok (nd_nobody D) := by
  obtain ⟨⟨a1, a2, a3, a4⟩, b1, b2⟩ := h
  refine ⟨⟨a1, a2, Nat.zero_le 5, a4⟩, b1, fun w hw => ?_⟩
  exact absurd (show w < 0 from hw) (Nat.not_lt_zero w)
/-! the class's draft -/
def nx_D (D : nD) (m : nw_M) : Prop := nx_T 8 D.1 m ∧ nx_S (m 8 5) D.2
def nxf (m m' : nw_M) : Prop := ∀ c k, ¬ (8 ≤ c ∧ c ≤ 11) → m' c k = m c k
theorem nxf_rf (m : nw_M) : nxf m m := fun _ _ _ => rfl
theorem nxf_tr {m1 m2 m3 : nw_M} (h1 : nxf m1 m2) (h2 : nxf m2 m3) : nxf m1 m3 := fun c k h => (h2 c k h).trans (h1 c k h)
theorem nxf_up {m : nw_M} {a k : Nat} (v : Int32) (h : 8 ≤ a ∧ a ≤ 11) : nxf m (nw_up m a k v) := fun c j q => by
  rw [nw_up_at, if_neg (fun z => q (by omega))]
theorem x_setKind {D : nD} (hok : nd_ok D) {m : nw_M} (h : nx_D D m) (d : Nat) (Q : nw_K) {c k : Nat} (hc : c < nt_n D.1) (hQ : ∀ m', nxf m m' → nx_D (nd_kind c k D) m' → Q (some (.int 1)) m') : nw_Ex (d + 2) nw_shX 7 [.ref 8, .int (nI c), .int (nI k)] m Q := by
  have h8 := hok.1.2.1
  have hh := fun Q' => x_hasCorner_y (Or.inr rfl) hok.1 h.1 d Q' hc
  have hi : vp_in (nI c) 8 := vp_in_nI (by omega) (by decide)
  simp only [e7, s7_0, s7_1, s7_2_4, s7_2_8, s7_5, s7_8, s7_9, s7_10, s7_11_4, s7_11_8, s7_14, s7_15, s7_16_5, s7_16_9, s7_17, s7_18, hh, hi, ni_cl (show c < 2 ^ 31 by omega), false_implies, true_implies, not_true_eq_false, not_false_eq_true, true_and, and_true, true_or, or_true, false_or, or_false, false_and, and_false, implies_true, nw_psh_s, nw_psh_n, ni_10, ni_00]
  obtain ⟨⟨a1, a2, a3, a4, a5⟩, b⟩ := h
  refine hQ _ (nxf_up _ (by omega)) ⟨⟨?_, ?_, fun j hj => ?_, fun j hj => ?_, fun j hj i hi => ?_⟩, ?_⟩
  · rw [nw_up_at, if_neg (by omega)]; exact a1
  · rw [nw_up_at, if_neg (by omega)]; exact a2
  · rw [nw_up_at]
    show _ = nI (nf_up (nt_k D.1) c k j)
    by_cases q : j = c
    · rw [if_pos ⟨rfl, q⟩]; simp only [nf_up, q, if_true]
    · rw [if_neg (by omega)]; simp only [nf_up, if_neg q]; exact a3 j hj
  · rw [nw_up_at, if_neg (by omega)]; exact a4 j hj
  · rw [nw_up_at, if_neg (by omega)]; exact a5 j hj i hi
  · rw [nw_up_at, if_neg (by omega)]; exact b
theorem x_setKind_n {D : nD} {m : nw_M} (h : nx_D D m) (d : Nat) (Q : nw_K) {x k : Int32} (hx : x < 0 ∨ nI (nt_n D.1) ≤ x) : nw_Ex (d + 2) nw_shX 7 [.ref 8, .int x, .int k] m Q = Q (some (.int 0)) m := by
  have hh := fun Q' => x_hasCorner_n (Or.inr rfl) h.1 d Q' hx
  simp only [e7, s7_0, s7_1, s7_2_4, s7_2_8, s7_5, s7_8, s7_9, s7_10, s7_11_4, s7_11_8, s7_14, s7_15, s7_16_5, s7_16_9, s7_17, s7_18, hh, false_implies, true_implies, not_true_eq_false, not_false_eq_true, true_and, and_true, true_or, or_true, false_or, or_false, false_and, and_false, implies_true, nw_psh_s, nw_psh_n, ni_10, ni_00]
theorem x_roomWay {D : nD} (hok : nd_ok D) {m : nw_M} (h : nx_D D m) (d : Nat) (Q : nw_K) {c : Nat} (hc : c < nt_n D.1) : nw_Ex (d + 2) nw_shX 8 [.ref 8, .int (nI c)] m Q = Q (some (.int (if nt_w D.1 c < 4 then 1 else 0))) m := by
  have h8 := hok.1.2.1
  have h4 := (hok.1.2.2.2 c).2.1
  have hh := fun Q' => x_hasCorner_y (Or.inr rfl) hok.1 h.1 d Q' hc
  have hi : vp_in (nI c) 8 := vp_in_nI (by omega) (by decide)
  have hw : m 10 c = nI (nt_w D.1 c) := h.1.2.2.2.1 c (by omega)
  by_cases q : nt_w D.1 c < 4
  · have q1 : ((4 : Int32) ≤ nI (nt_w D.1 c)) = False := ni_le_f (a := 4) q (by decide)
    simp only [e8, s8_0, s8_1, s8_2_4, s8_2_8, s8_5, s8_8, s8_9_4, s8_9_8, s8_12, s8_13_6, s8_13_10, s8_14, s8_15, s8_18, s8_19, s8_22, s8_23, hh, hi, ni_cl (show c < 2 ^ 31 by omega), hw, q, q1, if_true, false_implies, true_implies, not_true_eq_false, not_false_eq_true, true_and, and_true, true_or, or_true, false_or, or_false, false_and, and_false, implies_true, nw_psh_s, nw_psh_n, ni_10, ni_00]
  · have q1 : ((4 : Int32) ≤ nI (nt_w D.1 c)) = True := ni_le_t (a := 4) (by omega) (by omega)
    simp only [e8, s8_0, s8_1, s8_2_4, s8_2_8, s8_5, s8_8, s8_9_4, s8_9_8, s8_12, s8_13_6, s8_13_10, s8_14, s8_15, s8_18, s8_19, s8_22, s8_23, hh, hi, ni_cl (show c < 2 ^ 31 by omega), hw, q, q1, if_false, false_implies, true_implies, not_true_eq_false, not_false_eq_true, true_and, and_true, true_or, or_true, false_or, or_false, false_and, and_false, implies_true, nw_psh_s, nw_psh_n, ni_10, ni_00]
theorem x_roomWay_n {D : nD} {m : nw_M} (h : nx_D D m) (d : Nat) (Q : nw_K) {x : Int32} (hx : x < 0 ∨ nI (nt_n D.1) ≤ x) : nw_Ex (d + 2) nw_shX 8 [.ref 8, .int x] m Q = Q (some (.int 0)) m := by
  have hh := fun Q' => x_hasCorner_n (Or.inr rfl) h.1 d Q' hx
  simp only [e8, s8_0, s8_1, s8_2_4, s8_2_8, s8_5, s8_8, s8_9_4, s8_9_8, s8_12, s8_13_6, s8_13_10, s8_14, s8_15, s8_18, s8_19, s8_22, s8_23, hh, false_implies, true_implies, not_true_eq_false, not_false_eq_true, true_and, and_true, true_or, or_true, false_or, or_false, false_and, and_false, implies_true, nw_psh_s, nw_psh_n, ni_10, ni_00]
theorem x_addWay {D : nD} (hok : nd_ok D) {m : nw_M} (h : nx_D D m) (d : Nat) (Q : nw_K) {c x : Nat} (hc : c < nt_n D.1) (hw4 : nt_w D.1 c < 4) (hx : x < nt_n D.1) (hQ : ∀ m', nxf m m' → nx_D (nd_way c x D) m' → Q (some (.int 1)) m') : nw_Ex (d + 3) nw_shX 9 [.ref 8, .int (nI c), .int (nI x)] m Q := by
  have h8 := hok.1.2.1
  have hr := fun Q' => x_roomWay hok h d Q' hc
  have hh := fun Q' => x_hasCorner_y (Or.inr rfl) hok.1 h.1 (d + 1) Q' hx
  have hi : vp_in (nI c) 8 := vp_in_nI (by omega) (by decide)
  have hi2 : vp_in (nI (c * 4 + nt_w D.1 c)) 32 := vp_in_nI (by omega) (by decide)
  have e4 : nI c * (4 : Int32) = nI (c * 4) := pk_mul c 4
  obtain ⟨⟨a1, a2, a3, a4, a5⟩, b⟩ := h
  have hw : m 10 c = nI (nt_w D.1 c) := a4 c (by omega)
  simp only [e9, s9_0, s9_1, s9_2_4, s9_2_8, s9_5, s9_8, s9_9, s9_10_4, s9_10_8, s9_13, s9_16, s9_17, s9_18, s9_19_4, s9_19_8, s9_22, s9_23, s9_24, s9_25, s9_26_4, s9_26_8, s9_29, s9_30_6, s9_30_10, s9_31, s9_32, s9_33_7, s9_33_11, s9_34, s9_35_4, s9_35_8, s9_38, s9_39, s9_40_6, s9_40_10, s9_41, s9_42, s9_43_6, s9_43_10, s9_44, s9_45, hr, hw4, hh, if_true, hi, hi2, e4, nI_add, ni_cl (show c < 2 ^ 31 by omega), ni_cl (show c * 4 + nt_w D.1 c < 2 ^ 31 by omega), hw, nw_up_at, show ((10 : Nat) = 11) = False from eq_false (by decide), false_and, if_false, nI_1, false_implies, true_implies, not_true_eq_false, not_false_eq_true, true_and, and_true, true_or, or_true, false_or, or_false, false_and, and_false, implies_true, nw_psh_s, nw_psh_n, ni_10, ni_00]
  refine hQ _ (nxf_tr (nxf_up (a := 11) _ (by omega)) (nxf_up _ (by omega))) ⟨⟨?_, ?_, fun j hj => ?_, fun j hj => ?_, fun j hj i hi => ?_⟩, ?_⟩
  · rw [nw_up_at, if_neg (by omega), nw_up_at, if_neg (by omega)]; exact a1
  · rw [nw_up_at, if_neg (by omega), nw_up_at, if_neg (by omega)]; exact a2
  · rw [nw_up_at, if_neg (by omega), nw_up_at, if_neg (by omega)]; exact a3 j hj
  · rw [nw_up_at]
    show _ = nI (nf_up (nt_w D.1) c (nt_w D.1 c + 1) j)
    by_cases q : j = c
    · rw [if_pos ⟨rfl, q⟩]; simp only [nf_up, q, if_true]
    · rw [if_neg (by omega), nw_up_at, if_neg (by omega)]; simp only [nf_up, if_neg q]; exact a4 j hj
  · have hi' : i < nf_up (nt_w D.1) c (nt_w D.1 c + 1) j := hi
    have hj4 := (hok.1.2.2.2 j).2.1
    show _ = nI (if j = c ∧ i = nt_w D.1 c then x else nt_e D.1 j i)
    rw [nw_up_at, if_neg (by omega), nw_up_at]
    by_cases q : j = c
    · simp only [nf_up, q, if_true] at hi'
      by_cases q2 : i = nt_w D.1 c
      · rw [if_pos ⟨rfl, by omega⟩, if_pos ⟨q, q2⟩]
      · rw [if_neg (by omega), if_neg (fun z => q2 z.2)]; exact a5 j hj i (by rw [q]; omega)
    · simp only [nf_up, if_neg q] at hi'
      rw [if_neg (by omega), if_neg (fun z => q z.1)]; exact a5 j hj i hi'
  · rw [nw_up_at, if_neg (by omega), nw_up_at, if_neg (by omega)]; exact b
theorem x_addWay_n {D : nD} (hok : nd_ok D) {m : nw_M} (h : nx_D D m) (d : Nat) (Q : nw_K) {c : Nat} {x : Int32} (hc : c < nt_n D.1) (hw4 : nt_w D.1 c < 4) (hx : x < 0 ∨ nI (nt_n D.1) ≤ x) : nw_Ex (d + 3) nw_shX 9 [.ref 8, .int (nI c), .int x] m Q = Q (some (.int 0)) m := by
  have hr := fun Q' => x_roomWay hok h d Q' hc
  have hh := fun Q' => x_hasCorner_n (Or.inr rfl) h.1 (d + 1) Q' hx
  simp only [e9, s9_0, s9_1, s9_2_4, s9_2_8, s9_5, s9_8, s9_9, s9_10_4, s9_10_8, s9_13, s9_16, s9_17, s9_18, s9_19_4, s9_19_8, s9_22, s9_23, s9_24, s9_25, s9_26_4, s9_26_8, s9_29, s9_30_6, s9_30_10, s9_31, s9_32, s9_33_7, s9_33_11, s9_34, s9_35_4, s9_35_8, s9_38, s9_39, s9_40_6, s9_40_10, s9_41, s9_42, s9_43_6, s9_43_10, s9_44, s9_45, hr, hw4, hh, if_true, false_implies, true_implies, not_true_eq_false, not_false_eq_true, true_and, and_true, true_or, or_true, false_or, or_false, false_and, and_false, implies_true, nw_psh_s, nw_psh_n, ni_10, ni_00]
theorem x_roomWalker {D : nD} (hok : nd_ok D) {m : nw_M} (h : nx_D D m) (d : Nat) (Q : nw_K) : nw_Ex (d + 1) nw_shX 10 [.ref 8] m Q = Q (some (.int (if nt_m D.1 < 5 then 1 else 0))) m := by
  have h5 := hok.1.2.2.1
  have hm : m 8 4 = nI (nt_m D.1) := h.1.2.1
  by_cases q : nt_m D.1 < 5
  · have q1 : ((5 : Int32) ≤ nI (nt_m D.1)) = False := ni_le_f (a := 5) q (by decide)
    simp only [e10, s10_0, s10_1_4, s10_1_8, s10_4, s10_5, s10_8, s10_9, s10_12, s10_13, hm, q, q1, if_true, false_implies, true_implies, not_true_eq_false, not_false_eq_true, true_and, and_true, true_or, or_true, false_or, or_false, false_and, and_false, implies_true, nw_psh_s, nw_psh_n, ni_10, ni_00]
  · have q1 : ((5 : Int32) ≤ nI (nt_m D.1)) = True := ni_le_t (a := 5) (by omega) (by omega)
    simp only [e10, s10_0, s10_1_4, s10_1_8, s10_4, s10_5, s10_8, s10_9, s10_12, s10_13, hm, q, q1, if_false, false_implies, true_implies, not_true_eq_false, not_false_eq_true, true_and, and_true, true_or, or_true, false_or, or_false, false_and, and_false, implies_true, nw_psh_s, nw_psh_n, ni_10, ni_00]
theorem x_addWalker {D : nD} (hok : nd_ok D) {m : nw_M} (h : nx_D D m) (d : Nat) (Q : nw_K) {c : Nat} (hm5 : nt_m D.1 < 5) (hc : c < nt_n D.1) (hQ : ∀ m', nxf m m' → nx_D (nd_walker c D) m' → Q (some (.int 1)) m') : nw_Ex (d + 2) nw_shX 11 [.ref 8, .int (nI c)] m Q := by
  have h8 := hok.1.2.1
  have hr := fun Q' => x_roomWalker hok h d Q'
  have hh := fun Q' => x_hasCorner_y (Or.inr rfl) hok.1 h.1 d Q' hc
  obtain ⟨⟨a1, a2, a3, a4, a5⟩, b⟩ := h
  have hmm : m 8 4 = nI (nt_m D.1) := a2
  have hwp := fun Q' => x_withPlace d Q' (m 8 5) (nt_m D.1) c m
  simp only [e11, s11_0, s11_1_4, s11_1_8, s11_4, s11_7, s11_8, s11_9_4, s11_9_8, s11_12, s11_15, s11_16, s11_17, s11_18, s11_19_4, s11_19_8, s11_22, s11_23_4, s11_23_8, s11_26, s11_27, s11_30_4, s11_30_8, s11_33, s11_34, s11_35_4, s11_35_8, s11_38, s11_39, s11_40_4, s11_40_8, s11_43, s11_44, hr, hm5, hh, if_true, hmm, hwp, nw_up_at, show ((4 : Nat) = 5) = False from eq_false (by decide), and_false, if_false, nI_1, false_implies, true_implies, not_true_eq_false, not_false_eq_true, true_and, and_true, true_or, or_true, false_or, or_false, false_and, and_false, implies_true, nw_psh_s, nw_psh_n, ni_10, ni_00]
  refine hQ _ (nxf_tr (nxf_up (a := 8) _ (by omega)) (nxf_up _ (by omega))) ⟨⟨?_, ?_, fun j hj => ?_, fun j hj => ?_, fun j hj i hi => ?_⟩, ?_⟩
  · rw [nw_up_at, if_neg (by omega), nw_up_at, if_neg (by omega)]; exact a1
  · rw [nw_up_at, if_pos ⟨rfl, rfl⟩]; rfl
  · rw [nw_up_at, if_neg (by omega), nw_up_at, if_neg (by omega)]; exact a3 j hj
  · rw [nw_up_at, if_neg (by omega), nw_up_at, if_neg (by omega)]; exact a4 j hj
  · rw [nw_up_at, if_neg (by omega), nw_up_at, if_neg (by omega)]; exact a5 j hj i hi
  · rw [nw_up_at, if_neg (by omega), nw_up_at, if_pos ⟨rfl, rfl⟩]; exact nx_S_sp b hm5 (by omega)
theorem x_addWalker_n {D : nD} (hok : nd_ok D) {m : nw_M} (h : nx_D D m) (d : Nat) (Q : nw_K) {x : Int32} (hm5 : nt_m D.1 < 5) (hx : x < 0 ∨ nI (nt_n D.1) ≤ x) : nw_Ex (d + 2) nw_shX 11 [.ref 8, .int x] m Q = Q (some (.int 0)) m := by
  have hr := fun Q' => x_roomWalker hok h d Q'
  have hh := fun Q' => x_hasCorner_n (Or.inr rfl) h.1 d Q' hx
  simp only [e11, s11_0, s11_1_4, s11_1_8, s11_4, s11_7, s11_8, s11_9_4, s11_9_8, s11_12, s11_15, s11_16, s11_17, s11_18, s11_19_4, s11_19_8, s11_22, s11_23_4, s11_23_8, s11_26, s11_27, s11_30_4, s11_30_8, s11_33, s11_34, s11_35_4, s11_35_8, s11_38, s11_39, s11_40_4, s11_40_8, s11_43, s11_44, hr, hm5, hh, if_true, false_implies, true_implies, not_true_eq_false, not_false_eq_true, true_and, and_true, true_or, or_true, false_or, or_false, false_and, and_false, implies_true, nw_psh_s, nw_psh_n, ni_10, ni_00]
theorem x_sendAway {D : nD} {m : nw_M} (h : nx_D D m) (d : Nat) (Q : nw_K) (hQ : ∀ m', nxf m m' → nx_D (nd_nobody D) m' → Q none m') : nw_Ex (d + 1) nw_shX 12 [.ref 8] m Q := by
  obtain ⟨⟨a1, a2, a3, a4, a5⟩, b⟩ := h
  simp only [e12, s12_0, s12_1, s12_2_4, s12_2_8, s12_5, false_implies, true_implies, not_true_eq_false, not_false_eq_true, true_and, and_true, true_or, or_true, false_or, or_false, false_and, and_false, implies_true, nw_psh_s, nw_psh_n, ni_10, ni_00]
  refine hQ _ (nxf_up _ (by omega)) ⟨⟨?_, ?_, fun j hj => ?_, fun j hj => ?_, fun j hj i hi => ?_⟩, ?_⟩
  · rw [nw_up_at, if_neg (by omega)]; exact a1
  · rw [nw_up_at, if_pos ⟨rfl, rfl⟩]; rfl
  · rw [nw_up_at, if_neg (by omega)]; exact a3 j hj
  · rw [nw_up_at, if_neg (by omega)]; exact a4 j hj
  · rw [nw_up_at, if_neg (by omega)]; exact a5 j hj i hi
  · rw [nw_up_at, if_neg (by omega)]; exact b
