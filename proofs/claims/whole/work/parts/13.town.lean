/-! THE TOWN: n corners, kinds, how many ways, where they lead, how many walkers -/
abbrev nt_T : Type := Nat × (Nat → Nat) × (Nat → Nat) × (Nat → Nat → Nat) × Nat
def nt_n (T : nt_T) : Nat := T.1
def nt_k (T : nt_T) : Nat → Nat := T.2.1
def nt_w (T : nt_T) : Nat → Nat := T.2.2.1
def nt_e (T : nt_T) : Nat → Nat → Nat := T.2.2.2.1
def nt_m (T : nt_T) : Nat := T.2.2.2.2
def nt_ok (T : nt_T) : Prop := 2 ≤ nt_n T ∧ nt_n T ≤ 8 ∧ nt_m T ≤ 5 ∧ ∀ c, nt_k T c ≤ 3 ∧ nt_w T c ≤ 4 ∧ (nt_n T ≤ c → nt_w T c = 0) ∧ ∀ j, j < nt_w T c → nt_e T c j < nt_n T
/-- a town of the class, at the cell h -/
def nx_T (h : Nat) (T : nt_T) (mem : nw_M) : Prop := mem h 3 = nI (nt_n T) ∧ mem h 4 = nI (nt_m T) ∧ (∀ c, c < 8 → mem (h + 1) c = nI (nt_k T c)) ∧ (∀ c, c < 8 → mem (h + 2) c = nI (nt_w T c)) ∧ ∀ c, c < 8 → ∀ j, j < nt_w T c → mem (h + 3) (4 * c + j) = nI (nt_e T c j)
abbrev nf_up (f : Nat → Nat) (k v : Nat) : Nat → Nat := fun j => if j = k then v else f j
def nt_left (T : nt_T) (c : Nat) : Bool := decide (¬ nt_k T c = 3 ∧ 0 < nt_w T c)
def nt_nv (T : nt_T) (c x : Nat) : Nat := (x + (if nt_k T c = 1 then nt_w T c - 1 else if nt_k T c = 2 then 2 else 1)) % nt_w T c
/-- vanes, and where one comes who leaves c -/
def nt_lv (T : nt_T) (v : Nat → Nat) (c : Nat) : (Nat → Nat) × Nat := if nt_left T c then (nf_up v c (nt_nv T c (v c)), nt_e T c (nt_nv T c (v c))) else (v, c)
abbrev nt_S : Type := (Nat → Nat) × (Nat → Nat)
def nt_wk (T : nt_T) (σ : nt_S) (w : Nat) : nt_S := ((nt_lv T σ.1 (σ.2 w)).1, nf_up σ.2 w (nt_lv T σ.1 (σ.2 w)).2)
/-- vanes are ways, walkers at corners -/
def nt_vok (T : nt_T) (v : Nat → Nat) : Prop := ∀ c, (0 < nt_w T c → v c < nt_w T c) ∧ (nt_w T c = 0 → v c = 0)
theorem nt_nv_lt {T : nt_T} {c x : Nat} (h : 0 < nt_w T c) : nt_nv T c x < nt_w T c := Nat.mod_lt _ h
theorem nt_left_w {T : nt_T} {c : Nat} (h : nt_left T c = true) : 0 < nt_w T c := (of_decide_eq_true h).2
theorem nt_left_n {T : nt_T} (hT : nt_ok T) {c : Nat} (h : nt_left T c = true) : c < nt_n T := by
  rcases Nat.lt_or_ge c (nt_n T) with q | q
  · exact q
  · have := (hT.2.2.2 c).2.2.1 q
    have := nt_left_w h
    omega
theorem nt_lv_ok {T : nt_T} (hT : nt_ok T) {v : Nat → Nat} (hv : nt_vok T v) {c : Nat} (hc : c < nt_n T) : nt_vok T (nt_lv T v c).1 ∧ (nt_lv T v c).2 < nt_n T := by
  unfold nt_lv
  by_cases h : nt_left T c = true
  · rw [if_pos h]
    have hw := nt_left_w h
    refine ⟨fun j => ?_, (hT.2.2.2 c).2.2.2 _ (nt_nv_lt hw)⟩
    by_cases hj : j = c
    · subst hj
      simp only [nf_up, if_true]
      exact ⟨fun _ => nt_nv_lt hw, fun h0 => by omega⟩
    · simp only [nf_up, if_neg hj]
      exact hv j
  · rw [if_neg h]
    exact ⟨hv, hc⟩
/-- a stand of the class: its vanes and walkers -/
def nx_S (s : Int32) (σ : nt_S) : Prop := bt s 31 = false ∧ (∀ c, c < 8 → ns_v s c = nI (σ.1 c) ∧ σ.1 c < 4) ∧ ∀ w, w < 5 → ns_p s w = nI (σ.2 w) ∧ σ.2 w < 8
theorem nx_S_sv {s : Int32} {σ : nt_S} (h : nx_S s σ) {c x : Nat} (hc : c < 8) (hx : x < 4) : nx_S (ns_sv s c x) (nf_up σ.1 c x, σ.2) := by
  obtain ⟨h1, h2, h3⟩ := h
  refine ⟨ns_sign_sv hc hx h1, fun j hj => ?_, fun w hw => ?_⟩
  · rw [ns_v_sv hc hx hj]
    by_cases hjc : j = c
    · simp only [nf_up, if_pos hjc]
      exact ⟨trivial, hx⟩
    · simp only [nf_up, if_neg hjc]
      exact h2 j hj
  · rw [ns_p_sv hc hx hw]
    exact h3 w hw
theorem nx_S_sp {s : Int32} {σ : nt_S} (h : nx_S s σ) {w x : Nat} (hw : w < 5) (hx : x < 8) : nx_S (ns_sp s w x) (σ.1, nf_up σ.2 w x) := by
  obtain ⟨h1, h2, h3⟩ := h
  refine ⟨ns_sign_sp hw hx h1, fun j hj => ?_, fun j hj => ?_⟩
  · rw [ns_v_sp hw hx hj]
    exact h2 j hj
  · rw [ns_p_sp hw hx hj]
    by_cases hjc : j = w
    · simp only [nf_up, if_pos hjc]
      exact ⟨trivial, hx⟩
    · simp only [nf_up, if_neg hjc]
      exact h3 j hj
/-! numbers -/
theorem ni_2 (c : Nat) : (2 : Int32) * nI c = nI (2 * c) := pk_mul 2 c
theorem ni_4 (c : Nat) : nI c * (4 : Int32) = nI (c * 4) := pk_mul c 4
theorem ni_16 (w : Nat) : (16 : Int32) + (3 : Int32) * nI w = nI (16 + 3 * w) := by
  rw [show (3 : Int32) * nI w = nI (3 * w) from pk_mul 3 w]
  exact nI_add 16 (3 * w)
theorem ni_in {c N : Nat} (h : c < N) (hN : N < 2 ^ 31) : vp_in (nI c) N := vp_in_nI h hN
/-! the class's small methods -/
theorem x_vaneOf (d : Nat) (Q : nw_K) (s : Int32) (c : Nat) (mem : nw_M) : nw_Ex (d + 1) nw_shX 23 [.int s, .int (nI c)] mem Q = Q (some (.int (ns_v s c))) mem := by
  simp only [e23, s23_0, s23_1, s23_2, s23_3, s23_4, s23_5, s23_6, s23_7, ni_2]
  rfl
theorem x_withVane (d : Nat) (Q : nw_K) (s : Int32) (c x : Nat) (mem : nw_M) : nw_Ex (d + 1) nw_shX 24 [.int s, .int (nI c), .int (nI x)] mem Q = Q (some (.int (ns_sv s c x))) mem := by
  simp only [e24, s24_0, s24_1, s24_2, s24_3, s24_4, s24_5, s24_6, s24_7, s24_8, s24_9, s24_10, s24_11, s24_12, s24_13, s24_14, s24_15, ni_2]
  rfl
theorem x_placeOf (d : Nat) (Q : nw_K) (s : Int32) (w : Nat) (mem : nw_M) : nw_Ex (d + 1) nw_shX 25 [.int s, .int (nI w)] mem Q = Q (some (.int (ns_p s w))) mem := by
  simp only [e25, s25_0, s25_1, s25_3, s25_4, s25_5, s25_6, s25_7, s25_8, s25_10, s25_11, ni_16]
  rfl
theorem x_withPlace (d : Nat) (Q : nw_K) (s : Int32) (w x : Nat) (mem : nw_M) : nw_Ex (d + 1) nw_shX 26 [.int s, .int (nI w), .int (nI x)] mem Q = Q (some (.int (ns_sp s w x))) mem := by
  simp only [e26, s26_0, s26_2, s26_3, s26_4, s26_5, s26_6, s26_7, s26_8, s26_10, s26_11, s26_12, s26_13, s26_14, s26_15, s26_16, s26_17, s26_18, s26_19, ni_16]
  rfl
