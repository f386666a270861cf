/-! WHAT BOTH SIDES HOLD: the town, how it was told, how it stands, beats, what is kept, the text -/
abbrev nA : Type := nt_T × nt_S × nt_S × Nat × (Nat → Option (nt_S × Nat)) × Nat × (Nat → Nat)
def nx_kp (T : nt_T) (o : Option (nt_S × Nat)) (s b : Int32) : Prop := match o with
  | none => b = -1
  | some (ρ, h) => nt_sok T ρ ∧ nx_S s ρ ∧ b = nI h ∧ h ≤ 99999
def nm_kp (T : nt_T) (o : Option (nt_S × Nat)) (k : Nat) (mm : nw_M) : Prop := match o with
  | none => mm 2 k = 0
  | some (ρ, h) => mm 2 k = 1 ∧ nm_S T (14 * (k + 1)) ρ mm ∧ mm 1 (14 * (k + 1) + 13) = nI h
def nX (A : nA) (mx : nw_M) : Prop := match A with
  | (T, τ, σ, g, kp, L, tx) => nt_ok T ∧ nx_T 4 T mx ∧ (nt_sok T τ ∧ nx_S (mx 4 5) τ) ∧ (nt_sok T σ ∧ nx_S (mx 0 5) σ) ∧ (mx 0 6 = nI g ∧ g ≤ 99999) ∧ (∀ k, k < 2 → nx_kp T (kp k) (mx 12 k) (mx 13 k)) ∧ mx 1 1 = nI L ∧ L ≤ 200 ∧ ∀ i, i < L → mx 2 i = nI (tx i) ∧ tx i < 256
def nM (A : nA) (mm : nw_M) : Prop := match A with
  | (T, τ, σ, g, kp, L, tx) => nt_ok T ∧ nm_T T mm ∧ (nt_sok T τ ∧ nm_S T 56 τ mm ∧ mm 1 69 = 0) ∧ (nt_sok T σ ∧ nm_S T 0 σ mm) ∧ (mm 1 13 = nI g ∧ g ≤ 99999) ∧ (∀ k, k < 2 → nm_kp T (kp k) k mm) ∧ mm 0 3 = nI L ∧ L ≤ 200 ∧ ∀ i, i < L → mm 3 i = nI (tx i) ∧ tx i < 256
/-- one method on both sides: the same answer, and what both hold -/
def nP (A' : nA) (r : Int32) (kx km : Nat) (as : List Value) (mx mm : nw_M) : Prop := (∀ Q : nw_K, (∀ mx', nX A' mx' → Q (some (.int r)) mx') → nw_Ex 40 nw_shX kx (.ref 0 :: as) mx Q) ∧ ∀ Q : nw_K, (∀ mm', nM A' mm' → Q (some (.int r)) mm') → nw_Ex 40 nw_shM km (.ref 0 :: as) mm Q
def nP2 (A : nA) (kx km : Nat) (as : List Value) : Prop := ∀ mx mm, nX A mx → nM A mm → ∃ A' r, nP A' r kx km as mx mm
/-- the reference's places that count -/
def nm_sc (m1 m2 : nw_M) : Prop := ∀ c k, ((c = 0 ∧ (k = 3 ∨ k = 6 ∨ k = 10)) ∨ (c = 1 ∧ ¬ (42 ≤ k ∧ k < 56)) ∨ c = 2 ∨ c = 3 ∨ c = 5 ∨ c = 6 ∨ c = 7) → m2 c k = m1 c k
theorem nm_sc_rf (m : nw_M) : nm_sc m m := fun _ _ _ => rfl
theorem nm_sc_tr {m1 m2 m3 : nw_M} (h1 : nm_sc m1 m2) (h2 : nm_sc m2 m3) : nm_sc m1 m3 := fun c k h => (h2 c k h).trans (h1 c k h)
theorem nm_sc_fr {m1 m2 : nw_M} (h : nm_fr 42 m1 m2) : nm_sc m1 m2 := fun c k q => h c k (by omega)
theorem nm_sc_up {m : nw_M} {c k : Nat} {v : Int32} (h : c = 9 ∨ c = 10 ∨ c = 11) : nm_sc m (nw_up m c k v) := fun a j q => by rw [nw_up_at, if_neg (by omega)]
theorem nm_T_sc {T : nt_T} {m1 m2 : nw_M} (h : nm_T T m1) (hs : nm_sc m1 m2) : nm_T T m2 := by
  obtain ⟨h1, h2, h3, h4, h5⟩ := h
  refine ⟨?_, ?_, fun c hc => ?_, fun c hc => ?_, fun c hc j hj => ?_⟩
  · rw [hs 0 6 (by omega)]; exact h1
  · rw [hs 0 10 (by omega)]; exact h2
  · rw [hs 5 c (by omega)]; exact h3 c hc
  · rw [hs 6 c (by omega)]; exact h4 c hc
  · rw [hs 7 _ (by omega)]; exact h5 c hc j hj
theorem nm_S_sc {T : nt_T} (hT : nt_ok T) {b : Nat} {σ : nt_S} {m1 m2 : nw_M} (h : nm_S T b σ m1) (hs : nm_sc m1 m2) (hb : b + 13 < 42 ∨ 56 ≤ b) : nm_S T b σ m2 := by
  have h5 := hT.2.2.1
  refine ⟨fun c hc => ?_, fun w hw => ?_⟩
  · rw [hs 1 _ (by omega)]; exact h.1 c hc
  · rw [hs 1 _ (by omega)]; exact h.2 w hw
theorem nM_sc {A : nA} {m1 m2 : nw_M} (h : nM A m1) (hs : nm_sc m1 m2) : nM A m2 := by
  obtain ⟨T, τ, σ, g, kp, L, tx⟩ := A
  obtain ⟨h1, h2, ⟨h3, h4, h5⟩, ⟨h6, h7⟩, ⟨h8, h9⟩, h10, h11, h12, h13⟩ := h
  refine ⟨h1, nm_T_sc h2 hs, ⟨h3, nm_S_sc h1 h4 hs (by omega), by rw [hs 1 69 (by omega)]; exact h5⟩, ⟨h6, nm_S_sc h1 h7 hs (by omega)⟩, ⟨by rw [hs 1 13 (by omega)]; exact h8, h9⟩, fun k hk => ?_, by rw [hs 0 3 (by omega)]; exact h11, h12, fun i hi => by rw [hs 3 i (by omega)]; exact h13 i hi⟩
  have h := h10 k hk
  unfold nm_kp at h ⊢
  cases hkp : kp k with
  | none => rw [hkp] at h; dsimp only at h ⊢; rw [hs 2 k (by omega)]; exact h
  | some q =>
    rw [hkp] at h
    dsimp only at h ⊢
    exact ⟨by rw [hs 2 k (by omega)]; exact h.1, nm_S_sc h1 h.2.1 hs (by omega), by rw [hs 1 _ (by omega)]; exact h.2.2⟩
/-- a call that changes nothing that counts -/
theorem nP_same {A : nA} {r : Int32} {kx km : Nat} {as : List Value} {mx mm : nw_M} (hX : nX A mx) (hM : nM A mm) (h1 : ∀ Q : nw_K, Q (some (.int r)) mx → nw_Ex 40 nw_shX kx (.ref 0 :: as) mx Q) (h2 : ∀ Q : nw_K, (∀ mm', nm_sc mm mm' → Q (some (.int r)) mm') → nw_Ex 40 nw_shM km (.ref 0 :: as) mm Q) : ∃ A' r', nP A' r' kx km as mx mm :=
  ⟨A, r, fun Q h => h1 Q (h mx hX), fun Q h => h2 Q (fun mm' hs => h mm' (nM_sc hM hs))⟩
/-! an int is below, above, or one of them -/
theorem ix3 (x : Int32) {n : Nat} (hn : n < 2 ^ 31) : (x < 0 ∨ nI n ≤ x) ∨ ∃ j : Nat, j < n ∧ x = nI j := by
  rcases pk_ix x hn with h | h | h
  · exact Or.inl (Or.inl h)
  · exact Or.inl (Or.inr h)
  · exact Or.inr h
/-! WALKER -/
theorem p_walker (A : nA) (x : Int32) : nP2 A 77 123 [.int x] := by
  intro mx mm hX hM
  obtain ⟨T, τ, σ, g, kp, L, tx⟩ := A
  have hX0 := hX
  have hM0 := hM
  obtain ⟨h1, h2, -, ⟨h3, h4⟩, -⟩ := hX
  obtain ⟨-, k2, -, ⟨-, k4⟩, -⟩ := hM
  have h5 := h1.2.2.1
  rcases ix3 x (n := nt_m T) (by omega) with hx | ⟨w, hw, rfl⟩
  · refine nP_same (r := -2) hX0 hM0 (fun Q hQ => ?_) (fun Q hQ => ?_)
    · simp only [e77, s77_0, s77_1, s77_4, s77_5, s77_8, s77_11, s77_12, s77_15, s77_16, s77_19, s77_22, s77_24, x_hasWalker_n h2 38 _ hx, false_implies, true_implies, not_true_eq_false, not_false_eq_true, true_and, and_true, true_or, or_true, false_or, or_false, false_and, and_false, implies_true, nw_psh_s, nw_psh_n, ni_10, ni_00]
      exact hQ
    · simp only [e123, s123_0, s123_1, s123_2, s123_5, s123_8, s123_9, s123_12, s123_14, s123_15, s123_16, s123_17, s123_20, s123_22, m_isWalker_n h1 k2 37 _ hx, false_implies, true_implies, not_true_eq_false, not_false_eq_true, true_and, and_true, true_or, or_true, false_or, or_false, false_and, and_false, implies_true, nw_psh_s, nw_psh_n, ni_10, ni_00]
      exact hQ mm (nm_sc_rf mm)
  · refine nP_same (r := nI (σ.2 w)) hX0 hM0 (fun Q hQ => ?_) (fun Q hQ => ?_)
    · simp only [e77, s77_0, s77_1, s77_4, s77_5, s77_8, s77_11, s77_12, s77_15, s77_16, s77_19, s77_22, s77_24, x_hasWalker_y h1 h2 38 _ hw, x_placeOf, (h4.2.2 w (by omega)).1, false_implies, true_implies, not_true_eq_false, not_false_eq_true, true_and, and_true, true_or, or_true, false_or, or_false, false_and, and_false, implies_true, nw_psh_s, nw_psh_n, ni_10, ni_00]
      exact hQ
    · have hi : vp_in (nI (8 + w)) 70 := vp_in_nI (by omega) (by decide)
      have e8 : (8 : Int32) + nI w = nI (8 + w) := nI_add 8 w
      have hq := k4.2 w hw
      rw [Nat.zero_add] at hq
      simp only [e123, s123_0, s123_1, s123_2, s123_5, s123_8, s123_9, s123_12, s123_14, s123_15, s123_16, s123_17, s123_20, s123_22, m_isWalker_y h1 k2 37 _ hw, e8, hi, ni_cl (show 8 + w < 2 ^ 31 by omega), hq, false_implies, true_implies, not_true_eq_false, not_false_eq_true, true_and, and_true, true_or, or_true, false_or, or_false, false_and, and_false, implies_true, nw_psh_s, nw_psh_n, ni_10, ni_00]
      exact hQ mm (nm_sc_rf mm)
