/-! TURN, PUT, KEEP, BACK, ERASE -/
theorem nX_up05 {T : nt_T} {τ σ σ' : nt_S} {g : Nat} {kp : Nat → Option (nt_S × Nat)} {L : Nat} {tx : Nat → Nat} {mx : nw_M} {s : Int32} (h : nX (T, τ, σ, g, kp, L, tx) mx) (hs : nx_S s σ') (ho : nt_sok T σ') : nX (T, τ, σ', g, kp, L, tx) (nw_up mx 0 5 s) := by
  obtain ⟨h1, ⟨a1, a2, a3, a4, a5⟩, ⟨h3, h4⟩, -, ⟨h8, h9⟩, h10, h11, h12, h13⟩ := h
  refine ⟨h1, ⟨a1, a2, a3, a4, a5⟩, ⟨h3, h4⟩, ⟨ho, ?_⟩, ⟨?_, h9⟩, h10, h11, h12, h13⟩
  · rw [nw_up_at, if_pos ⟨rfl, rfl⟩]; exact hs
  · rw [nw_up_at, if_neg (by omega)]; exact h8
theorem nX_up06 {T : nt_T} {τ σ : nt_S} {g g' : Nat} {kp : Nat → Option (nt_S × Nat)} {L : Nat} {tx : Nat → Nat} {mx : nw_M} (h : nX (T, τ, σ, g, kp, L, tx) mx) (hg : g' ≤ 99999) : nX (T, τ, σ, g', kp, L, tx) (nw_up mx 0 6 (nI g')) := by
  obtain ⟨h1, ⟨a1, a2, a3, a4, a5⟩, ⟨h3, h4⟩, ⟨h5, h6⟩, ⟨h8, h9⟩, h10, h11, h12, h13⟩ := h
  refine ⟨h1, ⟨a1, a2, a3, a4, a5⟩, ⟨h3, h4⟩, ⟨h5, ?_⟩, ⟨?_, hg⟩, h10, h11, h12, h13⟩
  · rw [nw_up_at, if_neg (by omega)]; exact h6
  · rw [nw_up_at, if_pos ⟨rfl, rfl⟩]
theorem nm_S_fr {T : nt_T} (hT : nt_ok T) {b b' : Nat} {σ : nt_S} {m1 m2 : nw_M} (h : nm_S T b σ m1) (hf : nm_fr b' m1 m2) (hd : b + 14 ≤ b' ∨ b' + 14 ≤ b) : nm_S T b σ m2 := by
  have h5 := hT.2.2.1
  refine ⟨fun c hc => ?_, fun w hw => ?_⟩
  · rw [hf 1 _ (by omega)]; exact h.1 c hc
  · rw [hf 1 _ (by omega)]; exact h.2 w hw
theorem nm_kp_fr {T : nt_T} (hT : nt_ok T) {o : Option (nt_S × Nat)} {k b : Nat} {m1 m2 : nw_M} (h : nm_kp T o k m1) (hf : nm_fr b m1 m2) (hd : 14 * (k + 1) + 14 ≤ b ∨ b + 14 ≤ 14 * (k + 1)) : nm_kp T o k m2 := by
  unfold nm_kp at h ⊢
  cases o with
  | none => dsimp only at h ⊢; rw [hf 2 k (by omega)]; exact h
  | some q => dsimp only at h ⊢; exact ⟨by rw [hf 2 k (by omega)]; exact h.1, nm_S_fr hT h.2.1 hf (by omega), by rw [hf 1 _ (by omega)]; exact h.2.2⟩
theorem nM_now {T : nt_T} {τ σ σ' : nt_S} {g g' : Nat} {kp : Nat → Option (nt_S × Nat)} {L : Nat} {tx : Nat → Nat} {mm mm' : nw_M} (h : nM (T, τ, σ, g, kp, L, tx) mm) (hf : nm_fr 0 mm mm') (hS : nm_S T 0 σ' mm') (ho : nt_sok T σ') (hg : mm' 1 13 = nI g') (hg' : g' ≤ 99999) : nM (T, τ, σ', g', kp, L, tx) mm' := by
  obtain ⟨h1, h2, ⟨h3, h4, h5⟩, -, -, h10, h11, h12, h13⟩ := h
  exact ⟨h1, nm_T_fr h2 hf, ⟨h3, nm_S_fr h1 h4 hf (by omega), by rw [hf 1 69 (by omega)]; exact h5⟩, ⟨ho, hS⟩, ⟨hg, hg'⟩, fun k hk => nm_kp_fr h1 (h10 k hk) hf (by omega), by rw [hf 0 3 (by omega)]; exact h11, h12, fun i hi => by rw [hf 3 i (by omega)]; exact h13 i hi⟩
theorem p_turn (A : nA) (x : Int32) : nP2 A 79 127 [.int x] := by
  intro mx mm hX hM
  obtain ⟨T, τ, σ, g, kp, L, tx⟩ := A
  have hX0 := hX
  have hM0 := hM
  obtain ⟨h1, h2, -, ⟨h3, h4⟩, -⟩ := hX
  obtain ⟨-, k2, -, ⟨-, k4⟩, ⟨kg, kg9⟩, -⟩ := hM
  have h8 := h1.2.1
  rcases ix3 x (n := nt_n T) (by omega) with hx | ⟨c, hc, rfl⟩
  · refine nP_same (r := -2) hX0 hM0 (fun Q hQ => ?_) (fun Q hQ => ?_)
    · simp only [e79, s79_0, s79_1, s79_4, s79_5, s79_8, s79_11, s79_13, s79_14, s79_15, s79_18, s79_19, s79_22, s79_25, s79_27, s79_28, s79_29, s79_30, s79_33, s79_34, s79_37, s79_38, s79_41, s79_44, s79_45, s79_48, s79_49, s79_52, x_hasCorner_n (Or.inl rfl) h2 38 _ hx, false_implies, true_implies, not_true_eq_false, not_false_eq_true, true_and, and_true, true_or, or_true, false_or, or_false, false_and, and_false, implies_true, nw_psh_s, nw_psh_n, ni_10, ni_00]
      exact hQ
    · simp only [e127, s127_0, s127_1, s127_2, s127_5, s127_8, s127_10, s127_11, s127_12, s127_13, s127_16, s127_19, s127_21, s127_22, s127_23, s127_26, s127_27, s127_28, s127_29, s127_30, s127_33, s127_34, s127_35, s127_38, s127_39, s127_40, m_isCorner_n h1 k2 37 _ hx, false_implies, true_implies, not_true_eq_false, not_false_eq_true, true_and, and_true, true_or, or_true, false_or, or_false, false_and, and_false, implies_true, nw_psh_s, nw_psh_n, ni_10, ni_00]
      exact hQ mm (nm_sc_rf mm)
  · have hc8 : c < 8 := by omega
    by_cases hl : nt_left T c = true
    · have hw0 := nt_left_w hl
      have hlt := nt_nv_lt (x := σ.1 c) hw0
      have h4w := (h1.2.2.2 c).2.1
      have hvc := (h3.1 c).1 hw0
      have hsv : nx_S (ns_sv (mx 0 5) c (nt_nv T c (σ.1 c))) (nf_up σ.1 c (nt_nv T c (σ.1 c)), σ.2) := nx_S_sv h4 hc8 (by omega)
      have hok : nt_sok T (nf_up σ.1 c (nt_nv T c (σ.1 c)), σ.2) := by
        have := (nt_lv_ok h1 h3.1 hc).1
        unfold nt_lv at this
        rw [if_pos hl] at this
        exact ⟨this, h3.2⟩
      refine ⟨(T, τ, (nf_up σ.1 c (nt_nv T c (σ.1 c)), σ.2), g, kp, L, tx), nI (nt_nv T c (σ.1 c)), fun Q hQ => ?_, fun Q hQ => ?_⟩
      · have hq := hQ _ (nX_up05 hX0 hsv hok)
        have hv := (hsv.2.1 c hc8).1
        simp only [nf_up, if_true] at hv
        simp only [e79, s79_0, s79_1, s79_4, s79_5, s79_8, s79_11, s79_13, s79_14, s79_15, s79_18, s79_19, s79_22, s79_25, s79_27, s79_28, s79_29, s79_30, s79_33, s79_34, s79_37, s79_38, s79_41, s79_44, s79_45, s79_48, s79_49, s79_52, x_hasCorner_y (Or.inl rfl) h1 h2 38 _ hc, x_isLeft h1 h2 37 _ hc8, hl, if_true, x_turned h1 h2 36 _ h4 hc8 hw0, x_vaneOf, nw_up_at, and_self, hv, false_implies, true_implies, not_true_eq_false, not_false_eq_true, true_and, and_true, true_or, or_true, false_or, or_false, false_and, and_false, implies_true, nw_psh_s, nw_psh_n, ni_10, ni_00]
        exact hq
      · have hi : vp_in (nI c) 70 := vp_in_nI (by omega) (by decide)
        have hnv := fun Q' => m_nextVane h1 k2 (b := 0) k4.1 (by decide) 37 Q' hc8 hw0 (by omega)
        simp only [e127, s127_0, s127_1, s127_2, s127_5, s127_8, s127_10, s127_11, s127_12, s127_13, s127_16, s127_19, s127_21, s127_22, s127_23, s127_26, s127_27, s127_28, s127_29, s127_30, s127_33, s127_34, s127_35, s127_38, s127_39, s127_40, m_isCorner_y h1 k2 37 _ hc, m_isLeft h1 k2 38 _ hc8, hl, if_true, show (0 : Int32) = nI 0 from rfl, show ((1 : Int32) = nI 0) = False from eq_false (by decide), hnv, hi, ni_cl (show c < 2 ^ 31 by omega), nw_up_at, and_self, false_implies, true_implies, not_true_eq_false, not_false_eq_true, true_and, and_true, true_or, or_true, false_or, or_false, false_and, and_false, implies_true, nw_psh_s, nw_psh_n, ni_10, ni_00]
        refine hQ _ (nM_now hM0 (nm_fr_up mm _ (by omega) (by omega)) ⟨fun j hj => ?_, fun w hw => ?_⟩ hok ?_ kg9)
        · rw [nw_up_at, Nat.zero_add]
          show _ = nI (nf_up σ.1 c _ j)
          by_cases hjc : j = c
          · rw [if_pos ⟨rfl, hjc⟩]; simp only [nf_up, if_pos hjc]
          · rw [if_neg (by omega)]; simp only [nf_up, if_neg hjc]
            have := k4.1 j hj
            rwa [Nat.zero_add] at this
        · rw [nw_up_at, if_neg (by omega)]; exact k4.2 w hw
        · rw [nw_up_at, if_neg (by omega)]; exact kg
    · refine nP_same (r := -4) hX0 hM0 (fun Q hQ => ?_) (fun Q hQ => ?_)
      · simp only [e79, s79_0, s79_1, s79_4, s79_5, s79_8, s79_11, s79_13, s79_14, s79_15, s79_18, s79_19, s79_22, s79_25, s79_27, s79_28, s79_29, s79_30, s79_33, s79_34, s79_37, s79_38, s79_41, s79_44, s79_45, s79_48, s79_49, s79_52, x_hasCorner_y (Or.inl rfl) h1 h2 38 _ hc, x_isLeft h1 h2 37 _ hc8, hl, if_false, false_implies, true_implies, not_true_eq_false, not_false_eq_true, true_and, and_true, true_or, or_true, false_or, or_false, false_and, and_false, implies_true, nw_psh_s, nw_psh_n, ni_10, ni_00]
        simpa using hQ
      · have hq := hQ mm (nm_sc_rf mm)
        simp only [e127, s127_0, s127_1, s127_2, s127_5, s127_8, s127_10, s127_11, s127_12, s127_13, s127_16, s127_19, s127_21, s127_22, s127_23, s127_26, s127_27, s127_28, s127_29, s127_30, s127_33, s127_34, s127_35, s127_38, s127_39, s127_40, m_isCorner_y h1 k2 37 _ hc, m_isLeft h1 k2 38 _ hc8, hl, if_false, false_implies, true_implies, not_true_eq_false, not_false_eq_true, true_and, and_true, true_or, or_true, false_or, or_false, false_and, and_false, implies_true, nw_psh_s, nw_psh_n, ni_10, ni_00]
        simpa using hq
theorem p_put (A : nA) (x y : Int32) : nP2 A 80 128 [.int x, .int y] := by
  intro mx mm hX hM
  obtain ⟨T, τ, σ, g, kp, L, tx⟩ := A
  have hX0 := hX
  have hM0 := hM
  obtain ⟨h1, h2, -, ⟨h3, h4⟩, -⟩ := hX
  obtain ⟨-, k2, -, ⟨-, k4⟩, ⟨kg, kg9⟩, -⟩ := hM
  have h8 := h1.2.1
  have h5 := h1.2.2.1
  rcases ix3 x (n := nt_m T) (by omega) with hx | ⟨w, hw, rfl⟩
  · refine nP_same (r := -2) hX0 hM0 (fun Q hQ => ?_) (fun Q hQ => ?_)
    · simp only [e80, s80_0, s80_1, s80_4, s80_5, s80_8, s80_11, s80_12, s80_15, s80_16, s80_19, s80_22, s80_24, s80_25, s80_26, s80_29, s80_30, s80_33, s80_34, s80_35, s80_36, s80_39, s80_40, s80_41, s80_44, s80_47, s80_48, x_hasWalker_n h2 38 _ hx, false_implies, true_implies, not_true_eq_false, not_false_eq_true, true_and, and_true, true_or, or_true, false_or, or_false, false_and, and_false, implies_true, nw_psh_s, nw_psh_n, ni_10, ni_00]
      exact hQ
    · simp only [e128, s128_0, s128_1, s128_2, s128_5, s128_8, s128_9, s128_10, s128_13, s128_16, s128_18, s128_19, s128_20, s128_23, s128_25, s128_26, s128_27, s128_28, s128_29, s128_30, s128_33, s128_35, s128_36, s128_37, s128_38, s128_39, s128_40, m_isWalker_n h1 k2 37 _ hx, false_implies, true_implies, not_true_eq_false, not_false_eq_true, true_and, and_true, true_or, or_true, false_or, or_false, false_and, and_false, implies_true, nw_psh_s, nw_psh_n, ni_10, ni_00]
      exact hQ mm (nm_sc_rf mm)
  · rcases ix3 y (n := nt_n T) (by omega) with hy | ⟨c, hc, rfl⟩
    · refine nP_same (r := -2) hX0 hM0 (fun Q hQ => ?_) (fun Q hQ => ?_)
      · simp only [e80, s80_0, s80_1, s80_4, s80_5, s80_8, s80_11, s80_12, s80_15, s80_16, s80_19, s80_22, s80_24, s80_25, s80_26, s80_29, s80_30, s80_33, s80_34, s80_35, s80_36, s80_39, s80_40, s80_41, s80_44, s80_47, s80_48, x_hasWalker_y h1 h2 38 _ hw, x_hasCorner_n (Or.inl rfl) h2 38 _ hy, false_implies, true_implies, not_true_eq_false, not_false_eq_true, true_and, and_true, true_or, or_true, false_or, or_false, false_and, and_false, implies_true, nw_psh_s, nw_psh_n, ni_10, ni_00]
        exact hQ
      · simp only [e128, s128_0, s128_1, s128_2, s128_5, s128_8, s128_9, s128_10, s128_13, s128_16, s128_18, s128_19, s128_20, s128_23, s128_25, s128_26, s128_27, s128_28, s128_29, s128_30, s128_33, s128_35, s128_36, s128_37, s128_38, s128_39, s128_40, m_isWalker_y h1 k2 37 _ hw, m_isCorner_n h1 k2 37 _ hy, false_implies, true_implies, not_true_eq_false, not_false_eq_true, true_and, and_true, true_or, or_true, false_or, or_false, false_and, and_false, implies_true, nw_psh_s, nw_psh_n, ni_10, ni_00]
        exact hQ mm (nm_sc_rf mm)
    · have hsv : nx_S (ns_sp (mx 0 5) w c) (σ.1, nf_up σ.2 w c) := nx_S_sp h4 (by omega) (by omega)
      have hok : nt_sok T (σ.1, nf_up σ.2 w c) := ⟨h3.1, fun j hj => by
        show nf_up σ.2 w c j < _
        by_cases hjw : j = w
        · simp only [nf_up, if_pos hjw]; exact hc
        · simp only [nf_up, if_neg hjw]; exact h3.2 j hj⟩
      refine ⟨(T, τ, (σ.1, nf_up σ.2 w c), g, kp, L, tx), nI (σ.2 w), fun Q hQ => ?_, fun Q hQ => ?_⟩
      · have hq := hQ _ (nX_up05 hX0 hsv hok)
        simp only [e80, s80_0, s80_1, s80_4, s80_5, s80_8, s80_11, s80_12, s80_15, s80_16, s80_19, s80_22, s80_24, s80_25, s80_26, s80_29, s80_30, s80_33, s80_34, s80_35, s80_36, s80_39, s80_40, s80_41, s80_44, s80_47, s80_48, x_hasWalker_y h1 h2 38 _ hw, x_hasCorner_y (Or.inl rfl) h1 h2 38 _ hc, x_placeOf, (h4.2.2 w (by omega)).1, x_withPlace, false_implies, true_implies, not_true_eq_false, not_false_eq_true, true_and, and_true, true_or, or_true, false_or, or_false, false_and, and_false, implies_true, nw_psh_s, nw_psh_n, ni_10, ni_00]
        exact hq
      · have hi : vp_in (nI (8 + w)) 70 := vp_in_nI (by omega) (by decide)
        have e8 : (8 : Int32) + nI w = nI (8 + w) := nI_add 8 w
        have hp := k4.2 w hw
        rw [Nat.zero_add] at hp
        simp only [e128, s128_0, s128_1, s128_2, s128_5, s128_8, s128_9, s128_10, s128_13, s128_16, s128_18, s128_19, s128_20, s128_23, s128_25, s128_26, s128_27, s128_28, s128_29, s128_30, s128_33, s128_35, s128_36, s128_37, s128_38, s128_39, s128_40, m_isWalker_y h1 k2 37 _ hw, m_isCorner_y h1 k2 37 _ hc, e8, hi, ni_cl (show 8 + w < 2 ^ 31 by omega), hp, false_implies, true_implies, not_true_eq_false, not_false_eq_true, true_and, and_true, true_or, or_true, false_or, or_false, false_and, and_false, implies_true, nw_psh_s, nw_psh_n, ni_10, ni_00]
        refine hQ _ (nM_now hM0 (nm_fr_up mm _ (by omega) (by omega)) ⟨fun j hj => ?_, fun j hj => ?_⟩ hok ?_ kg9)
        · rw [nw_up_at, if_neg (by omega)]; exact k4.1 j hj
        · rw [nw_up_at]
          show _ = nI (nf_up σ.2 w c j)
          by_cases hjw : j = w
          · rw [if_pos (by omega)]; simp only [nf_up, if_pos hjw]
          · rw [if_neg (by omega)]; simp only [nf_up, if_neg hjw]; exact k4.2 j hj
        · rw [nw_up_at, if_neg (by omega)]; exact kg
theorem lt2_out {x : Int32} (h : ¬ x < 0) (h2 : x < 0 ∨ nI 2 ≤ x) : (x < 2) = False := eq_false (fun z => by
  have q := h2.resolve_left h
  rw [fa_le] at q
  rw [fa_lt] at z
  have h4 : (2 : Int32) = nI 2 := rfl
  rw [h4] at z
  omega)
theorem p_keep (A : nA) (x : Int32) : nP2 A 81 129 [.int x] := by
  intro mx mm hX hM
  obtain ⟨T, τ, σ, g, kp, L, tx⟩ := A
  have hX0 := hX
  have hM0 := hM
  obtain ⟨h1, ⟨a1, a2, a3, a4, a5⟩, ⟨h3, h4⟩, ⟨h5, h6⟩, ⟨h8, h9⟩, h10, h11, h12, h13⟩ := hX
  obtain ⟨-, k2, ⟨-, k3, k3b⟩, ⟨-, k4⟩, ⟨kg, kg9⟩, k10, k11, k12, k13⟩ := hM
  have hin := fun Q' => m_in 38 Q' x 0 1 mm
  rcases ix3 x (n := 2) (by decide) with hx | ⟨k, hk, rfl⟩
  · refine nP_same (r := -2) hX0 hM0 (fun Q hQ => ?_) (fun Q hQ => ?_)
    · by_cases q : x < 0
      · simp only [e81, s81_0, s81_1, s81_4, s81_5, s81_6, s81_9, s81_11, s81_12, s81_13, s81_16, s81_17, s81_18, s81_21, s81_22, s81_23, s81_26, s81_27, s81_28, s81_31, s81_32, s81_33, s81_36, q, false_implies, true_implies, not_true_eq_false, not_false_eq_true, true_and, and_true, true_or, or_true, false_or, or_false, false_and, and_false, implies_true, nw_psh_s, nw_psh_n, ni_10, ni_00]
        exact hQ
      · simp only [e81, s81_0, s81_1, s81_4, s81_5, s81_6, s81_9, s81_11, s81_12, s81_13, s81_16, s81_17, s81_18, s81_21, s81_22, s81_23, s81_26, s81_27, s81_28, s81_31, s81_32, s81_33, s81_36, q, lt2_out q hx, false_implies, true_implies, not_true_eq_false, not_false_eq_true, true_and, and_true, true_or, or_true, false_or, or_false, false_and, and_false, implies_true, nw_psh_s, nw_psh_n, ni_10, ni_00]
        exact hQ
    · simp only [e129, s129_0, s129_1, s129_2, s129_3, s129_4, s129_7, s129_10, s129_12, s129_13, s129_14, s129_15, s129_16, s129_17, s129_18, s129_21, s129_22, s129_25, s129_26, s129_27, s129_28, s129_29, s129_32, s129_34, s129_35, lw_0, lw_1, hin, show (x < 0 ∨ (1 : Int32) < x) = True from in_lit_out (n := 1) (by decide) hx, if_true, false_implies, true_implies, not_true_eq_false, not_false_eq_true, true_and, and_true, true_or, or_true, false_or, or_false, false_and, and_false, implies_true, nw_psh_s, nw_psh_n, ni_10, ni_00]
      exact hQ mm (nm_sc_rf mm)
  · have hi2 : vp_in (nI k) 2 := vp_in_nI hk (by decide)
    refine ⟨(T, τ, σ, g, fun j => if j = k then some (σ, g) else kp j, L, tx), nI g, fun Q hQ => ?_, fun Q hQ => ?_⟩
    · simp only [e81, s81_0, s81_1, s81_4, s81_5, s81_6, s81_9, s81_11, s81_12, s81_13, s81_16, s81_17, s81_18, s81_21, s81_22, s81_23, s81_26, s81_27, s81_28, s81_31, s81_32, s81_33, s81_36, ni_nlt0 (show k < 2 ^ 31 by omega), show (nI k < 2) = True from ni_lt_t (b := 2) hk (by decide), hi2, ni_cl (show k < 2 ^ 31 by omega), nw_up_at, show ((0 : Nat) = 12) = False from eq_false (by decide), show ((0 : Nat) = 13) = False from eq_false (by decide), if_false, h8, false_implies, true_implies, not_true_eq_false, not_false_eq_true, true_and, and_true, true_or, or_true, false_or, or_false, false_and, and_false, implies_true, nw_psh_s, nw_psh_n, ni_10, ni_00]
      refine hQ _ ⟨h1, ⟨a1, a2, a3, a4, a5⟩, ⟨h3, h4⟩, ⟨h5, h6⟩, ⟨h8, h9⟩, fun j hj => ?_, h11, h12, h13⟩
      simp only [nw_up_at]
      by_cases hjk : j = k
      · simp only [hjk, if_true, and_self, true_and, and_true, show ((12 : Nat) = 13) = False from eq_false (by decide), show ((13 : Nat) = 12) = False from eq_false (by decide), false_and, if_false]
        exact ⟨h5, h6, rfl, h9⟩
      · simp only [hjk, and_false, if_false]
        exact h10 j hj
    · have e1 : (1 : Int32) + nI k = nI (1 + k) := nI_add 1 k
      have hcop := fun Q' hq => m_copy (a := 0) (b := 1 + k) (by decide) (by omega) (by omega) (mem := mm) 38 Q' hq
      have h13i : vp_in (13 : Int32) 70 := vp_in_nI (n := 13) (by decide) (by decide)
      simp only [e129, s129_0, s129_1, s129_2, s129_3, s129_4, s129_7, s129_10, s129_12, s129_13, s129_14, s129_15, s129_16, s129_17, s129_18, s129_21, s129_22, s129_25, s129_26, s129_27, s129_28, s129_29, s129_32, s129_34, s129_35, lw_0, lw_1, hin, show (nI k < 0 ∨ (1 : Int32) < nI k) = False from in_lit (n := 1) (by omega) (by decide), if_false, e1, false_implies, true_implies, not_true_eq_false, not_false_eq_true, true_and, and_true, true_or, or_true, false_or, or_false, false_and, and_false, implies_true, nw_psh_s, nw_psh_n, ni_10, ni_00]
      refine hcop _ ?_
      simp only [e129, s129_0, s129_1, s129_2, s129_3, s129_4, s129_7, s129_10, s129_12, s129_13, s129_14, s129_15, s129_16, s129_17, s129_18, s129_21, s129_22, s129_25, s129_26, s129_27, s129_28, s129_29, s129_32, s129_34, s129_35, hi2, ni_cl (show k < 2 ^ 31 by omega), h13i, show (13 : Int32).toNatClampNeg = 13 from rfl, nw_up_at, nm_cp_at, show ((1 : Nat) = 2) = False from eq_false (by decide), if_false, false_implies, true_implies, not_true_eq_false, not_false_eq_true, true_and, and_true, true_or, or_true, false_or, or_false, false_and, and_false, implies_true, nw_psh_s, nw_psh_n, ni_10, ni_00]
      rw [if_neg (by omega), kg]
      have hf := nm_cp_fr (14 * 0) (14 * (1 + k)) mm
      refine hQ _ ?_
      have hS := nm_cp_S h1 (b := 14 * (1 + k)) (a := 14 * 0) k4
      have hup : ∀ c j, ¬ c = 2 → nw_up (nm_cp (14 * 0) (14 * (1 + k)) 14 mm) 2 k 1 c j = nm_cp (14 * 0) (14 * (1 + k)) 14 mm c j := fun c j hc => by rw [nw_up_at, if_neg (by omega)]
      have hmov : ∀ b' σ', nm_S T b' σ' (nm_cp (14 * 0) (14 * (1 + k)) 14 mm) → nm_S T b' σ' (nw_up (nm_cp (14 * 0) (14 * (1 + k)) 14 mm) 2 k 1) := fun b' σ' h => ⟨fun c hc => by rw [hup _ _ (by decide)]; exact h.1 c hc, fun w hw => by rw [hup _ _ (by decide)]; exact h.2 w hw⟩
      have hT2 : nm_T T (nm_cp (14 * 0) (14 * (1 + k)) 14 mm) := nm_T_fr k2 hf
      refine ⟨h1, ⟨?_, ?_, fun c hc => ?_, fun c hc => ?_, fun c hc j hj => ?_⟩, ⟨h3, hmov _ _ (nm_S_fr h1 k3 hf (by omega)), ?_⟩, ⟨h5, hmov _ _ (nm_S_fr h1 k4 hf (by omega))⟩, ⟨?_, kg9⟩, fun j hj => ?_, ?_, k12, fun i hi => ?_⟩
      · rw [hup _ _ (by decide)]; exact hT2.1
      · rw [hup _ _ (by decide)]; exact hT2.2.1
      · rw [hup _ _ (by decide)]; exact hT2.2.2.1 c hc
      · rw [hup _ _ (by decide)]; exact hT2.2.2.2.1 c hc
      · rw [hup _ _ (by decide)]; exact hT2.2.2.2.2 c hc j hj
      · rw [hup _ _ (by decide), hf 1 69 (by omega)]; exact k3b
      · rw [hup _ _ (by decide), hf 1 13 (by omega)]; exact kg
      · by_cases hjk : j = k
        · subst hjk
          simp only [if_true]
          refine ⟨by rw [nw_up_at, if_pos ⟨rfl, rfl⟩], ?_, ?_⟩
          · rw [show 14 * (j + 1) = 14 * (1 + j) by omega]; exact hmov _ _ hS
          · rw [hup _ _ (by decide), nm_cp_at, if_pos (by omega), show 14 * 0 + (14 * (j + 1) + 13 - 14 * (1 + j)) = 13 by omega]; exact kg
        · simp only [hjk, if_false]
          have h := nm_kp_fr h1 (k10 j hj) hf (by omega)
          unfold nm_kp at h ⊢
          cases hkp : kp j with
          | none => rw [hkp] at h; dsimp only at h ⊢; rw [nw_up_at, if_neg (by omega)]; exact h
          | some q => rw [hkp] at h; dsimp only at h ⊢; exact ⟨by rw [nw_up_at, if_neg (by omega)]; exact h.1, hmov _ _ h.2.1, by rw [hup _ _ (by decide)]; exact h.2.2⟩
      · rw [hup _ _ (by decide), hf 0 3 (by omega)]; exact k11
      · rw [hup _ _ (by decide), hf 3 i (by omega)]; exact k13 i hi
theorem p_back (A : nA) (x : Int32) : nP2 A 82 130 [.int x] := by
  intro mx mm hX hM
  obtain ⟨T, τ, σ, g, kp, L, tx⟩ := A
  have hX0 := hX
  have hM0 := hM
  obtain ⟨h1, h2, ⟨h3, h4⟩, ⟨h5, h6⟩, ⟨h8, h9⟩, h10, h11, h12, h13⟩ := hX
  obtain ⟨-, k2, ⟨-, k3, k3b⟩, ⟨-, k4⟩, ⟨kg, kg9⟩, k10, k11, k12, k13⟩ := hM
  have hin := fun Q' => m_in 38 Q' x 0 1 mm
  rcases ix3 x (n := 2) (by decide) with hx | ⟨k, hk, rfl⟩
  · refine nP_same (r := -2) hX0 hM0 (fun Q hQ => ?_) (fun Q hQ => ?_)
    · by_cases q : x < 0
      · simp only [e82, s82_0, s82_1, s82_4, s82_5, s82_6, s82_9, s82_11, s82_12, s82_13, s82_16, s82_17, s82_18, s82_19, s82_22, s82_24, s82_25, s82_26, s82_27, s82_30, s82_31, s82_32, s82_35, s82_36, s82_37, s82_40, s82_41, s82_42, s82_45, s82_46, s82_49, q, false_implies, true_implies, not_true_eq_false, not_false_eq_true, true_and, and_true, true_or, or_true, false_or, or_false, false_and, and_false, implies_true, nw_psh_s, nw_psh_n, ni_10, ni_00]
        exact hQ
      · simp only [e82, s82_0, s82_1, s82_4, s82_5, s82_6, s82_9, s82_11, s82_12, s82_13, s82_16, s82_17, s82_18, s82_19, s82_22, s82_24, s82_25, s82_26, s82_27, s82_30, s82_31, s82_32, s82_35, s82_36, s82_37, s82_40, s82_41, s82_42, s82_45, s82_46, s82_49, q, lt2_out q hx, false_implies, true_implies, not_true_eq_false, not_false_eq_true, true_and, and_true, true_or, or_true, false_or, or_false, false_and, and_false, implies_true, nw_psh_s, nw_psh_n, ni_10, ni_00]
        exact hQ
    · simp only [e130, s130_0, s130_1, s130_2, s130_3, s130_4, s130_7, s130_10, s130_12, s130_13, s130_14, s130_17, s130_18, s130_19, s130_22, s130_24, s130_25, s130_26, s130_27, s130_28, s130_29, s130_30, s130_33, s130_34, s130_37, s130_39, s130_40, lw_0, lw_1, hin, show (x < 0 ∨ (1 : Int32) < x) = True from in_lit_out (n := 1) (by decide) hx, if_true, false_implies, true_implies, not_true_eq_false, not_false_eq_true, true_and, and_true, true_or, or_true, false_or, or_false, false_and, and_false, implies_true, nw_psh_s, nw_psh_n, ni_10, ni_00]
      exact hQ mm (nm_sc_rf mm)
  · have hi2 : vp_in (nI k) 2 := vp_in_nI hk (by decide)
    have hx10 := h10 k hk
    have hm10 := k10 k hk
    have e1 : (1 : Int32) + nI k = nI (1 + k) := nI_add 1 k
    have hlt2 : (nI k < 2) = True := ni_lt_t (b := 2) hk (by decide)
    have hin2 : (nI k < 0 ∨ (1 : Int32) < nI k) = False := in_lit (n := 1) (by omega) (by decide)
    unfold nx_kp at hx10
    unfold nm_kp at hm10
    cases hkp : kp k with
    | none =>
      rw [hkp] at hx10 hm10
      dsimp only at hx10 hm10
      refine nP_same (r := -4) hX0 hM0 (fun Q hQ => ?_) (fun Q hQ => ?_)
      · simp only [e82, s82_0, s82_1, s82_4, s82_5, s82_6, s82_9, s82_11, s82_12, s82_13, s82_16, s82_17, s82_18, s82_19, s82_22, s82_24, s82_25, s82_26, s82_27, s82_30, s82_31, s82_32, s82_35, s82_36, s82_37, s82_40, s82_41, s82_42, s82_45, s82_46, s82_49, ni_nlt0 (show k < 2 ^ 31 by omega), hlt2, hi2, ni_cl (show k < 2 ^ 31 by omega), hx10, false_implies, true_implies, not_true_eq_false, not_false_eq_true, true_and, and_true, true_or, or_true, false_or, or_false, false_and, and_false, implies_true, nw_psh_s, nw_psh_n, ni_10, ni_00]
        exact hQ
      · simp only [e130, s130_0, s130_1, s130_2, s130_3, s130_4, s130_7, s130_10, s130_12, s130_13, s130_14, s130_17, s130_18, s130_19, s130_22, s130_24, s130_25, s130_26, s130_27, s130_28, s130_29, s130_30, s130_33, s130_34, s130_37, s130_39, s130_40, lw_0, lw_1, hin, hin2, if_false, hi2, ni_cl (show k < 2 ^ 31 by omega), hm10, false_implies, true_implies, not_true_eq_false, not_false_eq_true, true_and, and_true, true_or, or_true, false_or, or_false, false_and, and_false, implies_true, nw_psh_s, nw_psh_n, ni_10, ni_00]
        exact hQ mm (nm_sc_rf mm)
    | some q =>
      obtain ⟨ρ, h⟩ := q
      rw [hkp] at hx10 hm10
      dsimp only at hx10 hm10
      obtain ⟨r1, r2, r3, r4⟩ := hx10
      obtain ⟨s1, s2, s3⟩ := hm10
      refine ⟨(T, τ, ρ, h, kp, L, tx), nI h, fun Q hQ => ?_, fun Q hQ => ?_⟩
      · have hne : (nI h = -1) = False := eq_false (fun z => by
          have : nI h < 0 := by rw [z]; decide
          exact nI_pos (by omega) this)
        simp only [e82, s82_0, s82_1, s82_4, s82_5, s82_6, s82_9, s82_11, s82_12, s82_13, s82_16, s82_17, s82_18, s82_19, s82_22, s82_24, s82_25, s82_26, s82_27, s82_30, s82_31, s82_32, s82_35, s82_36, s82_37, s82_40, s82_41, s82_42, s82_45, s82_46, s82_49, ni_nlt0 (show k < 2 ^ 31 by omega), hlt2, hi2, ni_cl (show k < 2 ^ 31 by omega), r3, hne, nw_up_at, show ((12 : Nat) = 0) = False from eq_false (by decide), show ((13 : Nat) = 0) = False from eq_false (by decide), and_self, if_false, if_true, false_implies, true_implies, not_true_eq_false, not_false_eq_true, true_and, and_true, true_or, or_true, false_or, or_false, false_and, and_false, implies_true, nw_psh_s, nw_psh_n, ni_10, ni_00]
        exact hQ _ (nX_up06 (nX_up05 hX0 r2 r1) r4)
      · have hcop := fun Q' hq => m_copy (a := 1 + k) (b := 0) (by omega) (by decide) (by omega) (mem := mm) 38 Q' hq
        have h13i : vp_in (13 : Int32) 70 := vp_in_nI (n := 13) (by decide) (by decide)
        simp only [e130, s130_0, s130_1, s130_2, s130_3, s130_4, s130_7, s130_10, s130_12, s130_13, s130_14, s130_17, s130_18, s130_19, s130_22, s130_24, s130_25, s130_26, s130_27, s130_28, s130_29, s130_30, s130_33, s130_34, s130_37, s130_39, s130_40, lw_0, lw_1, hin, hin2, if_false, hi2, ni_cl (show k < 2 ^ 31 by omega), s1, e1, false_implies, true_implies, not_true_eq_false, not_false_eq_true, true_and, and_true, true_or, or_true, false_or, or_false, false_and, and_false, implies_true, nw_psh_s, nw_psh_n, ni_10, ni_00]
        refine hcop _ ?_
        have hg : nm_cp (14 * (1 + k)) (14 * 0) 14 mm 1 13 = nI h := by
          rw [nm_cp_at, if_pos (by omega), show 14 * (1 + k) + (13 - 14 * 0) = 14 * (k + 1) + 13 by omega]
          exact s3
        simp only [e130, s130_0, s130_1, s130_2, s130_3, s130_4, s130_7, s130_10, s130_12, s130_13, s130_14, s130_17, s130_18, s130_19, s130_22, s130_24, s130_25, s130_26, s130_27, s130_28, s130_29, s130_30, s130_33, s130_34, s130_37, s130_39, s130_40, h13i, show (13 : Int32).toNatClampNeg = 13 from rfl, hg, false_implies, true_implies, not_true_eq_false, not_false_eq_true, true_and, and_true, true_or, or_true, false_or, or_false, false_and, and_false, implies_true, nw_psh_s, nw_psh_n, ni_10, ni_00]
        refine hQ _ (nM_now hM0 (nm_cp_fr _ 0 mm) ?_ r1 hg r4)
        have := nm_cp_S h1 (b := 14 * 0) s2
        rw [show 14 * (k + 1) = 14 * (1 + k) by omega] at this
        exact this
