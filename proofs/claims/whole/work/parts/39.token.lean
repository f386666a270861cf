/-! TOKENS -/
def nso (c : Nat) : Nat := if 97 ≤ c ∧ c ≤ 122 then 1 else if 48 ≤ c ∧ c ≤ 57 then 2 else 0
def nsk (tx : Nat → Nat) : Nat → Nat → Nat
  | 0, i => i
  | j + 1, i => if tx i = 32 then nsk tx j (i + 1) else i
def nte (tx : Nat → Nat) (k : Nat) : Nat → Nat → Nat
  | 0, i => i
  | j + 1, i => if nso (tx i) = k then nte tx k j (i + 1) else i
/-- the token from a place on: where it is, where it ends -/
def ntk (L : Nat) (tx : Nat → Nat) (a : Nat) : Nat := nsk tx (L - a) a
def nen (L : Nat) (tx : Nat → Nat) (s : Nat) : Nat := if s < L then (if nso (tx s) = 0 then s + 1 else nte tx (nso (tx s)) (L - (s + 1)) (s + 1)) else s
def nsp (L : Nat) (tx : Nat → Nat) (s : Nat) : Nat := if s < L then (if nso (tx s) = 0 then 3 else nso (tx s)) else 0
theorem nsk_le (tx : Nat → Nat) : ∀ j i, i ≤ nsk tx j i ∧ nsk tx j i ≤ i + j
  | 0, i => ⟨Nat.le_refl i, Nat.le_refl i⟩
  | j + 1, i => by
    have := nsk_le tx j (i + 1)
    unfold nsk
    split <;> omega
theorem nte_le (tx : Nat → Nat) (k : Nat) : ∀ j i, i ≤ nte tx k j i ∧ nte tx k j i ≤ i + j
  | 0, i => ⟨Nat.le_refl i, Nat.le_refl i⟩
  | j + 1, i => by
    have := nte_le tx k j (i + 1)
    unfold nte
    split <;> omega
theorem ntk_le {L a : Nat} (tx : Nat → Nat) (h : a ≤ L) : a ≤ ntk L tx a ∧ ntk L tx a ≤ L := by
  have := nsk_le tx (L - a) a
  unfold ntk
  omega
theorem nen_le {L s : Nat} (tx : Nat → Nat) (h : s ≤ L) : s ≤ nen L tx s ∧ nen L tx s ≤ L := by
  have := nte_le tx (nso (tx s)) (L - (s + 1)) (s + 1)
  unfold nen
  split
  · split <;> omega
  · omega
theorem nso_le (c : Nat) : nso c ≤ 2 := by unfold nso; split <;> (try split) <;> omega
theorem m_sort (d : Nat) (Q : nw_K) {c : Nat} (hc : c < 256) (mem : nw_M) : nw_Ex (d + 1) nw_shM 101 [.int (nI c)] mem Q = Q (some (.int (nI (nso c)))) mem := by
  unfold nso
  by_cases h1 : 97 ≤ c
  · have q1 : (nI c < 97) = False := ni_lt_f (b := 97) h1 (by omega)
    by_cases h2 : c ≤ 122
    · have q2 : ((122 : Int32) < nI c) = False := ni_lt_f (a := 122) h2 (by decide)
      rw [if_pos ⟨h1, h2⟩]
      simp only [e101, s101_0, s101_1, s101_3, s101_6, s101_7, s101_9, s101_12, s101_13, s101_16, s101_17, s101_19, s101_22, s101_23, s101_25, s101_28, s101_29, s101_32, s101_33, q1, q2, false_implies, true_implies, not_true_eq_false, not_false_eq_true, true_and, and_true, true_or, or_true, false_or, or_false, false_and, and_false, implies_true, nw_psh_s, nw_psh_n, ni_10, ni_00]
      rfl
    · have q2 : ((122 : Int32) < nI c) = True := ni_lt_t (a := 122) (by omega) (by omega)
      have q3 : (nI c < 48) = False := ni_lt_f (b := 48) (by omega) (by omega)
      have q4 : ((57 : Int32) < nI c) = True := ni_lt_t (a := 57) (by omega) (by omega)
      rw [if_neg (fun q => h2 q.2), if_neg (fun q => by omega)]
      simp only [e101, s101_0, s101_1, s101_3, s101_6, s101_7, s101_9, s101_12, s101_13, s101_16, s101_17, s101_19, s101_22, s101_23, s101_25, s101_28, s101_29, s101_32, s101_33, q1, q2, q3, q4, false_implies, true_implies, not_true_eq_false, not_false_eq_true, true_and, and_true, true_or, or_true, false_or, or_false, false_and, and_false, implies_true, nw_psh_s, nw_psh_n, ni_10, ni_00]
      rfl
  · have q1 : (nI c < 97) = True := ni_lt_t (b := 97) (by omega) (by decide)
    rw [if_neg (fun q => h1 q.1)]
    by_cases h3 : 48 ≤ c
    · have q3 : (nI c < 48) = False := ni_lt_f (b := 48) (by omega) (by omega)
      by_cases h4 : c ≤ 57
      · have q4 : ((57 : Int32) < nI c) = False := ni_lt_f (a := 57) h4 (by decide)
        rw [if_pos ⟨h3, h4⟩]
        simp only [e101, s101_0, s101_1, s101_3, s101_6, s101_7, s101_9, s101_12, s101_13, s101_16, s101_17, s101_19, s101_22, s101_23, s101_25, s101_28, s101_29, s101_32, s101_33, q1, q3, q4, false_implies, true_implies, not_true_eq_false, not_false_eq_true, true_and, and_true, true_or, or_true, false_or, or_false, false_and, and_false, implies_true, nw_psh_s, nw_psh_n, ni_10, ni_00]
        rfl
      · have q4 : ((57 : Int32) < nI c) = True := ni_lt_t (a := 57) (by omega) (by omega)
        rw [if_neg (fun q => h4 q.2)]
        simp only [e101, s101_0, s101_1, s101_3, s101_6, s101_7, s101_9, s101_12, s101_13, s101_16, s101_17, s101_19, s101_22, s101_23, s101_25, s101_28, s101_29, s101_32, s101_33, q1, q3, q4, false_implies, true_implies, not_true_eq_false, not_false_eq_true, true_and, and_true, true_or, or_true, false_or, or_false, false_and, and_false, implies_true, nw_psh_s, nw_psh_n, ni_10, ni_00]
        rfl
    · have q3 : (nI c < 48) = True := ni_lt_t (b := 48) (by omega) (by decide)
      rw [if_neg (fun q => h3 q.1)]
      simp only [e101, s101_0, s101_1, s101_3, s101_6, s101_7, s101_9, s101_12, s101_13, s101_16, s101_17, s101_19, s101_22, s101_23, s101_25, s101_28, s101_29, s101_32, s101_33, q1, q3, false_implies, true_implies, not_true_eq_false, not_false_eq_true, true_and, and_true, true_or, or_true, false_or, or_false, false_and, and_false, implies_true, nw_psh_s, nw_psh_n, ni_10, ni_00]
      rfl
theorem x_shape (d : Nat) (Q : nw_K) {c : Nat} (hc : c < 256) (mem : nw_M) : nw_Ex (d + 1) nw_shX 60 [.int (nI c)] mem Q = Q (some (.int (nI (if nso c = 0 then 3 else nso c)))) mem := by
  have q0 := ni_ne_m1 (show c < 2 ^ 31 by omega)
  by_cases h1 : 97 ≤ c
  · have q1 : (nI c < 97) = False := ni_lt_f (b := 97) h1 (by omega)
    by_cases h2 : c ≤ 122
    · have q2 : ((122 : Int32) < nI c) = False := ni_lt_f (a := 122) h2 (by decide)
      have hs : nso c = 1 := by unfold nso; rw [if_pos ⟨h1, h2⟩]
      rw [hs]
      simp only [e60, s60_0, s60_1, s60_2, s60_5, s60_6, s60_7, s60_8, s60_10, s60_13, s60_14, s60_16, s60_19, s60_20, s60_21, s60_22, s60_24, s60_27, s60_28, s60_30, s60_33, s60_34, s60_37, s60_38, q0, q1, q2, false_implies, true_implies, not_true_eq_false, not_false_eq_true, true_and, and_true, true_or, or_true, false_or, or_false, false_and, and_false, implies_true, nw_psh_s, nw_psh_n, ni_10, ni_00]
      rfl
    · have q2 : ((122 : Int32) < nI c) = True := ni_lt_t (a := 122) (by omega) (by omega)
      have q3 : (nI c < 48) = False := ni_lt_f (b := 48) (by omega) (by omega)
      have q4 : ((57 : Int32) < nI c) = True := ni_lt_t (a := 57) (by omega) (by omega)
      have hs : nso c = 0 := by unfold nso; rw [if_neg (fun q => h2 q.2), if_neg (fun q => by omega)]
      rw [hs]
      simp only [e60, s60_0, s60_1, s60_2, s60_5, s60_6, s60_7, s60_8, s60_10, s60_13, s60_14, s60_16, s60_19, s60_20, s60_21, s60_22, s60_24, s60_27, s60_28, s60_30, s60_33, s60_34, s60_37, s60_38, q0, q1, q2, q3, q4, false_implies, true_implies, not_true_eq_false, not_false_eq_true, true_and, and_true, true_or, or_true, false_or, or_false, false_and, and_false, implies_true, nw_psh_s, nw_psh_n, ni_10, ni_00]
      rfl
  · have q1 : (nI c < 97) = True := ni_lt_t (b := 97) (by omega) (by decide)
    by_cases h3 : 48 ≤ c
    · have q3 : (nI c < 48) = False := ni_lt_f (b := 48) (by omega) (by omega)
      by_cases h4 : c ≤ 57
      · have q4 : ((57 : Int32) < nI c) = False := ni_lt_f (a := 57) h4 (by decide)
        have hs : nso c = 2 := by unfold nso; rw [if_neg (fun q => h1 q.1), if_pos ⟨h3, h4⟩]
        rw [hs]
        simp only [e60, s60_0, s60_1, s60_2, s60_5, s60_6, s60_7, s60_8, s60_10, s60_13, s60_14, s60_16, s60_19, s60_20, s60_21, s60_22, s60_24, s60_27, s60_28, s60_30, s60_33, s60_34, s60_37, s60_38, q0, q1, q3, q4, false_implies, true_implies, not_true_eq_false, not_false_eq_true, true_and, and_true, true_or, or_true, false_or, or_false, false_and, and_false, implies_true, nw_psh_s, nw_psh_n, ni_10, ni_00]
        rfl
      · have q4 : ((57 : Int32) < nI c) = True := ni_lt_t (a := 57) (by omega) (by omega)
        have hs : nso c = 0 := by unfold nso; rw [if_neg (fun q => h1 q.1), if_neg (fun q => h4 q.2)]
        rw [hs]
        simp only [e60, s60_0, s60_1, s60_2, s60_5, s60_6, s60_7, s60_8, s60_10, s60_13, s60_14, s60_16, s60_19, s60_20, s60_21, s60_22, s60_24, s60_27, s60_28, s60_30, s60_33, s60_34, s60_37, s60_38, q0, q1, q3, q4, false_implies, true_implies, not_true_eq_false, not_false_eq_true, true_and, and_true, true_or, or_true, false_or, or_false, false_and, and_false, implies_true, nw_psh_s, nw_psh_n, ni_10, ni_00]
        rfl
    · have q3 : (nI c < 48) = True := ni_lt_t (b := 48) (by omega) (by decide)
      have hs : nso c = 0 := by unfold nso; rw [if_neg (fun q => h1 q.1), if_neg (fun q => h3 q.1)]
      rw [hs]
      simp only [e60, s60_0, s60_1, s60_2, s60_5, s60_6, s60_7, s60_8, s60_10, s60_13, s60_14, s60_16, s60_19, s60_20, s60_21, s60_22, s60_24, s60_27, s60_28, s60_30, s60_33, s60_34, s60_37, s60_38, q0, q1, q3, false_implies, true_implies, not_true_eq_false, not_false_eq_true, true_and, and_true, true_or, or_true, false_or, or_false, false_and, and_false, implies_true, nw_psh_s, nw_psh_n, ni_10, ni_00]
      rfl
theorem x_shape0 (d : Nat) (Q : nw_K) (mem : nw_M) : nw_Ex (d + 1) nw_shX 60 [.int (-1)] mem Q = Q (some (.int 0)) mem := by
  simp only [e60, s60_0, s60_1, s60_2, s60_5, s60_6, s60_7, s60_8, s60_10, s60_13, s60_14, s60_16, s60_19, s60_20, s60_21, s60_22, s60_24, s60_27, s60_28, s60_30, s60_33, s60_34, s60_37, s60_38, false_implies, true_implies, not_true_eq_false, not_false_eq_true, true_and, and_true, true_or, or_true, false_or, or_false, false_and, and_false, implies_true, nw_psh_s, nw_psh_n, ni_10, ni_00]
/-- the text, in the class and in the reference -/
def nx_tx (L : Nat) (tx : Nat → Nat) (mem : nw_M) : Prop := mem 1 1 = nI L ∧ L ≤ 200 ∧ ∀ i, i < L → mem 2 i = nI (tx i) ∧ tx i < 256
def nm_tx (L : Nat) (tx : Nat → Nat) (mem : nw_M) : Prop := mem 0 3 = nI L ∧ L ≤ 200 ∧ ∀ i, i < L → mem 3 i = nI (tx i) ∧ tx i < 256
theorem x_byteAt {L : Nat} {tx : Nat → Nat} {mem : nw_M} (h : nx_tx L tx mem) (d : Nat) (Q : nw_K) {i : Nat} (hi : i < 2 ^ 30) : nw_Ex (d + 1) nw_shX 4 [.ref 1, .int (nI i)] mem Q = Q (some (.int (if i < L then nI (tx i) else -1))) mem := by
  obtain ⟨h1, h2, h3⟩ := h
  have q0 : (nI i < 0) = False := eq_false (nI_pos (by omega))
  by_cases hl : i < L
  · have hi2 : vp_in (nI i) 200 := vp_in_nI (by omega) (by decide)
    simp only [e4, s4_0, s4_1, s4_4, s4_5, s4_6, s4_9, s4_12, s4_13, s4_16, s4_17, s4_18, s4_21, s4_22, q0, h1, ni_le_f hl (show L < 2 ^ 31 by omega), hi2, ni_cl (show i < 2 ^ 31 by omega), (h3 i hl).1, hl, if_true, false_implies, true_implies, not_true_eq_false, not_false_eq_true, true_and, and_true, true_or, or_true, false_or, or_false, false_and, and_false, implies_true, nw_psh_s, nw_psh_n, ni_10, ni_00]
  · simp only [e4, s4_0, s4_1, s4_4, s4_5, s4_6, s4_9, s4_12, s4_13, s4_16, s4_17, s4_18, s4_21, s4_22, q0, h1, ni_le_t (show L ≤ i by omega) (show i < 2 ^ 31 by omega), hl, if_false, false_implies, true_implies, not_true_eq_false, not_false_eq_true, true_and, and_true, true_or, or_true, false_or, or_false, false_and, and_false, implies_true, nw_psh_s, nw_psh_n, ni_10, ni_00]
/-! the class's reader goes on -/
def nrf (mem m' : nw_M) : Prop := ∀ c k, ¬ (c = 3 ∧ (k = 2 ∨ k = 3 ∨ k = 4)) → m' c k = mem c k
theorem nrf_rf (m : nw_M) : nrf m m := fun _ _ _ => rfl
theorem nrf_tr {m1 m2 m3 : nw_M} (h1 : nrf m1 m2) (h2 : nrf m2 m3) : nrf m1 m3 := fun c k h => (h2 c k h).trans (h1 c k h)
theorem nrf_up {m : nw_M} {k : Nat} (v : Int32) (h : k = 2 ∨ k = 3 ∨ k = 4) : nrf m (nw_up m 3 k v) := fun c j q => by
  rw [nw_up_at, if_neg (fun z => q ⟨z.1, by omega⟩)]
theorem nrf_tx {L : Nat} {tx : Nat → Nat} {m m' : nw_M} (h : nx_tx L tx m) (hf : nrf m m') : nx_tx L tx m' := by
  refine ⟨by rw [hf 1 1 (by omega)]; exact h.1, h.2.1, fun i hi => ?_⟩
  rw [hf 2 i (by omega)]
  exact h.2.2 i hi
theorem x_adv2 {L : Nat} {tx : Nat → Nat} {m0 : nw_M} (h0 : nx_tx L tx m0) (d : Nat) (Q : nw_K) {s sh : Nat} (hs : s < 2 ^ 30) (hsh : sh < 4) (E : Nat)
    (hQ : ∀ m', nrf m0 m' → m' 3 2 = nI s → m' 3 3 = nI E → m' 3 4 = nI sh → Q none m') :
    ∀ j e m1, e + j = L ∨ (j = 0 ∧ L ≤ e) → e < 2 ^ 30 → nrf m0 m1 → m1 3 2 = nI s → m1 3 3 = nI e → m1 3 4 = nI sh → (if sh = 3 then e else nte tx sh j e) = E → (sh = 0 → j = 0) → nw_Ev (d + 1) nw_shX 59 Q 84 [some (.ref 3), some (.ref 1)] [] m1 := by
  intro j
  induction j with
  | zero =>
    intro e m1 he hel hf g2 g3 g4 hE h00
    have ht := nrf_tx h0 hf
    have hE' : e = E := by
      by_cases h3 : sh = 3
      · rw [if_pos h3] at hE; exact hE
      · rw [if_neg h3] at hE; exact hE
    rw [s59_84]
    simp only [e59, s59_0, s59_1, s59_2, s59_5, s59_9, s59_12, s59_13, s59_16, s59_19, s59_20, s59_21, s59_24, s59_27, s59_29, s59_32, s59_33, s59_34, s59_37, s59_38, s59_39, s59_42, s59_45, s59_46, s59_47, s59_48, s59_51, s59_54, s59_57, s59_60, s59_61, s59_62, s59_65, s59_68, s59_69, s59_72, s59_75, s59_76, s59_79, s59_80, s59_81, s59_85, s59_88, s59_89, s59_92, s59_95, s59_96, s59_99, s59_100, s59_103, s59_104, s59_105, s59_108, s59_111, s59_114, s59_115, s59_118, s59_121, s59_122, s59_123, s59_126, s59_127, s59_128, s59_131, s59_134, g3, ht.1, ni_le_t (show L ≤ e by omega) (show e < 2 ^ 31 by omega), false_implies, true_implies, not_true_eq_false, not_false_eq_true, true_and, and_true, true_or, or_true, false_or, or_false, false_and, and_false, implies_true, nw_psh_s, nw_psh_n, ni_10, ni_00]
    exact hQ m1 hf g2 (by rw [g3, hE']) g4
  | succ j ih =>
    intro e m1 he hel hf g2 g3 g4 hE h00
    have ht := nrf_tx h0 hf
    have hL := h0.2.1
    have heL : e < L := by omega
    have hby := fun Q' => x_byteAt ht d Q' (i := e) hel
    have hc := (h0.2.2 e heL).2
    have hshp := fun Q' => x_shape d Q' hc m1
    rw [s59_84]
    by_cases h3 : sh = 3
    · rw [if_pos h3] at hE
      simp only [e59, s59_0, s59_1, s59_2, s59_5, s59_9, s59_12, s59_13, s59_16, s59_19, s59_20, s59_21, s59_24, s59_27, s59_29, s59_32, s59_33, s59_34, s59_37, s59_38, s59_39, s59_42, s59_45, s59_46, s59_47, s59_48, s59_51, s59_54, s59_57, s59_60, s59_61, s59_62, s59_65, s59_68, s59_69, s59_72, s59_75, s59_76, s59_79, s59_80, s59_81, s59_85, s59_88, s59_89, s59_92, s59_95, s59_96, s59_99, s59_100, s59_103, s59_104, s59_105, s59_108, s59_111, s59_114, s59_115, s59_118, s59_121, s59_122, s59_123, s59_126, s59_127, s59_128, s59_131, s59_134, g3, ht.1, ni_le_f heL (show L < 2 ^ 31 by omega), g4, show (nI sh = 3) = True from eq_true (by rw [h3]; rfl), false_implies, true_implies, not_true_eq_false, not_false_eq_true, true_and, and_true, true_or, or_true, false_or, or_false, false_and, and_false, implies_true, nw_psh_s, nw_psh_n, ni_10, ni_00]
      exact hQ m1 hf g2 (by rw [g3, hE]) g4
    · rw [if_neg h3] at hE
      have h3' : (nI sh = 3) = False := ni_eq_f (b := 3) h3 (by omega) (by decide)
      have hle := nso_le (tx e)
      unfold nte at hE
      have hsh0 : ¬ sh = 0 := fun z => by have := h00 z; omega
      by_cases hk : nso (tx e) = sh
      · rw [if_pos hk] at hE
        have hz : (if nso (tx e) = 0 then 3 else nso (tx e)) = sh := by rw [hk, if_neg hsh0]
        simp only [e59, s59_0, s59_1, s59_2, s59_5, s59_9, s59_12, s59_13, s59_16, s59_19, s59_20, s59_21, s59_24, s59_27, s59_29, s59_32, s59_33, s59_34, s59_37, s59_38, s59_39, s59_42, s59_45, s59_46, s59_47, s59_48, s59_51, s59_54, s59_57, s59_60, s59_61, s59_62, s59_65, s59_68, s59_69, s59_72, s59_75, s59_76, s59_79, s59_80, s59_81, s59_85, s59_88, s59_89, s59_92, s59_95, s59_96, s59_99, s59_100, s59_103, s59_104, s59_105, s59_108, s59_111, s59_114, s59_115, s59_118, s59_121, s59_122, s59_123, s59_126, s59_127, s59_128, s59_131, s59_134, g3, ht.1, ni_le_f heL (show L < 2 ^ 31 by omega), g4, h3', hby, heL, if_true, hshp, hz, nI_1, false_implies, true_implies, not_true_eq_false, not_false_eq_true, true_and, and_true, true_or, or_true, false_or, or_false, false_and, and_false, implies_true, nw_psh_s, nw_psh_n, ni_10, ni_00]
        refine ih (e + 1) _ (by omega) (by omega) (nrf_tr hf (nrf_up _ (by omega))) ?_ ?_ ?_ (by rw [if_neg h3]; exact hE) (fun z => absurd z hsh0)
        · rw [nw_up_at, if_neg (by omega)]; exact g2
        · rw [nw_up_at, if_pos ⟨rfl, rfl⟩]
        · rw [nw_up_at, if_neg (by omega)]; exact g4
      · rw [if_neg hk] at hE
        have hz : (nI (if nso (tx e) = 0 then 3 else nso (tx e)) = nI sh) = False := ni_eq_f (by split <;> omega) (by split <;> omega) (by omega)
        simp only [e59, s59_0, s59_1, s59_2, s59_5, s59_9, s59_12, s59_13, s59_16, s59_19, s59_20, s59_21, s59_24, s59_27, s59_29, s59_32, s59_33, s59_34, s59_37, s59_38, s59_39, s59_42, s59_45, s59_46, s59_47, s59_48, s59_51, s59_54, s59_57, s59_60, s59_61, s59_62, s59_65, s59_68, s59_69, s59_72, s59_75, s59_76, s59_79, s59_80, s59_81, s59_85, s59_88, s59_89, s59_92, s59_95, s59_96, s59_99, s59_100, s59_103, s59_104, s59_105, s59_108, s59_111, s59_114, s59_115, s59_118, s59_121, s59_122, s59_123, s59_126, s59_127, s59_128, s59_131, s59_134, g3, ht.1, ni_le_f heL (show L < 2 ^ 31 by omega), g4, h3', hby, heL, if_true, hshp, hz, false_implies, true_implies, not_true_eq_false, not_false_eq_true, true_and, and_true, true_or, or_true, false_or, or_false, false_and, and_false, implies_true, nw_psh_s, nw_psh_n, ni_10, ni_00]
        exact hQ m1 hf g2 (by rw [g3, hE]) g4
theorem nsp_le (L : Nat) (tx : Nat → Nat) (s : Nat) : nsp L tx s < 4 := by
  have := nso_le (tx s)
  unfold nsp
  split
  · split <;> omega
  · omega
theorem x_adv1 {L : Nat} {tx : Nat → Nat} {m0 : nw_M} (h0 : nx_tx L tx m0) (d : Nat) (Q : nw_K) (S : Nat)
    (hQ : ∀ m', nrf m0 m' → m' 3 2 = nI S → m' 3 3 = nI (nen L tx S) → m' 3 4 = nI (nsp L tx S) → Q none m') :
    ∀ j s m1, s + j = L → nrf m0 m1 → m1 3 2 = nI s → nsk tx j s = S → nw_Ev (d + 1) nw_shX 59 Q 8 [some (.ref 3), some (.ref 1)] [] m1 := by
  have hL := h0.2.1
  have hgo : ∀ m1, S ≤ L → nrf m0 m1 → m1 3 2 = nI S → nw_Ev (d + 1) nw_shX 59 Q 45 [some (.ref 3), some (.ref 1)] [] m1 := by
    intro m1 hs hf g2
    have ht := nrf_tx h0 hf
    have hby := fun Q' => x_byteAt ht d Q' (i := S) (by omega)
    by_cases hsl : S < L
    · have hc := (h0.2.2 S hsl).2
      have hshp := fun Q' => x_shape d Q' hc m1
      have hle := nso_le (tx S)
      have hsp : nsp L tx S = if nso (tx S) = 0 then 3 else nso (tx S) := by unfold nsp; rw [if_pos hsl]
      have hne : (nI (nsp L tx S) = 0) = False := eq_false (ni_ne0 (by rw [hsp]; split <;> omega) (by rw [hsp]; split <;> omega))
      have hen : nen L tx S = if nso (tx S) = 0 then S + 1 else nte tx (nso (tx S)) (L - (S + 1)) (S + 1) := by unfold nen; rw [if_pos hsl]
      simp only [e59, s59_0, s59_1, s59_2, s59_5, s59_9, s59_12, s59_13, s59_16, s59_19, s59_20, s59_21, s59_24, s59_27, s59_29, s59_32, s59_33, s59_34, s59_37, s59_38, s59_39, s59_42, s59_45, s59_46, s59_47, s59_48, s59_51, s59_54, s59_57, s59_60, s59_61, s59_62, s59_65, s59_68, s59_69, s59_72, s59_75, s59_76, s59_79, s59_80, s59_81, s59_85, s59_88, s59_89, s59_92, s59_95, s59_96, s59_99, s59_100, s59_103, s59_104, s59_105, s59_108, s59_111, s59_114, s59_115, s59_118, s59_121, s59_122, s59_123, s59_126, s59_127, s59_128, s59_131, s59_134, g2, hby, hsl, if_true, hshp, ← hsp, nw_up_at, and_self, if_false, show ((2 : Nat) = 4) = False from eq_false (by decide), and_false, hne, nI_1, false_implies, true_implies, not_true_eq_false, not_false_eq_true, true_and, and_true, true_or, or_true, false_or, or_false, false_and, and_false, implies_true, nw_psh_s, nw_psh_n, ni_10, ni_00]
      refine x_adv2 h0 d Q (s := S) (sh := nsp L tx S) (by omega) (nsp_le L tx S) (nen L tx S) hQ (L - (S + 1)) (S + 1) _ (by omega) (by omega) (nrf_tr (nrf_tr hf (nrf_up _ (by omega))) (nrf_up _ (by omega))) ?_ ?_ ?_ ?_ (fun z => ?_)
      · rw [nw_up_at, if_neg (by omega), nw_up_at, if_neg (by omega)]; exact g2
      · rw [nw_up_at, if_pos ⟨rfl, rfl⟩]
      · rw [nw_up_at, if_neg (by omega), nw_up_at, if_pos ⟨rfl, rfl⟩]
      · rw [hen, hsp]
        by_cases h3 : nso (tx S) = 0
        · rw [if_pos h3, if_pos h3, if_pos rfl]
        · rw [if_neg h3, if_neg h3, if_neg (by omega)]
      · rw [hsp] at z
        split at z <;> omega
    · have hsp : nsp L tx S = 0 := by unfold nsp; rw [if_neg hsl]
      have hen : nen L tx S = S := by unfold nen; rw [if_neg hsl]
      have hshp := fun Q' => x_shape0 d Q' m1
      simp only [e59, s59_0, s59_1, s59_2, s59_5, s59_9, s59_12, s59_13, s59_16, s59_19, s59_20, s59_21, s59_24, s59_27, s59_29, s59_32, s59_33, s59_34, s59_37, s59_38, s59_39, s59_42, s59_45, s59_46, s59_47, s59_48, s59_51, s59_54, s59_57, s59_60, s59_61, s59_62, s59_65, s59_68, s59_69, s59_72, s59_75, s59_76, s59_79, s59_80, s59_81, s59_85, s59_88, s59_89, s59_92, s59_95, s59_96, s59_99, s59_100, s59_103, s59_104, s59_105, s59_108, s59_111, s59_114, s59_115, s59_118, s59_121, s59_122, s59_123, s59_126, s59_127, s59_128, s59_131, s59_134, g2, hby, hsl, if_false, hshp, nw_up_at, and_self, if_true, show ((2 : Nat) = 4) = False from eq_false (by decide), and_false, false_implies, true_implies, not_true_eq_false, not_false_eq_true, true_and, and_true, true_or, or_true, false_or, or_false, false_and, and_false, implies_true, nw_psh_s, nw_psh_n, ni_10, ni_00]
      rw [hen, hsp] at hQ
      refine x_adv2 h0 d Q (s := S) (sh := 0) (by omega) (by omega) S hQ 0 S _ (by omega) (by omega) (nrf_tr (nrf_tr hf (nrf_up _ (by omega))) (nrf_up _ (by omega))) ?_ ?_ ?_ rfl (fun _ => rfl)
      · rw [nw_up_at, if_neg (by omega), nw_up_at, if_neg (by omega)]; exact g2
      · rw [nw_up_at, if_pos ⟨rfl, rfl⟩]
      · rw [nw_up_at, if_neg (by omega), nw_up_at, if_pos ⟨rfl, rfl⟩]; rfl
  intro j
  induction j with
  | zero =>
    intro s m1 hs hf g2 hS
    have hS' : s = S := hS
    subst hS'
    have ht := nrf_tx h0 hf
    rw [s59_8]
    simp only [e59, s59_0, s59_1, s59_2, s59_5, s59_9, s59_12, s59_13, s59_16, s59_19, s59_20, s59_21, s59_24, s59_27, s59_29, s59_32, s59_33, s59_34, s59_37, s59_38, s59_39, s59_42, s59_46, s59_47, s59_48, s59_51, s59_54, s59_57, s59_60, s59_61, s59_62, s59_65, s59_68, s59_69, s59_72, s59_75, s59_76, s59_79, s59_80, s59_81, s59_85, s59_88, s59_89, s59_92, s59_95, s59_96, s59_99, s59_100, s59_103, s59_104, s59_105, s59_108, s59_111, s59_114, s59_115, s59_118, s59_121, s59_122, s59_123, s59_126, s59_127, s59_128, s59_131, s59_134, g2, ht.1, ni_le_t (show L ≤ s by omega) (show s < 2 ^ 31 by omega), false_implies, true_implies, not_true_eq_false, not_false_eq_true, true_and, and_true, true_or, or_true, false_or, or_false, false_and, and_false, implies_true, nw_psh_s, nw_psh_n, ni_10, ni_00]
    exact hgo m1 (by omega) hf g2
  | succ j ih =>
    intro s m1 hs hf g2 hS
    have ht := nrf_tx h0 hf
    have hsl : s < L := by omega
    have hc := (h0.2.2 s hsl).2
    have hby := fun Q' => x_byteAt ht d Q' (i := s) (by omega)
    unfold nsk at hS
    rw [s59_8]
    by_cases h32 : tx s = 32
    · rw [if_pos h32] at hS
      simp only [e59, s59_0, s59_1, s59_2, s59_5, s59_9, s59_12, s59_13, s59_16, s59_19, s59_20, s59_21, s59_24, s59_27, s59_29, s59_32, s59_33, s59_34, s59_37, s59_38, s59_39, s59_42, s59_46, s59_47, s59_48, s59_51, s59_54, s59_57, s59_60, s59_61, s59_62, s59_65, s59_68, s59_69, s59_72, s59_75, s59_76, s59_79, s59_80, s59_81, s59_85, s59_88, s59_89, s59_92, s59_95, s59_96, s59_99, s59_100, s59_103, s59_104, s59_105, s59_108, s59_111, s59_114, s59_115, s59_118, s59_121, s59_122, s59_123, s59_126, s59_127, s59_128, s59_131, s59_134, g2, ht.1, ni_le_f hsl (show L < 2 ^ 31 by omega), hby, hsl, if_true, show (nI (tx s) = 32) = True from eq_true (by rw [h32]; rfl), nI_1, false_implies, true_implies, not_true_eq_false, not_false_eq_true, true_and, and_true, true_or, or_true, false_or, or_false, false_and, and_false, implies_true, nw_psh_s, nw_psh_n, ni_10, ni_00]
      exact ih (s + 1) _ (by omega) (nrf_tr hf (nrf_up _ (by omega))) (by rw [nw_up_at, if_pos ⟨rfl, rfl⟩]) hS
    · rw [if_neg h32] at hS
      have h32' : (nI (tx s) = 32) = False := ni_eq_f (b := 32) h32 (by omega) (by decide)
      simp only [e59, s59_0, s59_1, s59_2, s59_5, s59_9, s59_12, s59_13, s59_16, s59_19, s59_20, s59_21, s59_24, s59_27, s59_29, s59_32, s59_33, s59_34, s59_37, s59_38, s59_39, s59_42, s59_46, s59_47, s59_48, s59_51, s59_54, s59_57, s59_60, s59_61, s59_62, s59_65, s59_68, s59_69, s59_72, s59_75, s59_76, s59_79, s59_80, s59_81, s59_85, s59_88, s59_89, s59_92, s59_95, s59_96, s59_99, s59_100, s59_103, s59_104, s59_105, s59_108, s59_111, s59_114, s59_115, s59_118, s59_121, s59_122, s59_123, s59_126, s59_127, s59_128, s59_131, s59_134, g2, ht.1, ni_le_f hsl (show L < 2 ^ 31 by omega), hby, hsl, if_true, h32', false_implies, true_implies, not_true_eq_false, not_false_eq_true, true_and, and_true, true_or, or_true, false_or, or_false, false_and, and_false, implies_true, nw_psh_s, nw_psh_n, ni_10, ni_00]
      subst hS
      exact hgo m1 (by omega) hf g2
/-- the reader goes on from a: the next token -/
theorem x_adv {L : Nat} {tx : Nat → Nat} {m0 : nw_M} (h0 : nx_tx L tx m0) (d : Nat) (Q : nw_K) {a : Nat} (ha : a ≤ L) (h3 : m0 3 3 = nI a)
    (hQ : ∀ m', nrf m0 m' → m' 3 2 = nI (ntk L tx a) → m' 3 3 = nI (nen L tx (ntk L tx a)) → m' 3 4 = nI (nsp L tx (ntk L tx a)) → Q none m') : nw_Ex (d + 2) nw_shX 59 [.ref 3, .ref 1] m0 Q := by
  simp only [e59, s59_0, s59_1, s59_2, s59_5, s59_9, s59_12, s59_13, s59_16, s59_19, s59_20, s59_21, s59_24, s59_27, s59_29, s59_32, s59_33, s59_34, s59_37, s59_38, s59_39, s59_42, s59_45, s59_46, s59_47, s59_48, s59_51, s59_54, s59_57, s59_60, s59_61, s59_62, s59_65, s59_68, s59_69, s59_72, s59_75, s59_76, s59_79, s59_80, s59_81, s59_85, s59_88, s59_89, s59_92, s59_95, s59_96, s59_99, s59_100, s59_103, s59_104, s59_105, s59_108, s59_111, s59_114, s59_115, s59_118, s59_121, s59_122, s59_123, s59_126, s59_127, s59_128, s59_131, s59_134, h3, false_implies, true_implies, not_true_eq_false, not_false_eq_true, true_and, and_true, true_or, or_true, false_or, or_false, false_and, and_false, implies_true, nw_psh_s, nw_psh_n, ni_10, ni_00]
  exact x_adv1 h0 d Q (ntk L tx a) hQ (L - a) a _ (by omega) (nrf_up _ (by omega)) (by rw [nw_up_at, if_pos ⟨rfl, rfl⟩]) rfl
