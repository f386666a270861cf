/-! ROUND: a sequence in which what is equal once stays so -/
section NRD
variable {e : Nat → Nat}
theorem rd_step (hD : ∀ i j, e i = e j → e (i + 1) = e (j + 1)) {i j : Nat} (h : e i = e j) : ∀ k, e (i + k) = e (j + k)
  | 0 => h
  | k + 1 => hD _ _ (rd_step hD h k)
theorem rd_mul (hD : ∀ i j, e i = e j → e (i + 1) = e (j + 1)) {t L : Nat} (h : e t = e (t + L)) : ∀ m, e t = e (t + m * L)
  | 0 => by rw [Nat.zero_mul, Nat.add_zero]
  | m + 1 => by
    have h1 := rd_mul hD h m
    have h2 := rd_step hD h (m * L)
    rw [h1, h2, Nat.succ_mul]
    congr 1
    omega
/-- a period at p holds at t ahead of it, if t is in the round too -/
theorem rd_back (hD : ∀ i j, e i = e j → e (i + 1) = e (j + 1)) {t p L k : Nat} (hL : 0 < L) (ht : e t = e (t + L)) (htp : t ≤ p) (hp : e p = e (p + k)) : e t = e (t + k) := by
  have h1 := rd_mul hD ht p
  have hge : p ≤ t + p * L := by
    have : p * 1 ≤ p * L := Nat.mul_le_mul_left p hL
    omega
  have h2 := rd_step hD hp (t + p * L - p)
  have h3 := rd_step hD h1 k
  rw [show p + (t + p * L - p) = t + p * L by omega, show p + k + (t + p * L - p) = t + p * L + k by omega] at h2
  rw [h1, h2, ← h3]
/-- what the reference finds -/
def rd_M (e : Nat → Nat) (t o : Nat) : Prop := t < o ∧ o < 1000 ∧ e t = e o ∧ (∀ t' o', t' < t → t' < o' → o' < 1000 → ¬ e t' = e o') ∧ ∀ o', t < o' → o' < o → ¬ e t = e o'
theorem rd_len (hD : ∀ i j, e i = e j → e (i + 1) = e (j + 1)) {t o p l : Nat} (hM : rd_M e t o) (hl : 0 < l) (hp : e p = e (p + l)) (hmin : ∀ l', 0 < l' → l' < l → ¬ e p = e (p + l')) : l = o - t := by
  obtain ⟨h1, h2, h3, h4, h5⟩ := hM
  have ht : e t = e (t + (o - t)) := by rw [show t + (o - t) = o by omega]; exact h3
  have htp : t ≤ p := by
    rcases Nat.lt_or_ge p t with q | q
    · exfalso
      have h6 : e p = e (p + (o - t)) := rd_back hD hl hp (by omega) ht
      exact h4 p (p + (o - t)) q (by omega) (by omega) h6
    · exact q
  have h7 : e t = e (t + l) := rd_back hD (by omega) ht htp hp
  have h8 : e p = e (p + (o - t)) := by
    have := rd_step hD ht (p - t)
    rwa [show t + (p - t) = p by omega, show t + (o - t) + (p - t) = p + (o - t) by omega] at this
  rcases Nat.lt_trichotomy l (o - t) with q | q | q
  · exact absurd h7 (h5 (t + l) (by omega) (by omega))
  · exact q
  · exact absurd h8 (hmin (o - t) (by omega) q)
theorem rd_find (hD : ∀ i j, e i = e j → e (i + 1) = e (j + 1)) {t o : Nat} (hM : rd_M e t o) : e 1023 = e (1023 + (o - t)) := by
  obtain ⟨h1, h2, h3, -, -⟩ := hM
  have ht : e t = e (t + (o - t)) := by rw [show t + (o - t) = o by omega]; exact h3
  have := rd_step hD ht (1023 - t)
  rwa [show t + (1023 - t) = 1023 by omega, show t + (o - t) + (1023 - t) = 1023 + (o - t) by omega] at this
end NRD
/-! the town's sequence -/
def nt_sq (T : nt_T) (q : nq) : Nat → nq
  | 0 => q
  | i + 1 => nt_lv T (nt_sq T q i).1 (nt_sq T q i).2
theorem nt_sq_ok {T : nt_T} (hT : nt_ok T) {q : nq} (h1 : nt_vok T q.1) (h2 : q.2 < nt_n T) : ∀ i, nt_vok T (nt_sq T q i).1 ∧ (nt_sq T q i).2 < nt_n T
  | 0 => ⟨h1, h2⟩
  | i + 1 => by
    obtain ⟨a, b⟩ := nt_sq_ok hT h1 h2 i
    exact nt_lv_ok hT a b
/-- a state as a number -/
def ne_c (v : Nat → Nat) (c : Nat) : Nat → Nat
  | 0 => c
  | k + 1 => 4 * ne_c v c k + v k
theorem ne_inj {v v' : Nat → Nat} {c c' : Nat} : ∀ k, (∀ j, j < k → v j < 4 ∧ v' j < 4) → ne_c v c k = ne_c v' c' k → c = c' ∧ ∀ j, j < k → v j = v' j
  | 0, _, h => ⟨h, fun j hj => absurd hj (Nat.not_lt_zero j)⟩
  | k + 1, hb, h => by
    have h4 := hb k (by omega)
    have h' : 4 * ne_c v c k + v k = 4 * ne_c v' c' k + v' k := h
    have h'' : ne_c v c k = ne_c v' c' k := by omega
    obtain ⟨g1, g2⟩ := ne_inj k (fun j hj => hb j (by omega)) h''
    refine ⟨g1, fun j hj => ?_⟩
    rcases Nat.lt_or_ge j k with q | q
    · exact g2 j q
    · have : j = k := by omega
      subst this
      omega
theorem ne_cong {v v' : Nat → Nat} {c : Nat} : ∀ k, (∀ j, j < k → v j = v' j) → ne_c v c k = ne_c v' c k
  | 0, _ => rfl
  | k + 1, h => by
    show 4 * ne_c v c k + v k = 4 * ne_c v' c k + v' k
    rw [ne_cong k (fun j hj => h j (by omega)), h k (by omega)]
theorem ne_lt {v : Nat → Nat} {c : Nat} (hc : c < 8) : ∀ k, (∀ j, j < k → v j < 4) → ne_c v c k < 8 * 4 ^ k
  | 0, _ => by show c < 8 * 1; omega
  | k + 1, h => by
    have h1 := ne_lt hc k (fun j hj => h j (by omega))
    have h2 := h k (by omega)
    show 4 * ne_c v c k + v k < 8 * 4 ^ (k + 1)
    rw [Nat.pow_succ]
    omega
def nt_e0 (T : nt_T) (q : nq) (i : Nat) : Nat := ne_c (nt_sq T q i).1 (nt_sq T q i).2 (nt_n T)
theorem nt_v4 {T : nt_T} (hT : nt_ok T) {v : Nat → Nat} (hv : nt_vok T v) (c : Nat) : v c < 4 := by
  have h4 := (hT.2.2.2 c).2.1
  rcases Nat.eq_zero_or_pos (nt_w T c) with q | q
  · rw [(hv c).2 q]; decide
  · have := (hv c).1 q
    omega
theorem nt_e0_D {T : nt_T} (hT : nt_ok T) {q : nq} (h1 : nt_vok T q.1) (h2 : q.2 < nt_n T) (i j : Nat) (h : nt_e0 T q i = nt_e0 T q j) : nt_e0 T q (i + 1) = nt_e0 T q (j + 1) := by
  obtain ⟨a1, a2⟩ := nt_sq_ok hT h1 h2 i
  obtain ⟨b1, b2⟩ := nt_sq_ok hT h1 h2 j
  obtain ⟨hc, hv⟩ := ne_inj (nt_n T) (fun k _ => ⟨nt_v4 hT a1 k, nt_v4 hT b1 k⟩) h
  show ne_c (nt_lv T (nt_sq T q i).1 (nt_sq T q i).2).1 (nt_lv T (nt_sq T q i).1 (nt_sq T q i).2).2 (nt_n T) = ne_c (nt_lv T (nt_sq T q j).1 (nt_sq T q j).2).1 (nt_lv T (nt_sq T q j).1 (nt_sq T q j).2).2 (nt_n T)
  rw [← hc]
  have hvc := hv (nt_sq T q i).2 a2
  unfold nt_lv
  by_cases hl : nt_left T (nt_sq T q i).2 = true
  · rw [if_pos hl, if_pos hl, hvc]
    refine ne_cong _ (fun k hk => ?_)
    show nf_up _ _ _ k = nf_up _ _ _ k
    by_cases hkc : k = (nt_sq T q i).2
    · simp [nf_up, hkc]
    · simp only [nf_up, if_neg hkc]; exact hv k hk
  · rw [if_neg hl, if_neg hl]
    exact ne_cong _ hv
/-- two stands are the same int just when the states are -/
theorem nx_eq {T : nt_T} (hT : nt_ok T) {q q' : nq} (h1 : nt_vok T q.1) (h1' : nt_vok T q'.1) {s s' : Int32} (hs : nx_S s (na q)) (hs' : nx_S s' (na q')) : (s = s') = (ne_c q.1 q.2 (nt_n T) = ne_c q'.1 q'.2 (nt_n T)) := by
  have h8 := hT.2.1
  refine propext ⟨fun h => ?_, fun h => ?_⟩
  · subst h
    have hp : q.2 = q'.2 := by
      have a := (hs.2.2 0 (by decide))
      have b := (hs'.2.2 0 (by decide))
      have a2 : q.2 < 8 := a.2
      have b2 : q'.2 < 8 := b.2
      exact (nI_eq (by omega) (by omega)).mp (a.1.symm.trans b.1)
    rw [hp]
    refine ne_cong _ (fun j hj => ?_)
    have a := hs.2.1 j (by omega)
    have b := hs'.2.1 j (by omega)
    have a2 : q.1 j < 4 := a.2
    have b2 : q'.1 j < 4 := b.2
    exact (nI_eq (by omega) (by omega)).mp (a.1.symm.trans b.1)
  · obtain ⟨hc, hv⟩ := ne_inj (nt_n T) (fun k _ => ⟨nt_v4 hT h1 k, nt_v4 hT h1' k⟩) h
    refine ns_inj (fun c hc8 => ?_) (fun w hw => ?_) hs.1 hs'.1
    · rw [(hs.2.1 c hc8).1, (hs'.2.1 c hc8).1]
      show nI (q.1 c) = nI (q'.1 c)
      rcases Nat.lt_or_ge c (nt_n T) with z | z
      · rw [hv c z]
      · have hw0 := (hT.2.2.2 c).2.2.1 z
        rw [(h1 c).2 hw0, (h1' c).2 hw0]
    · rw [(hs.2.2 w hw).1, (hs'.2.2 w hw).1]
      show nI (if w = 0 then q.2 else 0) = nI (if w = 0 then q'.2 else 0)
      rw [hc]
theorem x_roundLength_loop {T : nt_T} (hT : nt_ok T) {mem : nw_M} (hm : nx_T 4 T mem) (d : Nat) (Q : nw_K) {q : nq} (h1 : nt_vok T q.1) (h2 : q.2 < nt_n T) (s0 : Int32)
    (hQ : ∀ l p, 0 < l → l ≤ 2047 → nt_e0 T q p = nt_e0 T q (p + l) → (∀ l', 0 < l' → l' < l → ¬ nt_e0 T q p = nt_e0 T q (p + l')) → Q (some (.int (nI l))) mem) (hN : (∀ l, 0 < l → l ≤ 1024 → ¬ nt_e0 T q 1023 = nt_e0 T q (1023 + l)) → Q (some (.int (-1))) mem) :
    ∀ j p l k (sm st : Int32), p + l + j = 2047 → p + 1 = 2 ^ k → l < 2 ^ k → nx_S sm (na (nt_sq T q p)) → nx_S st (na (nt_sq T q (p + l))) → (∀ l', 0 < l' → l' ≤ l → ¬ nt_e0 T q p = nt_e0 T q (p + l')) → (11 ≤ k → ∀ l, 0 < l → l ≤ 1024 → ¬ nt_e0 T q 1023 = nt_e0 T q (1023 + l)) → nw_Ev (d + 4) nw_shX 46 Q 13 [some (.ref 4), some (.int s0), some (.int sm), some (.int st), some (.int (nI (2 ^ k))), some (.int (nI l)), some (.int (nI (p + l)))] [] mem := by
  intro j
  induction j with
  | zero =>
    intro p l k sm st hj hpk hlk hsm hst hno hk11
    have hb : p + l = 2047 := by omega
    rw [s46_13, hb]
    simp only [e46, s46_0, s46_1, s46_2, s46_3, s46_4, s46_5, s46_7, s46_8, s46_10, s46_11, s46_15, s46_18, s46_21, s46_22, s46_23, s46_24, s46_27, s46_28, s46_31, s46_32, s46_33, s46_36, s46_38, s46_39, s46_41, s46_43, s46_46, s46_47, s46_48, s46_50, s46_51, s46_52, s46_54, s46_55, s46_57, s46_60, s46_63, s46_64, show ((2047 : Int32) ≤ nI 2047) = True from eq_true (by decide), false_implies, true_implies, not_true_eq_false, not_false_eq_true, true_and, and_true, true_or, or_true, false_or, or_false, false_and, and_false, implies_true, nw_psh_s, nw_psh_n, ni_10, ni_00]
    refine hN (hk11 ?_)
    rcases Nat.lt_or_ge k 11 with z | z
    · have : 2 ^ k ≤ 2 ^ 10 := Nat.pow_le_pow_right (by decide) (by omega)
      omega
    · exact z
  | succ j ih =>
    intro p l k sm st hj hpk hlk hsm hst hno hk11
    have hle : ((2047 : Int32) ≤ nI (p + l)) = False := ni_le_f (a := 2047) (by omega) (by decide)
    have hst' := na_wk_S hT hst
    have hlv : nt_lv T (nt_sq T q (p + l)).1 (nt_sq T q (p + l)).2 = nt_sq T q (p + (l + 1)) := rfl
    rw [hlv] at hst'
    have heq := nx_eq hT (nt_sq_ok hT h1 h2 (p + (l + 1))).1 (nt_sq_ok hT h1 h2 p).1 hst' hsm
    rw [s46_13]
    by_cases he : nt_e0 T q (p + (l + 1)) = nt_e0 T q p
    · have heq2 : (nx_wk T st (na (nt_sq T q (p + l))) 0 = sm) = True := by rw [heq]; exact eq_true he
      simp only [e46, s46_0, s46_1, s46_2, s46_3, s46_4, s46_5, s46_7, s46_8, s46_10, s46_11, s46_15, s46_18, s46_21, s46_22, s46_23, s46_24, s46_27, s46_28, s46_31, s46_32, s46_33, s46_36, s46_38, s46_39, s46_41, s46_43, s46_46, s46_47, s46_48, s46_50, s46_51, s46_52, s46_54, s46_55, s46_57, s46_60, s46_63, s46_64, hle, x_walk0 hT hm _ _ hst, nI_1, heq2, false_implies, true_implies, not_true_eq_false, not_false_eq_true, true_and, and_true, true_or, or_true, false_or, or_false, false_and, and_false, implies_true, nw_psh_s, nw_psh_n, ni_10, ni_00]
      exact hQ (l + 1) p (by omega) (by omega) he.symm (fun l' a b => hno l' a (by omega))
    · have heq2 : (nx_wk T st (na (nt_sq T q (p + l))) 0 = sm) = False := by rw [heq]; exact eq_false he
      have hno' : ∀ l', 0 < l' → l' ≤ l + 1 → ¬ nt_e0 T q p = nt_e0 T q (p + l') := by
        intro l' a b
        rcases Nat.lt_or_ge l' (l + 1) with z | z
        · exact hno l' a (by omega)
        · have : l' = l + 1 := by omega
          subst this
          exact fun z => he z.symm
      have hk12 : k ≤ 11 := by
        rcases Nat.lt_or_ge k 12 with z | z
        · omega
        · have : 2 ^ 12 ≤ 2 ^ k := Nat.pow_le_pow_right (by decide) z
          omega
      have hk31 : 2 ^ k ≤ 2 ^ 11 := Nat.pow_le_pow_right (by decide) hk12
      by_cases hsp : l + 1 = 2 ^ k
      · have hm2 : nI (2 ^ k) * 2 = nI (2 ^ (k + 1)) := by rw [Nat.pow_succ]; exact pk_mul (2 ^ k) 2
        simp only [e46, s46_0, s46_1, s46_2, s46_3, s46_4, s46_5, s46_7, s46_8, s46_10, s46_11, s46_15, s46_18, s46_21, s46_22, s46_23, s46_24, s46_27, s46_28, s46_31, s46_32, s46_33, s46_36, s46_38, s46_39, s46_41, s46_43, s46_46, s46_47, s46_48, s46_50, s46_51, s46_52, s46_54, s46_55, s46_57, s46_60, s46_63, s46_64, hle, x_walk0 hT hm _ _ hst, nI_1, heq2, ni_eq_t hsp, hm2, false_implies, true_implies, not_true_eq_false, not_false_eq_true, true_and, and_true, true_or, or_true, false_or, or_false, false_and, and_false, implies_true, nw_psh_s, nw_psh_n, ni_10, ni_00]
        have hh := ih (p + (l + 1)) 0 (k + 1) (nx_wk T st (na (nt_sq T q (p + l))) 0) (nx_wk T st (na (nt_sq T q (p + l))) 0) (by omega) (by rw [Nat.pow_succ]; omega) (Nat.pow_pos (by decide)) hst' hst' (fun l' a b => absurd a (by omega)) ?_
        · exact hh
        · intro hk l' a b
          have hk10 : k = 10 ∨ k = 11 := by omega
          rcases hk10 with z | z
          · subst z
            have hp : p = 1023 := by omega
            subst hp
            exact hno' l' a (by omega)
          · exact hk11 (by omega) l' a b
      · simp only [e46, s46_0, s46_1, s46_2, s46_3, s46_4, s46_5, s46_7, s46_8, s46_10, s46_11, s46_15, s46_18, s46_21, s46_22, s46_23, s46_24, s46_27, s46_28, s46_31, s46_32, s46_33, s46_36, s46_38, s46_39, s46_41, s46_43, s46_46, s46_47, s46_48, s46_50, s46_51, s46_52, s46_54, s46_55, s46_57, s46_60, s46_63, s46_64, hle, x_walk0 hT hm _ _ hst, nI_1, heq2, ni_eq_f hsp (show l + 1 < 2 ^ 31 by omega) (show 2 ^ k < 2 ^ 31 by omega), false_implies, true_implies, not_true_eq_false, not_false_eq_true, true_and, and_true, true_or, or_true, false_or, or_false, false_and, and_false, implies_true, nw_psh_s, nw_psh_n, ni_10, ni_00]
        exact ih p (l + 1) k sm _ (by omega) hpk (by omega) hsm hst' hno' hk11
theorem x_roundLength {T : nt_T} (hT : nt_ok T) {mem : nw_M} (hm : nx_T 4 T mem) (d : Nat) (Q : nw_K) {q : nq} (h1 : nt_vok T q.1) (h2 : q.2 < nt_n T) {s : Int32} (hs : nx_S s (na q))
    (hQ : ∀ l p, 0 < l → l ≤ 2047 → nt_e0 T q p = nt_e0 T q (p + l) → (∀ l', 0 < l' → l' < l → ¬ nt_e0 T q p = nt_e0 T q (p + l')) → Q (some (.int (nI l))) mem) (hN : (∀ l, 0 < l → l ≤ 1024 → ¬ nt_e0 T q 1023 = nt_e0 T q (1023 + l)) → Q (some (.int (-1))) mem) : nw_Ex (d + 5) nw_shX 46 [.ref 4, .int s] mem Q := by
  simp only [e46, s46_0, s46_1, s46_2, s46_3, s46_4, s46_5, s46_7, s46_8, s46_10, s46_11, s46_15, s46_18, s46_21, s46_22, s46_23, s46_24, s46_27, s46_28, s46_31, s46_32, s46_33, s46_36, s46_38, s46_39, s46_41, s46_43, s46_46, s46_47, s46_48, s46_50, s46_51, s46_52, s46_54, s46_55, s46_57, s46_60, s46_63, s46_64]
  exact x_roundLength_loop hT hm d Q h1 h2 s hQ hN 2047 0 0 0 s s (by omega) rfl (by decide) hs hs (fun l' a b => absurd a (by omega)) (fun h => absurd h (by decide))
/-! beats ahead of a round -/
theorem x_ahead_1 {T : nt_T} (hT : nt_ok T) {mem : nw_M} (hm : nx_T 4 T mem) (d : Nat) (Q : nw_K) {q : nq} {l : Nat} (hl : l < 2 ^ 30) (s0 s1 : Int32) (hQ : ∀ s', nx_S s' (na (nt_sq T q l)) → nw_Ev (d + 4) nw_shX 47 Q 29 [some (.ref 4), some (.int s0), some (.int (nI l)), some (.int s1), some (.int s'), some (.int (nI l))] [] mem) :
    ∀ j k (s : Int32), k + j = l → nx_S s (na (nt_sq T q k)) → nw_Ev (d + 4) nw_shX 47 Q 8 [some (.ref 4), some (.int s0), some (.int (nI l)), some (.int s1), some (.int s), some (.int (nI k))] [] mem := by
  intro j
  induction j with
  | zero =>
    intro k s hk hs
    have hk' : k = l := by omega
    subst hk'
    rw [s47_8]
    simp only [e47, s47_0, s47_1, s47_2, s47_3, s47_5, s47_6, s47_10, s47_11, s47_14, s47_15, s47_17, s47_18, s47_21, s47_23, s47_26, s47_30, s47_34, s47_35, s47_36, s47_39, s47_42, s47_43, s47_45, s47_48, s47_50, s47_51, s47_52, s47_53, s47_54, s47_57, s47_58, s47_59, s47_61, s47_62, s47_65, s47_67, s47_70, s47_73, s47_74, ni_le_t (Nat.le_refl k) (show k < 2 ^ 31 by omega), false_implies, true_implies, not_true_eq_false, not_false_eq_true, true_and, and_true, true_or, or_true, false_or, or_false, false_and, and_false, implies_true, nw_psh_s, nw_psh_n, ni_10, ni_00]
    exact hQ s hs
  | succ j ih =>
    intro k s hk hs
    rw [s47_8]
    simp only [e47, s47_0, s47_1, s47_2, s47_3, s47_5, s47_6, s47_10, s47_11, s47_14, s47_15, s47_17, s47_18, s47_21, s47_23, s47_26, s47_30, s47_34, s47_35, s47_36, s47_39, s47_42, s47_43, s47_45, s47_48, s47_50, s47_51, s47_52, s47_53, s47_54, s47_57, s47_58, s47_59, s47_61, s47_62, s47_65, s47_67, s47_70, s47_73, s47_74, ni_le_f (show k < l by omega) (show l < 2 ^ 31 by omega), x_walk0 hT hm _ _ hs, nI_1, false_implies, true_implies, not_true_eq_false, not_false_eq_true, true_and, and_true, true_or, or_true, false_or, or_false, false_and, and_false, implies_true, nw_psh_s, nw_psh_n, ni_10, ni_00]
    exact ih (k + 1) _ (by omega) (na_wk_S hT hs)
theorem x_ahead_2 {T : nt_T} (hT : nt_ok T) {mem : nw_M} (hm : nx_T 4 T mem) (d : Nat) (Q : nw_K) {q : nq} (h1 : nt_vok T q.1) (h2 : q.2 < nt_n T) {l : Nat} (hl : l ≤ 2047) (s0 : Int32)
    (hQ : ∀ a, a + l ≤ 999 → nt_e0 T q a = nt_e0 T q (a + l) → (∀ a', a' < a → ¬ nt_e0 T q a' = nt_e0 T q (a' + l)) → Q (some (.int (nI a))) mem) (hN : (∀ a, a + l ≤ 999 → ¬ nt_e0 T q a = nt_e0 T q (a + l)) → Q (some (.int (-1))) mem) :
    ∀ j a (s s' : Int32), (a + l + j = 1000 ∨ (j = 0 ∧ a = 0 ∧ 1000 ≤ l)) → nx_S s (na (nt_sq T q a)) → nx_S s' (na (nt_sq T q (a + l))) → (∀ a', a' < a → ¬ nt_e0 T q a' = nt_e0 T q (a' + l)) → nw_Ev (d + 4) nw_shX 47 Q 32 [some (.ref 4), some (.int s0), some (.int (nI l)), some (.int s), some (.int s'), some (.int (nI a))] [] mem := by
  intro j
  induction j with
  | zero =>
    intro a s s' hj hs hs' hno
    have hle : ((999 : Int32) < nI (a + l)) = True := ni_lt_t (a := 999) (by omega) (by omega)
    rw [s47_32]
    simp only [e47, s47_0, s47_1, s47_2, s47_3, s47_5, s47_6, s47_10, s47_11, s47_14, s47_15, s47_17, s47_18, s47_21, s47_23, s47_26, s47_29, s47_30, s47_34, s47_35, s47_36, s47_39, s47_42, s47_43, s47_45, s47_48, s47_50, s47_51, s47_52, s47_53, s47_54, s47_57, s47_58, s47_59, s47_61, s47_62, s47_65, s47_67, s47_70, s47_73, s47_74, nI_add, hle, false_implies, true_implies, not_true_eq_false, not_false_eq_true, true_and, and_true, true_or, or_true, false_or, or_false, false_and, and_false, implies_true, nw_psh_s, nw_psh_n, ni_10, ni_00]
    exact hN (fun a' h => hno a' (by omega))
  | succ j ih =>
    intro a s s' hj hs hs' hno
    have hj' : a + l + (j + 1) = 1000 := by omega
    have hle : ((999 : Int32) < nI (a + l)) = False := ni_lt_f (a := 999) (by omega) (by decide)
    have heq := nx_eq hT (nt_sq_ok hT h1 h2 a).1 (nt_sq_ok hT h1 h2 (a + l)).1 hs hs'
    rw [s47_32]
    by_cases he : nt_e0 T q a = nt_e0 T q (a + l)
    · have heq2 : (s = s') = True := by rw [heq]; exact eq_true he
      simp only [e47, s47_0, s47_1, s47_2, s47_3, s47_5, s47_6, s47_10, s47_11, s47_14, s47_15, s47_17, s47_18, s47_21, s47_23, s47_26, s47_29, s47_30, s47_34, s47_35, s47_36, s47_39, s47_42, s47_43, s47_45, s47_48, s47_50, s47_51, s47_52, s47_53, s47_54, s47_57, s47_58, s47_59, s47_61, s47_62, s47_65, s47_67, s47_70, s47_73, s47_74, nI_add, hle, heq2, false_implies, true_implies, not_true_eq_false, not_false_eq_true, true_and, and_true, true_or, or_true, false_or, or_false, false_and, and_false, implies_true, nw_psh_s, nw_psh_n, ni_10, ni_00]
      exact hQ a (by omega) he hno
    · have heq2 : (s = s') = False := by rw [heq]; exact eq_false he
      simp only [e47, s47_0, s47_1, s47_2, s47_3, s47_5, s47_6, s47_10, s47_11, s47_14, s47_15, s47_17, s47_18, s47_21, s47_23, s47_26, s47_29, s47_30, s47_34, s47_35, s47_36, s47_39, s47_42, s47_43, s47_45, s47_48, s47_50, s47_51, s47_52, s47_53, s47_54, s47_57, s47_58, s47_59, s47_61, s47_62, s47_65, s47_67, s47_70, s47_73, s47_74, nI_add, hle, heq2, x_walk0 hT hm _ _ hs, x_walk0 hT hm _ _ hs', nI_1, false_implies, true_implies, not_true_eq_false, not_false_eq_true, true_and, and_true, true_or, or_true, false_or, or_false, false_and, and_false, implies_true, nw_psh_s, nw_psh_n, ni_10, ni_00]
      refine ih (a + 1) _ _ (by omega) (na_wk_S hT hs) ?_ (fun a' h => ?_)
      · have := na_wk_S hT hs'
        rw [show a + 1 + l = (a + l) + 1 by omega]
        exact this
      · rcases Nat.lt_or_ge a' a with z | z
        · exact hno a' z
        · have : a' = a := by omega
          subst this
          exact he
