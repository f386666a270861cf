/-! SLOW -/
def nR (V : (Nat → Nat) → Prop) (F : (Nat → Nat) → Option Nat) : Option Nat → Prop
  | none => ∃ v, V v ∧ F v = none
  | some m => (∀ v, V v → ∃ k, F v = some k ∧ k ≤ m) ∧ ∃ v, V v ∧ F v = some m
theorem nR_uniq {V : (Nat → Nat) → Prop} {F : (Nat → Nat) → Option Nat} {r r' : Option Nat} (h : nR V F r) (h' : nR V F r') : r = r' := by
  cases r with
  | none =>
    obtain ⟨v, hv, hF⟩ := h
    cases r' with
    | none => rfl
    | some m =>
      obtain ⟨k, hk, -⟩ := h'.1 v hv
      rw [hF] at hk; cases hk
  | some m =>
    cases r' with
    | none =>
      obtain ⟨v, hv, hF⟩ := h'
      obtain ⟨k, hk, -⟩ := h.1 v hv
      rw [hF] at hk; cases hk
    | some m' =>
      obtain ⟨v, hv, hF⟩ := h.2
      obtain ⟨v', hv', hF'⟩ := h'.2
      obtain ⟨k, hk, hle⟩ := h'.1 v hv
      obtain ⟨k', hk', hle'⟩ := h.1 v' hv'
      rw [hF] at hk; cases hk
      rw [hF'] at hk'; cases hk'
      congr 1
      omega
/-- vanes that may stand: as u in the set -/
def nV (T : nt_T) (S : Nat → Bool) (u v : Nat → Nat) : Prop := nt_vok T v ∧ ∀ c, S c = true → v c = u c
def nRX (T : nt_T) (to : Nat) (S : Nat → Bool) (u : Nat → Nat) (p j b : Nat) (r : Option Nat) : Prop := nR (nV T S u) (fun v => nt_fa T to j (v, p) b) r
theorem nV_rf {T : nt_T} {S : Nat → Bool} {u : Nat → Nat} (hu : nt_vok T u) : nV T S u u := ⟨hu, fun _ _ => rfl⟩
theorem nt_fa_at (T : nt_T) {to : Nat} {q : nq} (h : q.2 = to) (b : Nat) : ∀ j, nt_fa T to j q b = some b
  | 0 => if_pos h
  | _ + 1 => if_pos h
theorem nt_fa_s (T : nt_T) {to : Nat} {q : nq} (h : ¬ q.2 = to) (j b : Nat) : nt_fa T to (j + 1) q b = nt_fa T to j (nt_lv T q.1 q.2) (b + 1) := if_neg h
theorem nR_at {T : nt_T} {to : Nat} {S : Nat → Bool} {u : Nat → Nat} (hu : nt_vok T u) {p : Nat} (h : p = to) (j b : Nat) : nRX T to S u p j b (some b) :=
  ⟨fun v _ => ⟨b, nt_fa_at T (q := (v, p)) h b j, Nat.le_refl b⟩, u, nV_rf hu, nt_fa_at T (q := (u, p)) h b j⟩
theorem nR_0 {T : nt_T} {to : Nat} {S : Nat → Bool} {u : Nat → Nat} (hu : nt_vok T u) {p : Nat} (h : ¬ p = to) (b : Nat) : nRX T to S u p 0 b none :=
  ⟨u, nV_rf hu, if_neg h⟩
theorem nt_fa_stay {T : nt_T} {to : Nat} {v : Nat → Nat} {p : Nat} (h : ¬ p = to) (hl : nt_left T p = false) : ∀ j b, nt_fa T to j (v, p) b = none
  | 0, _ => if_neg h
  | j + 1, b => by
    rw [nt_fa_s T (q := (v, p)) h]
    have : nt_lv T v p = (v, p) := by unfold nt_lv; rw [hl]; rfl
    show nt_fa T to j (nt_lv T v p) (b + 1) = none
    rw [this]
    exact nt_fa_stay h hl j (b + 1)
theorem nR_stay {T : nt_T} {to : Nat} {S : Nat → Bool} {u : Nat → Nat} (hu : nt_vok T u) {p : Nat} (h : ¬ p = to) (hl : nt_left T p = false) (j b : Nat) : nRX T to S u p j b none :=
  ⟨u, nV_rf hu, nt_fa_stay h hl j b⟩
theorem nt_lv_y {T : nt_T} {v : Nat → Nat} {p : Nat} (hl : nt_left T p = true) : nt_lv T v p = (nf_up v p (nt_nv T p (v p)), nt_e T p (nt_nv T p (v p))) := if_pos hl
theorem nV_fwd {T : nt_T} (hT : nt_ok T) {S : Nat → Bool} {u v : Nat → Nat} {p : Nat} (hp : p < nt_n T) (hS : S p = true) (hl : nt_left T p = true) (h : nV T S u v) : nV T S (nt_lv T u p).1 (nt_lv T v p).1 ∧ (nt_lv T v p).2 = (nt_lv T u p).2 := by
  refine ⟨⟨(nt_lv_ok hT h.1 hp).1, fun c hc => ?_⟩, ?_⟩
  · rw [nt_lv_y hl, nt_lv_y hl]
    show nf_up v p (nt_nv T p (v p)) c = nf_up u p (nt_nv T p (u p)) c
    by_cases q : c = p
    · simp only [nf_up, q, if_true]; rw [h.2 p hS]
    · simp only [nf_up, if_neg q]; exact h.2 c hc
  · rw [nt_lv_y hl, nt_lv_y hl]
    show nt_e T p (nt_nv T p (v p)) = nt_e T p (nt_nv T p (u p))
    rw [h.2 p hS]
theorem nV_bwd {T : nt_T} {S : Nat → Bool} {u v' : Nat → Nat} (hu : nt_vok T u) {p : Nat} (hS : S p = true) (hl : nt_left T p = true) (h : nV T S (nt_lv T u p).1 v') : ∃ v, nV T S u v ∧ nt_lv T v p = (v', (nt_lv T u p).2) := by
  rw [nt_lv_y hl] at h ⊢
  have hv' : ∀ c, S c = true → v' c = nf_up u p (nt_nv T p (u p)) c := h.2
  refine ⟨nf_up v' p (u p), ⟨fun c => ?_, fun c hc => ?_⟩, ?_⟩
  · by_cases q : c = p
    · simp only [nf_up, q, if_true]; exact hu p
    · simp only [nf_up, if_neg q]; exact h.1 c
  · by_cases q : c = p
    · simp only [nf_up, q, if_true]
    · simp only [nf_up, if_neg q]
      have := hv' c hc
      simp only [nf_up, if_neg q] at this
      exact this
  · rw [nt_lv_y hl]
    have e1 : nf_up v' p (u p) p = u p := by simp [nf_up]
    rw [e1, nf_twice]
    refine Prod.ext ?_ rfl
    show nf_up v' p (nt_nv T p (u p)) = v'
    have := hv' p hS
    simp only [nf_up, if_true] at this
    rw [← this]
    exact nf_self v' p
theorem nR_step {T : nt_T} (hT : nt_ok T) {to : Nat} {S : Nat → Bool} {u : Nat → Nat} (hu : nt_vok T u) {p : Nat} (hp : p < nt_n T) (hS : S p = true) (hl : nt_left T p = true) (hne : ¬ p = to) {j b : Nat} {r : Option Nat} (h : nRX T to S (nt_lv T u p).1 (nt_lv T u p).2 j (b + 1) r) : nRX T to S u p (j + 1) b r := by
  cases r with
  | none =>
    obtain ⟨v', hv', hF⟩ := h
    obtain ⟨v, hv, he⟩ := nV_bwd hu hS hl hv'
    refine ⟨v, hv, ?_⟩
    show nt_fa T to (j + 1) (v, p) b = none
    rw [nt_fa_s T (q := (v, p)) hne, he]
    exact hF
  | some m =>
    refine ⟨fun v hv => ?_, ?_⟩
    · obtain ⟨g1, g2⟩ := nV_fwd hT hp hS hl hv
      obtain ⟨k, hk, hle⟩ := h.1 _ g1
      refine ⟨k, ?_, hle⟩
      show nt_fa T to (j + 1) (v, p) b = some k
      rw [nt_fa_s T (q := (v, p)) hne, show nt_lv T v p = ((nt_lv T v p).1, (nt_lv T u p).2) from Prod.ext rfl g2]
      exact hk
    · obtain ⟨v', hv', hF⟩ := h.2
      obtain ⟨v, hv, he⟩ := nV_bwd hu hS hl hv'
      refine ⟨v, hv, ?_⟩
      show nt_fa T to (j + 1) (v, p) b = some m
      rw [nt_fa_s T (q := (v, p)) hne, he]
      exact hF
/-- the set, and one more; vanes of which p's is below x -/
def nVx (T : nt_T) (S : Nat → Bool) (u : Nat → Nat) (p x : Nat) (v : Nat → Nat) : Prop := nV T S u v ∧ v p < x
theorem nVx_in {T : nt_T} {S S' : Nat → Bool} {u : Nat → Nat} {p x : Nat} (hS' : ∀ c, S' c = true ↔ (S c = true ∨ c = p)) (hSp : S p = false) (v : Nat → Nat) : nV T S' (nf_up u p x) v ↔ (nV T S u v ∧ v p = x) := by
  refine ⟨fun h => ⟨⟨h.1, fun c hc => ?_⟩, ?_⟩, fun h => ⟨h.1.1, fun c hc => ?_⟩⟩
  · have := h.2 c ((hS' c).mpr (Or.inl hc))
    have q : ¬ c = p := fun q => by rw [q, hSp] at hc; cases hc
    simp only [nf_up, if_neg q] at this
    exact this
  · have := h.2 p ((hS' p).mpr (Or.inr rfl))
    simp only [nf_up, if_true] at this
    exact this
  · by_cases q : c = p
    · simp only [nf_up, q, if_true]; exact h.2
    · simp only [nf_up, if_neg q]
      exact h.1.2 c (((hS' c).mp hc).resolve_right q)
theorem nR_no {T : nt_T} {S S' : Nat → Bool} {u : Nat → Nat} {p x : Nat} (hS' : ∀ c, S' c = true ↔ (S c = true ∨ c = p)) (hSp : S p = false) {F : (Nat → Nat) → Option Nat} (h : nR (nV T S' (nf_up u p x)) F none) : nR (nV T S u) F none := by
  obtain ⟨v, hv, hF⟩ := h
  exact ⟨v, ((nVx_in hS' hSp v).mp hv).1, hF⟩
theorem nR_more {T : nt_T} {S S' : Nat → Bool} {u : Nat → Nat} {p x : Nat} (hS' : ∀ c, S' c = true ↔ (S c = true ∨ c = p)) (hSp : S p = false) {F : (Nat → Nat) → Option Nat} {m k : Nat} (h : nR (nV T S' (nf_up u p x)) F (some k)) (hx : x = 0 ∨ nR (nVx T S u p x) F (some m)) : nR (nVx T S u p (x + 1)) F (some (if x = 0 then k else if m < k then k else m)) := by
  have hk1 : ∀ v, nV T S u v → v p = x → ∃ i, F v = some i ∧ i ≤ k := fun v hv hx => h.1 v ((nVx_in hS' hSp v).mpr ⟨hv, hx⟩)
  obtain ⟨vk, hvk, hFk⟩ := h.2
  have hvk' := (nVx_in hS' hSp vk).mp hvk
  by_cases hx0 : x = 0
  · rw [if_pos hx0]
    refine ⟨fun v hv => hk1 v hv.1 (by have := hv.2; omega), vk, ⟨hvk'.1, by have := hvk'.2; omega⟩, hFk⟩
  · rw [if_neg hx0]
    have hm := hx.resolve_left hx0
    obtain ⟨vm, hvm, hFm⟩ := hm.2
    refine ⟨fun v hv => ?_, ?_⟩
    · rcases Nat.lt_or_ge (v p) x with q | q
      · obtain ⟨i, hi, hle⟩ := hm.1 v ⟨hv.1, q⟩
        exact ⟨i, hi, by split <;> omega⟩
      · obtain ⟨i, hi, hle⟩ := hk1 v hv.1 (by have := hv.2; omega)
        exact ⟨i, hi, by split <;> omega⟩
    · by_cases q : m < k
      · rw [if_pos q]
        exact ⟨vk, ⟨hvk'.1, by have := hvk'.2; omega⟩, hFk⟩
      · rw [if_neg q]
        exact ⟨vm, ⟨hvm.1, by have := hvm.2; omega⟩, hFm⟩
theorem nR_end {T : nt_T} {S : Nat → Bool} {u : Nat → Nat} {p : Nat} (hw : 0 < nt_w T p) {F : (Nat → Nat) → Option Nat} {m : Nat} (h : nR (nVx T S u p (nt_w T p)) F (some m)) : nR (nV T S u) F (some m) := by
  refine ⟨fun v hv => h.1 v ⟨hv, (hv.1 p).1 hw⟩, ?_⟩
  obtain ⟨v, hv, hF⟩ := h.2
  exact ⟨v, hv.1, hF⟩
/-! sets, by bits -/
theorem nb_at {K c : Nat} (hK : K < 256) (hc : c < 8) : nI K >>> (nI c &&& 31) &&& 1 = if K.testBit c then 1 else 0 := by
  rw [pk_shrN (by omega) (nI c &&& 31) c (s_l c (by omega)), pk_andN (m := 1) (by
    have := Nat.div_le_self K (2 ^ c)
    omega) 1 (by decide), Nat.testBit_eq_decide_div_mod_eq]
  have : K / 2 ^ c % 2 = 0 ∨ K / 2 ^ c % 2 = 1 := by omega
  rcases this with q | q
  · rw [Nat.pow_one, q]; rfl
  · rw [Nat.pow_one, q]; rfl
theorem nb_or (K : Nat) {c : Nat} (hc : c < 8) : nI K ||| ((1 : Int32) <<< (nI c &&& 31)) = nI (K ||| 2 ^ c) := by
  have hp : 2 ^ c ≤ 2 ^ 7 := Nat.pow_le_pow_right (by decide) (by omega)
  have h7 : (2 : Nat) ^ 7 = 128 := by decide
  rw [show (1 : Int32) <<< (nI c &&& 31) = nI (1 * 2 ^ c) from pk_shlN (n := 1) (nI c &&& 31) c (s_l c (by omega)) (by omega), Nat.one_mul, fa_or]
theorem nb_or_lt {K c : Nat} (hK : K < 256) (hc : c < 8) : K ||| 2 ^ c < 256 := by
  have hp : 2 ^ c < 2 ^ 8 := Nat.pow_lt_pow_right (by decide) hc
  exact Nat.or_lt_two_pow (n := 8) hK hp
theorem nb_or_at (K c j : Nat) : (K ||| 2 ^ c).testBit j = true ↔ (K.testBit j = true ∨ j = c) := by
  rw [Nat.testBit_or, Bool.or_eq_true, Nat.testBit_two_pow, decide_eq_true_iff]
  exact ⟨fun h => h.imp id (fun q => q.symm), fun h => h.imp id (fun q => q.symm)⟩
def nb_c (K : Nat) : Nat := K % 2 + K / 2 % 2 + K / 4 % 2 + K / 8 % 2 + K / 16 % 2 + K / 32 % 2 + K / 64 % 2 + K / 128 % 2
theorem nb_c_or : ∀ K, K < 256 → ∀ c, c < 8 → K.testBit c = false → nb_c (K ||| 2 ^ c) = nb_c K + 1 ∧ nb_c K < 8 := by decide +kernel
theorem nt_fa_le (T : nt_T) (to : Nat) : ∀ j (q : nq) b m, nt_fa T to j q b = some m → b ≤ m ∧ m ≤ b + j
  | 0, q, b, m, h => by
    unfold nt_fa at h
    split at h
    · cases h; omega
    · cases h
  | j + 1, q, b, m, h => by
    unfold nt_fa at h
    split at h
    · cases h; omega
    · have := nt_fa_le T to j _ _ _ h
      omega
theorem nRX_le {T : nt_T} {to : Nat} {S : Nat → Bool} {u : Nat → Nat} {p j b m : Nat} (h : nRX T to S u p j b (some m)) : m ≤ b + j := by
  obtain ⟨v, -, hF⟩ := h.2
  exact (nt_fa_le T to j _ _ _ hF).2
theorem x_slow_loop {T : nt_T} (hT : nt_ok T) {mem : nw_M} (hm : nx_T 4 T mem) {to : Nat} (hto : to < nt_n T) (d : Nat) (Q : nw_K) {K : Nat} (hK : K < 256) (a1 a3 : Int32)
    (hby : ∀ (u : Nat → Nat) p (s : Int32) b (Q' : nw_K), K.testBit p = false → nt_left T p = true → nx_S s (na (u, p)) → nt_vok T u → p < nt_n T → b ≤ 99 → (∀ r, nRX T to (K.testBit) u p (99 - b) b r → Q' (some (.int (nz_o r))) mem) → nw_Ex (d + 4) nw_shX 53 [.ref 4, .int s, .int (nI to), .int (nI b), .int (nI (K ||| 2 ^ p)), .int (nI (nb_c K))] mem Q') :
    ∀ j b (u : Nat → Nat) p (s : Int32) (l8 : Option Value), b + j = 99 → nx_S s (na (u, p)) → nt_vok T u → p < nt_n T → (l8 = none ∨ ∃ z, l8 = some (.int z)) → (∀ r, nRX T to (K.testBit) u p j b r → Q (some (.int (nz_o r))) mem) → nw_Ev (d + 4) nw_shX 52 Q 6 [some (.ref 4), some (.int a1), some (.int (nI to)), some (.int a3), some (.int (nI K)), some (.int (nI (nb_c K))), some (.int s), some (.int (nI b)), l8] [] mem := by
  have h8 := hT.2.1
  intro j
  induction j with
  | zero =>
    intro b u p s l8 hb hs hu hp hl8 hQ
    have hb' : b = 99 := by omega
    subst hb'
    have hgt : ((99 : Int32) < nI 99) = False := eq_false (by decide)
    have hlf := fun Q' => x_isLeft hT hm (d + 2) Q' (c := p) (by omega)
    have hend : ∀ s' z, nw_Ev (d + 4) nw_shX 52 Q 77 [some (.ref 4), some (.int a1), some (.int (nI to)), some (.int a3), some (.int (nI K)), some (.int (nI (nb_c K))), some (.int s), some (.int (nI 99)), some (.int z)] [.int s'] mem ∨ p = to := by
      intro s' z
      by_cases he : p = to
      · exact Or.inr he
      · refine Or.inl ?_
        simp only [e52, s52_0, s52_1, s52_3, s52_4, s52_8, s52_10, s52_13, s52_15, s52_16, s52_19, s52_21, s52_23, s52_24, s52_27, s52_29, s52_30, s52_31, s52_33, s52_36, s52_39, s52_40, s52_41, s52_43, s52_45, s52_46, s52_47, s52_48, s52_51, s52_52, s52_54, s52_55, s52_57, s52_59, s52_60, s52_62, s52_63, s52_64, s52_66, s52_69, s52_70, s52_71, s52_73, s52_74, s52_77, s52_79, s52_82, s52_85, s52_86, false_implies, true_implies, not_true_eq_false, not_false_eq_true, true_and, and_true, true_or, or_true, false_or, or_false, false_and, and_false, implies_true, nw_psh_s, nw_psh_n, ni_10, ni_00]
        rw [s52_6]
        simp only [e52, s52_0, s52_1, s52_3, s52_4, s52_8, s52_10, s52_13, s52_15, s52_16, s52_19, s52_21, s52_23, s52_24, s52_27, s52_29, s52_30, s52_31, s52_33, s52_36, s52_39, s52_40, s52_41, s52_43, s52_45, s52_46, s52_47, s52_48, s52_51, s52_52, s52_54, s52_55, s52_57, s52_59, s52_60, s52_62, s52_63, s52_64, s52_66, s52_69, s52_70, s52_71, s52_73, s52_74, s52_77, s52_79, s52_82, s52_85, s52_86, show ((99 : Int32) < nI 99 + 1) = True from eq_true (by decide), false_implies, true_implies, not_true_eq_false, not_false_eq_true, true_and, and_true, true_or, or_true, false_or, or_false, false_and, and_false, implies_true, nw_psh_s, nw_psh_n, ni_10, ni_00]
        exact hQ none (nR_0 hu he 99)
    rw [s52_6]
    rcases hl8 with rfl | ⟨z, rfl⟩ <;>
    · by_cases he : p = to
      · simp only [e52, s52_0, s52_1, s52_3, s52_4, s52_8, s52_10, s52_13, s52_15, s52_16, s52_19, s52_21, s52_23, s52_24, s52_27, s52_29, s52_30, s52_31, s52_33, s52_36, s52_39, s52_40, s52_41, s52_43, s52_45, s52_46, s52_47, s52_48, s52_51, s52_52, s52_54, s52_55, s52_57, s52_59, s52_60, s52_62, s52_63, s52_64, s52_66, s52_69, s52_70, s52_71, s52_73, s52_74, s52_77, s52_79, s52_82, s52_85, s52_86, hgt, x_place0 _ _ hs, ni_eq_t he, false_implies, true_implies, not_true_eq_false, not_false_eq_true, true_and, and_true, true_or, or_true, false_or, or_false, false_and, and_false, implies_true, nw_psh_s, nw_psh_n, ni_10, ni_00]
        exact hQ _ (nR_at hu he 0 99)
      · have hne := ni_eq_f he (show p < 2 ^ 31 by omega) (show to < 2 ^ 31 by omega)
        by_cases hl : nt_left T p = true
        · by_cases hK1 : K.testBit p = true
          · simp only [e52, s52_0, s52_1, s52_3, s52_4, s52_8, s52_10, s52_13, s52_15, s52_16, s52_19, s52_21, s52_23, s52_24, s52_27, s52_29, s52_30, s52_31, s52_33, s52_36, s52_39, s52_40, s52_41, s52_43, s52_45, s52_46, s52_47, s52_48, s52_51, s52_52, s52_54, s52_55, s52_57, s52_59, s52_60, s52_62, s52_63, s52_64, s52_66, s52_69, s52_70, s52_71, s52_73, s52_74, s52_79, s52_82, s52_85, s52_86, hgt, x_place0 _ _ hs, hne, hlf, hl, if_true, nb_at hK (show p < 8 by omega), hK1, x_walk0 hT hm _ _ hs, show ((1 : Int32) = 0) = False from eq_false (by decide), false_implies, true_implies, not_true_eq_false, not_false_eq_true, true_and, and_true, true_or, or_true, false_or, or_false, false_and, and_false, implies_true, nw_psh_s, nw_psh_n, ni_10, ni_00]
            exact (hend _ _).resolve_right he
          · have hK0 := (Bool.not_eq_true _).mp hK1
            simp only [s52_0, s52_1, s52_3, s52_4, s52_8, s52_10, s52_13, s52_15, s52_16, s52_19, s52_21, s52_23, s52_24, s52_27, s52_29, s52_30, s52_31, s52_33, s52_36, s52_39, s52_40, s52_41, s52_43, s52_45, s52_46, s52_47, s52_48, s52_51, s52_52, s52_54, s52_55, s52_57, s52_59, s52_60, s52_62, s52_63, s52_64, s52_66, s52_69, s52_70, s52_71, s52_73, s52_74, s52_77, s52_79, s52_82, s52_85, s52_86, hgt, x_place0 _ _ hs, hne, hlf, hl, if_true, nb_at hK (show p < 8 by omega), hK0, if_false, Bool.false_eq_true, nb_or K (show p < 8 by omega), false_implies, true_implies, not_true_eq_false, not_false_eq_true, true_and, and_true, true_or, or_true, false_or, or_false, false_and, and_false, implies_true, nw_psh_s, nw_psh_n, ni_10, ni_00]
            refine hby u p s 99 _ hK0 hl hs hu hp (by omega) (fun r hr => ?_)
            simp only [s52_0, s52_1, s52_3, s52_4, s52_8, s52_10, s52_13, s52_15, s52_16, s52_19, s52_21, s52_23, s52_24, s52_27, s52_29, s52_30, s52_31, s52_33, s52_36, s52_39, s52_40, s52_41, s52_43, s52_45, s52_46, s52_47, s52_48, s52_51, s52_52, s52_54, s52_55, s52_57, s52_59, s52_60, s52_62, s52_63, s52_64, s52_66, s52_69, s52_70, s52_71, s52_73, s52_74, s52_77, s52_79, s52_82, s52_85, s52_86, false_implies, true_implies, not_true_eq_false, not_false_eq_true, true_and, and_true, true_or, or_true, false_or, or_false, false_and, and_false, implies_true, nw_psh_s, nw_psh_n, ni_10, ni_00]
            exact hQ r hr
        · simp only [e52, s52_0, s52_1, s52_3, s52_4, s52_8, s52_10, s52_13, s52_15, s52_16, s52_19, s52_21, s52_23, s52_24, s52_27, s52_29, s52_30, s52_31, s52_33, s52_36, s52_39, s52_40, s52_41, s52_43, s52_45, s52_46, s52_47, s52_48, s52_51, s52_52, s52_54, s52_55, s52_57, s52_59, s52_60, s52_62, s52_63, s52_64, s52_66, s52_69, s52_70, s52_71, s52_73, s52_74, s52_77, s52_79, s52_82, s52_85, s52_86, hgt, x_place0 _ _ hs, hne, hlf, hl, if_false, Bool.false_eq_true, false_implies, true_implies, not_true_eq_false, not_false_eq_true, true_and, and_true, true_or, or_true, false_or, or_false, false_and, and_false, implies_true, nw_psh_s, nw_psh_n, ni_10, ni_00]
          exact hQ none (nR_stay hu he ((Bool.not_eq_true _).mp hl) 0 99)
  | succ j ih =>
    intro b u p s l8 hb hs hu hp hl8 hQ
    have hgt : ((99 : Int32) < nI b) = False := ni_lt_f (a := 99) (by omega) (by decide)
    have hlf := fun Q' => x_isLeft hT hm (d + 2) Q' (c := p) (by omega)
    rw [s52_6]
    rcases hl8 with rfl | ⟨z, rfl⟩ <;>
    · by_cases he : p = to
      · simp only [e52, s52_0, s52_1, s52_3, s52_4, s52_8, s52_10, s52_13, s52_15, s52_16, s52_19, s52_21, s52_23, s52_24, s52_27, s52_29, s52_30, s52_31, s52_33, s52_36, s52_39, s52_40, s52_41, s52_43, s52_45, s52_46, s52_47, s52_48, s52_51, s52_52, s52_54, s52_55, s52_57, s52_59, s52_60, s52_62, s52_63, s52_64, s52_66, s52_69, s52_70, s52_71, s52_73, s52_74, s52_77, s52_79, s52_82, s52_85, s52_86, hgt, x_place0 _ _ hs, ni_eq_t he, false_implies, true_implies, not_true_eq_false, not_false_eq_true, true_and, and_true, true_or, or_true, false_or, or_false, false_and, and_false, implies_true, nw_psh_s, nw_psh_n, ni_10, ni_00]
        exact hQ _ (nR_at hu he (j + 1) b)
      · have hne := ni_eq_f he (show p < 2 ^ 31 by omega) (show to < 2 ^ 31 by omega)
        by_cases hl : nt_left T p = true
        · by_cases hK1 : K.testBit p = true
          · simp only [e52, s52_0, s52_1, s52_3, s52_4, s52_8, s52_10, s52_13, s52_15, s52_16, s52_19, s52_21, s52_23, s52_24, s52_27, s52_29, s52_30, s52_31, s52_33, s52_36, s52_39, s52_40, s52_41, s52_43, s52_45, s52_46, s52_47, s52_48, s52_51, s52_52, s52_54, s52_55, s52_57, s52_59, s52_60, s52_62, s52_63, s52_64, s52_66, s52_69, s52_70, s52_71, s52_73, s52_74, s52_77, s52_79, s52_82, s52_85, s52_86, hgt, x_place0 _ _ hs, hne, hlf, hl, if_true, nb_at hK (show p < 8 by omega), hK1, x_walk0 hT hm _ _ hs, show ((1 : Int32) = 0) = False from eq_false (by decide), nI_1, false_implies, true_implies, not_true_eq_false, not_false_eq_true, true_and, and_true, true_or, or_true, false_or, or_false, false_and, and_false, implies_true, nw_psh_s, nw_psh_n, ni_10, ni_00]
            obtain ⟨g1, g2⟩ := nt_lv_ok hT hu hp
            exact ih (b + 1) _ _ _ _ (by omega) (na_wk_S hT hs) g1 g2 (Or.inr ⟨_, rfl⟩) (fun r hr => hQ r (nR_step hT hu hp hK1 hl he hr))
          · have hK0 := (Bool.not_eq_true _).mp hK1
            simp only [s52_0, s52_1, s52_3, s52_4, s52_8, s52_10, s52_13, s52_15, s52_16, s52_19, s52_21, s52_23, s52_24, s52_27, s52_29, s52_30, s52_31, s52_33, s52_36, s52_39, s52_40, s52_41, s52_43, s52_45, s52_46, s52_47, s52_48, s52_51, s52_52, s52_54, s52_55, s52_57, s52_59, s52_60, s52_62, s52_63, s52_64, s52_66, s52_69, s52_70, s52_71, s52_73, s52_74, s52_77, s52_79, s52_82, s52_85, s52_86, hgt, x_place0 _ _ hs, hne, hlf, hl, if_true, nb_at hK (show p < 8 by omega), hK0, if_false, Bool.false_eq_true, nb_or K (show p < 8 by omega), false_implies, true_implies, not_true_eq_false, not_false_eq_true, true_and, and_true, true_or, or_true, false_or, or_false, false_and, and_false, implies_true, nw_psh_s, nw_psh_n, ni_10, ni_00]
            refine hby u p s b _ hK0 hl hs hu hp (by omega) (fun r hr => ?_)
            simp only [s52_0, s52_1, s52_3, s52_4, s52_8, s52_10, s52_13, s52_15, s52_16, s52_19, s52_21, s52_23, s52_24, s52_27, s52_29, s52_30, s52_31, s52_33, s52_36, s52_39, s52_40, s52_41, s52_43, s52_45, s52_46, s52_47, s52_48, s52_51, s52_52, s52_54, s52_55, s52_57, s52_59, s52_60, s52_62, s52_63, s52_64, s52_66, s52_69, s52_70, s52_71, s52_73, s52_74, s52_77, s52_79, s52_82, s52_85, s52_86, false_implies, true_implies, not_true_eq_false, not_false_eq_true, true_and, and_true, true_or, or_true, false_or, or_false, false_and, and_false, implies_true, nw_psh_s, nw_psh_n, ni_10, ni_00]
            rw [show 99 - b = j + 1 by omega] at hr
            exact hQ r hr
        · simp only [e52, s52_0, s52_1, s52_3, s52_4, s52_8, s52_10, s52_13, s52_15, s52_16, s52_19, s52_21, s52_23, s52_24, s52_27, s52_29, s52_30, s52_31, s52_33, s52_36, s52_39, s52_40, s52_41, s52_43, s52_45, s52_46, s52_47, s52_48, s52_51, s52_52, s52_54, s52_55, s52_57, s52_59, s52_60, s52_62, s52_63, s52_64, s52_66, s52_69, s52_70, s52_71, s52_73, s52_74, s52_77, s52_79, s52_82, s52_85, s52_86, hgt, x_place0 _ _ hs, hne, hlf, hl, if_false, Bool.false_eq_true, false_implies, true_implies, not_true_eq_false, not_false_eq_true, true_and, and_true, true_or, or_true, false_or, or_false, false_and, and_false, implies_true, nw_psh_s, nw_psh_n, ni_10, ni_00]
          exact hQ none (nR_stay hu he ((Bool.not_eq_true _).mp hl) (j + 1) b)
theorem x_byVane_loop {T : nt_T} (hT : nt_ok T) {mem : nw_M} (hm : nx_T 4 T mem) {to : Nat} (d : Nat) (Q : nw_K) {K p b : Nat} {u : Nat → Nat} {s : Int32} (hK : K < 256) (hK0 : K.testBit p = false) (hl : nt_left T p = true) (hs : nx_S s (na (u, p))) (hu : nt_vok T u) (hp : p < nt_n T) (hb : b ≤ 99)
    (hrec : ∀ x, x < nt_w T p → ∀ Q' : nw_K, (∀ r, nRX T to ((K ||| 2 ^ p).testBit) (nf_up u p x) p (99 - b) b r → Q' (some (.int (nz_o r))) mem) → nw_Ex (d + 3) nw_shX 52 [.ref 4, .int (ns_sv s p x), .int (nI to), .int (nI b), .int (nI (K ||| 2 ^ p)), .int (nI (nb_c K + 1))] mem Q')
    (hQ : ∀ r, nRX T to (K.testBit) u p (99 - b) b r → Q (some (.int (nz_o r))) mem) :
    ∀ j x m (l9 : Option Value), x + j = nt_w T p → (x = 0 ∨ nR (nVx T (K.testBit) u p x) (fun v => nt_fa T to (99 - b) (v, p) b) (some m)) → m ≤ 99 → (l9 = none ∨ ∃ z, l9 = some (.int z)) → nw_Ev (d + 3) nw_shX 53 Q 22 [some (.ref 4), some (.int s), some (.int (nI to)), some (.int (nI b)), some (.int (nI (K ||| 2 ^ p))), some (.int (nI (nb_c K))), some (.int (nI p)), some (.int (if x = 0 then -1 else nI m)), some (.int (nI x)), l9] [] mem := by
  have h8 := hT.2.1
  have hw := nt_left_w hl
  have h4 := (hT.2.2.2 p).2.1
  have hwo := fun Q' => x_waysOf (Or.inl rfl) hm (d + 2) Q' (c := p) (by omega)
  have e1 : nI (nb_c K) + 1 = nI (nb_c K + 1) := nI_add _ 1
  intro j
  induction j with
  | zero =>
    intro x m l9 hx hR hm9 hl9
    have hx' : x = nt_w T p := by omega
    subst hx'
    have hx0 : ¬ nt_w T p = 0 := by omega
    rw [if_neg hx0, s53_22]
    simp only [e53, s53_0, s53_2, s53_4, s53_7, s53_8, s53_9, s53_10, s53_11, s53_14, s53_16, s53_17, s53_19, s53_20, s53_24, s53_25, s53_27, s53_30, s53_33, s53_34, s53_35, s53_37, s53_39, s53_42, s53_43, s53_44, s53_46, s53_48, s53_49, s53_50, s53_53, s53_55, s53_57, s53_58, s53_61, s53_62, s53_63, s53_65, s53_67, s53_70, s53_72, s53_75, s53_78, s53_80, hwo, ni_le_t (Nat.le_refl (nt_w T p)) (show nt_w T p < 2 ^ 31 by omega), false_implies, true_implies, not_true_eq_false, not_false_eq_true, true_and, and_true, true_or, or_true, false_or, or_false, false_and, and_false, implies_true, nw_psh_s, nw_psh_n, ni_10, ni_00]
    exact hQ (some m) (nR_end hw (hR.resolve_left hx0))
  | succ j ih =>
    intro x m l9 hx hR hm9 hl9
    have hle := ni_le_f (show x < nt_w T p by omega) (show nt_w T p < 2 ^ 31 by omega)
    have hwv := fun Q' => x_withVane (d + 2) Q' s p x mem
    have hin : nw_Ex (d + 3) nw_shX 52 [.ref 4, .int (ns_sv s p x), .int (nI to), .int (nI b), .int (nI (K ||| 2 ^ p)), .int (nI (nb_c K + 1))] mem (fun v m' => nw_Ev (d + 3) nw_shX 53 Q 53 [some (.ref 4), some (.int s), some (.int (nI to)), some (.int (nI b)), some (.int (nI (K ||| 2 ^ p))), some (.int (nI (nb_c K))), some (.int (nI p)), some (.int (if x = 0 then -1 else nI m)), some (.int (nI x)), l9] (nw_psh v []) m') := by
      refine hrec x (by omega) _ (fun r hr => ?_)
      cases r with
      | none =>
        have := hQ none (nR_no (nb_or_at K p) hK0 hr)
        rcases hl9 with rfl | ⟨z, rfl⟩ <;>
        · simp only [s53_0, s53_2, s53_4, s53_7, s53_8, s53_9, s53_10, s53_11, s53_14, s53_16, s53_17, s53_19, s53_20, s53_24, s53_25, s53_27, s53_30, s53_33, s53_34, s53_35, s53_37, s53_39, s53_42, s53_43, s53_44, s53_46, s53_48, s53_49, s53_50, s53_53, s53_55, s53_57, s53_58, s53_61, s53_62, s53_63, s53_65, s53_67, s53_70, s53_72, s53_75, s53_78, s53_80, nz_o, false_implies, true_implies, not_true_eq_false, not_false_eq_true, true_and, and_true, true_or, or_true, false_or, or_false, false_and, and_false, implies_true, nw_psh_s, nw_psh_n, ni_10, ni_00]
          exact this
      | some k =>
        have hk9 : k ≤ 99 := by have := nRX_le hr; omega
        have hmo := nR_more (nb_or_at K p) hK0 hr hR
        have hgo := fun l9 h9 => ih (x + 1) _ l9 (by omega) (Or.inr hmo) (by split <;> (try split) <;> omega) h9
        rw [if_neg (show ¬ x + 1 = 0 by omega)] at hgo
        have hmx : (if (if x = 0 then (-1 : Int32) else nI m) < nI k then nI k else (if x = 0 then (-1 : Int32) else nI m)) = nI (if x = 0 then k else if m < k then k else m) := by
          by_cases hx0 : x = 0
          · rw [if_pos hx0, if_pos hx0]
            have : (-1 : Int32) < nI k := by
              rw [fa_lt, nI_toInt (by omega)]
              have : (-1 : Int32).toInt = -1 := rfl
              omega
            rw [if_pos this]
          · rw [if_neg hx0, if_neg hx0]
            by_cases hmk : m < k
            · rw [if_pos hmk, if_pos (nI_lt hmk (by omega))]
            · rw [if_neg hmk, if_neg (nI_nlt (by omega) (by omega))]
        rcases hl9 with rfl | ⟨z, rfl⟩ <;>
        · simp only [s53_0, s53_2, s53_4, s53_7, s53_8, s53_9, s53_10, s53_11, s53_14, s53_16, s53_17, s53_19, s53_20, s53_24, s53_25, s53_27, s53_30, s53_33, s53_34, s53_35, s53_37, s53_39, s53_42, s53_43, s53_44, s53_46, s53_48, s53_49, s53_50, s53_53, s53_55, s53_57, s53_58, s53_61, s53_62, s53_63, s53_65, s53_67, s53_70, s53_72, s53_75, s53_78, s53_80, nz_o, ni_ne_m1 (show k < 2 ^ 31 by omega), x_max, hmx, nI_1, false_implies, true_implies, not_true_eq_false, not_false_eq_true, true_and, and_true, true_or, or_true, false_or, or_false, false_and, and_false, implies_true, nw_psh_s, nw_psh_n, ni_10, ni_00]
          exact hgo _ (Or.inr ⟨_, rfl⟩)
    rw [s53_22]
    simp only [s53_0, s53_2, s53_4, s53_7, s53_8, s53_9, s53_10, s53_11, s53_14, s53_16, s53_17, s53_19, s53_20, s53_24, s53_25, s53_27, s53_30, s53_33, s53_34, s53_35, s53_37, s53_39, s53_42, s53_43, s53_44, s53_46, s53_48, s53_49, s53_50, s53_55, s53_57, s53_58, s53_61, s53_62, s53_63, s53_65, s53_67, s53_70, s53_72, s53_75, s53_78, s53_80, hwo, hle, hwv, e1, false_implies, true_implies, not_true_eq_false, not_false_eq_true, true_and, and_true, true_or, or_true, false_or, or_false, false_and, and_false, implies_true, nw_psh_s, nw_psh_n, ni_10, ni_00]
    exact hin
theorem x_slow {T : nt_T} (hT : nt_ok T) {mem : nw_M} (hm : nx_T 4 T mem) {to : Nat} (hto : to < nt_n T) : ∀ k d (Q : nw_K) K (u : Nat → Nat) p (s : Int32) b, nb_c K + k = 8 → K < 256 → nx_S s (na (u, p)) → nt_vok T u → p < nt_n T → b ≤ 99 → (∀ r, nRX T to (K.testBit) u p (99 - b) b r → Q (some (.int (nz_o r))) mem) → nw_Ex (d + 2 * k + 5) nw_shX 52 [.ref 4, .int s, .int (nI to), .int (nI b), .int (nI K), .int (nI (nb_c K))] mem Q := by
  have h8 := hT.2.1
  intro k
  induction k with
  | zero =>
    intro d Q K u p s b hk hK hs hu hp hb hQ
    simp only [e52, s52_0, s52_1, s52_3, s52_4, s52_8, s52_10, s52_13, s52_15, s52_16, s52_19, s52_21, s52_23, s52_24, s52_27, s52_29, s52_30, s52_31, s52_33, s52_36, s52_39, s52_40, s52_41, s52_43, s52_45, s52_46, s52_47, s52_48, s52_51, s52_52, s52_54, s52_55, s52_57, s52_59, s52_60, s52_62, s52_63, s52_64, s52_66, s52_69, s52_70, s52_71, s52_73, s52_74, s52_77, s52_79, s52_82, s52_85, s52_86, false_implies, true_implies, not_true_eq_false, not_false_eq_true, true_and, and_true, true_or, or_true, false_or, or_false, false_and, and_false, implies_true, nw_psh_s, nw_psh_n, ni_10, ni_00]
    exact x_slow_loop hT hm hto (d + 2 * 0) Q hK s (nI b) (fun u' p' s' b' Q' h0 _ _ _ hp' _ _ => by
      have := (nb_c_or K hK p' (by omega) h0).2
      omega) (99 - b) b u p s none (by omega) hs hu hp (Or.inl rfl) hQ
  | succ k ih =>
    intro d Q K u p s b hk hK hs hu hp hb hQ
    simp only [e52, s52_0, s52_1, s52_3, s52_4, s52_8, s52_10, s52_13, s52_15, s52_16, s52_19, s52_21, s52_23, s52_24, s52_27, s52_29, s52_30, s52_31, s52_33, s52_36, s52_39, s52_40, s52_41, s52_43, s52_45, s52_46, s52_47, s52_48, s52_51, s52_52, s52_54, s52_55, s52_57, s52_59, s52_60, s52_62, s52_63, s52_64, s52_66, s52_69, s52_70, s52_71, s52_73, s52_74, s52_77, s52_79, s52_82, s52_85, s52_86, false_implies, true_implies, not_true_eq_false, not_false_eq_true, true_and, and_true, true_or, or_true, false_or, or_false, false_and, and_false, implies_true, nw_psh_s, nw_psh_n, ni_10, ni_00]
    refine x_slow_loop hT hm hto (d + 2 * (k + 1)) Q hK s (nI b) (fun u' p' s' b' Q' h0 hl' hs' hu' hp' hb' hQ' => ?_) (99 - b) b u p s none (by omega) hs hu hp (Or.inl rfl) hQ
    have hc := nb_c_or K hK p' (by omega) h0
    have hlt : (nI (nb_c K) < 8) = True := ni_lt_t (b := 8) (by omega) (by decide)
    simp only [e53, s53_0, s53_2, s53_4, s53_7, s53_8, s53_9, s53_10, s53_11, s53_14, s53_16, s53_17, s53_19, s53_20, s53_24, s53_25, s53_27, s53_30, s53_33, s53_34, s53_35, s53_37, s53_39, s53_42, s53_43, s53_44, s53_46, s53_48, s53_49, s53_50, s53_53, s53_55, s53_57, s53_58, s53_61, s53_62, s53_63, s53_65, s53_67, s53_70, s53_72, s53_75, s53_78, s53_80, x_place0 _ _ hs', hlt, false_implies, true_implies, not_true_eq_false, not_false_eq_true, true_and, and_true, true_or, or_true, false_or, or_false, false_and, and_false, implies_true, nw_psh_s, nw_psh_n, ni_10, ni_00]
    refine x_byVane_loop hT hm (d + 2 * k + 2) Q' hK h0 hl' hs' hu' hp' hb' (fun x hx Q2 hQ2 => ?_) hQ' (nt_w T p') 0 0 none (by omega) (Or.inl rfl) (by omega) (Or.inl rfl)
    have h4 := (hT.2.2.2 p').2.1
    have hxs : nx_S (ns_sv s' p' x) (na (nf_up u' p' x, p')) := nx_S_sv hs' (by omega) (by omega)
    have hvo : nt_vok T (nf_up u' p' x) := fun c => by
      by_cases q : c = p'
      · subst q
        simp only [nf_up, if_true]
        exact ⟨fun _ => hx, fun z => by omega⟩
      · simp only [nf_up, if_neg q]
        exact hu' c
    have := ih d Q2 (K ||| 2 ^ p') (nf_up u' p' x) p' (ns_sv s' p' x) b' (by omega) (nb_or_lt hK (by omega)) hxs hvo hp' hb' hQ2
    rw [hc.1] at this
    exact this
theorem m_slow_loop {T : nt_T} (hT : nt_ok T) {mm : nw_M} (hm : nm_T T mm) (d : Nat) (Q : nw_K) {fr to : Nat} (hfr : fr < nt_n T) (hto : to < nt_n T)
    (hQ : ∀ r, nR (fun v => ∃ i, i < nk_p T (nt_n T) ∧ v = nk_v T i) (fun v => nt_fa T to 99 (v, fr) 0) r → ∀ m2, nm_sc mm m2 → Q (some (.int (nz_o r))) m2) :
    ∀ j x m m1 (l5 : Option Value), x + j = nk_p T (nt_n T) → nm_sc mm m1 → (x = 0 ∨ nR (fun v => ∃ i, i < x ∧ v = nk_v T i) (fun v => nt_fa T to 99 (v, fr) 0) (some m)) → (x = 0 → m = 0) → m ≤ 99 → (l5 = none ∨ ∃ z, l5 = some (.int z)) → nw_Ev (d + 4) nw_shM 142 Q 24 [some (.ref 0), some (.int (nI fr)), some (.int (nI to)), some (.int (nI m)), some (.int (nI x)), l5] [] m1 := by
  have hP := nk_p_big hT (k := nt_n T) hT.2.1
  have hP0 := nk_p_pos T (nt_n T)
  intro j
  induction j with
  | zero =>
    intro x m m1 l5 hx hs hR h0 hm9 hl5
    have hx' : x = nk_p T (nt_n T) := by omega
    subst hx'
    have hm1 := nm_T_sc hm hs
    have hro := fun Q' => m_rows hT hm1 (d + 3) Q'
    rw [s142_24]
    simp only [e142, s142_0, s142_1, s142_2, s142_5, s142_8, s142_9, s142_10, s142_13, s142_16, s142_18, s142_19, s142_20, s142_21, s142_22, s142_26, s142_27, s142_30, s142_33, s142_34, s142_36, s142_37, s142_38, s142_41, s142_43, s142_45, s142_46, s142_49, s142_50, s142_51, s142_53, s142_54, s142_57, s142_59, s142_62, s142_63, s142_64, s142_67, s142_70, s142_71, hro, ni_le_t (Nat.le_refl (nk_p T (nt_n T))) (show nk_p T (nt_n T) < 2 ^ 31 by omega), false_implies, true_implies, not_true_eq_false, not_false_eq_true, true_and, and_true, true_or, or_true, false_or, or_false, false_and, and_false, implies_true, nw_psh_s, nw_psh_n, ni_10, ni_00]
    exact hQ (some m) (hR.resolve_left (by omega)) m1 hs
  | succ j ih =>
    intro x m m1 l5 hx hs hR h0 hm9 hl5
    have hm1 := nm_T_sc hm hs
    have hro := fun Q' => m_rows hT hm1 (d + 3) Q'
    have hin : nw_Ex (d + 4) nw_shM 140 [.ref 0, .int (nI x), .int (nI fr), .int (nI to)] m1 (fun v m' => nw_Ev (d + 4) nw_shM 142 Q 41 [some (.ref 0), some (.int (nI fr)), some (.int (nI to)), some (.int (nI m)), some (.int (nI x)), l5] (nw_psh v []) m') := by
      refine m_beatsBy hT hm d _ (show x < 2 ^ 30 by omega) hfr hto hs (fun m2 hs2 => ?_)
      cases hF : nt_fa T to 99 (nk_v T x, fr) 0 with
      | none =>
        have := hQ none ⟨nk_v T x, ⟨x, by omega, rfl⟩, hF⟩ m2 hs2
        rcases hl5 with rfl | ⟨z, rfl⟩ <;>
        · simp only [e142, s142_0, s142_1, s142_2, s142_5, s142_8, s142_9, s142_10, s142_13, s142_16, s142_18, s142_19, s142_20, s142_21, s142_22, s142_26, s142_27, s142_30, s142_33, s142_34, s142_36, s142_37, s142_38, s142_41, s142_43, s142_45, s142_46, s142_49, s142_50, s142_51, s142_53, s142_54, s142_57, s142_59, s142_62, s142_63, s142_64, s142_67, s142_70, s142_71, nz_o, false_implies, true_implies, not_true_eq_false, not_false_eq_true, true_and, and_true, true_or, or_true, false_or, or_false, false_and, and_false, implies_true, nw_psh_s, nw_psh_n, ni_10, ni_00]
          exact this
      | some k =>
        have hk9 := (nt_fa_le T to _ _ _ _ hF).2
        have hmo : nR (fun v => ∃ i, i < x + 1 ∧ v = nk_v T i) (fun v => nt_fa T to 99 (v, fr) 0) (some (if m < k then k else m)) := by
          refine ⟨fun v hv => ?_, ?_⟩
          · obtain ⟨i, hi, rfl⟩ := hv
            by_cases q : i = x
            · rw [q]; exact ⟨k, hF, by split <;> omega⟩
            · rcases hR with h | h
              · omega
              · obtain ⟨i', hi', hle⟩ := h.1 _ ⟨i, by omega, rfl⟩
                exact ⟨i', hi', by split <;> omega⟩
          · by_cases q : m < k
            · rw [if_pos q]; exact ⟨nk_v T x, ⟨x, by omega, rfl⟩, hF⟩
            · rw [if_neg q]
              rcases hR with h | h
              · have hm0 := h0 h
                have hk0 : k = m := by omega
                rw [← hk0]; exact ⟨nk_v T x, ⟨x, by omega, rfl⟩, hF⟩
              · obtain ⟨v, ⟨i, hi, hv⟩, hF2⟩ := h.2
                exact ⟨v, ⟨i, by omega, hv⟩, hF2⟩
        have hgo := fun l5 h5 => ih (x + 1) _ m2 l5 (by omega) hs2 (Or.inr hmo) (by omega) (by split <;> omega) h5
        by_cases q : m < k
        · rw [if_pos q] at hgo
          rcases hl5 with rfl | ⟨z, rfl⟩ <;>
          · simp only [e142, s142_0, s142_1, s142_2, s142_5, s142_8, s142_9, s142_10, s142_13, s142_16, s142_18, s142_19, s142_20, s142_21, s142_22, s142_26, s142_27, s142_30, s142_33, s142_34, s142_36, s142_37, s142_38, s142_41, s142_43, s142_45, s142_46, s142_49, s142_50, s142_51, s142_53, s142_54, s142_57, s142_59, s142_62, s142_63, s142_64, s142_67, s142_70, s142_71, nz_o, ni_ne_m1 (show k < 2 ^ 31 by omega), ni_le_f q (show k < 2 ^ 31 by omega), nI_1, false_implies, true_implies, not_true_eq_false, not_false_eq_true, true_and, and_true, true_or, or_true, false_or, or_false, false_and, and_false, implies_true, nw_psh_s, nw_psh_n, ni_10, ni_00]
            exact hgo _ (Or.inr ⟨_, rfl⟩)
        · rw [if_neg q] at hgo
          rcases hl5 with rfl | ⟨z, rfl⟩ <;>
          · simp only [e142, s142_0, s142_1, s142_2, s142_5, s142_8, s142_9, s142_10, s142_13, s142_16, s142_18, s142_19, s142_20, s142_21, s142_22, s142_26, s142_27, s142_30, s142_33, s142_34, s142_36, s142_37, s142_38, s142_41, s142_43, s142_45, s142_46, s142_49, s142_50, s142_51, s142_53, s142_54, s142_57, s142_59, s142_62, s142_63, s142_64, s142_67, s142_70, s142_71, nz_o, ni_ne_m1 (show k < 2 ^ 31 by omega), ni_le_t (show k ≤ m by omega) (show m < 2 ^ 31 by omega), nI_1, false_implies, true_implies, not_true_eq_false, not_false_eq_true, true_and, and_true, true_or, or_true, false_or, or_false, false_and, and_false, implies_true, nw_psh_s, nw_psh_n, ni_10, ni_00]
            exact hgo _ (Or.inr ⟨_, rfl⟩)
    rw [s142_24]
    simp only [e142, s142_0, s142_1, s142_2, s142_5, s142_8, s142_9, s142_10, s142_13, s142_16, s142_18, s142_19, s142_20, s142_21, s142_22, s142_26, s142_27, s142_30, s142_33, s142_34, s142_36, s142_37, s142_38, s142_43, s142_45, s142_46, s142_49, s142_50, s142_51, s142_53, s142_54, s142_57, s142_59, s142_62, s142_63, s142_64, s142_67, s142_70, s142_71, hro, ni_le_f (show x < nk_p T (nt_n T) by omega) (show nk_p T (nt_n T) < 2 ^ 31 by omega), false_implies, true_implies, not_true_eq_false, not_false_eq_true, true_and, and_true, true_or, or_true, false_or, or_false, false_and, and_false, implies_true, nw_psh_s, nw_psh_n, ni_10, ni_00]
    exact hin
theorem nR_ex (T : nt_T) (F : (Nat → Nat) → Option Nat) : ∀ x, 0 < x → ∃ r, nR (fun v => ∃ i, i < x ∧ v = nk_v T i) F r
  | 0, h => absurd h (Nat.lt_irrefl 0)
  | x + 1, _ => by
    cases hF : F (nk_v T x) with
    | none => exact ⟨none, nk_v T x, ⟨x, by omega, rfl⟩, hF⟩
    | some k =>
      rcases Nat.eq_zero_or_pos x with h0 | h0
      · refine ⟨some k, fun v hv => ?_, nk_v T x, ⟨x, by omega, rfl⟩, hF⟩
        obtain ⟨i, hi, rfl⟩ := hv
        rw [show i = x by omega]
        exact ⟨k, hF, Nat.le_refl k⟩
      · obtain ⟨r, hr⟩ := nR_ex T F x h0
        cases r with
        | none =>
          obtain ⟨v, ⟨i, hi, hv⟩, hF2⟩ := hr
          exact ⟨none, v, ⟨i, by omega, hv⟩, hF2⟩
        | some m =>
          refine ⟨some (if m < k then k else m), fun v hv => ?_, ?_⟩
          · obtain ⟨i, hi, rfl⟩ := hv
            by_cases q : i = x
            · rw [q]; exact ⟨k, hF, by split <;> omega⟩
            · obtain ⟨i', hi', hle⟩ := hr.1 _ ⟨i, by omega, rfl⟩
              exact ⟨i', hi', by split <;> omega⟩
          · by_cases q : m < k
            · rw [if_pos q]; exact ⟨nk_v T x, ⟨x, by omega, rfl⟩, hF⟩
            · rw [if_neg q]
              obtain ⟨v, ⟨i, hi, hv⟩, hF2⟩ := hr.2
              exact ⟨v, ⟨i, by omega, hv⟩, hF2⟩
theorem p_slow (A : nA) (x y : Int32) : nP2 A 89 142 [.int x, .int y] := by
  intro mx mm hX hM
  obtain ⟨T, τ, σ, g, kp, L, tx⟩ := A
  have hX0 := hX
  have hM0 := hM
  obtain ⟨h1, h2, h3, ⟨h5, h6⟩, -⟩ := hX
  obtain ⟨-, k2, -, ⟨-, k4⟩, -⟩ := hM
  have h8 := h1.2.1
  rcases ix3 x (n := nt_n T) (by omega) with hx | ⟨c, hc, rfl⟩
  · refine nP_same (r := -2) hX0 hM0 (fun Q hQ => ?_) (fun Q hQ => ?_)
    · simp only [e89, s89_0, s89_1, s89_4, s89_5, s89_8, s89_11, s89_12, s89_15, s89_16, s89_19, s89_22, s89_24, s89_25, s89_26, s89_29, s89_30, s89_31, s89_34, s89_35, s89_36, s89_37, s89_38, s89_41, x_hasCorner_n (Or.inl rfl) h2 38 _ hx, false_implies, true_implies, not_true_eq_false, not_false_eq_true, true_and, and_true, true_or, or_true, false_or, or_false, false_and, and_false, implies_true, nw_psh_s, nw_psh_n, ni_10, ni_00]
      exact hQ
    · simp only [e142, s142_0, s142_1, s142_2, s142_5, s142_8, s142_9, s142_10, s142_13, s142_16, s142_18, s142_19, s142_20, s142_21, s142_22, s142_26, s142_27, s142_30, s142_33, s142_34, s142_36, s142_37, s142_38, s142_41, s142_43, s142_45, s142_46, s142_49, s142_50, s142_51, s142_53, s142_54, s142_57, s142_59, s142_62, s142_63, s142_64, s142_67, s142_70, s142_71, m_isCorner_n h1 k2 37 _ hx, false_implies, true_implies, not_true_eq_false, not_false_eq_true, true_and, and_true, true_or, or_true, false_or, or_false, false_and, and_false, implies_true, nw_psh_s, nw_psh_n, ni_10, ni_00]
      exact hQ mm (nm_sc_rf mm)
  rcases ix3 y (n := nt_n T) (by omega) with hy | ⟨a, ha, rfl⟩
  · refine nP_same (r := -2) hX0 hM0 (fun Q hQ => ?_) (fun Q hQ => ?_)
    · simp only [e89, s89_0, s89_1, s89_4, s89_5, s89_8, s89_11, s89_12, s89_15, s89_16, s89_19, s89_22, s89_24, s89_25, s89_26, s89_29, s89_30, s89_31, s89_34, s89_35, s89_36, s89_37, s89_38, s89_41, x_hasCorner_y (Or.inl rfl) h1 h2 38 _ hc, x_hasCorner_n (Or.inl rfl) h2 38 _ hy, false_implies, true_implies, not_true_eq_false, not_false_eq_true, true_and, and_true, true_or, or_true, false_or, or_false, false_and, and_false, implies_true, nw_psh_s, nw_psh_n, ni_10, ni_00]
      exact hQ
    · simp only [e142, s142_0, s142_1, s142_2, s142_5, s142_8, s142_9, s142_10, s142_13, s142_16, s142_18, s142_19, s142_20, s142_21, s142_22, s142_26, s142_27, s142_30, s142_33, s142_34, s142_36, s142_37, s142_38, s142_41, s142_43, s142_45, s142_46, s142_49, s142_50, s142_51, s142_53, s142_54, s142_57, s142_59, s142_62, s142_63, s142_64, s142_67, s142_70, s142_71, m_isCorner_y h1 k2 37 _ hc, m_isCorner_n h1 k2 37 _ hy, false_implies, true_implies, not_true_eq_false, not_false_eq_true, true_and, and_true, true_or, or_true, false_or, or_false, false_and, and_false, implies_true, nw_psh_s, nw_psh_n, ni_10, ni_00]
      exact hQ mm (nm_sc_rf mm)
  have hz : nt_vok T (fun _ => 0) := fun c => ⟨fun h => h, fun _ => rfl⟩
  have key : ∀ r, nRX T a (Nat.testBit 0) (fun _ => 0) c 99 0 r ↔ nR (fun v => ∃ i, i < nk_p T (nt_n T) ∧ v = nk_v T i) (fun v => nt_fa T a 99 (v, c) 0) r := by
    have hV : ∀ v, nV T (Nat.testBit 0) (fun _ => 0) v ↔ ∃ i, i < nk_p T (nt_n T) ∧ v = nk_v T i := fun v =>
      ⟨fun h => ⟨nk_n T v (nt_n T), nk_n_lt h.1 _, (nk_vn h1 h.1).symm⟩, fun ⟨i, _, h⟩ => by
        rw [h]
        exact ⟨nk_v_ok T i, fun c hc => by rw [Nat.zero_testBit] at hc; cases hc⟩⟩
    have hV' : nV T (Nat.testBit 0) (fun _ => 0) = (fun v => ∃ i, i < nk_p T (nt_n T) ∧ v = nk_v T i) := funext (fun v => propext (hV v))
    intro r
    unfold nRX
    rw [hV']
  obtain ⟨r, hr⟩ := nR_ex T (fun v => nt_fa T a 99 (v, c) 0) (nk_p T (nt_n T)) (nk_p_pos T _)
  refine nP_same (r := nz_o r) hX0 hM0 (fun Q hQ => ?_) (fun Q hQ => ?_)
  · simp only [e89, s89_0, s89_1, s89_4, s89_5, s89_8, s89_11, s89_12, s89_15, s89_16, s89_19, s89_22, s89_24, s89_25, s89_26, s89_29, s89_30, s89_31, s89_34, s89_35, s89_36, s89_37, s89_38, s89_41, x_hasCorner_y (Or.inl rfl) h1 h2 38 _ hc, x_hasCorner_y (Or.inl rfl) h1 h2 38 _ ha, x_from, false_implies, true_implies, not_true_eq_false, not_false_eq_true, true_and, and_true, true_or, or_true, false_or, or_false, false_and, and_false, implies_true, nw_psh_s, nw_psh_n, ni_10, ni_00]
    refine x_slow h1 h2 ha 8 18 _ 0 (fun _ => 0) c _ 0 rfl (by decide) (na_from0 (c := c) (by omega)) hz hc (by omega) (fun r' hr' => ?_)
    have he := nR_uniq hr ((key r').mp hr')
    rw [← he]
    simp only [e89, s89_0, s89_1, s89_4, s89_5, s89_8, s89_11, s89_12, s89_15, s89_16, s89_19, s89_22, s89_24, s89_25, s89_26, s89_29, s89_30, s89_31, s89_34, s89_35, s89_36, s89_37, s89_38, s89_41, false_implies, true_implies, not_true_eq_false, not_false_eq_true, true_and, and_true, true_or, or_true, false_or, or_false, false_and, and_false, implies_true, nw_psh_s, nw_psh_n, ni_10, ni_00]
    exact hQ
  · simp only [e142, s142_0, s142_1, s142_2, s142_5, s142_8, s142_9, s142_10, s142_13, s142_16, s142_18, s142_19, s142_20, s142_21, s142_22, s142_26, s142_27, s142_30, s142_33, s142_34, s142_36, s142_37, s142_38, s142_41, s142_43, s142_45, s142_46, s142_49, s142_50, s142_51, s142_53, s142_54, s142_57, s142_59, s142_62, s142_63, s142_64, s142_67, s142_70, s142_71, m_isCorner_y h1 k2 37 _ hc, m_isCorner_y h1 k2 37 _ ha, false_implies, true_implies, not_true_eq_false, not_false_eq_true, true_and, and_true, true_or, or_true, false_or, or_false, false_and, and_false, implies_true, nw_psh_s, nw_psh_n, ni_10, ni_00]
    refine m_slow_loop h1 k2 35 Q hc ha (fun r' hr' m2 hs2 => ?_) (nk_p T (nt_n T)) 0 0 mm none (by omega) (nm_sc_rf mm) (Or.inl rfl) (fun _ => rfl) (by omega) (Or.inl rfl)
    have he := nR_uniq hr hr'
    rw [← he]
    exact hQ m2 hs2
