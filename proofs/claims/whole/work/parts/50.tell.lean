/-! WHAT THE LINES DO -/
def ndo (l : nLn) (D : nD) : nD := if l.1 = 0 then nd_town l.2.1 D else if l.1 = 5 then nd_way l.2.1 l.2.2 D else if l.1 = 6 then nd_vane l.2.1 l.2.2 D else if l.1 = 7 then nd_walker l.2.1 D else if l.1 = 8 then nd_nobody D else nd_kind l.2.1 (l.1 - 1) D
def nlo (l : nLn) (D : nD) : Prop := l.1 < 9 ∧ (l.1 = 0 → 2 ≤ l.2.1 ∧ l.2.1 ≤ 8) ∧ (¬ l.1 = 0 → ¬ l.1 = 8 → l.2.1 < nt_n D.1) ∧ (l.1 = 5 → nt_w D.1 l.2.1 < 4 ∧ l.2.2 < nt_n D.1) ∧ (l.1 = 6 → l.2.2 < nt_w D.1 l.2.1) ∧ (l.1 = 7 → nt_m D.1 < 5)
theorem nlo_mk (w a b : Nat) {D : nD} (h1 : w < 9) (h2 : w = 0 → 2 ≤ a ∧ a ≤ 8) (h3 : ¬ w = 0 → ¬ w = 8 → a < nt_n D.1) (h4 : w = 5 → nt_w D.1 a < 4 ∧ b < nt_n D.1) (h5 : w = 6 → b < nt_w D.1 a) (h6 : w = 7 → nt_m D.1 < 5) : nlo (w, a, b) D := ⟨h1, h2, h3, h4, h5, h6⟩
theorem nrs_do {L : Nat} {tx : Nat → Nat} {D D' : nD} {w s s' : Nat} {l : nLn} (hw : w < 9) (h7 : w = 7 → nt_m D.1 < 5) (h : nrs L tx D w s = .inr (D', s', l)) : D' = ndo l D ∧ nlo l D := by
  unfold nrs at h
  by_cases q8 : w = 8
  · rw [if_pos q8] at h
    cases h
    exact ⟨rfl, nlo_mk 8 0 0 (by decide) (fun z => absurd z (by decide)) (fun _ z => absurd rfl z) (fun z => absurd z (by decide)) (fun z => absurd z (by decide)) (fun z => absurd z (by decide))⟩
  · rw [if_neg q8] at h
    cases hd : ndg L tx s with
    | none => rw [hd] at h; cases h
    | some a0 =>
      rw [hd] at h
      dsimp only at h
      by_cases q0 : w = 0
      · rw [if_pos q0] at h
        split at h
        · rename_i h28
          cases h
          exact ⟨rfl, nlo_mk 0 a0 0 (by decide) (fun _ => h28) (fun z => absurd rfl z) (fun z => absurd z (by decide)) (fun z => absurd z (by decide)) (fun z => absurd z (by decide))⟩
        · cases h
      · rw [if_neg q0] at h
        split at h
        · cases h
        · rename_i hn
          have hn' : a0 < nt_n D.1 := Classical.byContradiction hn
          by_cases q7 : w = 7
          · rw [if_pos q7] at h
            cases h
            exact ⟨rfl, nlo_mk 7 a0 0 (by decide) (fun z => absurd z (by decide)) (fun _ _ => hn') (fun z => absurd z (by decide)) (fun z => absurd z (by decide)) (fun _ => h7 q7)⟩
          · rw [if_neg q7] at h
            by_cases q5 : w < 5
            · rw [if_pos q5] at h
              cases h
              refine ⟨?_, hw, fun z => absurd z q0, fun _ _ => hn', fun z => absurd z (by omega), fun z => absurd z (by omega), fun z => absurd z q7⟩
              unfold ndo
              dsimp only
              rw [if_neg q0, if_neg (by omega), if_neg (by omega), if_neg q7, if_neg q8]
            · rw [if_neg q5] at h
              split at h
              · cases h
              · rename_i h4
                cases hd2 : ndg L tx (nnt L tx s) with
                | none => rw [hd2] at h; cases h
                | some b0 =>
                  rw [hd2] at h
                  dsimp only at h
                  by_cases q : w = 5
                  · rw [if_pos q] at h
                    split at h
                    · rename_i hb
                      cases h
                      exact ⟨rfl, nlo_mk 5 a0 b0 (by decide) (fun z => absurd z (by decide)) (fun _ _ => hn') (fun _ => ⟨Classical.byContradiction (fun z => h4 ⟨q, z⟩), hb⟩) (fun z => absurd z (by decide)) (fun z => absurd z (by decide))⟩
                    · cases h
                  · rw [if_neg q] at h
                    split at h
                    · rename_i hb
                      cases h
                      exact ⟨rfl, nlo_mk 6 a0 b0 (by decide) (fun z => absurd z (by decide)) (fun _ _ => hn') (fun z => absurd z (by decide)) (fun _ => hb) (fun z => absurd z (by decide))⟩
                    · cases h
theorem nln_do {L : Nat} {tx : Nat → Nat} {D D' : nD} {s s' : Nat} {l : nLn} (h : nln L tx D s = .inr (D', s', l)) : D' = ndo l D ∧ nlo l D := by
  rw [nln_rs] at h
  cases hw : nwo L tx s with
  | none => rw [hw] at h; cases h
  | some w =>
    rw [hw] at h
    dsimp only at h
    by_cases q : w = 7 ∧ ¬ nt_m D.1 < 5
    · rw [if_pos q] at h; cases h
    · rw [if_neg q] at h
      exact nrs_do (nwo_lt hw) (fun z => Classical.byContradiction (fun y => q ⟨z, y⟩)) h
def ndv : nD → List nLn → nD → Prop
  | D, [], D' => D' = D
  | D, l :: t, D' => nlo l D ∧ ndv (ndo l D) t D'
theorem nrl_dv {L : Nat} {tx : Nat → Nat} : ∀ j D s acc D' ls, nrl L tx j D s acc = .inr (D', ls) → ∃ t, ls = acc ++ t ∧ t.length ≤ j ∧ ndv D t D'
  | 0, D, s, acc, D', ls, h => by cases h
  | j + 1, D, s, acc, D', ls, h => by
    rw [nrl_q] at h
    cases hln : nln L tx D s with
    | inl p => rw [hln] at h; cases h
    | inr z =>
      obtain ⟨D1, s1, l⟩ := z
      rw [hln] at h
      dsimp only at h
      obtain ⟨e1, e2⟩ := nln_do hln
      unfold nrq at h
      by_cases hsl : s1 < L
      · rw [if_neg (fun z => z hsl)] at h
        by_cases h59 : tx s1 = 59 ∧ 0 < j
        · rw [if_pos h59] at h
          obtain ⟨t, f1, f2, f3⟩ := nrl_dv j D1 _ _ D' ls h
          refine ⟨l :: t, by rw [f1, List.append_assoc]; rfl, by rw [List.length_cons]; omega, e2, ?_⟩
          rw [← e1]
          exact f3
        · rw [if_neg h59] at h; cases h
      · rw [if_pos hsl] at h
        cases h
        exact ⟨[l], rfl, by rw [List.length_singleton]; omega, e2, e1⟩
theorem nrl_le {L : Nat} {tx : Nat → Nat} : ∀ j D s acc p, nd_ok D → s ≤ L → nrl L tx j D s acc = .inl p → p ≤ L
  | 0, D, s, acc, p, _, hs, h => by cases h; exact hs
  | j + 1, D, s, acc, p, hok, hs, h => by
    rw [nrl_q] at h
    have hk := nln_ok (tx := tx) hok hs
    cases hln : nln L tx D s with
    | inl p' => rw [hln] at h hk; cases h; exact hk
    | inr z =>
      obtain ⟨D1, s1, l⟩ := z
      rw [hln] at h hk
      dsimp only at h hk
      unfold nrq at h
      by_cases hsl : s1 < L
      · rw [if_neg (fun z => z hsl)] at h
        by_cases h59 : tx s1 = 59 ∧ 0 < j
        · rw [if_pos h59] at h
          exact nrl_le j D1 _ _ p hk.1 (nnt_le tx hk.2) h
        · rw [if_neg h59] at h; cases h; exact hk.2
      · rw [if_pos hsl] at h; cases h
theorem ndo_ok {l : nLn} {D : nD} (h : nd_ok D) (hl : nlo l D) : nd_ok (ndo l D) := by
  obtain ⟨w, a, b⟩ := l
  obtain ⟨l1, l2, l3, l4, l5, l6⟩ := hl
  dsimp only at l1 l2 l3 l4 l5 l6
  unfold ndo
  dsimp only
  by_cases q0 : w = 0
  · rw [if_pos q0]; exact nd_town_ok (l2 q0).1 (l2 q0).2
  · rw [if_neg q0]
    by_cases q5 : w = 5
    · rw [if_pos q5]; exact nd_way_ok h (l3 q0 (by omega)) (l4 q5).1 (l4 q5).2
    · rw [if_neg q5]
      by_cases q6 : w = 6
      · rw [if_pos q6]; exact nd_vane_ok h (l5 q6)
      · rw [if_neg q6]
        by_cases q7 : w = 7
        · rw [if_pos q7]; exact nd_walker_ok h (l6 q7) (l3 q0 (by omega))
        · rw [if_neg q7]
          by_cases q8 : w = 8
          · rw [if_pos q8]; exact nd_nobody_ok h
          · rw [if_neg q8]; exact nd_kind_ok h (by omega)
theorem ndv_ok : ∀ t D D', nd_ok D → ndv D t D' → nd_ok D'
  | [], D, D', h, hv => by
    have hv' : D' = D := hv
    rw [hv']; exact h
  | l :: t, D, D', h, hv => ndv_ok t (ndo l D) D' (ndo_ok h hv.1) hv.2
/-! the reference's told town -/
def nm_D (D : nD) (m : nw_M) : Prop := nm_T D.1 m ∧ nm_S D.1 56 D.2 m
def nmt (m m' : nw_M) : Prop := ∀ c k, ¬ (c = 0 ∧ (k = 6 ∨ k = 10)) → ¬ (c = 1 ∧ 56 ≤ k ∧ k < 69) → ¬ (c = 5 ∨ c = 6 ∨ c = 7) → m' c k = m c k
theorem nmt_rf (m : nw_M) : nmt m m := fun _ _ _ _ _ => rfl
theorem nmt_tr {m1 m2 m3 : nw_M} (h1 : nmt m1 m2) (h2 : nmt m2 m3) : nmt m1 m3 := fun c k a b e => (h2 c k a b e).trans (h1 c k a b e)
theorem nmt_up {m : nw_M} {c k : Nat} {v : Int32} (h : (c = 0 ∧ (k = 6 ∨ k = 10)) ∨ (c = 1 ∧ 56 ≤ k ∧ k < 69) ∨ (c = 5 ∨ c = 6 ∨ c = 7)) : nmt m (nw_up m c k v) := fun a j p q r => by
  rw [nw_up_at, if_neg (by omega)]
theorem m_clear {n : Nat} (D : nD) {m : nw_M} (d : Nat) (Q : nw_K) (hQ : ∀ m', nmt m m' → nm_D (nd_town n D) m' → Q none m') : nw_Ex (d + 1) nw_shM 111 [.ref 0, .int (nI n)] m Q := by
  have hlp : ∀ j k m1, k + j = 8 → nmt m m1 → m1 0 6 = nI n → m1 0 10 = nI 0 → (∀ c, c < k → m1 5 c = nI 0 ∧ m1 6 c = nI 0 ∧ m1 1 (56 + c) = nI 0) → nw_Ev d nw_shM 111 Q 12 [some (.ref 0), some (.int (nI n)), some (.int (nI k))] [] m1 := by
    intro j
    induction j with
    | zero =>
      intro k m1 hk hf g6 g10 g
      have hk' : k = 8 := by omega
      subst hk'
      rw [s111_12]
      simp only [e111, s111_0, s111_1, s111_2, s111_5, s111_6, s111_7, s111_10, s111_11, s111_13, s111_15, s111_18, s111_19, s111_22, s111_23, s111_24, s111_25, s111_26, s111_29, s111_30, s111_31, s111_32, s111_33, s111_36, s111_38, s111_39, s111_40, s111_41, s111_42, s111_45, s111_48, show ((8 : Int32) ≤ nI 8) = True from eq_true (by decide), false_implies, true_implies, not_true_eq_false, not_false_eq_true, true_and, and_true, true_or, or_true, false_or, or_false, false_and, and_false, implies_true, nw_psh_s, nw_psh_n, ni_10, ni_00]
      exact hQ m1 hf ⟨⟨g6, g10, fun c hc => (g c hc).1, fun c hc => (g c hc).2.1, fun c hc j hj => absurd (show j < 0 from hj) (Nat.not_lt_zero j)⟩, fun c hc => (g c hc).2.2, fun w hw => absurd (show w < 0 from hw) (Nat.not_lt_zero w)⟩
    | succ j ih =>
      intro k m1 hk hf g6 g10 g
      have hi : vp_in (nI k) 8 := vp_in_nI (by omega) (by decide)
      have hi2 : vp_in (nI (56 + k)) 70 := vp_in_nI (by omega) (by decide)
      have e56 : (56 : Int32) + nI k = nI (56 + k) := nI_add 56 k
      rw [s111_12]
      simp only [e111, s111_0, s111_1, s111_2, s111_5, s111_6, s111_7, s111_10, s111_11, s111_13, s111_15, s111_18, s111_19, s111_22, s111_23, s111_24, s111_25, s111_26, s111_29, s111_30, s111_31, s111_32, s111_33, s111_36, s111_38, s111_39, s111_40, s111_41, s111_42, s111_45, s111_48, show ((8 : Int32) ≤ nI k) = False from ni_le_f (a := 8) (by omega) (by decide), hi, e56, hi2, ni_cl (show k < 2 ^ 31 by omega), ni_cl (show 56 + k < 2 ^ 31 by omega), nI_1, false_implies, true_implies, not_true_eq_false, not_false_eq_true, true_and, and_true, true_or, or_true, false_or, or_false, false_and, and_false, implies_true, nw_psh_s, nw_psh_n, ni_10, ni_00]
      refine ih (k + 1) _ (by omega) (nmt_tr hf (nmt_tr (nmt_tr (nmt_up (c := 5) (by omega)) (nmt_up (c := 6) (by omega))) (nmt_up (by omega)))) ?_ ?_ (fun c hc => ⟨?_, ?_, ?_⟩)
      · simp only [nw_up_at, Nat.reduceEqDiff, false_and, if_false]; exact g6
      · simp only [nw_up_at, Nat.reduceEqDiff, false_and, if_false]; exact g10
      · simp only [nw_up_at, Nat.reduceEqDiff, false_and, if_false, true_and]
        by_cases q : c = k
        · rw [if_pos q]; rfl
        · rw [if_neg q]; exact (g c (by omega)).1
      · simp only [nw_up_at, Nat.reduceEqDiff, false_and, if_false, true_and]
        by_cases q : c = k
        · rw [if_pos q]; rfl
        · rw [if_neg q]; exact (g c (by omega)).2.1
      · simp only [nw_up_at, Nat.reduceEqDiff, false_and, if_false, true_and]
        by_cases q : c = k
        · rw [if_pos (by omega)]; rfl
        · rw [if_neg (by omega)]; exact (g c (by omega)).2.2
  simp only [e111, s111_0, s111_1, s111_2, s111_5, s111_6, s111_7, s111_10, s111_11, s111_13, s111_15, s111_18, s111_19, s111_22, s111_23, s111_24, s111_25, s111_26, s111_29, s111_30, s111_31, s111_32, s111_33, s111_36, s111_38, s111_39, s111_40, s111_41, s111_42, s111_45, s111_48, false_implies, true_implies, not_true_eq_false, not_false_eq_true, true_and, and_true, true_or, or_true, false_or, or_false, false_and, and_false, implies_true, nw_psh_s, nw_psh_n, ni_10, ni_00]
  refine hlp 8 0 _ rfl (nmt_tr (nmt_up (c := 0) (k := 6) (by omega)) (nmt_up (by omega))) ?_ ?_ (fun c hc => absurd hc (Nat.not_lt_zero c))
  · simp only [nw_up_at, Nat.reduceEqDiff, and_self, and_false, if_true, if_false]
  · simp only [nw_up_at, and_self, if_true]; rfl
theorem m_tell {D : nD} (hok : nd_ok D) {w a b k : Nat} {m : nw_M} (hD : nm_D D m) (hl : nlo (w, a, b) D) (hk : k < 12) (r0 : m 4 (3 * k) = nI w) (r1 : ¬ w = 8 → m 4 (3 * k + 1) = nI a) (r2 : w = 5 ∨ w = 6 → m 4 (3 * k + 2) = nI b) (d : Nat) (Q : nw_K) (hQ : ∀ m', nmt m m' → nm_D (ndo (w, a, b) D) m' → Q none m') : nw_Ex (d + 2) nw_shM 112 [.ref 0, .int (nI (3 * k))] m Q := by
  have h8 := hok.1.2.1
  have h5 := hok.1.2.2.1
  obtain ⟨l1, l2, l3, l4, l5, l6⟩ := hl
  dsimp only at l1 l2 l3 l4 l5 l6
  have hi0 : vp_in (nI (3 * k)) 36 := vp_in_nI (by omega) (by decide)
  have hi1 : vp_in (nI (3 * k + 1)) 36 := vp_in_nI (by omega) (by decide)
  have hi2 : vp_in (nI (3 * k + 2)) 36 := vp_in_nI (by omega) (by decide)
  have e2 : nI (3 * k) + 2 = nI (3 * k + 2) := nI_add (3 * k) 2
  have c0 := ni_cl (show 3 * k < 2 ^ 31 by omega)
  have c1 := ni_cl (show 3 * k + 1 < 2 ^ 31 by omega)
  have c2 := ni_cl (show 3 * k + 2 < 2 ^ 31 by omega)
  obtain ⟨⟨a1, a2, a3, a4, a5⟩, b1, b2⟩ := hD
  unfold ndo at hQ
  dsimp only at hQ
  by_cases q0 : w = 0
  · rw [if_pos q0] at hQ
    have hts : nw_ts 24 126 0 8 #[52, 126, 126, 126, 126, 58, 85, 96, 120] (nI w) = 76 := by rw [q0]; decide +kernel
    have r1' := r1 (by omega)
    simp only [e112, s112_0, s112_1, s112_4, s112_5, s112_6, s112_7, s112_8, s112_9, s112_10, s112_13, s112_14, s112_15, s112_16, s112_17, s112_18, s112_19, s112_22, s112_23, s112_24, s112_76, s112_77, s112_78, s112_81, s112_82, s112_83, s112_86, s112_87, s112_88, s112_89, s112_90, s112_93, s112_94, s112_95, s112_96, s112_97, s112_98, s112_99, s112_102, s112_103, s112_104, s112_105, s112_106, s112_107, s112_108, s112_109, s112_110, s112_113, s112_115, s112_116, s112_117, s112_118, s112_119, s112_120, s112_121, s112_124, s112_126, s112_127, s112_130, s112_131, s112_132, s112_133, s112_134, s112_135, s112_138, s112_139, s112_140, s112_143, s112_144, s112_145, s112_146, s112_149, s112_150, s112_151, s112_154, s112_155, s112_156, s112_159, s112_160, s112_161, s112_162, s112_163, s112_164, nI_1, e2, hi0, hi1, hi2, c0, c1, c2, r0, r1', hts, false_implies, true_implies, not_true_eq_false, not_false_eq_true, true_and, and_true, true_or, or_true, false_or, or_false, false_and, and_false, implies_true, nw_psh_s, nw_psh_n, ni_10, ni_00]
    refine m_clear D d _ (fun m' hf hD' => ?_)
    simp only [e112, s112_0, s112_1, s112_4, s112_5, s112_6, s112_7, s112_8, s112_9, s112_10, s112_13, s112_14, s112_15, s112_16, s112_17, s112_18, s112_19, s112_22, s112_23, s112_24, s112_76, s112_77, s112_78, s112_81, s112_82, s112_83, s112_86, s112_87, s112_88, s112_89, s112_90, s112_93, s112_94, s112_95, s112_96, s112_97, s112_98, s112_99, s112_102, s112_103, s112_104, s112_105, s112_106, s112_107, s112_108, s112_109, s112_110, s112_113, s112_115, s112_116, s112_117, s112_118, s112_119, s112_120, s112_121, s112_124, s112_126, s112_127, s112_130, s112_131, s112_132, s112_133, s112_134, s112_135, s112_138, s112_139, s112_140, s112_143, s112_144, s112_145, s112_146, s112_149, s112_150, s112_151, s112_154, s112_155, s112_156, s112_159, s112_160, s112_161, s112_162, s112_163, s112_164, false_implies, true_implies, not_true_eq_false, not_false_eq_true, true_and, and_true, true_or, or_true, false_or, or_false, false_and, and_false, implies_true, nw_psh_s, nw_psh_n, ni_10, ni_00]
    exact hQ m' hf hD'
  · rw [if_neg q0] at hQ
    by_cases q5 : w = 5
    · rw [if_pos q5] at hQ
      have hts : nw_ts 24 126 0 8 #[52, 126, 126, 126, 126, 58, 85, 96, 120] (nI w) = 82 := by rw [q5]; decide +kernel
      have r1' := r1 (by omega)
      have r2' := r2 (Or.inl q5)
      have ha := l3 q0 (by omega)
      obtain ⟨hw4, hb⟩ := l4 q5
      have hw := a4 a (by omega)
      have e4 : (4 : Int32) * nI a = nI (4 * a) := pk_mul 4 a
      have hia : vp_in (nI a) 8 := vp_in_nI (by omega) (by decide)
      have hib : vp_in (nI (4 * a + nt_w D.1 a)) 32 := vp_in_nI (by omega) (by decide)
      simp only [e112, s112_0, s112_1, s112_4, s112_5, s112_6, s112_7, s112_8, s112_9, s112_10, s112_13, s112_14, s112_15, s112_16, s112_17, s112_18, s112_19, s112_22, s112_23, s112_24, s112_76, s112_77, s112_78, s112_81, s112_82, s112_83, s112_86, s112_87, s112_88, s112_89, s112_90, s112_93, s112_94, s112_95, s112_96, s112_97, s112_98, s112_99, s112_102, s112_103, s112_104, s112_105, s112_106, s112_107, s112_108, s112_109, s112_110, s112_113, s112_115, s112_116, s112_117, s112_118, s112_119, s112_120, s112_121, s112_124, s112_126, s112_127, s112_130, s112_131, s112_132, s112_133, s112_134, s112_135, s112_138, s112_139, s112_140, s112_143, s112_144, s112_145, s112_146, s112_149, s112_150, s112_151, s112_154, s112_155, s112_156, s112_159, s112_160, s112_161, s112_162, s112_163, s112_164, nI_1, e2, hi0, hi1, hi2, c0, c1, c2, r0, r1', r2', hts, e4, nI_add, hia, hib, ni_cl (show a < 2 ^ 31 by omega), ni_cl (show 4 * a + nt_w D.1 a < 2 ^ 31 by omega), hw, nw_up_at, Nat.reduceEqDiff, false_and, if_false, false_implies, true_implies, not_true_eq_false, not_false_eq_true, true_and, and_true, true_or, or_true, false_or, or_false, false_and, and_false, implies_true, nw_psh_s, nw_psh_n, ni_10, ni_00]
      refine hQ _ (nmt_tr (nmt_up (c := 7) (by omega)) (nmt_up (by omega))) ⟨⟨?_, ?_, fun j hj => ?_, fun j hj => ?_, fun j hj i hi => ?_⟩, fun j hj => ?_, fun j hj => ?_⟩
      · simp only [nw_up_at, Nat.reduceEqDiff, false_and, if_false]; exact a1
      · simp only [nw_up_at, Nat.reduceEqDiff, false_and, if_false]; exact a2
      · simp only [nw_up_at, Nat.reduceEqDiff, false_and, if_false]; exact a3 j hj
      · simp only [nw_up_at, Nat.reduceEqDiff, false_and, if_false, true_and]
        show _ = nI (nf_up (nt_w D.1) a (nt_w D.1 a + 1) j)
        by_cases q : j = a
        · rw [if_pos q]; simp only [nf_up, q, if_true]
        · rw [if_neg q]; simp only [nf_up, if_neg q]; exact a4 j hj
      · have hi' : i < nf_up (nt_w D.1) a (nt_w D.1 a + 1) j := hi
        have hj4 := (hok.1.2.2.2 j).2.1
        show _ = nI (if j = a ∧ i = nt_w D.1 a then b else nt_e D.1 j i)
        simp only [nw_up_at, Nat.reduceEqDiff, false_and, if_false, true_and]
        by_cases q : j = a
        · simp only [nf_up, q, if_true] at hi'
          by_cases q2 : i = nt_w D.1 a
          · rw [if_pos (by rw [q, q2]), if_pos ⟨q, q2⟩]
          · rw [if_neg (by omega), if_neg (fun z => q2 z.2)]; exact a5 j hj i (by rw [q]; omega)
        · simp only [nf_up, if_neg q] at hi'
          rw [if_neg (by omega), if_neg (fun z => q z.1)]; exact a5 j hj i hi'
      · simp only [nw_up_at, Nat.reduceEqDiff, false_and, if_false]; exact b1 j hj
      · simp only [nw_up_at, Nat.reduceEqDiff, false_and, if_false]; exact b2 j hj
    · rw [if_neg q5] at hQ
      by_cases q6 : w = 6
      · rw [if_pos q6] at hQ
        have hts : nw_ts 24 126 0 8 #[52, 126, 126, 126, 126, 58, 85, 96, 120] (nI w) = 109 := by rw [q6]; decide +kernel
        have r1' := r1 (by omega)
        have r2' := r2 (Or.inr q6)
        have ha := l3 q0 (by omega)
        have e56 : (56 : Int32) + nI a = nI (56 + a) := nI_add 56 a
        have hia : vp_in (nI (56 + a)) 70 := vp_in_nI (by omega) (by decide)
        simp only [e112, s112_0, s112_1, s112_4, s112_5, s112_6, s112_7, s112_8, s112_9, s112_10, s112_13, s112_14, s112_15, s112_16, s112_17, s112_18, s112_19, s112_22, s112_23, s112_24, s112_76, s112_77, s112_78, s112_81, s112_82, s112_83, s112_86, s112_87, s112_88, s112_89, s112_90, s112_93, s112_94, s112_95, s112_96, s112_97, s112_98, s112_99, s112_102, s112_103, s112_104, s112_105, s112_106, s112_107, s112_108, s112_109, s112_110, s112_113, s112_115, s112_116, s112_117, s112_118, s112_119, s112_120, s112_121, s112_124, s112_126, s112_127, s112_130, s112_131, s112_132, s112_133, s112_134, s112_135, s112_138, s112_139, s112_140, s112_143, s112_144, s112_145, s112_146, s112_149, s112_150, s112_151, s112_154, s112_155, s112_156, s112_159, s112_160, s112_161, s112_162, s112_163, s112_164, nI_1, e2, hi0, hi1, hi2, c0, c1, c2, r0, r1', r2', hts, e56, hia, ni_cl (show 56 + a < 2 ^ 31 by omega), false_implies, true_implies, not_true_eq_false, not_false_eq_true, true_and, and_true, true_or, or_true, false_or, or_false, false_and, and_false, implies_true, nw_psh_s, nw_psh_n, ni_10, ni_00]
        refine hQ _ (nmt_up (by omega)) ⟨⟨?_, ?_, fun j hj => ?_, fun j hj => ?_, fun j hj i hi => ?_⟩, fun j hj => ?_, fun j hj => ?_⟩
        · simp only [nw_up_at, Nat.reduceEqDiff, false_and, if_false]; exact a1
        · simp only [nw_up_at, Nat.reduceEqDiff, false_and, if_false]; exact a2
        · simp only [nw_up_at, Nat.reduceEqDiff, false_and, if_false]; exact a3 j hj
        · simp only [nw_up_at, Nat.reduceEqDiff, false_and, if_false]; exact a4 j hj
        · simp only [nw_up_at, Nat.reduceEqDiff, false_and, if_false]; exact a5 j hj i hi
        · simp only [nw_up_at, true_and]
          show _ = nI (nf_up D.2.1 a b j)
          by_cases q : j = a
          · rw [if_pos (by omega)]; simp only [nf_up, q, if_true]
          · rw [if_neg (by omega)]; simp only [nf_up, if_neg q]; exact b1 j hj
        · rw [nw_up_at, if_neg (by omega)]; exact b2 j hj
      · rw [if_neg q6] at hQ
        by_cases q7 : w = 7
        · rw [if_pos q7] at hQ
          have hts : nw_ts 24 126 0 8 #[52, 126, 126, 126, 126, 58, 85, 96, 120] (nI w) = 120 := by rw [q7]; decide +kernel
          have r1' := r1 (by omega)
          have hm5 := l6 q7
          have e64 : (64 : Int32) + nI (nt_m D.1) = nI (64 + nt_m D.1) := nI_add 64 _
          have hia : vp_in (nI (64 + nt_m D.1)) 70 := vp_in_nI (by omega) (by decide)
          simp only [e112, s112_0, s112_1, s112_4, s112_5, s112_6, s112_7, s112_8, s112_9, s112_10, s112_13, s112_14, s112_15, s112_16, s112_17, s112_18, s112_19, s112_22, s112_23, s112_24, s112_76, s112_77, s112_78, s112_81, s112_82, s112_83, s112_86, s112_87, s112_88, s112_89, s112_90, s112_93, s112_94, s112_95, s112_96, s112_97, s112_98, s112_99, s112_102, s112_103, s112_104, s112_105, s112_106, s112_107, s112_108, s112_109, s112_110, s112_113, s112_115, s112_116, s112_117, s112_118, s112_119, s112_120, s112_121, s112_124, s112_126, s112_127, s112_130, s112_131, s112_132, s112_133, s112_134, s112_135, s112_138, s112_139, s112_140, s112_143, s112_144, s112_145, s112_146, s112_149, s112_150, s112_151, s112_154, s112_155, s112_156, s112_159, s112_160, s112_161, s112_162, s112_163, s112_164, nI_1, e2, hi0, hi1, hi2, c0, c1, c2, r0, r1', hts, a2, e64, hia, ni_cl (show 64 + nt_m D.1 < 2 ^ 31 by omega), nw_up_at, Nat.reduceEqDiff, false_and, if_false, false_implies, true_implies, not_true_eq_false, not_false_eq_true, true_and, and_true, true_or, or_true, false_or, or_false, false_and, and_false, implies_true, nw_psh_s, nw_psh_n, ni_10, ni_00]
          refine hQ _ (nmt_tr (nmt_up (c := 1) (by omega)) (nmt_up (by omega))) ⟨⟨?_, ?_, fun j hj => ?_, fun j hj => ?_, fun j hj i hi => ?_⟩, fun j hj => ?_, fun j hj => ?_⟩
          · simp only [nw_up_at, Nat.reduceEqDiff, false_and, and_false, if_false]; exact a1
          · simp only [nw_up_at, and_self, if_true]; rfl
          · simp only [nw_up_at, Nat.reduceEqDiff, false_and, if_false]; exact a3 j hj
          · simp only [nw_up_at, Nat.reduceEqDiff, false_and, if_false]; exact a4 j hj
          · simp only [nw_up_at, Nat.reduceEqDiff, false_and, if_false]; exact a5 j hj i hi
          · rw [nw_up_at, if_neg (by omega), nw_up_at, if_neg (by omega)]; exact b1 j hj
          · have hj' : j < nt_m D.1 + 1 := hj
            rw [nw_up_at, if_neg (by omega), nw_up_at]
            show _ = nI (nf_up D.2.2 (nt_m D.1) a j)
            by_cases q : j = nt_m D.1
            · rw [if_pos (by omega)]; simp only [nf_up, q, if_true]
            · rw [if_neg (by omega)]; simp only [nf_up, if_neg q]; exact b2 j (by omega)
        · rw [if_neg q7] at hQ
          by_cases q8 : w = 8
          · rw [if_pos q8] at hQ
            have hts : nw_ts 24 126 0 8 #[52, 126, 126, 126, 126, 58, 85, 96, 120] (nI w) = 144 := by rw [q8]; decide +kernel
            simp only [e112, s112_0, s112_1, s112_4, s112_5, s112_6, s112_7, s112_8, s112_9, s112_10, s112_13, s112_14, s112_15, s112_16, s112_17, s112_18, s112_19, s112_22, s112_23, s112_24, s112_76, s112_77, s112_78, s112_81, s112_82, s112_83, s112_86, s112_87, s112_88, s112_89, s112_90, s112_93, s112_94, s112_95, s112_96, s112_97, s112_98, s112_99, s112_102, s112_103, s112_104, s112_105, s112_106, s112_107, s112_108, s112_109, s112_110, s112_113, s112_115, s112_116, s112_117, s112_118, s112_119, s112_120, s112_121, s112_124, s112_126, s112_127, s112_130, s112_131, s112_132, s112_133, s112_134, s112_135, s112_138, s112_139, s112_140, s112_143, s112_144, s112_145, s112_146, s112_149, s112_150, s112_151, s112_154, s112_155, s112_156, s112_159, s112_160, s112_161, s112_162, s112_163, s112_164, nI_1, e2, hi0, hi1, hi2, c0, c1, c2, r0, hts, false_implies, true_implies, not_true_eq_false, not_false_eq_true, true_and, and_true, true_or, or_true, false_or, or_false, false_and, and_false, implies_true, nw_psh_s, nw_psh_n, ni_10, ni_00]
            refine hQ _ (nmt_up (by omega)) ⟨⟨?_, ?_, fun j hj => ?_, fun j hj => ?_, fun j hj i hi => ?_⟩, fun j hj => ?_, fun j hj => absurd (show j < 0 from hj) (Nat.not_lt_zero j)⟩
            · simp only [nw_up_at, Nat.reduceEqDiff, false_and, and_false, if_false]; exact a1
            · simp only [nw_up_at, and_self, if_true]; rfl
            · simp only [nw_up_at, Nat.reduceEqDiff, false_and, if_false]; exact a3 j hj
            · simp only [nw_up_at, Nat.reduceEqDiff, false_and, if_false]; exact a4 j hj
            · simp only [nw_up_at, Nat.reduceEqDiff, false_and, if_false]; exact a5 j hj i hi
            · simp only [nw_up_at, Nat.reduceEqDiff, false_and, if_false]; exact b1 j hj
          · rw [if_neg q8] at hQ
            have hts : nw_ts 24 126 0 8 #[52, 126, 126, 126, 126, 58, 85, 96, 120] (nI w) = 150 := (by decide +kernel : ∀ w, w < 5 → 0 < w → nw_ts 24 126 0 8 #[52, 126, 126, 126, 126, 58, 85, 96, 120] (nI w) = 150) w (by omega) (by omega)
            have r1' := r1 q8
            have ha := l3 q0 q8
            have hia : vp_in (nI a) 8 := vp_in_nI (by omega) (by decide)
            simp only [e112, s112_0, s112_1, s112_4, s112_5, s112_6, s112_7, s112_8, s112_9, s112_10, s112_13, s112_14, s112_15, s112_16, s112_17, s112_18, s112_19, s112_22, s112_23, s112_24, s112_76, s112_77, s112_78, s112_81, s112_82, s112_83, s112_86, s112_87, s112_88, s112_89, s112_90, s112_93, s112_94, s112_95, s112_96, s112_97, s112_98, s112_99, s112_102, s112_103, s112_104, s112_105, s112_106, s112_107, s112_108, s112_109, s112_110, s112_113, s112_115, s112_116, s112_117, s112_118, s112_119, s112_120, s112_121, s112_124, s112_126, s112_127, s112_130, s112_131, s112_132, s112_133, s112_134, s112_135, s112_138, s112_139, s112_140, s112_143, s112_144, s112_145, s112_146, s112_149, s112_150, s112_151, s112_154, s112_155, s112_156, s112_159, s112_160, s112_161, s112_162, s112_163, s112_164, nI_1, e2, hi0, hi1, hi2, c0, c1, c2, r0, r1', hts, hia, ni_cl (show a < 2 ^ 31 by omega), ni_m1 (show 0 < w by omega), false_implies, true_implies, not_true_eq_false, not_false_eq_true, true_and, and_true, true_or, or_true, false_or, or_false, false_and, and_false, implies_true, nw_psh_s, nw_psh_n, ni_10, ni_00]
            refine hQ _ (nmt_up (by omega)) ⟨⟨?_, ?_, fun j hj => ?_, fun j hj => ?_, fun j hj i hi => ?_⟩, fun j hj => ?_, fun j hj => ?_⟩
            · simp only [nw_up_at, Nat.reduceEqDiff, false_and, if_false]; exact a1
            · simp only [nw_up_at, Nat.reduceEqDiff, false_and, if_false]; exact a2
            · simp only [nw_up_at, true_and]
              show _ = nI (nf_up (nt_k D.1) a (w - 1) j)
              by_cases q : j = a
              · rw [if_pos q]; simp only [nf_up, q, if_true]
              · rw [if_neg q]; simp only [nf_up, if_neg q]; exact a3 j hj
            · simp only [nw_up_at, Nat.reduceEqDiff, false_and, if_false]; exact a4 j hj
            · simp only [nw_up_at, Nat.reduceEqDiff, false_and, if_false]; exact a5 j hj i hi
            · simp only [nw_up_at, Nat.reduceEqDiff, false_and, if_false]; exact b1 j hj
            · simp only [nw_up_at, Nat.reduceEqDiff, false_and, if_false]; exact b2 j hj
