/-! QUICK: ways by the first turns -/
theorem nt_nv_pv {T : nt_T} {c j : Nat} (hw : 0 < nt_w T c) (hj : j < nt_w T c) : nt_nv T c (nt_pv T c j) = j := by
  have h : (if nt_k T c = 1 then nt_w T c - 1 else if nt_k T c = 2 then 2 else 1) ≤ j + 2 * nt_w T c := by split <;> (try split) <;> omega
  unfold nt_nv nt_pv
  rw [Nat.mod_add_mod, Nat.sub_add_cancel h, Nat.add_mul_mod_self_right, Nat.mod_eq_of_lt hj]
def nEd (T : nt_T) (K : Nat) (u : Nat → Nat) (c x : Nat) : Prop := nt_left T c = true ∧ if K.testBit c then x = nt_e T c (nt_nv T c (u c)) else ∃ j, j < nt_w T c ∧ x = nt_e T c j
def nW (T : nt_T) (K : Nat) (u : Nat → Nat) (fr : Nat) : Nat → Nat → Prop
  | 0, x => x = fr
  | b + 1, x => nW T K u fr b x ∨ ∃ c, c < nt_n T ∧ nW T K u fr b c ∧ nEd T K u c x
theorem nEd_0 {T : nt_T} {K : Nat} {u u0 : Nat → Nat} {c x : Nat} (h : nEd T K u c x) : nEd T 0 u0 c x := by
  refine ⟨h.1, ?_⟩
  rw [Nat.zero_testBit]
  show ∃ j, j < nt_w T c ∧ x = nt_e T c j
  have h2 := h.2
  split at h2
  · exact ⟨_, nt_nv_lt (nt_left_w h.1), h2⟩
  · exact h2
theorem nW_0 {T : nt_T} {K : Nat} {u u0 : Nat → Nat} {fr : Nat} : ∀ b x, nW T K u fr b x → nW T 0 u0 fr b x
  | 0, _, h => h
  | b + 1, x, h => h.elim (fun h => Or.inl (nW_0 b x h)) (fun ⟨c, hc, h1, h2⟩ => Or.inr ⟨c, hc, nW_0 b c h1, nEd_0 h2⟩)
theorem nW_mono {T : nt_T} {K : Nat} {u : Nat → Nat} {fr a x : Nat} (h : nW T K u fr a x) : ∀ t, nW T K u fr (a + t) x
  | 0 => h
  | t + 1 => Or.inl (nW_mono h t)
theorem nW_le {T : nt_T} {K : Nat} {u : Nat → Nat} {fr a b x : Nat} (h : nW T K u fr a x) (hab : a ≤ b) : nW T K u fr b x := by
  have := nW_mono h (b - a)
  rwa [show a + (b - a) = b by omega] at this
/-- one step, by any vane -/
theorem nW_lv {T : nt_T} {u0 : Nat → Nat} {fr a : Nat} {q : nq} (hq : q.2 < nt_n T) (h : nW T 0 u0 fr a q.2) : nW T 0 u0 fr (a + 1) (nt_lv T q.1 q.2).2 := by
  by_cases hl : nt_left T q.2 = true
  · rw [nt_lv_y hl]
    refine Or.inr ⟨q.2, hq, h, hl, ?_⟩
    rw [Nat.zero_testBit]
    exact ⟨_, nt_nv_lt (nt_left_w hl), rfl⟩
  · rw [show nt_lv T q.1 q.2 = (q.1, q.2) from if_neg hl]
    exact Or.inl h
theorem nW_sq {T : nt_T} (hT : nt_ok T) {u0 : Nat → Nat} {fr a : Nat} {q : nq} (h1 : nt_vok T q.1) (hq : q.2 < nt_n T) {i : Nat} (h : nW T 0 u0 fr a (nt_sq T q i).2) : ∀ t, nW T 0 u0 fr (a + t) (nt_sq T q (i + t)).2
  | 0 => h
  | t + 1 => nW_lv (nt_sq_ok hT h1 hq (i + t)).2 (nW_sq hT h1 hq h t)
theorem nt_sq_1 (T : nt_T) (q : nq) : ∀ i, nt_sq T (nt_lv T q.1 q.2) i = nt_sq T q (i + 1)
  | 0 => rfl
  | i + 1 => by
    show nt_lv T (nt_sq T (nt_lv T q.1 q.2) i).1 (nt_sq T (nt_lv T q.1 q.2) i).2 = nt_lv T (nt_sq T q (i + 1)).1 (nt_sq T q (i + 1)).2
    rw [nt_sq_1 T q i]
theorem nt_fa_sq (T : nt_T) (to : Nat) : ∀ j (q : nq) b k, k ≤ j → (nt_sq T q k).2 = to → (∀ i, i < k → ¬ (nt_sq T q i).2 = to) → nt_fa T to j q b = some (b + k)
  | j, q, b, 0, _, h, _ => nt_fa_at T (q := q) h b j
  | 0, q, b, k + 1, hk, _, _ => by omega
  | j + 1, q, b, k + 1, hk, h, hn => by
    rw [nt_fa_s T (q := q) (hn 0 (by omega)), show b + (k + 1) = b + 1 + k by omega]
    refine nt_fa_sq T to j _ (b + 1) k (by omega) ?_ (fun i hi => ?_)
    · rw [nt_sq_1]; exact h
    · rw [nt_sq_1]; exact hn (i + 1) (by omega)
theorem nt_fa_of (T : nt_T) (to : Nat) : ∀ j (q : nq) b m, nt_fa T to j q b = some m → b ≤ m ∧ (nt_sq T q (m - b)).2 = to
  | 0, q, b, m, h => by
    unfold nt_fa at h
    split at h
    · rename_i he; cases h; rw [Nat.sub_self]; exact ⟨Nat.le_refl _, he⟩
    · cases h
  | j + 1, q, b, m, h => by
    unfold nt_fa at h
    split at h
    · rename_i he; cases h; rw [Nat.sub_self]; exact ⟨Nat.le_refl _, he⟩
    · obtain ⟨h1, h2⟩ := nt_fa_of T to j _ _ _ h
      rw [nt_sq_1] at h2
      refine ⟨by omega, ?_⟩
      rwa [show m - (b + 1) + 1 = m - b by omega] at h2
/-- the vane of a corner that wasn't left yet matters not -/
theorem nt_loc {T : nt_T} {v : Nat → Nat} {fr c y : Nat} : ∀ b, (∀ i, i < b → ¬ (nt_sq T (v, fr) i).2 = c) → nt_sq T (nf_up v c y, fr) b = (nf_up (nt_sq T (v, fr) b).1 c y, (nt_sq T (v, fr) b).2)
  | 0, _ => rfl
  | b + 1, h => by
    have ih := nt_loc (y := y) b (fun i hi => h i (by omega))
    have hc := h b (by omega)
    show nt_lv T (nt_sq T (nf_up v c y, fr) b).1 (nt_sq T (nf_up v c y, fr) b).2 = (nf_up (nt_lv T (nt_sq T (v, fr) b).1 (nt_sq T (v, fr) b).2).1 c y, (nt_lv T (nt_sq T (v, fr) b).1 (nt_sq T (v, fr) b).2).2)
    rw [ih]
    generalize nt_sq T (v, fr) b = q at hc ⊢
    show nt_lv T (nf_up q.1 c y) q.2 = _
    have hq : nf_up q.1 c y q.2 = q.1 q.2 := by simp only [nf_up, if_neg hc]
    by_cases hl : nt_left T q.2 = true
    · rw [nt_lv_y hl, nt_lv_y hl, hq]
      refine Prod.ext ?_ rfl
      funext j
      show nf_up (nf_up q.1 c y) q.2 _ j = nf_up (nf_up q.1 q.2 _) c y j
      by_cases h1 : j = q.2
      · have h2 : ¬ j = c := fun z => hc (by omega)
        simp [nf_up, h1, hc]
      · by_cases h2 : j = c
        · simp [nf_up, h1, h2]
          intro h3
          omega
        · simp [nf_up, h1, h2]
    · rw [show nt_lv T (nf_up q.1 c y) q.2 = (nf_up q.1 c y, q.2) from if_neg hl, show nt_lv T q.1 q.2 = (q.1, q.2) from if_neg hl]
theorem nt_loc_v {T : nt_T} {v : Nat → Nat} {fr c : Nat} {b : Nat} (h : ∀ i, i < b → ¬ (nt_sq T (v, fr) i).2 = c) : (nt_sq T (v, fr) b).1 c = v c := by
  have := nt_loc (y := v c) b h
  rw [nf_self] at this
  have h2 := congrArg (fun q => q.1 c) this
  simp only [nf_up, if_true] at h2
  exact h2
/-- if it is by the fewest beats at all, there are vanes -/
theorem nW_B {T : nt_T} (hT : nt_ok T) {K : Nat} {u u0 : Nat → Nat} (hu : nt_vok T u) {fr : Nat} (hfr : fr < nt_n T) : ∀ b x, nW T K u fr b x → (∀ b', b' < b → ¬ nW T 0 u0 fr b' x) → ∃ v, nV T K.testBit u v ∧ (nt_sq T (v, fr) b).2 = x ∧ ∀ i, i ≤ b → ∀ b', b' < i → ¬ nW T 0 u0 fr b' (nt_sq T (v, fr) i).2
  | 0, x, h, _ => ⟨u, nV_rf hu, h.symm, fun i hi b' hb' => by omega⟩
  | b + 1, x, h, hn => by
    rcases h with h | ⟨c, hc, h1, h2⟩
    · exact absurd (nW_0 b x h) (hn b (by omega))
    · have hcl : ∀ b', b' < b → ¬ nW T 0 u0 fr b' c := fun b' hb' hw => hn (b' + 1) (by omega) (Or.inr ⟨c, hc, hw, nEd_0 h2⟩)
      obtain ⟨v, hv, hvc, hlev⟩ := nW_B hT hu hfr b c h1 hcl
      have hw := nt_left_w h2.1
      have hoff : ∀ i, i < b → ¬ (nt_sq T (v, fr) i).2 = c := fun i hi hz => by
        have ha : nW T 0 u0 fr i (nt_sq T (v, fr) i).2 := by
          have := nW_sq hT (u0 := u0) (fr := fr) (a := 0) (q := (v, fr)) hv.1 hfr (i := 0) rfl i
          rwa [Nat.zero_add] at this
        rw [hz] at ha
        exact hcl i hi ha
      have hy : ∃ y, y < nt_w T c ∧ x = nt_e T c (nt_nv T c y) ∧ (K.testBit c = true → y = u c) := by
        have h3 := h2.2
        by_cases hk : K.testBit c = true
        · rw [if_pos hk] at h3
          exact ⟨u c, (hu c).1 hw, h3, fun _ => rfl⟩
        · rw [if_neg hk] at h3
          obtain ⟨j, hj, hx⟩ := h3
          refine ⟨nt_pv T c j, Nat.mod_lt _ hw, ?_, fun q => absurd q hk⟩
          rw [nt_nv_pv hw hj]; exact hx
      obtain ⟨y, hy1, hy2, hy3⟩ := hy
      have hsq := fun i (hi : i ≤ b) => nt_loc (T := T) (v := v) (fr := fr) (c := c) (y := y) i (fun i' hi' => hoff i' (by omega))
      have hlast : (nt_sq T (nf_up v c y, fr) (b + 1)).2 = x := by
        show (nt_lv T (nt_sq T (nf_up v c y, fr) b).1 (nt_sq T (nf_up v c y, fr) b).2).2 = x
        rw [hsq b (Nat.le_refl b), hvc]
        show (nt_lv T (nf_up (nt_sq T (v, fr) b).1 c y) c).2 = x
        rw [nt_lv_y h2.1]
        show nt_e T c (nt_nv T c (nf_up (nt_sq T (v, fr) b).1 c y c)) = x
        rw [show nf_up (nt_sq T (v, fr) b).1 c y c = y by simp [nf_up]]
        exact hy2.symm
      refine ⟨nf_up v c y, ⟨fun j => ?_, fun j hj => ?_⟩, hlast, fun i hi b' hb' => ?_⟩
      · by_cases q : j = c
        · subst q
          simp only [nf_up, if_true]
          exact ⟨fun _ => hy1, fun z => by omega⟩
        · simp only [nf_up, if_neg q]
          exact hv.1 j
      · by_cases q : j = c
        · subst q
          simp only [nf_up, if_true]
          exact hy3 hj
        · simp only [nf_up, if_neg q]
          exact hv.2 j hj
      · rcases Nat.lt_or_ge b i with q | q
        · have : i = b + 1 := by omega
          subst this
          rw [hlast]
          exact hn b' hb'
        · rw [hsq i q]
          exact hlev i q b' hb'
theorem nW_B2 {T : nt_T} (hT : nt_ok T) {K : Nat} {u u0 : Nat → Nat} (hu : nt_vok T u) {fr to f : Nat} (hfr : fr < nt_n T) (hf : f ≤ 99) (h : nW T K u fr f to) (hn : ∀ b, b < f → ¬ nW T 0 u0 fr b to) : ∃ v, nV T K.testBit u v ∧ nt_fa T to 99 (v, fr) 0 = some f := by
  obtain ⟨v, hv, hx, hlev⟩ := nW_B hT hu hfr f to h hn
  refine ⟨v, hv, ?_⟩
  have := nt_fa_sq T to 99 (v, fr) 0 f hf hx (fun i hi hz => by
    have ha : nW T 0 u0 fr i (nt_sq T (v, fr) i).2 := by
      have := nW_sq hT (u0 := u0) (fr := fr) (a := 0) (q := (v, fr)) hv.1 hfr (i := 0) rfl i
      rwa [Nat.zero_add] at this
    rw [hz] at ha
    exact hn i hi ha)
  rwa [Nat.zero_add] at this
theorem nW_A {T : nt_T} (hT : nt_ok T) {u0 v : Nat → Nat} (hv : nt_vok T v) {fr to m : Nat} (hfr : fr < nt_n T) (h : nt_fa T to 99 (v, fr) 0 = some m) : nW T 0 u0 fr m to := by
  obtain ⟨-, h2⟩ := nt_fa_of T to _ _ _ _ h
  rw [Nat.sub_zero] at h2
  have := nW_sq hT (u0 := u0) (fr := fr) (a := 0) (q := (v, fr)) hv hfr (i := 0) rfl m
  rw [Nat.zero_add, h2] at this
  exact this
/-- if there are vanes by which it is the fewest beats at all, it is so by first turns -/
theorem nW_C {T : nt_T} (hT : nt_ok T) {K : Nat} {u u0 v : Nat → Nat} (hv : nV T K.testBit u v) {fr to f : Nat} (hfr : fr < nt_n T) (h : nt_fa T to 99 (v, fr) 0 = some f) (hn : ∀ b, b < f → ¬ nW T 0 u0 fr b to) : nW T K u fr f to := by
  obtain ⟨-, h2⟩ := nt_fa_of T to _ _ _ _ h
  rw [Nat.sub_zero] at h2
  have hup : ∀ i, nW T 0 u0 fr i (nt_sq T (v, fr) i).2 := fun i => by
    have := nW_sq hT (u0 := u0) (fr := fr) (a := 0) (q := (v, fr)) hv.1 hfr (i := 0) rfl i
    rwa [Nat.zero_add] at this
  have hlo : ∀ i, i ≤ f → ∀ b, b < i → ¬ nW T 0 u0 fr b (nt_sq T (v, fr) i).2 := fun i hi b hb hw => by
    have := nW_sq hT (q := (v, fr)) hv.1 hfr hw (f - i)
    rw [show i + (f - i) = f by omega, h2] at this
    exact hn _ (by omega) this
  have hmain : ∀ i, i ≤ f → nW T K u fr i (nt_sq T (v, fr) i).2 := by
    intro i
    induction i with
    | zero => exact fun _ => rfl
    | succ i ih =>
      intro hi
      have hc := (nt_sq_ok hT (q := (v, fr)) hv.1 hfr i).2
      have hne : ¬ (nt_sq T (v, fr) (i + 1)).2 = (nt_sq T (v, fr) i).2 := fun hz => by
        have := hlo (i + 1) hi i (by omega)
        rw [hz] at this
        exact this (hup i)
      have hl : nt_left T (nt_sq T (v, fr) i).2 = true := by
        rcases Bool.eq_false_or_eq_true (nt_left T (nt_sq T (v, fr) i).2) with q | q
        · exact q
        · exact absurd (by
            show (nt_lv T (nt_sq T (v, fr) i).1 (nt_sq T (v, fr) i).2).2 = _
            rw [show nt_lv T (nt_sq T (v, fr) i).1 (nt_sq T (v, fr) i).2 = ((nt_sq T (v, fr) i).1, (nt_sq T (v, fr) i).2) from if_neg (by rw [q]; exact Bool.false_ne_true)]) hne
      have hvv : (nt_sq T (v, fr) i).1 (nt_sq T (v, fr) i).2 = v (nt_sq T (v, fr) i).2 := nt_loc_v (fun i' hi' hz => by
        have := hlo i (by omega) i' hi'
        rw [← hz] at this
        exact this (hup i'))
      refine Or.inr ⟨(nt_sq T (v, fr) i).2, hc, ih (by omega), hl, ?_⟩
      have hx : (nt_sq T (v, fr) (i + 1)).2 = nt_e T (nt_sq T (v, fr) i).2 (nt_nv T (nt_sq T (v, fr) i).2 (v (nt_sq T (v, fr) i).2)) := by
        show (nt_lv T (nt_sq T (v, fr) i).1 (nt_sq T (v, fr) i).2).2 = _
        rw [nt_lv_y hl]
        show nt_e T _ (nt_nv T _ ((nt_sq T (v, fr) i).1 (nt_sq T (v, fr) i).2)) = _
        rw [hvv]
      by_cases hk : K.testBit (nt_sq T (v, fr) i).2 = true
      · rw [if_pos hk, hx, hv.2 _ hk]
      · rw [if_neg hk]
        exact ⟨_, nt_nv_lt (nt_left_w hl), hx⟩
  have := hmain f (Nat.le_refl f)
  rwa [h2] at this
/-! the fewest are 7 at most -/
def nct (f : Nat → Bool) : Nat → Nat
  | 0 => 0
  | k + 1 => nct f k + (if f k then 1 else 0)
theorem nct_le (f : Nat → Bool) : ∀ k, nct f k ≤ k
  | 0 => Nat.le_refl 0
  | k + 1 => by
    have := nct_le f k
    unfold nct
    split <;> omega
theorem nct_sub {f g : Nat → Bool} (h : ∀ x, f x = true → g x = true) : ∀ k, nct f k ≤ nct g k ∧ ((∃ x, x < k ∧ g x = true ∧ f x = false) → nct f k < nct g k)
  | 0 => ⟨Nat.le_refl 0, fun ⟨x, hx, _⟩ => by omega⟩
  | k + 1 => by
    obtain ⟨h1, h2⟩ := nct_sub h k
    have h3 : (if f k then 1 else 0) ≤ (if g k then 1 else 0) := by
      by_cases q : f k = true
      · rw [if_pos q, if_pos (h k q)]; exact Nat.le_refl 1
      · rw [if_neg q]; exact Nat.zero_le _
    unfold nct
    refine ⟨by omega, fun ⟨x, hx, hg, hf⟩ => ?_⟩
    rcases Nat.lt_or_ge x k with q | q
    · have := h2 ⟨x, q, hg, hf⟩
      omega
    · have : x = k := by omega
      subst this
      rw [if_pos hg, if_neg (by rw [hf]; exact Bool.false_ne_true)]
      omega
theorem nW_lt {T : nt_T} (hT : nt_ok T) {K : Nat} {u : Nat → Nat} {fr : Nat} (hfr : fr < nt_n T) : ∀ b x, nW T K u fr b x → x < nt_n T
  | 0, x, h => by rw [show x = fr from h]; exact hfr
  | b + 1, x, h => by
    rcases h with h | ⟨c, _, _, hl, h2⟩
    · exact nW_lt hT hfr b x h
    · split at h2
      · rw [h2]; exact (hT.2.2.2 c).2.2.2 _ (nt_nv_lt (nt_left_w hl))
      · obtain ⟨j, hj, hx⟩ := h2
        rw [hx]; exact (hT.2.2.2 c).2.2.2 _ hj
theorem nW_stop {T : nt_T} {K : Nat} {u : Nat → Nat} {fr i : Nat} (h : ∀ x, nW T K u fr (i + 1) x → nW T K u fr i x) : ∀ t x, nW T K u fr (i + t) x → nW T K u fr i x
  | 0, _, hx => hx
  | t + 1, x, hx => by
    rcases hx with hx | ⟨c, hc, h1, h2⟩
    · exact nW_stop h t x hx
    · exact h x (Or.inr ⟨c, hc, nW_stop h t c h1, h2⟩)
theorem nW_7 {T : nt_T} (hT : nt_ok T) {K : Nat} {u : Nat → Nat} {fr to b : Nat} (hfr : fr < nt_n T) (h : nW T K u fr b to) (hn : ∀ b', b' < b → ¬ nW T K u fr b' to) : b ≤ 7 := by
  classical
  have h8 := hT.2.1
  have hgr : ∀ i, i ≤ b → i + 1 ≤ nct (fun x => decide (nW T K u fr i x)) 8 := by
    intro i
    induction i with
    | zero =>
      intro _
      have := (nct_sub (f := fun _ => false) (g := fun x => decide (nW T K u fr 0 x)) (fun x hx => by cases hx) 8).2 ⟨fr, by omega, decide_eq_true rfl, rfl⟩
      omega
    | succ i ih =>
      intro hi
      have h1 := ih (by omega)
      have hex : ∃ x, nW T K u fr (i + 1) x ∧ ¬ nW T K u fr i x := by
        refine Classical.byContradiction (fun hno => hn i (by omega) ?_)
        have := nW_stop (i := i) (fun x hx => Classical.byContradiction (fun hx2 => hno ⟨x, hx, hx2⟩)) (b - i) to
        rw [show i + (b - i) = b by omega] at this
        exact this h
      obtain ⟨x, hx1, hx2⟩ := hex
      have := (nct_sub (f := fun x => decide (nW T K u fr i x)) (g := fun x => decide (nW T K u fr (i + 1) x)) (fun x hx => decide_eq_true (Or.inl (of_decide_eq_true hx))) 8).2 ⟨x, by have := nW_lt hT hfr _ _ hx1; omega, decide_eq_true hx1, decide_eq_false hx2⟩
      omega
  have := hgr b (Nat.le_refl b)
  have := nct_le (fun x => decide (nW T K u fr b x)) 8
  omega
