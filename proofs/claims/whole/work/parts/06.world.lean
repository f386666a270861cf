/-! the small machine's cells as a world of the kit; its locals as the kit's lists -/
def nw_tv (ad : Nat → Nat) : Value → Value
  | .ref a => .ref (ad a)
  | v => v
theorem nw_tv_cat (ad : Nat → Nat) (v : Value) : (nw_tv ad v).category = v.category := by cases v <;> rfl
def nw_as (ad : Nat → Nat) : Nat → nw_L → List (Nat × Value)
  | _, [] => []
  | i, none :: t => nw_as ad (i + 1) t
  | i, some v :: t => (i, nw_tv ad v) :: nw_as ad (i + 1) t
theorem nw_as_get (ad : Nat → Nat) : ∀ (lv : nw_L) (i j : Nat) (v : Value), nw_ld lv j = some v → (i + j, nw_tv ad v) ∈ nw_as ad i lv
  | [], _, _, _, h => by simp [nw_ld] at h
  | none :: t, i, 0, v, h => by simp [nw_ld] at h
  | some w :: t, i, 0, v, h => by
    simp only [nw_ld, Option.some.injEq] at h
    subst h
    exact List.mem_cons_self
  | a :: t, i, j + 1, v, h => by
    have h1 := nw_as_get ad t (i + 1) j v h
    rw [show i + (j + 1) = i + 1 + j by omega]
    cases a with
    | none => exact h1
    | some w => exact List.mem_cons_of_mem _ h1
theorem nw_as_ge (ad : Nat → Nat) : ∀ (lv : nw_L) (i : Nat) (q : Nat × Value), q ∈ nw_as ad i lv → i ≤ q.1
  | [], _, _, h => by simp [nw_as] at h
  | none :: t, i, q, h => by
    have h1 := nw_as_ge ad t (i + 1) q h
    omega
  | some w :: t, i, q, h => by
    rcases List.mem_cons.mp h with rfl | h
    · exact Nat.le_refl _
    · have h1 := nw_as_ge ad t (i + 1) q h
      omega
theorem nw_as_mem {ad : Nat → Nat} {a : Option Value} {t : nw_L} {i : Nat} {q : Nat × Value} (h : q ∈ nw_as ad (i + 1) t) : q ∈ nw_as ad i (a :: t) := by
  cases a with
  | none => exact h
  | some w => exact List.mem_cons_of_mem _ h
theorem nw_sto_some {a : Option Value} {t : nw_L} {j : Nat} {v : Value} {lv' : nw_L} (h : nw_sto (a :: t) (j + 1) v = some lv') : nw_nl a j = true ∧ ∃ t', nw_sto t j v = some t' ∧ lv' = a :: t' := by
  unfold nw_sto at h
  by_cases hn : nw_nl a j = true
  · rw [if_pos hn] at h
    cases ht : nw_sto t j v with
    | none => rw [ht] at h; cases h
    | some t' => rw [ht] at h; cases h; exact ⟨hn, t', rfl, rfl⟩
  · rw [if_neg hn] at h
    cases h
theorem nw_nl_cat {w : Value} (h : nw_nl (some w) 0 = true) : ¬ w.category = 2 := by
  cases w <;> simp [nw_nl, Value.category] at h ⊢
theorem nw_as_sto (ad : Nat → Nat) : ∀ (lv : nw_L) (i j : Nat) (v : Value) (lv' : nw_L), nw_sto lv j v = some lv' → ∀ q ∈ nw_as ad i lv', q = (i + j, nw_tv ad v) ∨ (q ∈ nw_as ad i lv ∧ ¬ q.1 = i + j ∧ ¬ (q.1 + 1 = i + j ∧ q.2.category = 2))
  | [], _, _, _, _, h => by simp [nw_sto] at h
  | a :: t, i, 0, v, lv', h => by
    simp only [nw_sto, Option.some.injEq] at h
    subst h
    intro q hq
    rcases List.mem_cons.mp hq with rfl | hq
    · exact Or.inl rfl
    · have h1 := nw_as_ge ad t (i + 1) q hq
      exact Or.inr ⟨nw_as_mem hq, by omega, fun z => by omega⟩
  | a :: t, i, j + 1, v, lv', h => by
    obtain ⟨hn, t', ht, rfl⟩ := nw_sto_some h
    have ih := nw_as_sto ad t (i + 1) j v t' ht
    intro q hq
    have key : q ∈ nw_as ad (i + 1) t' → q = (i + (j + 1), nw_tv ad v) ∨ (q ∈ nw_as ad i (a :: t) ∧ ¬ q.1 = i + (j + 1) ∧ ¬ (q.1 + 1 = i + (j + 1) ∧ q.2.category = 2)) := by
      intro hq
      rcases ih q hq with h1 | ⟨h1, h2, h3⟩
      · left
        rw [h1, show i + (j + 1) = i + 1 + j by omega]
      · right
        rw [show i + (j + 1) = i + 1 + j by omega]
        exact ⟨nw_as_mem h1, h2, h3⟩
    cases a with
    | none => exact key hq
    | some w =>
      rcases List.mem_cons.mp hq with rfl | hq
      · right
        refine ⟨List.mem_cons_self, by show ¬ i = _; omega, ?_⟩
        rintro ⟨h1, h2⟩
        have hj : j = 0 := by
          have h1' : i + 1 = i + (j + 1) := h1
          omega
        subst hj
        exact nw_nl_cat hn (by rw [← nw_tv_cat ad w]; exact h2)
      · exact key hq
theorem nw_sto_len : ∀ (lv : nw_L) (j : Nat) (v : Value) (lv' : nw_L), nw_sto lv j v = some lv' → lv'.length = lv.length ∧ j < lv.length
  | [], _, _, _, h => by simp [nw_sto] at h
  | a :: t, 0, v, lv', h => by
    simp only [nw_sto, Option.some.injEq] at h
    subst h
    simp
  | a :: t, j + 1, v, lv', h => by
    obtain ⟨-, t', ht, rfl⟩ := nw_sto_some h
    have h1 := nw_sto_len t j v t' ht
    simp only [List.length_cons]
    omega
/-- the locals -/
def nw_lr (ad : Nat → Nat) (ls : Array Slot) (nL : Nat) (lv : nw_L) : Prop := lv_has ls nL (nw_as ad 0 lv) ∧ lv.length = nL
theorem nw_lr_ld {ad : Nat → Nat} {ls : Array Slot} {nL : Nat} {lv : nw_L} (h : nw_lr ad ls nL lv) {i : Nat} {v : Value} (hv : nw_ld lv i = some v) : ls[i]? = some (.val (nw_tv ad v)) := by
  have h1 := nw_as_get ad lv 0 i v hv
  rw [Nat.zero_add] at h1
  exact h.1.2.2 _ h1
theorem nw_lr_st {ad : Nat → Nat} {ls ls' : Array Slot} {nL : Nat} {lv lv' : nw_L} {i : Nat} {v : Value} (h : nw_lr ad ls nL lv) (hv : nw_sto lv i v = some lv') (h' : lv_has ls' nL ((i, nw_tv ad v) :: (nw_as ad 0 lv).filter (fun q => !(q.1 == i) && !(q.1 + 1 == i && q.2.category == 2)))) : nw_lr ad ls' nL lv' := by
  refine ⟨⟨h'.1, h'.2.1, fun q hq => ?_⟩, by rw [(nw_sto_len lv i v lv' hv).1]; exact h.2⟩
  refine h'.2.2 q ?_
  rcases nw_as_sto ad lv 0 i v lv' hv q hq with h1 | ⟨h1, h2, h3⟩
  · rw [Nat.zero_add] at h1
    rw [h1]
    exact List.mem_cons_self
  · rw [Nat.zero_add] at h2 h3
    refine List.mem_cons_of_mem _ (List.mem_filter.mpr ⟨h1, ?_⟩)
    simp only [Bool.and_eq_true, Bool.not_eq_true', beq_eq_false_iff_ne, ne_eq, Bool.and_eq_false_iff]
    refine ⟨h2, ?_⟩
    by_cases hq1 : q.1 + 1 = i
    · exact Or.inr (fun z => h3 ⟨hq1, z⟩)
    · exact Or.inl hq1
theorem nw_lr_lt {ad : Nat → Nat} {ls : Array Slot} {nL : Nat} {lv lv' : nw_L} {i : Nat} {v : Value} (h : nw_lr ad ls nL lv) (hv : nw_sto lv i v = some lv') : i < nL := by
  rw [← h.2]
  exact (nw_sto_len lv i v lv' hv).2
theorem nw_as_pad (ad : Nat → Nat) : ∀ (lv : nw_L) (n i : Nat), lv.length ≤ n → nw_as ad i (nw_pad lv n) = nw_as ad i lv
  | [], 0, i, _ => rfl
  | [], n + 1, i, _ => nw_as_pad ad [] n (i + 1) (Nat.zero_le _)
  | a :: t, 0, i, h => by simp at h
  | a :: t, n + 1, i, h => by
    have h1 := nw_as_pad ad t n (i + 1) (by simpa using h)
    cases a with
    | none => exact h1
    | some v => show _ :: _ = _ :: _; rw [h1]
theorem nw_pad_len : ∀ (lv : nw_L) (n : Nat), (nw_pad lv n).length = n
  | _, 0 => by cases ‹nw_L› <;> rfl
  | [], n + 1 => by simp only [nw_pad, List.length_cons, nw_pad_len [] n]
  | _ :: t, n + 1 => by simp only [nw_pad, List.length_cons, nw_pad_len t n]
theorem nw_as_ea (ad : Nat → Nat) : ∀ (as : List Value) (i : Nat), nw_as ad i (nw_ea as) = lv_args i (as.map (nw_tv ad))
  | [], _ => rfl
  | .long x :: t, i => by
    show (i, Value.long x) :: nw_as ad (i + 1 + 1) (nw_ea t) = (i, Value.long x) :: lv_args (i + 2) (t.map (nw_tv ad))
    rw [nw_as_ea ad t (i + 1 + 1)]
  | .double x :: t, i => by
    show (i, Value.double x) :: nw_as ad (i + 1 + 1) (nw_ea t) = (i, Value.double x) :: lv_args (i + 2) (t.map (nw_tv ad))
    rw [nw_as_ea ad t (i + 1 + 1)]
  | .int x :: t, i => by
    show (i, Value.int x) :: nw_as ad (i + 1) (nw_ea t) = (i, Value.int x) :: lv_args (i + 1) (t.map (nw_tv ad))
    rw [nw_as_ea ad t (i + 1)]
  | .float x :: t, i => by
    show (i, Value.float x) :: nw_as ad (i + 1) (nw_ea t) = (i, Value.float x) :: lv_args (i + 1) (t.map (nw_tv ad))
    rw [nw_as_ea ad t (i + 1)]
  | .null :: t, i => by
    show (i, Value.null) :: nw_as ad (i + 1) (nw_ea t) = (i, Value.null) :: lv_args (i + 1) (t.map (nw_tv ad))
    rw [nw_as_ea ad t (i + 1)]
  | .ref x :: t, i => by
    show (i, Value.ref (ad x)) :: nw_as ad (i + 1) (nw_ea t) = (i, Value.ref (ad x)) :: lv_args (i + 1) (t.map (nw_tv ad))
    rw [nw_as_ea ad t (i + 1)]
  | .retAddr x :: t, i => by
    show (i, Value.retAddr x) :: nw_as ad (i + 1) (nw_ea t) = (i, Value.retAddr x) :: lv_args (i + 1) (t.map (nw_tv ad))
    rw [nw_as_ea ad t (i + 1)]
theorem nw_ea_len (ad : Nat → Nat) : ∀ (as : List Value), (lg_sl (as.map (nw_tv ad))).length = (nw_ea as).length
  | [] => rfl
  | v :: t => by
    have h := nw_ea_len ad t
    unfold lg_sl at h ⊢
    rw [List.map_cons, List.flatMap_cons, List.length_append, h]
    cases v <;> simp [nw_tv, Value.category, nw_ea] <;> omega
/-- a method's entry -/
theorem nw_lr_entry (ad : Nat → Nat) (as : List Value) {n : Nat} (h : (nw_ea as).length ≤ n) : nw_lr ad ((lg_sl (as.map (nw_tv ad)) ++ List.replicate (n - (lg_sl (as.map (nw_tv ad))).length) Slot.unset).toArray) n (nw_pad (nw_ea as) n) := by
  refine ⟨?_, nw_pad_len _ _⟩
  rw [nw_as_pad ad _ _ _ h, nw_as_ea]
  exact lv_entry _ (by rw [nw_ea_len]; exact h)
/-! the cells -/
def nw_fv (ad : Nat → Nat) (mem : nw_M) (c : Nat) : Nat → List (Option Nat) → List Value
  | _, [] => []
  | k, none :: t => .int (mem c k) :: nw_fv ad mem c (k + 1) t
  | k, some j :: t => .ref (ad j) :: nw_fv ad mem c (k + 1) t
def nw_cel (ad : Nat → Nat) (cy : Bool → ClassId) (mem : nw_M) (c : Nat) : nw_E → va_E
  | .inl (ci, fs) => .inr (ci, nw_fv ad mem c 0 fs)
  | .inr (z, n) => .inl (cy z, n, .inl (mem c))
def nw_pic (ad : Nat → Nat) (cy : Bool → ClassId) (mem : nw_M) : Nat → nw_Sh → va_W
  | _, [] => []
  | c, e :: t => (ad c, nw_cel ad cy mem c e) :: nw_pic ad cy mem (c + 1) t
theorem nw_pic_get (ad : Nat → Nat) (cy : Bool → ClassId) (mem : nw_M) : ∀ (sh : nw_Sh) (c i : Nat), (nw_pic ad cy mem c sh)[i]? = (sh[i]?).map (fun e => (ad (c + i), nw_cel ad cy mem (c + i) e))
  | [], _, _ => rfl
  | e :: t, c, 0 => rfl
  | e :: t, c, i + 1 => by
    show (nw_pic ad cy mem (c + 1) t)[i]? = _
    rw [nw_pic_get ad cy mem t (c + 1) i, show c + 1 + i = c + (i + 1) by omega]
    rfl
theorem nw_pic_at {ad : Nat → Nat} {cy : Bool → ClassId} {mem : nw_M} {sh : nw_Sh} {i : Nat} {e : nw_E} (h : sh[i]? = some e) : (nw_pic ad cy mem 0 sh)[i]? = some (ad i, nw_cel ad cy mem i e) := by
  rw [nw_pic_get, h, Nat.zero_add]
  rfl
theorem nw_fv_get (ad : Nat → Nat) (mem : nw_M) (c : Nat) : ∀ (fs : List (Option Nat)) (k0 k : Nat) (f : Option Nat), fs[k]? = some f → (nw_fv ad mem c k0 fs)[k]? = some (match f with
    | none => .int (mem c (k0 + k))
    | some j => .ref (ad j))
  | [], _, _, _, h => by simp at h
  | g :: t, k0, 0, f, h => by
    have h1 : g = f := by simpa using h
    subst h1
    cases g <;> rfl
  | g :: t, k0, k + 1, f, h => by
    have h1 := nw_fv_get ad mem c t (k0 + 1) k f (by simpa using h)
    rw [show k0 + 1 + k = k0 + (k + 1) by omega] at h1
    cases g <;> exact h1
theorem nw_fv_same (ad : Nat → Nat) {mem mem' : nw_M} (c : Nat) : ∀ (fs : List (Option Nat)) (k0 : Nat), (∀ k, k0 ≤ k → mem' c k = mem c k) → nw_fv ad mem' c k0 fs = nw_fv ad mem c k0 fs
  | [], _, _ => rfl
  | none :: t, k0, h => by
    simp only [nw_fv]
    rw [h k0 (Nat.le_refl _), nw_fv_same ad c t (k0 + 1) (fun k hk => h k (by omega))]
  | some j :: t, k0, h => by
    simp only [nw_fv]
    rw [nw_fv_same ad c t (k0 + 1) (fun k hk => h k (by omega))]
theorem nw_fv_set (ad : Nat → Nat) {mem mem' : nw_M} (c : Nat) : ∀ (fs : List (Option Nat)) (k0 k : Nat), fs[k]? = some none → (∀ j, ¬ j = k0 + k → mem' c j = mem c j) → (nw_fv ad mem c k0 fs).set k (.int (mem' c (k0 + k))) = nw_fv ad mem' c k0 fs
  | [], _, _, h, _ => by simp at h
  | g :: t, k0, 0, h, hm => by
    have h1 : g = none := by simpa using h
    subst h1
    simp only [nw_fv, List.set_cons_zero, Nat.add_zero]
    rw [nw_fv_same ad c t (k0 + 1) (mem' := mem') (mem := mem) (fun k hk => hm k (by omega))]
  | g :: t, k0, k + 1, h, hm => by
    have h1 := nw_fv_set ad (mem := mem) (mem' := mem') c t (k0 + 1) k (by simpa using h) (fun j hj => hm j (by omega))
    rw [show k0 + 1 + k = k0 + (k + 1) by omega] at h1
    cases g with
    | none =>
      simp only [nw_fv, List.set_cons_succ, h1]
      rw [hm k0 (by omega)]
    | some j => simp only [nw_fv, List.set_cons_succ, h1]
theorem nw_pic_len (ad : Nat → Nat) (cy : Bool → ClassId) (mem : nw_M) : ∀ (sh : nw_Sh) (c : Nat), (nw_pic ad cy mem c sh).length = sh.length
  | [], _ => rfl
  | _ :: t, c => by simp only [nw_pic, List.length_cons, nw_pic_len ad cy mem t (c + 1)]
theorem nw_cel_same {ad : Nat → Nat} {cy : Bool → ClassId} {mem mem' : nw_M} {c : Nat} (h : mem' c = mem c) (e : nw_E) : nw_cel ad cy mem' c e = nw_cel ad cy mem c e := by
  cases e with
  | inl q => simp only [nw_cel]; rw [nw_fv_same ad c q.2 0 (fun k _ => by rw [h])]
  | inr q => simp only [nw_cel, h]
/-- one cell is another now -/
theorem nw_pic_set {ad : Nat → Nat} {cy : Bool → ClassId} {mem mem' : nw_M} {sh : nw_Sh} {i : Nat} {e : nw_E} (h : sh[i]? = some e) (hm : ∀ c, ¬ c = i → mem' c = mem c) {x : va_E} (hx : x = nw_cel ad cy mem' i e) : (nw_pic ad cy mem 0 sh).set i (ad i, x) = nw_pic ad cy mem' 0 sh := by
  subst hx
  refine List.ext_getElem? (fun j => ?_)
  by_cases hj : j = i
  · subst hj
    have hl : j < (nw_pic ad cy mem 0 sh).length := by rw [nw_pic_len]; exact (List.getElem?_eq_some_iff.mp h).1
    rw [List.getElem?_set_self hl, nw_pic_at h]
  · rw [List.getElem?_set_ne (Ne.symm hj), nw_pic_get, nw_pic_get, Nat.zero_add]
    cases sh[j]? with
    | none => rfl
    | some e2 => simp only [Option.map_some]; rw [nw_cel_same (hm j hj)]
theorem nw_up_ne {mem : nw_M} {c k : Nat} {v : Int32} {a : Nat} (h : ¬ a = c) : nw_up mem c k v a = mem a := by simp [nw_up, nw_row, h]
theorem nw_up_eq {mem : nw_M} {c k : Nat} {v : Int32} : nw_up mem c k v c = upd (mem c) k v := by simp [nw_up, nw_row]
theorem nw_row_ne {mem : nw_M} {c : Nat} {f : Nat → Int32} {a : Nat} (h : ¬ a = c) : nw_row mem c f a = mem a := by simp [nw_row, h]
theorem nw_row_eq {mem : nw_M} {c : Nat} {f : Nat → Int32} : nw_row mem c f c = f := by simp [nw_row]
theorem nw_al_ok {sh : nw_Sh} {z : Bool} {c n : Nat} (h : nw_al sh z c = some n) : sh[c]? = some (.inr (z, n)) := by
  unfold nw_al at h
  split at h
  · rename_i b m e
    by_cases hb : b = z
    · rw [if_pos hb] at h
      cases h
      subst hb
      exact e
    · rw [if_neg hb] at h
      cases h
  · cases h
theorem nw_fk_ok {sh : nw_Sh} {c ci k : Nat} {f : Option Nat} (h : nw_fk sh c ci k = some f) : ∃ fs, sh[c]? = some (.inl (ci, fs)) ∧ fs[k]? = some f := by
  unfold nw_fk at h
  split at h
  · rename_i cj fs e
    by_cases hb : cj = ci
    · rw [if_pos hb] at h
      subst hb
      exact ⟨fs, e, h⟩
    · rw [if_neg hb] at h
      cases h
  · cases h
theorem nw_cl_ok {sh : nw_Sh} {c ci : Nat} (h : nw_cl sh c = some ci) : ∃ fs, sh[c]? = some (.inl (ci, fs)) := by
  unfold nw_cl at h
  split at h
  · rename_i cj fs e
    cases h
    exact ⟨fs, e⟩
  · cases h
