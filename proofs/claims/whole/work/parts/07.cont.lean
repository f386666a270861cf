/-! contracts of the small machine's methods, and what they carry along -/
abbrev nw_ty (cy : Bool → ClassId) : List (ClassId × FieldType) := [(cy false, .int), (cy true, .boolean)]
def nw_En (ad adV : Nat → Nat) (A : Nat → Prop) (U : State) (H : Heap) : Prop :=
  (∀ q ∈ nw_NF, va_Nw (nw_nfw q) U) ∧ (∀ q ∈ nw_NM, va_Nw (nw_nmw q) U) ∧ (∀ (j i : Nat) (tx : String), nw_sx[j]? = some (i, tx) → vk_R RX2 i tx (ad (100 + j)) U) ∧ vk_S 9 nw_sn nw_sb (fun j => ad (100 + j)) adV A U H ∧ va_Z "java/lang/String" "COMPACT_STRINGS" "Z" (.int 1) A U H ∧ va_Zq "jdk/internal/util/Preconditions" "SIOOBE_FORMATTER" "Ljava/util/function/BiFunction;" A U H
theorem nw_nfw_on (q : Nat × Nat × Nat × Nat) : (nw_nfw q).onTables = true := by
  unfold nw_nfw
  split <;> rfl
theorem nw_nfw_warm {s U : State} (hW : s.WarmedH U.vm) (q : Nat × Nat × Nat × Nat) (h : va_Nw (nw_nfw q) s) : va_Nw (nw_nfw q) U := by
  unfold nw_nfw at h ⊢
  split
  · rename_i r e
    rw [e] at h
    exact va_Nw.warmF hW h
  · rfl
theorem nw_En_warm {ad adV : Nat → Nat} {A B : Nat → Prop} {s U : State} {H : Heap} (hW : s.WarmedH U.vm) (h : nw_En ad adV A s s.heap) (hH : ∀ a : Nat, a < s.heap.size → ¬ A a → H[a]? = s.heap[a]?) (hAB : ∀ q, B q → A q) : nw_En ad adV B U H := by
  obtain ⟨h1, h2, h3, h4, h5, h6⟩ := h
  exact ⟨fun q hq => nw_nfw_warm hW q (h1 q hq), fun q hq => va_Nw.warmM hW (h2 q hq), fun j i tx hj => (h3 j i tx hj).warm hW, ((h4.kept hH).moved hW.alike).narrow hAB, ((h5.kept hH).moved hW.alike).narrow hAB, ((h6.kept hH).moved hW.alike).narrow hAB⟩
theorem nw_En_same {ad adV : Nat → Nat} {A : Nat → Prop} {u U : State} {H : Heap} (hv : u.vm = U.vm) (h : nw_En ad adV A u H) : nw_En ad adV A U H := by
  obtain ⟨h1, h2, h3, h4, h5, h6⟩ := h
  have al : u.vm.Alike U.vm := by rw [hv]; exact Vm.Alike.refl U.vm
  exact ⟨fun q hq => va_Nw.same (nw_nfw_on q) hv (h1 q hq), fun q hq => va_Nw.same rfl hv (h2 q hq), fun j i tx hj => (h3 j i tx hj).same hv.symm, h4.moved al, h5.moved al, h6.moved al⟩
def nw_Pre (D : va_G) (ad adV : Nat → Nat) (cy : Bool → ClassId) (sh : nw_Sh) (sz : Nat) (mem : nw_M) (U : State) : Prop :=
  U.heap.size = sz ∧ va_P D nw_cls (nw_pic ad cy mem 0 sh) U.heap ∧ va_K D nw_cls (nw_ty cy) U ∧ va_D (fun _ => True) (nw_pic ad cy mem 0 sh) ∧ nw_En ad adV (va_A (nw_pic ad cy mem 0 sh) sz) U U.heap
def nw_B (D : va_G) (ad : Nat → Nat) (cy : Bool → ClassId) (sh : nw_Sh) (A : Nat → Prop) (mem : nw_M) (t : State) : Prop := va_P D nw_cls (nw_pic ad cy mem 0 sh) t.heap ∧ va_D A (nw_pic ad cy mem 0 sh)
def nw_Qr (D : va_G) (ad : Nat → Nat) (cy : Bool → ClassId) (sh : nw_Sh) (A : Nat → Prop) (P : nw_K) : Option FieldType → Array Value → State → Outcome → State → Prop
  | none => va_Qv (fun u : nw_M => P none u) (nw_B D ad cy sh A) A
  | some _ => va_Qi (fun (r : Int32) (u : nw_M) => P (some (.int r)) u) (nw_B D ad cy sh A) A
def nw_rm (d : Nat) : Room := { frames := d + 8, cells := 0, slots := 0, locals := 64 * (d + 8) }
def nw_ws (k : Nat) : List Cond := nw_code k :: nw_TBL
theorem nw_good {ws : List Cond} (h : ∀ w ∈ ws, w ∈ nw_TBL) : GoodIn nw_TBL ws := fun w hw => ⟨h w hw, good_of_word (nw_TBL_good (h w hw))⟩
theorem nw_ws_in {k : Nat} (h : nw_code k ∈ nw_TBL) : ∀ w ∈ nw_ws k, w ∈ nw_TBL := fun w hw => (List.mem_cons.mp hw).elim (fun e => e ▸ h) (fun h => h)
theorem nw_blind {D : va_G} {ad adV : Nat → Nat} {cy : Bool → ClassId} {sh : nw_Sh} {sz : Nat} {mem : nw_M} {av : List Value} : FrameBlind (va_Pc av (nw_Pre D ad adV cy sh sz mem)) := by
  intro a U g mk q
  obtain ⟨q0, q1, qP, qK, qD, qE⟩ := q
  exact ⟨q0, q1, qP, va_K.moved (u := U) (U := U.calling g mk a) (Vm.Alike.refl U.vm) qK, qD, nw_En_same (u := U) (U := U.calling g mk a) rfl qE⟩
theorem nw_sub {A : Nat → Prop} {ws : va_W} {H0 H : Heap} {locs : List Loc} (hD : va_D A ws) (hS : va_S A H0 H locs) (hA : ∀ q, H0.size ≤ q → A q) : ∀ q, va_A ws H.size q → A q := by
  rintro q (⟨k, e, h⟩ | h)
  · exact hD.2 k _ h
  · exact hA q (Nat.le_trans hS.1 h)
/-- what stands at a call -/
theorem nw_pre_at {D : va_G} {ad adV : Nat → Nat} {cy : Bool → ClassId} {sh : nw_Sh} {A : Nat → Prop} {s : State} {H : Heap} {locs : List Loc} {mem : nw_M} (hK : va_K D nw_cls (nw_ty cy) s) (hE : nw_En ad adV A s s.heap) (hA : ∀ q, s.heap.size ≤ q → A q) (hP : va_P D nw_cls (nw_pic ad cy mem 0 sh) H) (hD : va_D A (nw_pic ad cy mem 0 sh)) (hS : va_S A s.heap H locs) {U : State} (hU : U.heap = H) (hW : s.WarmedH U.vm) : nw_Pre D ad adV cy sh H.size mem U := by
  refine ⟨by rw [hU], by rw [hU]; exact hP, va_K.moved hW.alike hK, hD.weaken (fun _ _ _ _ => trivial), ?_⟩
  rw [hU]
  exact nw_En_warm hW hE hS.2.1 (nw_sub hD hS hA)
theorem nw_pop_ok : ∀ (n : Nat) (st acc as r : List Value), nw_pop n st acc = some (as, r) → ∃ pre : List Value, st = pre ++ r ∧ as = pre.reverse ++ acc ∧ pre.length = n
  | 0, st, acc, as, r, h => by
    simp only [nw_pop, Option.some.injEq, Prod.mk.injEq] at h
    exact ⟨[], by rw [h.2]; rfl, by rw [h.1]; rfl, rfl⟩
  | n + 1, [], acc, as, r, h => by simp [nw_pop] at h
  | n + 1, v :: st, acc, as, r, h => by
    obtain ⟨pre, h1, h2, h3⟩ := nw_pop_ok n st (v :: acc) as r h
    exact ⟨v :: pre, by rw [h1]; rfl, by rw [h2]; simp, by simp [h3]⟩
theorem nw_cat_le (v : Value) : v.category ≤ 2 := by cases v <;> simp [Value.category]
theorem nw_sml_ok {ad : Nat → Nat} {r : List Value} (h : nw_sml r = true) : ((r.map (nw_tv ad)).map fun v => v.category).sum ≤ 8 := by
  match r, h with
  | [], _ => simp
  | [a], _ =>
    have h1 := nw_cat_le (nw_tv ad a)
    simp; omega
  | [a, b], _ =>
    have h1 := nw_cat_le (nw_tv ad a); have h2 := nw_cat_le (nw_tv ad b)
    simp; omega
  | [a, b, c], _ =>
    have h1 := nw_cat_le (nw_tv ad a); have h2 := nw_cat_le (nw_tv ad b); have h3 := nw_cat_le (nw_tv ad c)
    simp; omega
  | [a, b, c, d], _ =>
    have h1 := nw_cat_le (nw_tv ad a); have h2 := nw_cat_le (nw_tv ad b); have h3 := nw_cat_le (nw_tv ad c); have h4 := nw_cat_le (nw_tv ad d)
    simp; omega
/-- the contracts of String.length and String.charAt on the class's constants -/
def nw_StrL (l : Launch) (D : va_G) (ad adV : Nat → Nat) (cy : Bool → ClassId) (sh : nw_Sh) : Prop := ∀ (j : Nat), j < 9 → ∀ (sz : Nat) (mem : nw_M),
  Met l yJ0_length_8abf5 (Cond.code yJ0_length_8abf5 cJ0_length_8abf5 1 (some .int) :: nw_TBL) (nw_rm 0) (va_Pc [.ref (ad (100 + j))] (nw_Pre D ad adV cy sh sz mem)) (nw_Qr D ad cy sh (va_A (nw_pic ad cy mem 0 sh) sz) (fun v u => v = some (.int (Int32.ofNat (nw_sn.getD j 0))) ∧ u = mem) (some .int)) 0 0 (va_A (nw_pic ad cy mem 0 sh) sz)
def nw_StrC (l : Launch) (D : va_G) (ad adV : Nat → Nat) (cy : Bool → ClassId) (sh : nw_Sh) : Prop := ∀ (j : Nat), j < 9 → ∀ (i : Int32), vp_in i (nw_sn.getD j 0) → ∀ (sz : Nat) (mem : nw_M),
  Met l yJ0_charAt_5068e (Cond.code yJ0_charAt_5068e cJ0_charAt_5068e 2 (some .char) :: nw_TBL) (nw_rm 0) (va_Pc [.ref (ad (100 + j)), .int i] (nw_Pre D ad adV cy sh sz mem)) (nw_Qr D ad cy sh (va_A (nw_pic ad cy mem 0 sh) sz) (fun v u => v = some (.int ((nw_sb.getD j []).getD i.toNatClampNeg 0)) ∧ u = mem) (some .char)) 0 0 (va_A (nw_pic ad cy mem 0 sh) sz)
/-- what holds in a method of the small machine's, from its entry on -/
def nw_Cx (p : Program) (l : Launch) (s : State) (m : MethodId) (args : Array Value) (meth : Method) (c : Code) (D : va_G) (ad adV : Nat → Nat) (cy : Bool → ClassId) (sh : nw_Sh) (k : Nat) (A : Nat → Prop) : Prop :=
  p.tables.exec = Jvm.exec ∧ c.code = nw_kB k ∧ c.maxLocals = nw_kL k ∧ s.vm.findClass (nw_cn (nw_kO k)) = some m.cls ∧ (∀ w ∈ nw_TBL, w.before args s = true) ∧ meth.sig.returnType = nw_kR k ∧ meth.locks = false ∧ va_K D nw_cls (nw_ty cy) s ∧ nw_En ad adV A s s.heap ∧ (∀ q, s.heap.size ≤ q → A q) ∧ nw_StrL l D ad adV cy sh ∧ nw_StrC l D ad adV cy sh
abbrev nw_W (p : Program) (l : Launch) (e : Env) (s : State) (m : MethodId) (args : Array Value) (below : List Frame) (meth : Method) (c : Code) (D : va_G) (ad : Nat → Nat) (cy : Bool → ClassId) (sh : nw_Sh) (d nL : Nat) (A : Nat → Prop) (Z : State → Prop) : nw_X := fun pc lv st mem =>
  ∀ (H : Heap) (locs : List Loc) (ls : Array Slot), va_P D nw_cls (nw_pic ad cy mem 0 sh) H → va_D A (nw_pic ad cy mem 0 sh) → va_S A s.heap H locs → nw_lr ad ls nL lv → W p l e (nw_rm (d + 1)) s m args below meth c H locs 0 0 Z (F0 m pc ls (st.map (nw_tv ad)))
/-- behind a call -/
theorem nw_after {p : Program} {l : Launch} {e : Env} {R : Room} {s : State} {m : MethodId} {args : Array Value} {below : List Frame} {meth : Method} {c : Code} {H : Heap} {locs : List Loc} {D : va_G} {ad : Nat → Nat} {cy : Bool → ClassId} {sh : nw_Sh} {A : Nat → Prop} {Z : State → Prop} {mem : nw_M} {pc : Nat} {ls : Array Slot} {st0 rest : List Value} {P : nw_K} {a : Array Value} {ret : Option FieldType}
    (hD : va_D A (nw_pic ad cy mem 0 sh)) (hS : va_S A s.heap H locs) (hA : ∀ q, s.heap.size ≤ q → A q)
    (hr : va_Run p l e R s m args below meth c H locs 0 0 0 0 (F0 m pc ls st0) rest (nw_Qr D ad cy sh (va_A (nw_pic ad cy mem 0 sh) H.size) P ret a) (va_A (nw_pic ad cy mem 0 sh) H.size))
    (kk : ∀ (v : Option Value) (mem' : nw_M) (H1 : Heap) (locs1 : List Loc), (∀ x, v = some x → ∃ z, x = .int z) → P v mem' → va_P D nw_cls (nw_pic ad cy mem' 0 sh) H1 → va_D A (nw_pic ad cy mem' 0 sh) → va_S A s.heap H1 locs1 → W p l e R s m args below meth c H1 locs1 0 0 Z (F0 m (pc + 3) ls (nw_psh v rest))) :
    W p l e R s m args below meth c H locs 0 0 Z (F0 m pc ls st0) := by
  have hF := nw_sub hD hS hA
  cases ret with
  | none =>
    refine va_callv (a := a) hr hS (fun q _ h => hF q h) hF (fun u t H1 locs1 ht hvm hw hB hz1 hk1 hS1 => ?_)
    obtain ⟨b1, b2⟩ := hB
    rw [ht] at b1
    exact kk none u H1 locs1 (fun x h => by cases h) hw b1 (b2.weaken (fun _ q _ h => hF _ h)) hS1
  | some ty =>
    refine va_calli (a := a) hr hS (fun q _ h => hF q h) hF (fun r u t H1 locs1 ht hvm hw hB hz1 hk1 hS1 => ?_)
    obtain ⟨b1, b2⟩ := hB
    rw [ht] at b1
    exact kk (some (.int r)) u H1 locs1 (fun x h => by cases h; exact ⟨r, rfl⟩) hw b1 (b2.weaken (fun _ q _ h => hF _ h)) hS1
