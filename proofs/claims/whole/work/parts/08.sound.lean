/-! every instruction of the small machine's, in the JVM's -/
section NWS
variable {G : nw_O → Prop} {st : List Value} {lv : nw_L} {i : Nat}
theorem nw_on_none (h : nw_on none G) : False := h
theorem nw_i1_inv {k : Int32 → List Value → nw_O} (h : nw_on (nw_i1 st k) G) : ∃ x r, st = .int x :: r ∧ G (k x r) := by
  unfold nw_i1 at h
  split at h
  · exact ⟨_, _, rfl, h⟩
  · exact (nw_on_none h).elim
theorem nw_i2_inv {k : Int32 → Int32 → List Value → nw_O} (h : nw_on (nw_i2 st k) G) : ∃ x y r, st = .int y :: .int x :: r ∧ G (k x y r) := by
  unfold nw_i2 at h
  split at h
  · exact ⟨_, _, _, rfl, h⟩
  · exact (nw_on_none h).elim
theorem nw_l2_inv {k : Int64 → Int64 → List Value → nw_O} (h : nw_on (nw_l2 st k) G) : ∃ x y r, st = .long y :: .long x :: r ∧ G (k x y r) := by
  unfold nw_l2 at h
  split at h
  · exact ⟨_, _, _, rfl, h⟩
  · exact (nw_on_none h).elim
theorem nw_l1_inv {k : Int64 → List Value → nw_O} (h : nw_on (nw_l1 st k) G) : ∃ x r, st = .long x :: r ∧ G (k x r) := by
  unfold nw_l1 at h
  split at h
  · exact ⟨_, _, rfl, h⟩
  · exact (nw_on_none h).elim
theorem nw_li_inv {k : Int64 → Int32 → List Value → nw_O} (h : nw_on (nw_li st k) G) : ∃ x y r, st = .int y :: .long x :: r ∧ G (k x y r) := by
  unfold nw_li at h
  split at h
  · exact ⟨_, _, _, rfl, h⟩
  · exact (nw_on_none h).elim
theorem nw_ldI_inv {k : Int32 → nw_O} (h : nw_on (nw_ldI lv i k) G) : ∃ x, nw_ld lv i = some (.int x) ∧ G (k x) := by
  unfold nw_ldI at h
  split at h
  · rename_i x e
    exact ⟨x, e, h⟩
  · exact (nw_on_none h).elim
theorem nw_ldL_inv {k : Int64 → nw_O} (h : nw_on (nw_ldL lv i k) G) : ∃ x, nw_ld lv i = some (.long x) ∧ G (k x) := by
  unfold nw_ldL at h
  split at h
  · rename_i x e
    exact ⟨x, e, h⟩
  · exact (nw_on_none h).elim
theorem nw_ldR_inv {k : Nat → nw_O} (h : nw_on (nw_ldR lv i k) G) : ∃ x, nw_ld lv i = some (.ref x) ∧ G (k x) := by
  unfold nw_ldR at h
  split at h
  · rename_i x e
    exact ⟨x, e, h⟩
  · exact (nw_on_none h).elim
theorem nw_stI_inv {k : nw_L → List Value → nw_O} (h : nw_on (nw_stI lv i st k) G) : ∃ x r lv', st = .int x :: r ∧ nw_sto lv i (.int x) = some lv' ∧ G (k lv' r) := by
  unfold nw_stI at h
  split at h
  · split at h
    · rename_i x r _ lv' e
      exact ⟨x, r, lv', rfl, e, h⟩
    · exact (nw_on_none h).elim
  · exact (nw_on_none h).elim
theorem nw_stR_inv {k : nw_L → List Value → nw_O} (h : nw_on (nw_stR lv i st k) G) : ∃ x r lv', st = .ref x :: r ∧ nw_sto lv i (.ref x) = some lv' ∧ G (k lv' r) := by
  unfold nw_stR at h
  split at h
  · split at h
    · rename_i x r _ lv' e
      exact ⟨x, r, lv', rfl, e, h⟩
    · exact (nw_on_none h).elim
  · exact (nw_on_none h).elim
end NWS
theorem nw_nn_t {pc : Nat} {off : Int} (h : nw_nn pc off = true) : (pc : Int) + off = ((nw_t pc off : Nat) : Int) := by
  have h1 : 0 ≤ (pc : Int) + off := of_decide_eq_true h
  unfold nw_t
  omega
section NWT
variable {p : Program} {l : Launch} {e : Env} {s : State} {m : MethodId} {args : Array Value} {below : List Frame} {meth : Method} {c : Code} {D : va_G} {ad adV : Nat → Nat} {cy : Bool → ClassId} {sh : nw_Sh} {d k : Nat} {A : Nat → Prop} {Z : State → Prop} {pc : Nat} {lv : nw_L} {st : List Value} {mem : nw_M}
/-- a compare and its branch -/
theorem nw_snd_cmp (hx : p.tables.exec = Jvm.exec) (hb : c.code = nw_kB k) {x y : Int32} {r : List Value} {off : Int} {cd : ClassFile.Cond} (ht : nw_nn pc off = true) (hd : decode (nw_kB k) pc = .ok (.if_icmp cd off, 3)) (h : nw_A (nw_W p l e s m args below meth c D ad cy sh d (nw_kL k) A Z) (nw_cmp pc lv mem off x y r cd)) : nw_W p l e s m args below meth c D ad cy sh d (nw_kL k) A Z pc lv (.int y :: .int x :: r) mem := by
  intro H locs ls hP hD hS hl
  cases cd
  · exact lv_icmp_eq hx hb hd (nw_nn_t ht) (fun q => h.1 q H locs ls hP hD hS hl) (fun q => h.2 q H locs ls hP hD hS hl)
  · exact lv_icmp_ne hx hb hd (nw_nn_t ht) (fun q => h.2 q H locs ls hP hD hS hl) (fun q => h.1 q H locs ls hP hD hS hl)
  · exact lv_icmp_lt hx hb hd (nw_nn_t ht) (fun q => h.1 q H locs ls hP hD hS hl) (fun q => h.2 q H locs ls hP hD hS hl)
  · exact lv_icmp_ge hx hb hd (nw_nn_t ht) (fun q => h.1 q H locs ls hP hD hS hl) (fun q => h.2 q H locs ls hP hD hS hl)
  · exact lv_icmp_gt hx hb hd (nw_nn_t ht) (fun q => h.1 q H locs ls hP hD hS hl) (fun q => h.2 q H locs ls hP hD hS hl)
  · exact lv_icmp_le hx hb hd (nw_nn_t ht) (fun q => h.1 q H locs ls hP hD hS hl) (fun q => h.2 q H locs ls hP hD hS hl)
theorem nw_snd_if (hx : p.tables.exec = Jvm.exec) (hb : c.code = nw_kB k) {x : Int32} {r : List Value} {off : Int} {cd : ClassFile.Cond} (ht : nw_nn pc off = true) (hd : decode (nw_kB k) pc = .ok (.ifCond cd off, 3)) (h : nw_A (nw_W p l e s m args below meth c D ad cy sh d (nw_kL k) A Z) (nw_cmp pc lv mem off x 0 r cd)) : nw_W p l e s m args below meth c D ad cy sh d (nw_kL k) A Z pc lv (.int x :: r) mem := by
  intro H locs ls hP hD hS hl
  cases cd
  · exact lv_if_eq hx hb hd (nw_nn_t ht) (fun q => h.1 q H locs ls hP hD hS hl) (fun q => h.2 q H locs ls hP hD hS hl)
  · exact lv_if_ne hx hb hd (nw_nn_t ht) (fun q => h.2 q H locs ls hP hD hS hl) (fun q => h.1 q H locs ls hP hD hS hl)
  · exact lv_if_lt hx hb hd (nw_nn_t ht) (fun q => h.1 q H locs ls hP hD hS hl) (fun q => h.2 q H locs ls hP hD hS hl)
  · exact lv_if_ge hx hb hd (nw_nn_t ht) (fun q => h.1 q H locs ls hP hD hS hl) (fun q => h.2 q H locs ls hP hD hS hl)
  · exact lv_if_gt hx hb hd (nw_nn_t ht) (fun q => h.1 q H locs ls hP hD hS hl) (fun q => h.2 q H locs ls hP hD hS hl)
  · exact lv_if_le hx hb hd (nw_nn_t ht) (fun q => h.1 q H locs ls hP hD hS hl) (fun q => h.2 q H locs ls hP hD hS hl)
theorem nw_cls_ty {ci : Nat} {r : vw_C} (h : nw_cls[ci]? = some r) : ∃ ty0 : Nat → FieldType, (∀ k, k < r.2.2 → parseFieldDescriptor (r.2.1 k).2.2.1 = some (ty0 k)) ∧ ∀ a, a < r.2.2 → ∀ b, b < r.2.2 → a ≠ b → (r.2.1 a).2.1 ≠ (r.2.1 b).2.1 := by
  match ci, h with
  | 0, h => cases h; exact ⟨tyX5, tyX5_ok, nmX5⟩
  | 1, h => cases h; exact ⟨tyX3, tyX3_ok, nmX3⟩
  | 2, h => cases h; exact ⟨tyX2, tyX2_ok, nmX2⟩
  | 3, h => cases h; exact ⟨tyX4, tyX4_ok, nmX4⟩
  | 4, h => cases h; exact ⟨tyX6, tyX6_ok, nmX6⟩
  | n + 5, h => simp [nw_cls] at h
/-- the int fields of the classes: not final, of type int -/
def nw_int (ci k : Nat) : Prop := ∀ r : vw_C, nw_cls[ci]? = some r → (r.2.1 k).2.2.2 = false ∧ (r.2.1 k).2.2.1 = "I"
/-- where a shape says 'an int', the class does -/
def nw_shok (sh : nw_Sh) : Prop := ∀ (c ci : Nat) (fs : List (Option Nat)), sh[c]? = some (.inl (ci, fs)) → ∀ k : Nat, fs[k]? = some none → nw_int ci k
def nw_gv (x : Int32) : Option Nat → Value
  | none => .int x
  | some j => .ref j
theorem nw_snd_get (C0 : nw_Cx p l s m args meth c D ad adV cy sh k A) {i : Nat} (hd : decode (nw_kB k) pc = .ok (.getfield i, 3)) {ci kf : Nat} (hf : nw_rF (nw_kO k) i = some (ci, kf)) {a : Nat} {r : List Value} {f : Option Nat} (hk : nw_fk sh a ci kf = some f)
    (h : nw_W p l e s m args below meth c D ad cy sh d (nw_kL k) A Z (pc + 3) lv (nw_gv (mem a kf) f :: r) mem) : nw_W p l e s m args below meth c D ad cy sh d (nw_kL k) A Z pc lv (.ref a :: r) mem := by
  obtain ⟨hx, hb, hml, hown, hts, hr, hlocks, hK, hE, hA, hSL, hSC⟩ := C0
  intro H locs ls hP hD hS hl
  obtain ⟨rc, h1, h2, h3, h4, h5⟩ := nw_rF_ok hf
  obtain ⟨fs, g1, g2⟩ := nw_fk_ok hk
  have hv : (nw_fv ad mem a 0 fs)[kf]? = some (nw_tv ad (nw_gv (mem a kf) f)) := by
    rw [nw_fv_get ad mem a fs 0 kf f g2, Nat.zero_add]
    cases f <;> rfl
  obtain ⟨C, T, N⟩ := rc
  dsimp only at h1 h2 h3 h4 h5
  have h6 : ∀ x, s.fieldFound? (T kf).1 (T kf).2.1 (T kf).2.2.1 = some x → s.fieldFound? C (T kf).2.1 (T kf).2.2.1 = some x := fun x q => by rw [← h3]; exact q
  rcases h5 with h5 | h5
  · exact va_get (D := D) (ci := ci) (C := C) (T := T) (N := N) hx hb hts h4 hown hK hP a (nw_pic_at g1) h1 kf h2 (hts _ h5) h6 hv hd (h H locs ls hP hD hS hl)
  · have h7 := hE.1 _ h5
    unfold nw_nfw at h7
    dsimp only at h7
    rw [h1] at h7
    exact va_getN (D := D) (ci := ci) (C := C) (T := T) (N := N) hx hb hts h4 hown hK hP a (nw_pic_at g1) h1 kf h2 (va_Nw.use rfl h7) h6 hv hd (h H locs ls hP hD hS hl)
theorem nw_snd_put (C0 : nw_Cx p l s m args meth c D ad adV cy sh k A) (hso : nw_shok sh) {i : Nat} (hd : decode (nw_kB k) pc = .ok (.putfield i, 3)) {ci kf : Nat} (hf : nw_rF (nw_kO k) i = some (ci, kf)) {a : Nat} {v : Int32} {r : List Value} (hk : nw_fk sh a ci kf = some none)
    (h : nw_W p l e s m args below meth c D ad cy sh d (nw_kL k) A Z (pc + 3) lv r (nw_up mem a kf v)) : nw_W p l e s m args below meth c D ad cy sh d (nw_kL k) A Z pc lv (.int v :: .ref a :: r) mem := by
  obtain ⟨hx, hb, hml, hown, hts, hr, hlocks, hK, hE, hA, hSL, hSC⟩ := C0
  intro H locs ls hP hD hS hl
  obtain ⟨rc, h1, h2, h3, h4, h5⟩ := nw_rF_ok hf
  obtain ⟨fs, g1, g2⟩ := nw_fk_ok hk
  obtain ⟨j1, j2⟩ := hso a ci fs g1 kf g2 rc h1
  obtain ⟨ty0, t1, t2⟩ := nw_cls_ty h1
  obtain ⟨C, T, N⟩ := rc
  dsimp only at h1 h2 h3 h4 h5 j1 j2 t1 t2
  have h6 : ∀ x, s.fieldFound? (T kf).1 (T kf).2.1 (T kf).2.2.1 = some x → s.fieldFound? C (T kf).2.1 (T kf).2.2.1 = some x := fun x q => by rw [← h3]; exact q
  have hp : parseFieldDescriptor (T kf).2.2.1 = some .int := by rw [j2]; decide +kernel
  have hl2 : kf < (nw_fv ad mem a 0 fs).length := by
    have := nw_fv_get ad mem a fs 0 kf none g2
    exact (List.getElem?_eq_some_iff.mp this).1
  have hset : (nw_pic ad cy mem 0 sh).set a (ad a, .inr (ci, (nw_fv ad mem a 0 fs).set kf (.int v))) = nw_pic ad cy (nw_up mem a kf v) 0 sh := by
    refine nw_pic_set g1 (fun q hq => nw_up_ne hq) ?_
    have h8 := nw_fv_set ad (mem := mem) (mem' := nw_up mem a kf v) a fs 0 kf g2 (fun j hj => by rw [nw_up_eq]; exact if_neg (by simpa using hj))
    rw [nw_up_eq, Nat.zero_add, show upd (mem a) kf v kf = v from if_pos rfl] at h8
    show Sum.inr (ci, _) = Sum.inr (ci, _)
    rw [h8]
  rcases h5 with h5 | h5
  · refine va_put (D := D) (ci := ci) (v := .int v) (ty := .int) (C := C) (T := T) (N := N) hx hb hts h4 ty0 t1 t2 hown hK hP hD hS a (nw_pic_at g1) h1 kf h2 (hts _ h5) h6 j1 hp rfl rfl hl2 hd (fun H1 locs1 hP1 hD1 hS1 => ?_)
    rw [hset] at hP1 hD1
    exact h H1 locs1 ls hP1 hD1 hS1 hl
  · have h7 := hE.1 _ h5
    unfold nw_nfw at h7
    dsimp only at h7
    rw [h1] at h7
    refine va_putN (D := D) (ci := ci) (v := .int v) (ty := .int) (C := C) (T := T) (N := N) hx hb hts h4 ty0 t1 t2 hown hK hP hD hS a (nw_pic_at g1) h1 kf h2 (va_Nw.use rfl h7) h6 j1 hp rfl rfl hl2 hd (fun H1 locs1 hP1 hD1 hS1 => ?_)
    rw [hset] at hP1 hD1
    exact h H1 locs1 ls hP1 hD1 hS1 hl
theorem nw_snd_st (C0 : nw_Cx p l s m args meth c D ad adV cy sh k A) {z : Bool} {a n : Nat} {v i : Int32} (hk : nw_al sh z a = some n) : (nw_pic ad cy mem 0 sh)[a]? = some (ad a, .inl (cy z, n, .inl (mem a))) ∧ (nw_pic ad cy mem 0 sh).set a (ad a, .inl (cy z, n, .inl (upd (mem a) i.toNatClampNeg v))) = nw_pic ad cy (nw_up mem a i.toNatClampNeg v) 0 sh := by
  have g1 := nw_al_ok hk
  refine ⟨nw_pic_at g1, nw_pic_set g1 (fun q hq => nw_up_ne hq) ?_⟩
  simp only [nw_cel, nw_up_eq]
theorem nw_bool {v : Int32} (h : v = 0 ∨ v = 1) : vp_nar .boolean v = v ∧ narrow .boolean (.int v) = .int v := by
  rcases h with rfl | rfl <;> decide

/-- a static call -/
theorem nw_snd_cS (C0 : nw_Cx p l s m args meth c D ad adV cy sh k A) {k' i : Nat} {as r : List Value} {P : nw_K} {H : Heap} {locs : List Loc} {ls : Array Slot}
    (hM : Met l (nw_kY k') (nw_ws k') (nw_rm d) (va_Pc (as.map (nw_tv ad)) (nw_Pre D ad adV cy sh H.size mem)) (nw_Qr D ad cy sh (va_A (nw_pic ad cy mem 0 sh) H.size) P (nw_kR k')) 0 0 (va_A (nw_pic ad cy mem 0 sh) H.size))
    (hmk : nw_mok k') (hkc : nw_kC k' = none) (hlink : Cond.methodLink (nw_cn (nw_kO k)) i (nw_kY k') ∈ nw_TBL) (hn : as.length = nw_kN k') (hsm : nw_sml r = true) (hd : decode (nw_kB k) pc = .ok (.invokestatic i, 3))
    (hP : va_P D nw_cls (nw_pic ad cy mem 0 sh) H) (hD : va_D A (nw_pic ad cy mem 0 sh)) (hS : va_S A s.heap H locs) (hl : nw_lr ad ls (nw_kL k) lv) :
    va_Run p l e (nw_rm (d + 1)) s m args below meth c H locs 0 0 0 0 (F0 m pc ls ((as.map (nw_tv ad)).reverse ++ r.map (nw_tv ad))) (r.map (nw_tv ad)) (nw_Qr D ad cy sh (va_A (nw_pic ad cy mem 0 sh) H.size) P (nw_kR k') (as.map (nw_tv ad)).toArray) (va_A (nw_pic ad cy mem 0 sh) H.size) := by
  obtain ⟨hx, hb, hml, hown, hts, hr, hlocks, hK, hE, hA, hSL, hSC⟩ := C0
  have hin := nw_ws_in hmk.1
  obtain ⟨hm1, hm2, hm3, hm4, hm5, hm6, hm7⟩ := hmk
  rw [hkc] at hm7
  have hRo : (nw_rm d).frames + 1 ≤ (nw_rm (d + 1)).frames ∧ 8 + (nw_kL k' + 11) + (nw_rm d).locals ≤ (nw_rm (d + 1)).locals := by
    refine ⟨Nat.le_of_eq (by show d + 8 + 1 = d + 1 + 8; omega), ?_⟩
    show 8 + (nw_kL k' + 11) + 64 * (d + 8) ≤ 64 * (d + 1 + 8)
    omega
  have hww : nw_ws k' = Cond.code (nw_kY k') (nw_kB k') (nw_kL k') (nw_kR k') :: nw_TBL := rfl
  have hgi : GoodIn nw_TBL (va_wsS (nw_cn (nw_kO k)) i (nw_kY k') (nw_ws k')) := by
    refine nw_good (fun w hw => ?_)
    simp only [va_wsS, List.mem_append, List.mem_cons, List.not_mem_nil, or_false] at hw
    rcases hw with (rfl | rfl | rfl) | hw
    · exact hlink
    · exact hm7
    · exact hm2
    · exact hin w hw
  have hcw := va_cwS (R := nw_rm (d + 1)) (s := s) (args := args) (rm := nw_rm d) (mc := 0) (ms := 0) (nw_kN k') hts hgi hww rfl rfl hm3 hRo
  have hps : PreS s H (va_Pc (as.map (nw_tv ad)) (nw_Pre D ad adV cy sh H.size mem)) (as.map (nw_tv ad)) := ⟨nw_blind, fun U h1 h2 => ⟨rfl, nw_pre_at hK hE hA hP hD hS h1 h2⟩⟩
  exact va_runS (cc := nw_kB k) (nL := nw_kL k) (g := F0 m pc ls ((as.map (nw_tv ad)).reverse ++ r.map (nw_tv ad))) ⟨hx, hb, hml, hown, hts⟩ hM hcw hps rfl (by rw [List.length_map, hn]) hl.1.1 rfl (lv_room (nw_sml_ok hsm)) hd ⟨Nat.le_refl 0, Nat.le_refl 0⟩
/-- a static call of a nest mate's private method -/
theorem nw_snd_cN (C0 : nw_Cx p l s m args meth c D ad adV cy sh k A) {k' i : Nat} {as r : List Value} {P : nw_K} {H : Heap} {locs : List Loc} {ls : Array Slot}
    (hM : Met l (nw_kY k') (nw_ws k') (nw_rm d) (va_Pc (as.map (nw_tv ad)) (nw_Pre D ad adV cy sh H.size mem)) (nw_Qr D ad cy sh (va_A (nw_pic ad cy mem 0 sh) H.size) P (nw_kR k')) 0 0 (va_A (nw_pic ad cy mem 0 sh) H.size))
    (hmk : nw_mok k') (hkc : nw_kC k' = none) (hlink : (nw_kO k, i, k') ∈ nw_NM) (hn : as.length = nw_kN k') (hsm : nw_sml r = true) (hd : decode (nw_kB k) pc = .ok (.invokestatic i, 3))
    (hP : va_P D nw_cls (nw_pic ad cy mem 0 sh) H) (hD : va_D A (nw_pic ad cy mem 0 sh)) (hS : va_S A s.heap H locs) (hl : nw_lr ad ls (nw_kL k) lv) :
    va_Run p l e (nw_rm (d + 1)) s m args below meth c H locs 0 0 0 0 (F0 m pc ls ((as.map (nw_tv ad)).reverse ++ r.map (nw_tv ad))) (r.map (nw_tv ad)) (nw_Qr D ad cy sh (va_A (nw_pic ad cy mem 0 sh) H.size) P (nw_kR k') (as.map (nw_tv ad)).toArray) (va_A (nw_pic ad cy mem 0 sh) H.size) := by
  obtain ⟨hx, hb, hml, hown, hts, hr, hlocks, hK, hE, hA, hSL, hSC⟩ := C0
  have hin := nw_ws_in hmk.1
  obtain ⟨hm1, hm2, hm3, hm4, hm5, hm6, hm7⟩ := hmk
  rw [hkc] at hm7
  have hRo : (nw_rm d).frames + 1 ≤ (nw_rm (d + 1)).frames ∧ 8 + (nw_kL k' + 11) + (nw_rm d).locals ≤ (nw_rm (d + 1)).locals := by
    refine ⟨Nat.le_of_eq (by show d + 8 + 1 = d + 1 + 8; omega), ?_⟩
    show 8 + (nw_kL k' + 11) + 64 * (d + 8) ≤ 64 * (d + 1 + 8)
    omega
  have hww : nw_ws k' = Cond.code (nw_kY k') (nw_kB k') (nw_kL k') (nw_kR k') :: nw_TBL := rfl
  have hNw : va_Nw (nw_nmw (nw_kO k, i, k')) s := hE.2.1 _ hlink
  unfold nw_nmw at hNw
  dsimp only at hNw
  have hcn := va_cnB (R := nw_rm (d + 1)) (s := s) (args := args) (rm := nw_rm d) (mc := 0) (ms := 0) (nw_kN k') hts (nw_good hin) hww rfl rfl hNw (hts _ hm2) hm3 hRo
  have hps : PreS s H (va_Pc (as.map (nw_tv ad)) (nw_Pre D ad adV cy sh H.size mem)) (as.map (nw_tv ad)) := ⟨nw_blind, fun U h1 h2 => ⟨rfl, nw_pre_at hK hE hA hP hD hS h1 h2⟩⟩
  exact va_runSN (cc := nw_kB k) (nL := nw_kL k) (g := F0 m pc ls ((as.map (nw_tv ad)).reverse ++ r.map (nw_tv ad))) ⟨hx, hb, hml, hown, hts⟩ hM ⟨hcn, hts _ hm7, trivial⟩ hps rfl (by rw [List.length_map, hn]) hl.1.1 rfl (lv_room (nw_sml_ok hsm)) hd ⟨Nat.le_refl 0, Nat.le_refl 0⟩
/-- a call on an object -/
theorem nw_snd_cV (C0 : nw_Cx p l s m args meth c D ad adV cy sh k A) {k' i ci b : Nat} {as r : List Value} {P : nw_K} {H : Heap} {locs : List Loc} {ls : Array Slot}
    (hM : Met l (nw_kY k') (nw_ws k') (nw_rm d) (va_Pc ((Value.ref b :: as).map (nw_tv ad)) (nw_Pre D ad adV cy sh H.size mem)) (nw_Qr D ad cy sh (va_A (nw_pic ad cy mem 0 sh) H.size) P (nw_kR k')) 0 0 (va_A (nw_pic ad cy mem 0 sh) H.size))
    (hmk : nw_mok k') (hkc : nw_kC k' = some ci) (hcl : nw_cl sh b = some ci) (hlink : Cond.methodLink (nw_cn (nw_kO k)) i (nw_kY k') ∈ nw_TBL) (hn : as.length = nw_kN k') (hsm : nw_sml r = true) (hd : decode (nw_kB k) pc = .ok (.invokevirtual i, 3))
    (hP : va_P D nw_cls (nw_pic ad cy mem 0 sh) H) (hD : va_D A (nw_pic ad cy mem 0 sh)) (hS : va_S A s.heap H locs) (hl : nw_lr ad ls (nw_kL k) lv) :
    va_Run p l e (nw_rm (d + 1)) s m args below meth c H locs 0 0 0 0 (F0 m pc ls ((as.map (nw_tv ad)).reverse ++ .ref (ad b) :: r.map (nw_tv ad))) (r.map (nw_tv ad)) (nw_Qr D ad cy sh (va_A (nw_pic ad cy mem 0 sh) H.size) P (nw_kR k') (Value.ref (ad b) :: as.map (nw_tv ad)).toArray) (va_A (nw_pic ad cy mem 0 sh) H.size) := by
  obtain ⟨hx, hb, hml, hown, hts, hr, hlocks, hK, hE, hA, hSL, hSC⟩ := C0
  have hin := nw_ws_in hmk.1
  obtain ⟨hm1, hm2, hm3, hm4, hm5, hm6, hm7⟩ := hmk
  rw [hkc] at hm7
  obtain ⟨rcv, c1, c2, c3, c4⟩ := hm7
  obtain ⟨fs, g1⟩ := nw_cl_ok hcl
  have hRo : (nw_rm d).frames + 1 ≤ (nw_rm (d + 1)).frames ∧ 8 + (nw_kL k' + 11) + (nw_rm d).locals ≤ (nw_rm (d + 1)).locals := by
    refine ⟨Nat.le_of_eq (by show d + 8 + 1 = d + 1 + 8; omega), ?_⟩
    show 8 + (nw_kL k' + 11) + 64 * (d + 8) ≤ 64 * (d + 1 + 8)
    omega
  have hww : nw_ws k' = Cond.code (nw_kY k') (nw_kB k') (nw_kL k') (nw_kR k') :: nw_TBL := rfl
  have hgi : GoodIn nw_TBL (wsV (nw_cn (nw_kO k)) i rcv.1 (nw_kY k') (nw_ws k')) := by
    refine nw_good (fun w hw => ?_)
    simp only [wsV, List.mem_append, List.mem_cons, List.not_mem_nil, or_false] at hw
    rcases hw with (rfl | rfl | rfl | rfl) | hw
    · exact hlink
    · exact c3
    · exact c4
    · rw [c2]; exact hm2
    · exact hin w hw
  have hcw := cwV (R := nw_rm (d + 1)) (s := s) (args := args) (rm := nw_rm d) (mc := 0) (ms := 0) (nw_kN k') hts hgi hww rfl rfl ⟨c2.symm, hm3⟩ hRo
  have hpv : PreV s H rcv.1 (ad b) (va_Pc ((Value.ref b :: as).map (nw_tv ad)) (nw_Pre D ad adV cy sh H.size mem)) (as.map (nw_tv ad)) := ⟨nw_blind, va_recv hK hP c1 (nw_pic_at g1), fun U h1 h2 => ⟨rfl, nw_pre_at hK hE hA hP hD hS h1 h2⟩⟩
  exact va_runV (cc := nw_kB k) (nL := nw_kL k) (g := F0 m pc ls ((as.map (nw_tv ad)).reverse ++ .ref (ad b) :: r.map (nw_tv ad))) ⟨hx, hb, hml, hown, hts⟩ hM hcw hpv rfl (by rw [List.length_map, hn]) hl.1.1 rfl (lv_room (nw_sml_ok hsm)) hd ⟨Nat.le_refl 0, Nat.le_refl 0⟩
/-- a call of a method of the small machine's -/
theorem nw_snd_call (C0 : nw_Cx p l s m args meth c D ad adV cy sh k A)
    (IH : ∀ (k' : Nat) (as : List Value) (mem : nw_M) (P : nw_K), nw_Ex d sh k' as mem P → nw_mok k' → ∀ sz : Nat, Met l (nw_kY k') (nw_ws k') (nw_rm d) (va_Pc (as.map (nw_tv ad)) (nw_Pre D ad adV cy sh sz mem)) (nw_Qr D ad cy sh (va_A (nw_pic ad cy mem 0 sh) sz) P (nw_kR k')) 0 0 (va_A (nw_pic ad cy mem 0 sh) sz))
    {i : Nat} {vt : Bool} (hd : decode (nw_kB k) pc = .ok (if vt then .invokevirtual i else .invokestatic i, 3)) (h : nw_Cl nw_rM (nw_kO k) sh (nw_Ex d sh) (nw_W p l e s m args below meth c D ad cy sh d (nw_kL k) A Z) pc lv mem st i vt) : nw_W p l e s m args below meth c D ad cy sh d (nw_kL k) A Z pc lv st mem := by
  intro H locs ls hP hD hS hl
  have hA : ∀ q, s.heap.size ≤ q → A q := C0.2.2.2.2.2.2.2.2.2.1
  unfold nw_Cl at h
  split at h
  case h_2 => exact h.elim
  case h_1 k' n rc e1 =>
  split at h
  case h_2 => exact h.elim
  case h_1 as r e2 =>
  obtain ⟨⟨hvt, hrc, hsm⟩, hcall⟩ := h
  obtain ⟨hmk, hrk, hn, hlink⟩ := nw_rM_ok e1
  have hM := IH k' as mem _ hcall hmk H.size
  obtain ⟨pre, hpre1, has, hpl⟩ := nw_pop_ok n st [] as r e2
  rw [List.append_nil] at has
  have hpre : pre = as.reverse := by rw [has, List.reverse_reverse]
  rw [hpre] at hpre1 hpl
  have hal : as.length = n := by rw [← hpl, List.length_reverse]
  have hst : st.map (nw_tv ad) = (as.map (nw_tv ad)).reverse ++ r.map (nw_tv ad) := by rw [hpre1, List.map_append, List.map_reverse]
  have kk : ∀ (v : Option Value) (mem' : nw_M) (H1 : Heap) (locs1 : List Loc), (∀ x, v = some x → ∃ z, x = .int z) → nw_W p l e s m args below meth c D ad cy sh d (nw_kL k) A Z (pc + 3) lv (nw_psh v r) mem' → va_P D nw_cls (nw_pic ad cy mem' 0 sh) H1 → va_D A (nw_pic ad cy mem' 0 sh) → va_S A s.heap H1 locs1 → W p l e (nw_rm (d + 1)) s m args below meth c H1 locs1 0 0 Z (F0 m (pc + 3) ls (nw_psh v (r.map (nw_tv ad)))) := by
    intro v mem' H1 locs1 hv hw hP1 hD1 hS1
    have h1 := hw H1 locs1 ls hP1 hD1 hS1 hl
    cases v with
    | none => exact h1
    | some x =>
      obtain ⟨z, rfl⟩ := hv x rfl
      exact h1
  rw [hst]
  cases hkc : nw_kC k' with
  | none =>
    rw [hkc] at hrk
    rw [hrk] at hvt hn hlink
    have hvt2 : vt = false := hvt.symm
    rw [hvt2] at hd
    have hn2 : as.length = nw_kN k' := by rw [hal, hn]; rfl
    rcases hlink with hlink | ⟨-, hlink⟩
    · exact nw_after hD hS hA (nw_snd_cS C0 hM hmk hkc hlink hn2 hsm hd hP hD hS hl) kk
    · exact nw_after hD hS hA (nw_snd_cN C0 hM hmk hkc hlink hn2 hsm hd hP hD hS hl) kk
  | some ci =>
    rw [hkc] at hrk
    rw [hrk] at hvt hn hlink hrc
    have hvt2 : vt = true := hvt.symm
    rw [hvt2] at hd
    rcases hlink with hlink | ⟨hno, -⟩
    · cases as with
      | nil => cases hrc
      | cons w as2 =>
        cases w with
        | ref b =>
          have hcl : nw_cl sh b = some ci := eq_of_beq hrc
          have hn2 : as2.length = nw_kN k' := by
            have h1 : as2.length + 1 = nw_kN k' + 1 := by rw [hn] at hal; exact hal
            omega
          have hst2 : ((Value.ref b :: as2).map (nw_tv ad)).reverse ++ r.map (nw_tv ad) = (as2.map (nw_tv ad)).reverse ++ .ref (ad b) :: r.map (nw_tv ad) := by
            rw [List.map_cons, List.reverse_cons, List.append_assoc]
            rfl
          rw [hst2]
          exact nw_after hD hS hA (nw_snd_cV C0 hM hmk hkc hcl hlink hn2 hsm hd hP hD hS hl) kk
        | _ => cases hrc
    · cases hno
end NWT
