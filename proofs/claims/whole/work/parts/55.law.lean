def R_law : String := "NextWayLaw"
def lw_P (b : Addr) (xs : List Int32) (args : Array Value) (s : State) : Prop := args = #[.ref b] ∧ s.IntsAt b xs ∧ xs.length ≤ 2560 ∧ (Jvm.Cond.and given_1 narrow_1).before args s = true
def lw_Q (_ : Array Value) (s : State) (o : Outcome) (t : State) : Prop := o = .returned (some (.int 1)) ∧ Framed s o t [] 600000 7302250
def lw_Z (below : List Frame) (a : Array Value) (s : State) : State → Prop := fun t => ∃ o, t.status = .running ∧ Ended t below o ∧ lw_Q a s o t
/-- the law's own end, with 1 on the stack, nothing written that was there before, its room as the claim has it -/
theorem lw_ret {p : Program} {l : Launch} {e : Env} {s : State} {m : MethodId} {below : List Frame} {meth : Method} {c : Code} {b : Nat} (hx : p.tables.exec = Jvm.exec) (hb : c.code = code) (hr : meth.sig.returnType = ret) (hlocks : meth.locks = false) {pc : Nat} {H : Heap} {ls : Array Slot} (hdg : decode code pc = .ok (.ireturn, 1)) : W p l e room_1 s m #[Value.ref b] below meth c H [] 600000 7302250 (lw_Z below #[Value.ref b] s) (F0 m pc ls [.int 1]) := by
  intro T hT X
  obtain ⟨fs, hret, hrun, hended, hW, hframe⟩ := X.leave (v := some (.int 1)) (hlocks := hlocks) (fun h => by rw [hr] at h; cases h)
  have hmeth' : T.vm.method? m = some meth := X.method'
  refine ⟨T.setFrames fs, ?_, .returned (some (.int 1)), hrun, hended, rfl, ⟨_, rfl⟩, hW, hframe⟩
  jvm_step X.here [X.here.top, hx, hb, hdg, hmeth', hr, ret, narrow_b1]
  (try refine ⟨rfl, ?_⟩); (try refine ⟨rfl, ?_⟩)
  first | (intro acts; rw [hret _ acts rfl rfl rfl]) | rw [hret _ _ rfl rfl rfl]
  exact Steps.refl _
/-- what holds at the law's entry: the machine, the code, the tables' words (any of lw_tbl by 'hts w (by decide +kernel)'), the script of L ints xs at the cell b, what the Statement gives of the start (any of its parts by flat_of_before) -/
def lw_At (p : Program) (s : State) (m : MethodId) (meth : Method) (c : Code) (b L : Nat) (xs : Nat → Int32) : Prop :=
  p.tables.exec = Jvm.exec ∧ c.code = code ∧ meth.sig.returnType = ret ∧ c.maxLocals = 4 ∧ s.vm.findClass R_law = some m.cls ∧ (∀ w ∈ lw_tbl, w.before #[Value.ref b] s = true) ∧ va_X b L xs s s.heap ∧ b < s.heap.size ∧ meth.locks = false ∧ (Jvm.Cond.and given_1 narrow_1).before #[Value.ref b] s = true
/-! THE LAW: what holds at its start -/
abbrev nl_A (s : State) : Nat → Prop := fun q => s.heap.size ≤ q
def nl_chk (sh : nw_Sh) : Bool := (List.range sh.length).all fun c => match sh[c]? with
  | some (.inl (ci, fs)) => (List.range fs.length).all fun k => match fs[k]? with
    | some none => (match nw_cls[ci]? with
      | some r => decide ((r.2.1 k).2.2.2 = false ∧ (r.2.1 k).2.2.1 = "I")
      | none => true)
    | _ => true
  | _ => true
theorem nl_chk_ok {sh : nw_Sh} (h : nl_chk sh = true) : nw_shok sh := by
  intro c ci fs hc k hk r hr
  have h1 := List.all_eq_true.mp h c (List.mem_range.mpr (List.getElem?_eq_some_iff.mp hc).1)
  rw [hc] at h1
  have h2 := List.all_eq_true.mp h1 k (List.mem_range.mpr (List.getElem?_eq_some_iff.mp hk).1)
  rw [hk] at h2
  dsimp only at h2
  rw [hr] at h2
  exact of_decide_eq_true h2
theorem nl_okX : nw_shok nw_shX := nl_chk_ok (by decide +kernel)
theorem nl_okM : nw_shok nw_shM := nl_chk_ok (by decide +kernel)
def nl_tm (j : Nat) : Term := .string RX2 ((nw_sx.map (·.1)).getD j 0)
theorem nl_ex : ∀ j, j < 9 → Cond.exactly (nl_tm j) "java/lang/String" ∈ flatC (Jvm.Cond.and given_1 narrow_1) := by decide +kernel
theorem nl_co : ∀ j, j < 9 → Cond.eq (.field (nl_tm j) "java/lang/String" "coder" "B") (.int 0) ∈ flatC (Jvm.Cond.and given_1 narrow_1) := by decide +kernel
theorem nl_ar : ∀ j, j < 9 → Cond.arrayOf (.field (nl_tm j) "java/lang/String" "value" "[B") .byte ∈ flatC (Jvm.Cond.and given_1 narrow_1) := by decide +kernel
theorem nl_le : ∀ j, j < 9 → Cond.eq (.length (.field (nl_tm j) "java/lang/String" "value" "[B")) (.int (Int32.ofNat (nw_sn.getD j 0))) ∈ flatC (Jvm.Cond.and given_1 narrow_1) := by decide +kernel
theorem nl_el : ∀ j, j < 9 → ∀ k, k < nw_sn.getD j 0 → Cond.eq (.elem (.field (nl_tm j) "java/lang/String" "value" "[B") (.int (Int32.ofNat k))) (.int ((nw_sb.getD j []).getD k 0)) ∈ flatC (Jvm.Cond.and given_1 narrow_1) := by decide +kernel
theorem nl_ne : ∀ i, i < 9 → ∀ j, j < 9 → i ≠ j → Cond.not (Cond.eq (nl_tm i) (nl_tm j)) ∈ flatC (Jvm.Cond.and given_1 narrow_1) ∨ Cond.not (Cond.eq (nl_tm j) (nl_tm i)) ∈ flatC (Jvm.Cond.and given_1 narrow_1) := by decide +kernel
theorem nl_c1 : Cond.eq (.static "java/lang/String" "COMPACT_STRINGS" "Z") (.int 1) ∈ flatC (Jvm.Cond.and given_1 narrow_1) := by decide +kernel
theorem nl_c2 : Cond.isRef (.static "jdk/internal/util/Preconditions" "SIOOBE_FORMATTER" "Ljava/util/function/BiFunction;") ∈ flatC (Jvm.Cond.and given_1 narrow_1) := by decide +kernel
theorem nl_sr : ∀ j, j < 9 → Cond.stringRef RX2 ((nw_sx.map (·.1)).getD j 0) ((nw_sx.map (·.2)).getD j "") = lw_tbl.getD ([205, 270, 288, 305, 322, 331, 332, 333, 334].getD j 0) .tt ∧ [205, 270, 288, 305, 322, 331, 332, 333, 334].getD j 0 < lw_tbl.length := by decide +kernel
theorem nl_nf : ∀ q ∈ nw_NF, ∃ i ∈ [71, 72, 95, 96, 98, 99, 101, 102, 117, 119], lw_tbl[i]? = some (nw_nfw q) := by decide +kernel
theorem nl_nm : ∀ q ∈ nw_NM, ∃ i ∈ [535, 550, 587, 598], lw_tbl[i]? = some (nw_nmw q) := by decide +kernel
theorem nl_start {p : Program} {s : State} {m : MethodId} {meth : Method} {c : Code} {b L : Nat} {xs : Nat → Int32} (C0 : lw_At p s m meth c b L xs) : ∃ adK adV : Nat → Nat, ∀ ad : Nat → Nat, (∀ j, j < 9 → ad (100 + j) = adK j) → nw_En ad adV (nl_A s) s s.heap := by
  obtain ⟨hx, hb, hr, hml, hown, hts, hX, hbl, hlocks, hgv⟩ := C0
  have hs := flat_of_before _ hgv
  have hA : ∀ a : Nat, a < s.heap.size → ¬ nl_A s a := fun a h => Nat.not_le.mpr h
  obtain ⟨adK, adV, hS, hev⟩ := vk_Sof (N := 9) (tm := nl_tm) (len := nw_sn) (byt := nw_sb) (A := nl_A s) (fun i hi => Nat.lt_of_lt_of_le (nj_len i hi) (by decide)) (fun i hi => hs _ (nl_ex i hi)) (fun i hi => hs _ (nl_co i hi)) (fun i hi => hs _ (nl_ar i hi)) (fun i hi => hs _ (nl_le i hi)) (fun i hi k hk => hs _ (nl_el i hi k hk)) (fun i j hi hj hij => (nl_ne i hi j hj hij).imp (hs _) (hs _)) hA
  refine ⟨adK, adV, fun ad had => ⟨fun q hq => ?_, fun q hq => ?_, fun j i tx hj => ?_, ?_, ?_, ?_⟩⟩
  · obtain ⟨i, -, h1⟩ := nl_nf q hq
    exact va_Nw.of (nw_nfw_on q) (hts _ (List.mem_of_getElem? h1))
  · obtain ⟨i, -, h1⟩ := nl_nm q hq
    exact va_Nw.of rfl (hts _ (List.mem_of_getElem? h1))
  · have hj9 : j < 9 := (List.getElem?_eq_some_iff.mp hj).1
    have e1 : (nw_sx.map (·.1)).getD j 0 = i := by rw [List.getD_eq_getElem?_getD, List.getElem?_map, hj]; rfl
    have e2 : (nw_sx.map (·.2)).getD j "" = tx := by rw [List.getD_eq_getElem?_getD, List.getElem?_map, hj]; rfl
    obtain ⟨h1, h2⟩ := nl_sr j hj9
    rw [e1, e2] at h1
    have h3 := hev j hj9
    unfold nl_tm at h3
    rw [e1] at h3
    rw [had j hj9]
    refine vk_R.of (hts _ ?_) h3
    rw [h1, List.getD_eq_getElem?_getD, List.getElem?_eq_getElem h2]
    exact List.getElem_mem h2
  · refine ⟨fun i hi => ?_, fun i j hi hj e => ?_⟩
    · dsimp only
      rw [had i hi]
      exact hS.1 i hi
    · dsimp only at e
      rw [had i hi, had j hj] at e
      exact hS.2 i j hi hj e
  · exact va_Zof (hts _ (List.mem_of_getElem? (i := 219) (by decide +kernel))) (hts _ (nw_TBL_in nw_wL.2.2.2.1)) (va_eqi (hs _ nl_c1)) hA
  · exact va_Zqof (hts _ (List.mem_of_getElem? (i := 235) (by decide +kernel))) (hts _ (nw_TBL_in nw_wCI.2.2.2.1)) (hs _ nl_c2) hA
theorem nl_arr {args : Array Value} {s : State} {ty : FieldType} (h : (Cond.arrayClass ty).before args s = true) (hc : ∀ cA, va_RA s cA ty = (s.vm.findClass ("[" ++ ty.toString) = some cA)) : ∃ cA : ClassId, ArrOfT s cA ty ∧ va_RA s cA ty := by
  obtain ⟨cA, kA, comp, h1, h2, h3⟩ := Cond.arrayClass_spec h
  exact ⟨cA, fun n z => ⟨fun k h => (by cases h), kA, h2, comp, h3⟩, by rw [hc]; exact h1⟩
theorem nl_K {args : Array Value} {s : State} (hts : ∀ w ∈ lw_tbl, w.before args s = true) : ∃ (D : va_G) (cy : Bool → ClassId), va_K D nw_cls (nw_ty cy) s := by
  obtain ⟨c0, i0, k0⟩ := u_known (C := RX5) (T := TX5) (N := 7) (n := 7) hts (fun w hw => nw_TBL_in (nw_uw_0 w hw)) (hts _ (List.mem_of_getElem? (i := 56) (by decide +kernel)))
  obtain ⟨c1, i1, k1⟩ := u_known (C := RX3) (T := TX3) (N := 2) (n := 2) hts (fun w hw => nw_TBL_in (nw_uw_1 w hw)) (hts _ (List.mem_of_getElem? (i := 64) (by decide +kernel)))
  obtain ⟨c2, i2, k2⟩ := u_known (C := RX2) (T := TX2) (N := 5) (n := 5) hts (fun w hw => nw_TBL_in (nw_uw_2 w hw)) (hts _ (List.mem_of_getElem? (i := 80) (by decide +kernel)))
  obtain ⟨c3, i3, k3⟩ := u_known (C := RX4) (T := TX4) (N := 6) (n := 6) hts (fun w hw => nw_TBL_in (nw_uw_3 w hw)) (hts _ (List.mem_of_getElem? (i := 86) (by decide +kernel)))
  obtain ⟨c4, i4, k4⟩ := u_known (C := RX6) (T := TX6) (N := 20) (n := 20) hts (fun w hw => nw_TBL_in (nw_uw_4 w hw)) (hts _ (List.mem_of_getElem? (i := 615) (by decide +kernel)))
  obtain ⟨a0, x0, y0⟩ := nl_arr (ty := .int) (hts (.arrayClass .int) (List.mem_of_getElem? (i := 78) (by decide +kernel))) (fun _ => rfl)
  obtain ⟨a1, x1, y1⟩ := nl_arr (ty := .boolean) (hts (.arrayClass .boolean) (List.mem_of_getElem? (i := 681) (by decide +kernel))) (fun _ => rfl)
  refine ⟨(fun k => if k = 0 then c0 else if k = 1 then c1 else if k = 2 then c2 else if k = 3 then c3 else c4, fun k => if k = 0 then i0 else if k = 1 then i1 else if k = 2 then i2 else if k = 3 then i3 else i4), fun z => if z then a1 else a0, fun k q hq => ?_, fun k q hq => ?_⟩
  · match k, hq with
    | 0, hq => cases hq; exact k0
    | 1, hq => cases hq; exact k1
    | 2, hq => cases hq; exact k2
    | 3, hq => cases hq; exact k3
    | 4, hq => cases hq; exact k4
    | k + 5, hq => simp [nw_cls] at hq
  · match k, hq with
    | 0, hq => cases hq; exact ⟨x0, y0⟩
    | 1, hq => cases hq; exact ⟨x1, y1⟩
    | k + 2, hq => simp at hq
/-! a call of the law's -/
def nl_C (p : Program) (s : State) (m : MethodId) (c : Code) (b L : Nat) (xs : Nat → Int32) (D : va_G) (cy : Bool → ClassId) : Prop :=
  p.tables.exec = Jvm.exec ∧ c.code = code ∧ c.maxLocals = 4 ∧ s.vm.findClass R_law = some m.cls ∧ (∀ w ∈ nw_TBL, w.before #[Value.ref b] s = true) ∧ va_K D nw_cls (nw_ty cy) s ∧ va_X b L xs s s.heap ∧ b < s.heap.size
section NL
variable {p : Program} {l : Launch} {e : Env} {s : State} {m : MethodId} {below : List Frame} {meth : Method} {c : Code} {b L : Nat} {xs : Nat → Int32} {D : va_G} {cy : Bool → ClassId} {Z : State → Prop} {pc cells slots : Nat} {ls : Array Slot} {H : Heap} {locs : List Loc} {ad adV : Nat → Nat} {sh : nw_Sh} {wo : va_W} {mem : nw_M}
theorem nl_isC (n k : Nat) {wa wb : va_W} (hn : wa.length = n) (hk : wb.length = k) : (List.range n).map (fun i => (wa ++ wb)[i]?) = wa.map some ∧ ((List.range k).map (· + n)).map (fun i => (wa ++ wb)[i]?) = wb.map some := by
  subst hn hk
  refine ⟨List.ext_getElem? (fun i => ?_), List.ext_getElem? (fun i => ?_)⟩
  · rcases Nat.lt_or_ge i wa.length with h | h
    · rw [List.getElem?_map, List.getElem?_range h, List.getElem?_map, List.getElem?_eq_getElem h]
      simp only [Option.map_some]
      rw [List.getElem?_append_left h, List.getElem?_eq_getElem h]
    · rw [List.getElem?_eq_none (by simpa using h), List.getElem?_eq_none (by simpa using h)]
  · rcases Nat.lt_or_ge i wb.length with h | h
    · rw [List.getElem?_map, List.getElem?_map, List.getElem?_range h, List.getElem?_map, List.getElem?_eq_getElem h]
      simp only [Option.map_some]
      rw [List.getElem?_append_right (by omega), Nat.add_sub_cancel, List.getElem?_eq_getElem h]
    · rw [List.getElem?_eq_none (by simpa using h), List.getElem?_eq_none (by simpa using h)]
theorem nl_nd (k n : Nat) (h : k ≤ 20) : va_nd ((List.range k).map (· + n)) = true := by
  have key : ∀ (l : List Nat), l.Nodup → va_nd l = true := by
    intro l hl
    induction l with
    | nil => rfl
    | cons a t ih =>
      have h2 := List.nodup_cons.mp hl
      simp only [va_nd, Bool.and_eq_true]
      refine ⟨?_, ih h2.2⟩
      simpa using h2.1
  refine key _ ?_
  exact List.pairwise_map.mpr (List.Pairwise.imp (fun h => by omega) List.nodup_range)
theorem nl_join {A0 : Nat → Prop} {wa wb w1 : va_W} {H1 : Heap} (hP : va_P D nw_cls (wa ++ wb) H) (hD : va_D A0 (wa ++ wb)) (hb20 : wb.length ≤ 20) (hk : ∀ q : Nat, q < H.size → ¬ va_A wa H.size q → H1[q]? = H[q]?) (hF : ∀ q, va_A wa H.size q → A0 q) (hP1 : va_P D nw_cls w1 H1) (hD1 : va_D (va_A wa H.size) w1) : va_P D nw_cls (wb ++ w1) H1 ∧ va_D A0 (wb ++ w1) := by
  obtain ⟨e1, e2⟩ := nl_isC wa.length wb.length (wa := wa) (wb := wb) rfl rfl
  refine va_join hP hD (List.range wa.length) ((List.range wb.length).map (· + wa.length)) e1 e2 (nl_nd _ _ hb20) (fun i hi hi2 => ?_) hk hF hP1 hD1
  have h1 := List.mem_range.mp hi2
  obtain ⟨j, -, h2⟩ := List.mem_map.mp hi
  omega
theorem nl_call (C : nl_C p s m c b L xs D cy) (hso : nw_shok sh) (hE : nw_En ad adV (nl_A s) s s.heap) (hwo : wo.length ≤ 20) (hP : va_P D nw_cls (nw_pic ad cy mem 0 sh ++ wo) H) (hD : va_D (nl_A s) (nw_pic ad cy mem 0 sh ++ wo)) (hS : va_S (nl_A s) s.heap H locs)
    {k ci i : Nat} {as rest : List Value} {Q : nw_K} (hmk : nw_mok k) (hkc : nw_kC k = some ci) (hcl : nw_cl sh 0 = some ci) (hEx : nw_Ex 40 sh k (.ref 0 :: as) mem Q) (has : as.map (nw_tv ad) = as) (hret : nw_kR k = some .int) (hlink : Cond.methodLink R_law i (nw_kY k) ∈ nw_TBL) (hn : as.length = nw_kN k) (hrest : (rest.map fun v => v.category).sum ≤ 8) (hd : decode code pc = .ok (.invokevirtual i, 3)) (hsz : ls.size = 4) (hc : cells ≤ 600000) (hsl : slots ≤ 7302250)
    (kk : ∀ (r : Int32) (mem' : nw_M) (H1 : Heap) (locs1 : List Loc), Q (some (.int r)) mem' → va_P D nw_cls (wo ++ nw_pic ad cy mem' 0 sh) H1 → va_D (nl_A s) (wo ++ nw_pic ad cy mem' 0 sh) → va_S (nl_A s) s.heap H1 locs1 → W p l e room_1 s m #[Value.ref b] below meth c H1 locs1 cells slots Z (F0 m (pc + 3) ls (.int r :: rest))) :
    W p l e room_1 s m #[Value.ref b] below meth c H locs cells slots Z (F0 m pc ls (as.reverse ++ .ref (ad 0) :: rest)) := by
  obtain ⟨hx, hb, hml, hown, hts, hK, hX, hbl⟩ := C
  have hA : ∀ q : Nat, s.heap.size ≤ q → nl_A s q := fun q h => h
  have hM := nw_met (l := l) (D := D) (ad := ad) (adV := adV) (cy := cy) hso nw_strL nw_strC 40 k (.ref 0 :: as) mem Q hEx hmk H.size
  have hin := nw_ws_in hmk.1
  obtain ⟨hm1, hm2, hm3, hm4, hm5, hm6, hm7⟩ := hmk
  rw [hkc] at hm7
  obtain ⟨rcv, c1, c2, c3, c4⟩ := hm7
  obtain ⟨fs, g1⟩ := nw_cl_ok hcl
  obtain ⟨e1, -⟩ := nl_isC (nw_pic ad cy mem 0 sh).length wo.length (wa := nw_pic ad cy mem 0 sh) (wb := wo) rfl rfl
  have hPa : va_P D nw_cls (nw_pic ad cy mem 0 sh) H := fun k q hq => hP k q (by rw [List.getElem?_append_left (List.getElem?_eq_some_iff.mp hq).1]; exact hq)
  have hDa : va_D (nl_A s) (nw_pic ad cy mem 0 sh) := ⟨fun i j p q hp hq hpq => hD.1 i j p q (by rw [List.getElem?_append_left (List.getElem?_eq_some_iff.mp hp).1]; exact hp) (by rw [List.getElem?_append_left (List.getElem?_eq_some_iff.mp hq).1]; exact hq) hpq, fun k q hq => hD.2 k q (by rw [List.getElem?_append_left (List.getElem?_eq_some_iff.mp hq).1]; exact hq)⟩
  have hRo : (nw_rm 40).frames + 1 ≤ room_1.frames ∧ 8 + (nw_kL k + 11) + (nw_rm 40).locals ≤ room_1.locals := by
    refine ⟨by decide, ?_⟩
    show 8 + (nw_kL k + 11) + 64 * (40 + 8) ≤ 84000
    omega
  have hww : nw_ws k = Cond.code (nw_kY k) (nw_kB k) (nw_kL k) (nw_kR k) :: nw_TBL := rfl
  have hgi : GoodIn nw_TBL (wsV R_law i rcv.1 (nw_kY k) (nw_ws k)) := by
    refine nw_good (fun w hw => ?_)
    simp only [wsV, List.mem_append, List.mem_cons, List.not_mem_nil, or_false] at hw
    rcases hw with (rfl | rfl | rfl | rfl) | hw
    · exact hlink
    · exact c3
    · exact c4
    · rw [c2]; exact hm2
    · exact hin w hw
  have hcw := cwV (R := room_1) (s := s) (args := #[Value.ref b]) (rm := nw_rm 40) (mc := 0) (ms := 0) (nw_kN k) hts hgi hww rfl rfl ⟨c2.symm, hm3⟩ hRo
  have hpv : PreV s H rcv.1 (ad 0) (va_Pc ((Value.ref 0 :: as).map (nw_tv ad)) (nw_Pre D ad adV cy sh H.size mem)) as := by
    refine ⟨nw_blind, va_recv hK hPa c1 (nw_pic_at g1), fun U h1 h2 => ⟨?_, nw_pre_at hK hE hA hPa hDa hS h1 h2⟩⟩
    rw [List.map_cons, has]
    rfl
  have hF := nw_sub hDa hS hA
  have hrun := va_runV (e := e) (below := below) (meth := meth) (locs := locs) (cells := cells) (slots := slots) (cc := code) (nL := 4) (g := F0 m pc ls (as.reverse ++ .ref (ad 0) :: rest)) (rest := rest) ⟨hx, hb, hml, hown, hts⟩ hM hcw hpv rfl hn hsz rfl (lv_room hrest) hd ⟨hc, hsl⟩
  rw [hret] at hrun
  refine va_calli (a := (Value.ref (ad 0) :: as).toArray) hrun hS (fun q _ h => hF q h) hF (fun r u t H1 locs1 ht hvm hw hB hz1 hk1 hS1 => ?_)
  obtain ⟨b1, b2⟩ := hB
  rw [ht] at b1
  obtain ⟨hP2, hD2⟩ := nl_join hP hD hwo hk1 hF b1 b2
  exact kk r u H1 locs1 hw hP2 hD2 hS1
/-- the script's int behind the i-th -/
theorem nl_ld (C : nl_C p s m c b L xs D cy) (hS : va_S (nl_A s) s.heap H locs) {x : Int32} {j : Nat} (hx : x = nI j) (hj : j < L) (hL : L ≤ 2560) {rest : List Value} (hd : decode code pc = .ok (.iaload, 1))
    (kk : W p l e room_1 s m #[Value.ref b] below meth c H locs cells slots Z (F0 m (pc + 1) ls (.int (xs j) :: rest))) : W p l e room_1 s m #[Value.ref b] below meth c H locs cells slots Z (F0 m pc ls (.int x :: .ref b :: rest)) := by
  obtain ⟨hx0, hb, hml, hown, hts, hK, hX, hbl⟩ := C
  subst hx
  have hbA : ¬ nl_A s b := Nat.not_le.mpr hbl
  refine va_sld hx0 hb hX hbl hbA hS (vp_in_nI hj (by omega)) hd ?_
  rw [ni_cl (show j < 2 ^ 31 by omega)]
  exact kk
end NL
