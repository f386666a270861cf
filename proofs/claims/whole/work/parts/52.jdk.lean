/-! THE JDK's METHODS ON THE CONSTANTS: String.length, String.charAt -/
def nj_rm (d : Nat) : Room := { frames := d, cells := 0, slots := 0, locals := 64 * d }
/-- what holds in such a method from its entry on -/
def nj_Cx (p : Program) (s : State) (m : MethodId) (av : List Value) (meth : Method) (c : Code) (D : va_G) (ad adV : Nat → Nat) (cy : Bool → ClassId) (sh : nw_Sh) (y : MethodName) (cc : ByteArray) (nL : Nat) (ret : Option FieldType) (mem : nw_M) : Prop :=
  p.tables.exec = Jvm.exec ∧ c.code = cc ∧ c.maxLocals = nL ∧ s.vm.findClass y.cls = some m.cls ∧ (∀ w ∈ nw_TBL, w.before av.toArray s = true) ∧ meth.sig.returnType = ret ∧ meth.locks = false ∧ va_K D nw_cls (nw_ty cy) s ∧ nw_En ad adV (va_A (nw_pic ad cy mem 0 sh) s.heap.size) s s.heap ∧ va_P D nw_cls (nw_pic ad cy mem 0 sh) s.heap ∧ va_D (va_A (nw_pic ad cy mem 0 sh) s.heap.size) (nw_pic ad cy mem 0 sh)
def nj_P (v : Option Value) (mem : nw_M) : nw_K := fun v' u => v' = v ∧ u = mem
abbrev nj_Met (l : Launch) (D : va_G) (ad adV : Nat → Nat) (cy : Bool → ClassId) (sh : nw_Sh) (y : MethodName) (cc : ByteArray) (nL : Nat) (ret : Option FieldType) (rm : Room) (av : List Value) (v : Option Value) (sz : Nat) (mem : nw_M) : Prop :=
  Met l y (Cond.code y cc nL ret :: nw_TBL) rm (va_Pc av (nw_Pre D ad adV cy sh sz mem)) (nw_Qr D ad cy sh (va_A (nw_pic ad cy mem 0 sh) sz) (nj_P v mem) ret) 0 0 (va_A (nw_pic ad cy mem 0 sh) sz)
theorem nj_met {l : Launch} {D : va_G} {ad adV : Nat → Nat} {cy : Bool → ClassId} {sh : nw_Sh} {y : MethodName} {cc : ByteArray} {nL : Nat} {ret : Option FieldType} {rm : Room} {av : List Value} {v : Option Value} {sz : Nat} {mem : nw_M} (hy : plainFor y = true)
    (body : ∀ (p : Program) (e : Env) (s : State) (m : MethodId) (below : List Frame) (meth : Method) (c : Code), nj_Cx p s m av meth c D ad adV cy sh y cc nL ret mem → W p l e rm s m av.toArray below meth c s.heap [] 0 0 (MQ below (nw_Qr D ad cy sh (va_A (nw_pic ad cy mem 0 sh) s.heap.size) (nj_P v mem) ret) av.toArray s 0 0 (va_A (nw_pic ad cy mem 0 sh) s.heap.size)) (entryFrame m av.toArray nL)) : nj_Met l D ad adV cy sh y cc nL ret rm av v sz mem := by
  refine va_MetF (cc := cc) (maxL := nL) (ret := ret) (ws' := nw_TBL) hy rfl ?_
  intro p e s m args below meth c s₁ B hml hv
  obtain ⟨rfl, hsz, hP, hK, hD0, hE⟩ := hv
  subst hsz
  have hD := hD0.self (sz := s.heap.size)
  have hts : ∀ w ∈ nw_TBL, w.before av.toArray s = true := fun w hw => atoms_spec (ws := Cond.code y cc nL ret :: nw_TBL) B.pre w (List.mem_cons_of_mem _ hw)
  exact body p e s m below meth c ⟨B.exec, B.bytes, hml, findClass_of_methodNamed B.named, hts, B.returns, B.notSynchronized, hK, hE, hP, hD⟩
section NJ
variable {p : Program} {l : Launch} {e : Env} {R : Room} {s : State} {m : MethodId} {av : List Value} {below : List Frame} {meth : Method} {c : Code} {D : va_G} {ad adV : Nat → Nat} {cy : Bool → ClassId} {sh : nw_Sh} {y : MethodName} {cc : ByteArray} {nL : Nat} {ret : Option FieldType} {mem : nw_M} {Z : State → Prop} {pc : Nat} {ls : Array Slot} {H : Heap} {locs : List Loc}
theorem nj_cV (C0 : nj_Cx p s m av meth c D ad adV cy sh y cc nL ret mem) {j : Nat} (hj : j < 9) {y' : MethodName} {cc' : ByteArray} {nL' i n : Nat} {ret' : Option FieldType} {rm : Room} {As rest : List Value} {v : Option Value} (hcl : y'.cls = RJ0)
    (hM : nj_Met l D ad adV cy sh y' cc' nL' ret' rm (.ref (ad (100 + j)) :: As) v H.size mem) (w1 : Cond.methodLink y.cls i y' ∈ nw_TBL) (w2 : Cond.instanceMethod y' ∈ nw_TBL) (w3 : Cond.selects RJ0 y' y' ∈ nw_TBL) (w4 : Cond.initialized RJ0 ∈ nw_TBL) (w5 : Cond.code y' cc' nL' ret' ∈ nw_TBL)
    (hn : (parseMethodDescriptor y'.desc).map (fun d => d.parameters.length) = some n) (hAs : As.length = n) (hrc : rm.cells = 0) (hrs : rm.slots = 0) (hR : rm.frames + 1 ≤ R.frames ∧ 8 + (nL' + 11) + rm.locals ≤ R.locals) (hrest : (rest.map fun v => v.category).sum ≤ 8) (hd : decode cc pc = .ok (.invokevirtual i, 3)) (hsz : ls.size = nL)
    (hP : va_P D nw_cls (nw_pic ad cy mem 0 sh) H) (hD : va_D (va_A (nw_pic ad cy mem 0 sh) s.heap.size) (nw_pic ad cy mem 0 sh)) (hS : va_S (va_A (nw_pic ad cy mem 0 sh) s.heap.size) s.heap H locs)
    (kk : ∀ (H1 : Heap) (locs1 : List Loc), va_P D nw_cls (nw_pic ad cy mem 0 sh) H1 → va_D (va_A (nw_pic ad cy mem 0 sh) s.heap.size) (nw_pic ad cy mem 0 sh) → va_S (va_A (nw_pic ad cy mem 0 sh) s.heap.size) s.heap H1 locs1 → W p l e R s m av.toArray below meth c H1 locs1 0 0 Z (F0 m (pc + 3) ls (nw_psh v rest))) :
    W p l e R s m av.toArray below meth c H locs 0 0 Z (F0 m pc ls (As.reverse ++ .ref (ad (100 + j)) :: rest)) := by
  obtain ⟨hx, hb, hml, hown, hts, hr, hlocks, hK, hE, hP0, hD0⟩ := C0
  have hA : ∀ q : Nat, s.heap.size ≤ q → va_A (nw_pic ad cy mem 0 sh) s.heap.size q := fun q h => Or.inr h
  have hin : ∀ w ∈ (Cond.code y' cc' nL' ret' :: nw_TBL), w ∈ nw_TBL := fun w hw => (List.mem_cons.mp hw).elim (fun q => q ▸ w5) (fun q => q)
  have hgi : GoodIn nw_TBL (wsV y.cls i RJ0 y' (Cond.code y' cc' nL' ret' :: nw_TBL)) := by
    refine nw_good (fun w hw => ?_)
    rcases List.mem_append.mp hw with hw | hw
    · simp only [List.mem_cons, List.not_mem_nil, or_false] at hw
      rcases hw with rfl | rfl | rfl | rfl
      · exact w1
      · exact w2
      · exact w3
      · exact w4
    · exact hin w hw
  have hcw := cwV (R := R) (s := s) (args := av.toArray) (rm := rm) (mc := 0) (ms := 0) n hts hgi rfl hrc hrs ⟨hcl, by rw [hcl]; decide +kernel, by rw [hcl]; decide +kernel, hn⟩ hR
  have hpv : PreV s H RJ0 (ad (100 + j)) (va_Pc (.ref (ad (100 + j)) :: As) (nw_Pre D ad adV cy sh H.size mem)) As := ⟨nw_blind, vk_recv (adK := fun j => ad (100 + j)) (i := j) hE.2.2.2.1 hj hS, fun U q1 q2 => ⟨rfl, nw_pre_at hK hE hA hP hD hS q1 q2⟩⟩
  have hrun := va_runV (e := e) (below := below) (meth := meth) (locs := locs) (cells := 0) (slots := 0) (cc := cc) (nL := nL) (g := F0 m pc ls (As.reverse ++ .ref (ad (100 + j)) :: rest)) (rest := rest) ⟨hx, hb, hml, hown, hts⟩ hM hcw hpv rfl hAs hsz rfl (lv_room hrest) hd ⟨Nat.zero_le _, Nat.zero_le _⟩
  refine nw_after hD hS hA hrun (fun v' mem' H1 locs1 _ hv hP1 hD1 hS1 => ?_)
  obtain ⟨rfl, rfl⟩ := hv
  exact kk H1 locs1 hP1 hD1 hS1
theorem nj_cS (C0 : nj_Cx p s m av meth c D ad adV cy sh y cc nL ret mem) {y' : MethodName} {cc' : ByteArray} {nL' i n : Nat} {ret' : Option FieldType} {rm : Room} {As rest : List Value} {v : Option Value}
    (hM : nj_Met l D ad adV cy sh y' cc' nL' ret' rm As v H.size mem) (w1 : Cond.methodLink y.cls i y' ∈ nw_TBL) (w2 : Cond.static y' ∈ nw_TBL) (w4 : Cond.initialized y'.cls ∈ nw_TBL) (w5 : Cond.code y' cc' nL' ret' ∈ nw_TBL)
    (hn : y'.cls ≠ "java/lang/invoke/MethodHandle" ∧ y'.cls ≠ "java/lang/invoke/VarHandle" ∧ (parseMethodDescriptor y'.desc).map (fun d => d.parameters.length) = some n) (hAs : As.length = n) (hrc : rm.cells = 0) (hrs : rm.slots = 0) (hR : rm.frames + 1 ≤ R.frames ∧ 8 + (nL' + 11) + rm.locals ≤ R.locals) (hrest : (rest.map fun v => v.category).sum ≤ 8) (hd : decode cc pc = .ok (.invokestatic i, 3)) (hsz : ls.size = nL)
    (hP : va_P D nw_cls (nw_pic ad cy mem 0 sh) H) (hD : va_D (va_A (nw_pic ad cy mem 0 sh) s.heap.size) (nw_pic ad cy mem 0 sh)) (hS : va_S (va_A (nw_pic ad cy mem 0 sh) s.heap.size) s.heap H locs)
    (kk : ∀ (H1 : Heap) (locs1 : List Loc), va_P D nw_cls (nw_pic ad cy mem 0 sh) H1 → va_D (va_A (nw_pic ad cy mem 0 sh) s.heap.size) (nw_pic ad cy mem 0 sh) → va_S (va_A (nw_pic ad cy mem 0 sh) s.heap.size) s.heap H1 locs1 → W p l e R s m av.toArray below meth c H1 locs1 0 0 Z (F0 m (pc + 3) ls (nw_psh v rest))) :
    W p l e R s m av.toArray below meth c H locs 0 0 Z (F0 m pc ls (As.reverse ++ rest)) := by
  obtain ⟨hx, hb, hml, hown, hts, hr, hlocks, hK, hE, hP0, hD0⟩ := C0
  have hA : ∀ q : Nat, s.heap.size ≤ q → va_A (nw_pic ad cy mem 0 sh) s.heap.size q := fun q h => Or.inr h
  have hin : ∀ w ∈ (Cond.code y' cc' nL' ret' :: nw_TBL), w ∈ nw_TBL := fun w hw => (List.mem_cons.mp hw).elim (fun q => q ▸ w5) (fun q => q)
  have hgi : GoodIn nw_TBL (va_wsS y.cls i y' (Cond.code y' cc' nL' ret' :: nw_TBL)) := by
    refine nw_good (fun w hw => ?_)
    simp only [va_wsS, List.mem_append, List.mem_cons, List.not_mem_nil, or_false] at hw
    rcases hw with (rfl | rfl | rfl) | hw
    · exact w1
    · exact w2
    · exact w4
    · exact hin w (List.mem_cons.mpr hw)
  have hcw := va_cwS (R := R) (s := s) (args := av.toArray) (rm := rm) (mc := 0) (ms := 0) n hts hgi rfl hrc hrs hn hR
  have hps : PreS s H (va_Pc As (nw_Pre D ad adV cy sh H.size mem)) As := ⟨nw_blind, fun U h1 h2 => ⟨rfl, nw_pre_at hK hE hA hP hD hS h1 h2⟩⟩
  have hrun := va_runS (e := e) (below := below) (meth := meth) (locs := locs) (cells := 0) (slots := 0) (cc := cc) (nL := nL) (g := F0 m pc ls (As.reverse ++ rest)) (rest := rest) ⟨hx, hb, hml, hown, hts⟩ hM hcw hps rfl hAs hsz rfl (lv_room hrest) hd ⟨Nat.zero_le _, Nat.zero_le _⟩
  refine nw_after hD hS hA hrun (fun v' mem' H1 locs1 _ hv hP1 hD1 hS1 => ?_)
  obtain ⟨rfl, rfl⟩ := hv
  exact kk H1 locs1 hP1 hD1 hS1
/-- the answer -/
theorem nj_ret (C0 : nj_Cx p s m av meth c D ad adV cy sh y cc nL ret mem) {v : Int32} {ty : FieldType} (hr2 : ret = some ty) (hn : narrow ty (.int v) = .int v) (hd : decode cc pc = .ok (.ireturn, 1))
    (hP : va_P D nw_cls (nw_pic ad cy mem 0 sh) H) (hD : va_D (va_A (nw_pic ad cy mem 0 sh) s.heap.size) (nw_pic ad cy mem 0 sh)) (hS : va_S (va_A (nw_pic ad cy mem 0 sh) s.heap.size) s.heap H locs) :
    W p l e R s m av.toArray below meth c H locs 0 0 (MQ below (nw_Qr D ad cy sh (va_A (nw_pic ad cy mem 0 sh) s.heap.size) (nj_P (some (.int v)) mem) ret) av.toArray s 0 0 (va_A (nw_pic ad cy mem 0 sh) s.heap.size)) (F0 m pc ls [.int v]) := by
  obtain ⟨hx, hb, hml, hown, hts, hr, hlocks, hK, hE, hP0, hD0⟩ := C0
  subst hr2
  exact W.zret (v := v) hx hb hr hn (fun t ht hW => ⟨⟨v, mem, rfl, ⟨rfl, rfl⟩, by rw [ht]; exact hP, hD⟩, hS.F ht⟩) hS.2.2 hd hlocks
end NJ
section NJM
variable {l : Launch} {D : va_G} {ad adV : Nat → Nat} {cy : Bool → ClassId} {sh : nw_Sh} {mem : nw_M}
theorem nj_coder (d : Nat) {j : Nat} (hj : j < 9) (sz : Nat) : nj_Met l D ad adV cy sh yJ0_coder_7d493 cJ0_coder_7d493 1 (some .byte) (nj_rm d) [.ref (ad (100 + j))] (some (.int 0)) sz mem := by
  refine nj_met (by decide +kernel) (fun p e s m below meth c C0 => ?_)
  have C1 := C0
  obtain ⟨hx, hb, hml, hown, hts, hr, hlocks, hK, hE, hP, hD⟩ := C0
  have hS : va_S (va_A (nw_pic ad cy mem 0 sh) s.heap.size) s.heap s.heap [] := va_S.rf
  have hl := lv_entry ([.ref (ad (100 + j))]) (n := 1) (Nat.le_of_ble_eq_true rfl)
  rw [lg_entry_eq]
  generalize (lg_sl ([.ref (ad (100 + j))]) ++ List.replicate (1 - (lg_sl ([.ref (ad (100 + j))])).length) Slot.unset).toArray = ls at hl ⊢
  have hl : lv_has ls 1 [(0, .ref (ad (100 + j)))] := hl
  have hd0 : decode cJ0_coder_7d493 0 = .ok (.getstatic 38, 3) := by decide +kernel
  have hd3 : decode cJ0_coder_7d493 3 = .ok (.ifCond .eq 10, 3) := by decide +kernel
  have hd6 : decode cJ0_coder_7d493 6 = .ok (.aload_n 0, 1) := by decide +kernel
  have hd7 : decode cJ0_coder_7d493 7 = .ok (.getfield 15, 3) := by decide +kernel
  have hd10 : decode cJ0_coder_7d493 10 = .ok (.goto 4, 3) := by decide +kernel
  have hd14 : decode cJ0_coder_7d493 14 = .ok (.ireturn, 1) := by decide +kernel
  obtain ⟨w1, w2, w3, w4, w5, w6, w7⟩ := nw_wLen
  refine va_gets hx hb hE.2.2.2.2.1 hS hown (hts _ w6) (fun _ h => h) hd0 ?_
  refine lv_if_eq hx hb hd3 (tgt := 13) (by decide) (fun q => absurd q (by decide)) (fun _ => ?_)
  refine lv_aload_n hx hb hd6 rfl (lv_at hl 0 rfl) ?_
  refine vk_getf hx hb ((hE.2.2.2.1.1 j hj).2.1) hS hown (hts _ w7) (fun _ h => h) hd7 ?_
  refine lv_goto hx hb hd10 (tgt := 14) (by decide) ?_
  exact nj_ret C1 rfl (by decide) hd14 hP hD hS
theorem nj_isLatin1 (d : Nat) {j : Nat} (hj : j < 9) (sz : Nat) : nj_Met l D ad adV cy sh yJ0_isLatin1_aae02 cJ0_isLatin1_aae02 1 (some .boolean) (nj_rm d) [.ref (ad (100 + j))] (some (.int 1)) sz mem := by
  refine nj_met (by decide +kernel) (fun p e s m below meth c C0 => ?_)
  have C1 := C0
  obtain ⟨hx, hb, hml, hown, hts, hr, hlocks, hK, hE, hP, hD⟩ := C0
  have hS : va_S (va_A (nw_pic ad cy mem 0 sh) s.heap.size) s.heap s.heap [] := va_S.rf
  have hl := lv_entry ([.ref (ad (100 + j))]) (n := 1) (Nat.le_of_ble_eq_true rfl)
  rw [lg_entry_eq]
  generalize (lg_sl ([.ref (ad (100 + j))]) ++ List.replicate (1 - (lg_sl ([.ref (ad (100 + j))])).length) Slot.unset).toArray = ls at hl ⊢
  have hl : lv_has ls 1 [(0, .ref (ad (100 + j)))] := hl
  have hd0 : decode cJ0_isLatin1_aae02 0 = .ok (.getstatic 38, 3) := by decide +kernel
  have hd3 : decode cJ0_isLatin1_aae02 3 = .ok (.ifCond .eq 14, 3) := by decide +kernel
  have hd6 : decode cJ0_isLatin1_aae02 6 = .ok (.aload_n 0, 1) := by decide +kernel
  have hd7 : decode cJ0_isLatin1_aae02 7 = .ok (.getfield 15, 3) := by decide +kernel
  have hd10 : decode cJ0_isLatin1_aae02 10 = .ok (.ifCond .ne 7, 3) := by decide +kernel
  have hd13 : decode cJ0_isLatin1_aae02 13 = .ok (.iconst 1, 1) := by decide +kernel
  have hd14 : decode cJ0_isLatin1_aae02 14 = .ok (.goto 4, 3) := by decide +kernel
  have hd18 : decode cJ0_isLatin1_aae02 18 = .ok (.ireturn, 1) := by decide +kernel
  obtain ⟨w1, w2, w3, w4, w5, w6, w7⟩ := nw_wLen
  refine va_gets hx hb hE.2.2.2.2.1 hS hown (hts _ w6) (fun _ h => h) hd0 ?_
  refine lv_if_eq hx hb hd3 (tgt := 17) (by decide) (fun q => absurd q (by decide)) (fun _ => ?_)
  refine lv_aload_n hx hb hd6 rfl (lv_at hl 0 rfl) ?_
  refine vk_getf hx hb ((hE.2.2.2.1.1 j hj).2.1) hS hown (hts _ w7) (fun _ h => h) hd7 ?_
  refine lv_if_ne hx hb hd10 (tgt := 17) (by decide) (fun q => absurd rfl q) (fun _ => ?_)
  refine lv_iconst hx hb hd13 (v := 1) (by decide) ?_
  refine lv_goto hx hb hd14 (tgt := 18) (by decide) ?_
  exact nj_ret C1 rfl (by decide) hd18 hP hD hS
theorem nj_pcheck (d : Nat) {i n : Int32} (h0 : ¬ i < 0) (h1 : i < n) (f : Value) (hf : f = .null ∨ ∃ t, f = .ref t) (sz : Nat) : nj_Met l D ad adV cy sh yJ3_checkIndex_8e157 cJ3_checkIndex_8e157 3 (some .int) (nj_rm d) [.int i, .int n, f] (some (.int i)) sz mem := by
  refine nj_met (by decide +kernel) (fun p e s m below meth c C0 => ?_)
  have C1 := C0
  obtain ⟨hx, hb, hml, hown, hts, hr, hlocks, hK, hE, hP, hD⟩ := C0
  have hS : va_S (va_A (nw_pic ad cy mem 0 sh) s.heap.size) s.heap s.heap [] := va_S.rf
  have hlen : (lg_sl [.int i, .int n, f]).length = 3 := by rcases hf with rfl | ⟨t, rfl⟩ <;> rfl
  have hl := lv_entry ([.int i, .int n, f]) (n := 3) (by rw [hlen]; omega)
  rw [lg_entry_eq]
  generalize (lg_sl ([.int i, .int n, f]) ++ List.replicate (3 - (lg_sl ([.int i, .int n, f])).length) Slot.unset).toArray = ls at hl ⊢
  have hl : lv_has ls 3 [(0, .int i), (1, .int n), (2, f)] := hl
  have hd0 : decode cJ3_checkIndex_8e157 0 = .ok (.iload_n 0, 1) := by decide +kernel
  have hd1 : decode cJ3_checkIndex_8e157 1 = .ok (.ifCond .lt 8, 3) := by decide +kernel
  have hd4 : decode cJ3_checkIndex_8e157 4 = .ok (.iload_n 0, 1) := by decide +kernel
  have hd5 : decode cJ3_checkIndex_8e157 5 = .ok (.iload_n 1, 1) := by decide +kernel
  have hd6 : decode cJ3_checkIndex_8e157 6 = .ok (.if_icmp .lt 10, 3) := by decide +kernel
  have hd16 : decode cJ3_checkIndex_8e157 16 = .ok (.iload_n 0, 1) := by decide +kernel
  have hd17 : decode cJ3_checkIndex_8e157 17 = .ok (.ireturn, 1) := by decide +kernel
  refine lv_iload_n hx hb hd0 rfl (lv_at hl 0 rfl) ?_
  refine lv_if_lt hx hb hd1 (tgt := 9) (by decide) (fun q => absurd q h0) (fun _ => ?_)
  refine lv_iload_n hx hb hd4 rfl (lv_at hl 0 rfl) ?_
  refine lv_iload_n hx hb hd5 rfl (lv_at hl 1 rfl) ?_
  refine lv_icmp_lt hx hb hd6 (tgt := 16) (by decide) (fun _ => ?_) (fun q => absurd h1 q)
  refine lv_iload_n hx hb hd16 rfl (lv_at hl 0 rfl) ?_
  exact nj_ret C1 rfl rfl hd17 hP hD hS
theorem nj_scheck (d : Nat) {i n : Int32} (h0 : ¬ i < 0) (h1 : i < n) (sz : Nat) : nj_Met l D ad adV cy sh yJ0_checkIndex_df160 cJ0_checkIndex_df160 2 none (nj_rm (d + 1)) [.int i, .int n] none sz mem := by
  refine nj_met (by decide +kernel) (fun p e s m below meth c C0 => ?_)
  have C1 := C0
  obtain ⟨hx, hb, hml, hown, hts, hr, hlocks, hK, hE, hP, hD⟩ := C0
  have hS : va_S (va_A (nw_pic ad cy mem 0 sh) s.heap.size) s.heap s.heap [] := va_S.rf
  have hl := lv_entry ([.int i, .int n]) (n := 2) (Nat.le_of_ble_eq_true rfl)
  rw [lg_entry_eq]
  generalize (lg_sl ([.int i, .int n]) ++ List.replicate (2 - (lg_sl ([.int i, .int n])).length) Slot.unset).toArray = ls at hl ⊢
  have hl : lv_has ls 2 [(0, .int i), (1, .int n)] := hl
  have hd0 : decode cJ0_checkIndex_df160 0 = .ok (.iload_n 0, 1) := by decide +kernel
  have hd1 : decode cJ0_checkIndex_df160 1 = .ok (.iload_n 1, 1) := by decide +kernel
  have hd2 : decode cJ0_checkIndex_df160 2 = .ok (.getstatic 1053, 3) := by decide +kernel
  have hd5 : decode cJ0_checkIndex_df160 5 = .ok (.invokestatic 1059, 3) := by decide +kernel
  have hd8 : decode cJ0_checkIndex_df160 8 = .ok (.pop, 1) := by decide +kernel
  have hd9 : decode cJ0_checkIndex_df160 9 = .ok (.return_, 1) := by decide +kernel
  obtain ⟨w1, w2, w3, w4, w5⟩ := nw_wCI
  have go : ∀ f : Value, (f = .null ∨ ∃ t, f = .ref t) → va_Z "jdk/internal/util/Preconditions" "SIOOBE_FORMATTER" "Ljava/util/function/BiFunction;" f (va_A (nw_pic ad cy mem 0 sh) s.heap.size) s s.heap → W p l e (nj_rm (d + 1)) s m ([.int i, .int n] : List Value).toArray below meth c s.heap [] 0 0 (MQ below (nw_Qr D ad cy sh (va_A (nw_pic ad cy mem 0 sh) s.heap.size) (nj_P none mem) none) ([.int i, .int n] : List Value).toArray s 0 0 (va_A (nw_pic ad cy mem 0 sh) s.heap.size)) (F0 m 0 ls []) := by
    intro f hf hZ
    refine lv_iload_n hx hb hd0 rfl (lv_at hl 0 rfl) ?_
    refine lv_iload_n hx hb hd1 rfl (lv_at hl 1 rfl) ?_
    refine va_gets hx hb hZ hS hown (hts _ w1) (fun _ h => h) hd2 ?_
    refine nj_cS C1 (As := [.int i, .int n, f]) (rest := []) (n := 3) (rm := nj_rm d) (nj_pcheck d h0 h1 f hf s.heap.size) w2 w3 w4 w5 (by decide +kernel) rfl rfl rfl ⟨by show d + 1 ≤ d + 1; omega, by show 8 + (3 + 11) + 64 * d ≤ 64 * (d + 1); omega⟩ (by decide) hd5 hl.1 hP hD hS (fun H1 locs1 hP1 hD1 hS1 => ?_)
    refine lv_pop hx hb hd8 rfl ?_
    exact W.vret hx hb hr (fun t ht hW => ⟨⟨mem, rfl, ⟨rfl, rfl⟩, by rw [ht]; exact hP1, hD1⟩, hS1.F ht⟩) hS1.2.2 hd9 hlocks
  rcases hE.2.2.2.2.2 with hZ | ⟨t, hZ⟩
  · exact go .null (Or.inl rfl) hZ
  · exact go (.ref t) (Or.inr ⟨t, rfl⟩) hZ
theorem nj_byte : ∀ j, j < 9 → ∀ k, k < nw_sn.getD j 0 → ((((nw_sb.getD j []).getD k 0) &&& 255).toUInt32 % 65536).toInt32 = (nw_sb.getD j []).getD k 0 ∧ narrow .char (.int ((nw_sb.getD j []).getD k 0)) = .int ((nw_sb.getD j []).getD k 0) := by decide +kernel
theorem nj_len : ∀ j, j < 9 → nw_sn.getD j 0 < 8 := by decide +kernel
theorem nj_lchar (d : Nat) {j : Nat} (hj : j < 9) {i : Int32} (hi : vp_in i (nw_sn.getD j 0)) (sz : Nat) : nj_Met l D ad adV cy sh yJ1_charAt_3b067 cJ1_charAt_3b067 2 (some .char) (nj_rm (d + 2)) [.ref (adV j), .int i] (some (.int ((nw_sb.getD j []).getD i.toNatClampNeg 0))) sz mem := by
  have hl8 := nj_len j hj
  obtain ⟨k, hk, rfl⟩ := vp_in_of hi (by omega)
  have hby := nj_byte j hj k hk
  have hcl := ni_cl (show k < 2 ^ 31 by omega)
  rw [hcl]
  refine nj_met (by decide +kernel) (fun p e s m below meth c C0 => ?_)
  have C1 := C0
  obtain ⟨hx, hb, hml, hown, hts, hr, hlocks, hK, hE, hP, hD⟩ := C0
  have hS : va_S (va_A (nw_pic ad cy mem 0 sh) s.heap.size) s.heap s.heap [] := va_S.rf
  have hl := lv_entry ([.ref (adV j), .int (nI k)]) (n := 2) (Nat.le_of_ble_eq_true rfl)
  rw [lg_entry_eq]
  generalize (lg_sl ([.ref (adV j), .int (nI k)]) ++ List.replicate (2 - (lg_sl ([.ref (adV j), .int (nI k)])).length) Slot.unset).toArray = ls at hl ⊢
  have hl : lv_has ls 2 [(0, .ref (adV j)), (1, .int (nI k))] := hl
  have hd0 : decode cJ1_charAt_3b067 0 = .ok (.iload_n 1, 1) := by decide +kernel
  have hd1 : decode cJ1_charAt_3b067 1 = .ok (.aload_n 0, 1) := by decide +kernel
  have hd2 : decode cJ1_charAt_3b067 2 = .ok (.arraylength, 1) := by decide +kernel
  have hd3 : decode cJ1_charAt_3b067 3 = .ok (.invokestatic 9, 3) := by decide +kernel
  have hd6 : decode cJ1_charAt_3b067 6 = .ok (.aload_n 0, 1) := by decide +kernel
  have hd7 : decode cJ1_charAt_3b067 7 = .ok (.iload_n 1, 1) := by decide +kernel
  have hd8 : decode cJ1_charAt_3b067 8 = .ok (.baload, 1) := by decide +kernel
  have hd9 : decode cJ1_charAt_3b067 9 = .ok (.sipush 255, 3) := by decide +kernel
  have hd12 : decode cJ1_charAt_3b067 12 = .ok (.iand, 1) := by decide +kernel
  have hd13 : decode cJ1_charAt_3b067 13 = .ok (.i2c, 1) := by decide +kernel
  have hd14 : decode cJ1_charAt_3b067 14 = .ok (.ireturn, 1) := by decide +kernel
  obtain ⟨w1, w2, w3⟩ := nw_wL1
  have hT := (hE.2.2.2.1.1 j hj).2.2.2
  refine lv_iload_n hx hb hd0 rfl (lv_at hl 1 rfl) ?_
  refine lv_aload_n hx hb hd1 rfl (lv_at hl 0 rfl) ?_
  refine va_tlen hx hb hT hS (v := nI (nw_sn.getD j 0)) rfl hd2 ?_
  refine nj_cS C1 (As := [.int (nI k), .int (nI (nw_sn.getD j 0))]) (rest := []) (n := 2) (rm := nj_rm (d + 1)) (nj_scheck d (nI_pos (by omega)) (nI_lt hk (by omega)) s.heap.size) w1 w2 nw_wL.2.2.2.1 w3 (by decide +kernel) rfl rfl rfl ⟨by show d + 1 + 1 ≤ d + 2; omega, by show 8 + (2 + 11) + 64 * (d + 1) ≤ 64 * (d + 2); omega⟩ (by decide) hd3 hl.1 hP hD hS (fun H1 locs1 hP1 hD1 hS1 => ?_)
  refine lv_aload_n hx hb hd6 rfl (lv_at hl 0 rfl) ?_
  refine lv_iload_n hx hb hd7 rfl (lv_at hl 1 rfl) ?_
  refine va_tb hx hb hT hS1 hi (v := .int ((nw_sb.getD j []).getD k 0)) (by rw [hcl]) hd8 ?_
  refine lv_sipush hx hb hd9 (v := 255) (by decide) ?_
  refine lv_iand hx hb hd12 ?_
  refine lv_i2c hx hb hd13 hby.1 ?_
  exact nj_ret C1 rfl hby.2 hd14 hP1 hD1 hS1
theorem nj_charAt {j : Nat} (hj : j < 9) {i : Int32} (hi : vp_in i (nw_sn.getD j 0)) (sz : Nat) : nj_Met l D ad adV cy sh yJ0_charAt_5068e cJ0_charAt_5068e 2 (some .char) (nw_rm 0) [.ref (ad (100 + j)), .int i] (some (.int ((nw_sb.getD j []).getD i.toNatClampNeg 0))) sz mem := by
  have hl8 := nj_len j hj
  have hnar : narrow .char (.int ((nw_sb.getD j []).getD i.toNatClampNeg 0)) = .int ((nw_sb.getD j []).getD i.toNatClampNeg 0) := by
    obtain ⟨k, hk, rfl⟩ := vp_in_of hi (by omega)
    rw [ni_cl (show k < 2 ^ 31 by omega)]
    exact (nj_byte j hj k hk).2
  refine nj_met (by decide +kernel) (fun p e s m below meth c C0 => ?_)
  have C1 := C0
  obtain ⟨hx, hb, hml, hown, hts, hr, hlocks, hK, hE, hP, hD⟩ := C0
  have hS : va_S (va_A (nw_pic ad cy mem 0 sh) s.heap.size) s.heap s.heap [] := va_S.rf
  have hl := lv_entry ([.ref (ad (100 + j)), .int i]) (n := 2) (Nat.le_of_ble_eq_true rfl)
  rw [lg_entry_eq]
  generalize (lg_sl ([.ref (ad (100 + j)), .int i]) ++ List.replicate (2 - (lg_sl ([.ref (ad (100 + j)), .int i])).length) Slot.unset).toArray = ls at hl ⊢
  have hl : lv_has ls 2 [(0, .ref (ad (100 + j))), (1, .int i)] := hl
  have hd0 : decode cJ0_charAt_5068e 0 = .ok (.aload_n 0, 1) := by decide +kernel
  have hd1 : decode cJ0_charAt_5068e 1 = .ok (.invokevirtual 492, 3) := by decide +kernel
  have hd4 : decode cJ0_charAt_5068e 4 = .ok (.ifCond .eq 12, 3) := by decide +kernel
  have hd7 : decode cJ0_charAt_5068e 7 = .ok (.aload_n 0, 1) := by decide +kernel
  have hd8 : decode cJ0_charAt_5068e 8 = .ok (.getfield 9, 3) := by decide +kernel
  have hd11 : decode cJ0_charAt_5068e 11 = .ok (.iload_n 1, 1) := by decide +kernel
  have hd12 : decode cJ0_charAt_5068e 12 = .ok (.invokestatic 495, 3) := by decide +kernel
  have hd15 : decode cJ0_charAt_5068e 15 = .ok (.ireturn, 1) := by decide +kernel
  obtain ⟨w1, w2, w3, w4, w5, w6, w7, w8⟩ := nw_wCha
  refine lv_aload_n hx hb hd0 rfl (lv_at hl 0 rfl) ?_
  refine nj_cV C1 hj (As := []) (rest := []) (n := 0) (rm := nj_rm 7) rfl (nj_isLatin1 7 hj s.heap.size) w1 w2 w3 nw_wL.2.2.2.1 w4 (by decide +kernel) rfl rfl rfl ⟨by decide, by decide⟩ (by decide) hd1 hl.1 hP hD hS (fun H1 locs1 hP1 hD1 hS1 => ?_)
  refine lv_if_eq hx hb hd4 (tgt := 16) (by decide) (fun q => absurd q (by decide)) (fun _ => ?_)
  refine lv_aload_n hx hb hd7 rfl (lv_at hl 0 rfl) ?_
  refine vk_getf hx hb ((hE.2.2.2.1.1 j hj).2.2.1) hS1 hown (hts _ nw_wLen.1) (fun _ h => h) hd8 ?_
  refine lv_iload_n hx hb hd11 rfl (lv_at hl 1 rfl) ?_
  refine nj_cS C1 (As := [.ref (adV j), .int i]) (rest := []) (n := 2) (rm := nj_rm 7) (nj_lchar 5 hj hi H1.size) w5 w6 w7 w8 (by decide +kernel) rfl rfl rfl ⟨by decide, by decide⟩ (by decide) hd12 hl.1 hP1 hD1 hS1 (fun H2 locs2 hP2 hD2 hS2 => ?_)
  exact nj_ret C1 rfl hnar hd15 hP2 hD2 hS2
theorem nj_shr : ∀ j, j < 9 → nI (nw_sn.getD j 0) >>> ((0 : Int32) &&& 31) = Int32.ofNat (nw_sn.getD j 0) := by decide +kernel
theorem nj_length {j : Nat} (hj : j < 9) (sz : Nat) : nj_Met l D ad adV cy sh yJ0_length_8abf5 cJ0_length_8abf5 1 (some .int) (nw_rm 0) [.ref (ad (100 + j))] (some (.int (Int32.ofNat (nw_sn.getD j 0)))) sz mem := by
  refine nj_met (by decide +kernel) (fun p e s m below meth c C0 => ?_)
  have C1 := C0
  obtain ⟨hx, hb, hml, hown, hts, hr, hlocks, hK, hE, hP, hD⟩ := C0
  have hS : va_S (va_A (nw_pic ad cy mem 0 sh) s.heap.size) s.heap s.heap [] := va_S.rf
  have hl := lv_entry ([.ref (ad (100 + j))]) (n := 1) (Nat.le_of_ble_eq_true rfl)
  rw [lg_entry_eq]
  generalize (lg_sl ([.ref (ad (100 + j))]) ++ List.replicate (1 - (lg_sl ([.ref (ad (100 + j))])).length) Slot.unset).toArray = ls at hl ⊢
  have hl : lv_has ls 1 [(0, .ref (ad (100 + j)))] := hl
  have hd0 : decode cJ0_length_8abf5 0 = .ok (.aload_n 0, 1) := by decide +kernel
  have hd1 : decode cJ0_length_8abf5 1 = .ok (.getfield 9, 3) := by decide +kernel
  have hd4 : decode cJ0_length_8abf5 4 = .ok (.arraylength, 1) := by decide +kernel
  have hd5 : decode cJ0_length_8abf5 5 = .ok (.aload_n 0, 1) := by decide +kernel
  have hd6 : decode cJ0_length_8abf5 6 = .ok (.invokevirtual 335, 3) := by decide +kernel
  have hd9 : decode cJ0_length_8abf5 9 = .ok (.ishr, 1) := by decide +kernel
  have hd10 : decode cJ0_length_8abf5 10 = .ok (.ireturn, 1) := by decide +kernel
  obtain ⟨w1, w2, w3, w4, w5, w6, w7⟩ := nw_wLen
  refine lv_aload_n hx hb hd0 rfl (lv_at hl 0 rfl) ?_
  refine vk_getf hx hb ((hE.2.2.2.1.1 j hj).2.2.1) hS hown (hts _ w1) (fun _ h => h) hd1 ?_
  refine va_tlen hx hb ((hE.2.2.2.1.1 j hj).2.2.2) hS (v := nI (nw_sn.getD j 0)) rfl hd4 ?_
  refine lv_aload_n hx hb hd5 rfl (lv_at hl 0 rfl) ?_
  refine nj_cV C1 hj (As := []) (rest := [.int (nI (nw_sn.getD j 0))]) (n := 0) (rm := nj_rm 7) rfl (nj_coder 7 hj s.heap.size) w2 w3 w4 nw_wL.2.2.2.1 w5 (by decide +kernel) rfl rfl rfl ⟨by decide, by decide⟩ (Nat.le_of_ble_eq_true rfl) hd6 hl.1 hP hD hS (fun H1 locs1 hP1 hD1 hS1 => ?_)
  refine lv_ishr hx hb hd9 ?_
  rw [nj_shr j hj]
  exact nj_ret C1 rfl rfl hd10 hP1 hD1 hS1
theorem nw_strL : nw_StrL l D ad adV cy sh := fun _ hj sz _ => nj_length hj sz
theorem nw_strC : nw_StrC l D ad adV cy sh := fun _ hj _ hi sz _ => nj_charAt hj hi sz
end NJM
theorem nw_shok_of {sh : nw_Sh} (h : ∀ c, c < sh.length → ∀ ci fs, sh[c]? = some (.inl (ci, fs)) → ∀ k, fs[k]? = some none → nw_int ci k) : nw_shok sh := fun c ci fs hc k hk => h c (List.getElem?_eq_some_iff.mp hc).1 ci fs hc k hk
