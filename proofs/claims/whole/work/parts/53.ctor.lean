/-! THE CONSTRUCTORS: printed by gen/ctor.py -/
def nc_Pre (D : va_G) (cy : Bool → ClassId) (ws : va_W) (sz : Nat) (U : State) : Prop := U.heap.size = sz ∧ va_P D nw_cls ws U.heap ∧ va_K D nw_cls (nw_ty cy) U ∧ va_D (fun _ => True) ws ∧ va_Nw (nw_nfw (0, 37, 3, 5)) U
theorem nc_blind {D : va_G} {cy : Bool → ClassId} {ws : va_W} {sz : Nat} {av : List Value} : FrameBlind (va_Pc av (nc_Pre D cy ws sz)) := by
  intro a U g mk q
  obtain ⟨q0, q1, qP, qK, qD, qE⟩ := q
  exact ⟨q0, q1, qP, va_K.moved (u := U) (U := U.calling g mk a) (Vm.Alike.refl U.vm) qK, qD, va_Nw.same (u := U) (U := U.calling g mk a) (nw_nfw_on _) rfl qE⟩
theorem nc_pre_at {D : va_G} {cy : Bool → ClassId} {ws : va_W} {A : Nat → Prop} {s U : State} {H : Heap} (hK : va_K D nw_cls (nw_ty cy) s) (hN : va_Nw (nw_nfw (0, 37, 3, 5)) s) (hP : va_P D nw_cls ws H) (hD : va_D A ws) (hU : U.heap = H) (hW : s.WarmedH U.vm) : nc_Pre D cy ws H.size U :=
  ⟨by rw [hU], by rw [hU]; exact hP, va_K.moved hW.alike hK, hD.weaken (fun _ _ _ _ => trivial), nw_nfw_warm hW _ hN⟩
section NC
variable {p : Program} {l : Launch} {e : Env} {R : Room} {s : State} {m : MethodId} {args : Array Value} {below : List Frame} {meth : Method} {c : Code} {H H0 : Heap} {locs : List Loc} {cells slots : Nat} {Q : State → Prop} {cc : ByteArray} {pc : Nat} {ls : Array Slot} {rest : List Value} {D : va_G} {cy : Bool → ClassId} {A : Nat → Prop} {ws : va_W}
theorem nc_newi (hx : p.tables.exec = Jvm.exec) (hb : c.code = cc) (harr : (Cond.arrayClass .int).before args s = true) (hK : va_K D nw_cls (nw_ty cy) s) (hP : va_P D nw_cls ws H) (hD : va_D A ws) (hS : va_S A H0 H locs) (hA : ∀ q, H0.size ≤ q → A q) {n : Int32} {N : Nat} (hn : ¬ n < 0) (hN : n.toNatClampNeg = N) (hbytes : N * componentBytes .int ≤ 536870912) (hcells : cells + 1 ≤ R.cells) (hslots : slots + N ≤ R.slots) (hdg : decode cc pc = .ok (.newarray .int, 2))
    (kk : ∀ (q : Nat) (H1 : Heap), va_P D nw_cls (ws ++ [(q, .inl (cy false, N, .inl (fun _ => 0)))]) H1 → va_D A (ws ++ [(q, .inl (cy false, N, .inl (fun _ => 0)))]) → va_S A H0 H1 locs → W p l e R s m args below meth c H1 locs (cells + 1) (slots + N) Q (F0 m (pc + 2) ls (.ref q :: rest))) : W p l e R s m args below meth c H locs cells slots Q (F0 m pc ls (.int n :: rest)) := by
  refine va_newa (atype := .int) (ty := .int) (tys := nw_ty cy) (a0 := (N, .inl (fun _ => 0))) hx hb harr rfl hK hP hD hS hA (fun _ => rfl) hn hN hbytes hcells hslots hdg (fun q cA H1 hK1 hP1 hD1 hS1 => ?_)
  have h1 : s.vm.findClass "[I" = some cA := (hK1.2 2 (cA, .int) rfl).2
  have h2 : s.vm.findClass "[I" = some (cy false) := (hK.2 0 (cy false, .int) rfl).2
  have h3 : cA = cy false := Option.some.inj (h1.symm.trans h2)
  subst h3
  exact kk q H1 hP1 hD1 hS1
theorem nc_newz (hx : p.tables.exec = Jvm.exec) (hb : c.code = cc) (harr : (Cond.arrayClass .boolean).before args s = true) (hK : va_K D nw_cls (nw_ty cy) s) (hP : va_P D nw_cls ws H) (hD : va_D A ws) (hS : va_S A H0 H locs) (hA : ∀ q, H0.size ≤ q → A q) {n : Int32} {N : Nat} (hn : ¬ n < 0) (hN : n.toNatClampNeg = N) (hbytes : N * componentBytes .boolean ≤ 536870912) (hcells : cells + 1 ≤ R.cells) (hslots : slots + N ≤ R.slots) (hdg : decode cc pc = .ok (.newarray .boolean, 2))
    (kk : ∀ (q : Nat) (H1 : Heap), va_P D nw_cls (ws ++ [(q, .inl (cy true, N, .inl (fun _ => 0)))]) H1 → va_D A (ws ++ [(q, .inl (cy true, N, .inl (fun _ => 0)))]) → va_S A H0 H1 locs → W p l e R s m args below meth c H1 locs (cells + 1) (slots + N) Q (F0 m (pc + 2) ls (.ref q :: rest))) : W p l e R s m args below meth c H locs cells slots Q (F0 m pc ls (.int n :: rest)) := by
  refine va_newa (atype := .boolean) (ty := .boolean) (tys := nw_ty cy) (a0 := (N, .inl (fun _ => 0))) hx hb harr rfl hK hP hD hS hA (fun _ => rfl) hn hN hbytes hcells hslots hdg (fun q cA H1 hK1 hP1 hD1 hS1 => ?_)
  have h1 : s.vm.findClass "[Z" = some cA := (hK1.2 2 (cA, .boolean) rfl).2
  have h2 : s.vm.findClass "[Z" = some (cy true) := (hK.2 1 (cy true, .boolean) rfl).2
  have h3 : cA = cy true := Option.some.inj (h1.symm.trans h2)
  subst h3
  exact kk q H1 hP1 hD1 hS1
end NC
set_option maxHeartbeats 4000000 in
set_option maxRecDepth 100000 in
theorem nc_X3 (l : Launch) (D : va_G) (cy : Bool → ClassId) (h0 sz : Nat) : Met l yX3_init (Cond.code yX3_init cX3_init 1 none :: nw_TBL) ({ frames := 2, cells := 1, slots := 200, locals := 128 } : Room) (va_Pc [.ref h0] (nc_Pre D cy [(h0, .inr (1, [.null, .int 0]))] sz)) (va_Qv (fun _ : Nat => True) (fun u t => match u with | q1 => va_P D nw_cls [(h0, .inr (1, [.ref q1, .int 0])), (q1, .inl (cy false, 200, .inl (fun _ => 0)))] t.heap ∧ va_D (va_A [(h0, .inr (1, [.null, .int 0]))] sz) [(h0, .inr (1, [.ref q1, .int 0])), (q1, .inl (cy false, 200, .inl (fun _ => 0)))]) (va_A [(h0, .inr (1, [.null, .int 0]))] sz)) 1 200 (va_A [(h0, .inr (1, [.null, .int 0]))] sz) := by
  refine Met.ofW (cc := cX3_init) (maxL := 1) (ret := none) (by decide +kernel) rfl ?_
  intro p e s m args below meth c s₁ B hml hv
  obtain ⟨rfl, hsz, hP, hK, hD0, hN⟩ := hv
  have hx := B.exec
  have hb := B.bytes
  have hr := B.returns
  have hts : ∀ w ∈ nw_TBL, w.before ([.ref h0] : List Value).toArray s = true := fun w hw => atoms_spec (ws := Cond.code yX3_init cX3_init 1 none :: nw_TBL) B.pre w (List.mem_cons_of_mem _ hw)
  have hown : s.vm.findClass RX3 = some m.cls := findClass_of_methodNamed B.named
  have hlocks := B.notSynchronized
  have hin : meth.name = "<init>" := (name_of_methodNamed B.named B.method).1
  subst hsz
  have hD := hD0.self (sz := s.heap.size)
  generalize hAe : va_A [(h0, .inr (1, [.null, .int 0]))] s.heap.size = A at hD ⊢
  have hA : ∀ q : Nat, s.heap.size ≤ q → A q := fun q h => by rw [← hAe]; exact Or.inr h
  have hS : va_S A s.heap s.heap [] := va_S.rf
  have hl := lv_entry ([.ref h0]) (n := 1) (Nat.le_of_ble_eq_true rfl)
  rw [lg_entry_eq]
  generalize (lg_sl ([.ref h0]) ++ List.replicate (1 - (lg_sl ([.ref h0])).length) Slot.unset).toArray = ls at hl ⊢
  have hl : lv_has ls 1 [(0, .ref h0)] := hl
  refine lv_aload_n hx hb (by decide +kernel : decode cX3_init 0 = .ok (.aload_n 0, 1)) rfl (lv_at hl 0 rfl) ?_
  refine W.objInit hx hb hown (hts _ (nw_in 68 (by decide +kernel) (by decide +kernel))) (hts _ (nw_in 61 (by decide +kernel) (by decide +kernel))) (hts _ (nw_in 62 (by decide +kernel) (by decide +kernel))) rfl (by rw [hml]; exact hl.1) rfl (by decide +kernel : decode cX3_init 1 = .ok (.invokespecial 3, 3)) (Nat.le_of_ble_eq_true rfl) (Nat.le_of_ble_eq_true rfl) ?_
  refine W.eq (g2 := F0 m 4 ls []) rfl ?_
  refine lv_aload_n hx hb (by decide +kernel : decode cX3_init 4 = .ok (.aload_n 0, 1)) rfl (lv_at hl 0 rfl) ?_
  refine lv_sipush (v := 200) hx hb (by decide +kernel : decode cX3_init 5 = .ok (.sipush 200, 3)) (by decide) ?_
  refine nc_newi hx hb (hts _ (nw_in 78 (by decide +kernel) (by decide +kernel))) hK hP hD hS hA (n := 200) (N := 200) (by decide) (by decide) (Nat.le_of_ble_eq_true rfl) (Nat.le_of_ble_eq_true rfl) (Nat.le_of_ble_eq_true rfl) (by decide +kernel : decode cX3_init 8 = .ok (.newarray .int, 2)) (fun q1 H hP hD hS => ?_)
  have hP : va_P D nw_cls [(h0, .inr (1, [.null, .int 0])), (q1, .inl (cy false, 200, .inl (fun _ => 0)))] H := hP
  have hD : va_D A [(h0, .inr (1, [.null, .int 0])), (q1, .inl (cy false, 200, .inl (fun _ => 0)))] := hD
  refine W.widen (k := 1) (n := 200) (by omega) (by omega) ?_
  refine va_putF (D := D) (ci := 1) (v := .ref q1) (C := RX3) (T := TX3) (N := 2) hx hb hts nw_uw_1 tyX3 tyX3_ok nmX3 hown hK hP hD hS 0 rfl rfl 0 (by decide) (hts _ (nw_in 69 (by decide +kernel) (by decide +kernel))) (fun _ h9 => h9) rfl hin rfl (tyX3_ok 0 (by decide)) rfl rfl (Nat.le_of_ble_eq_true rfl) (by decide +kernel : decode cX3_init 10 = .ok (.putfield 11, 3)) (fun H locs hP hD hS => ?_)
  have hP : va_P D nw_cls [(h0, .inr (1, [.ref q1, .int 0])), (q1, .inl (cy false, 200, .inl (fun _ => 0)))] H := hP
  have hD : va_D A [(h0, .inr (1, [.ref q1, .int 0])), (q1, .inl (cy false, 200, .inl (fun _ => 0)))] := hD
  refine lv_aload_n hx hb (by decide +kernel : decode cX3_init 13 = .ok (.aload_n 0, 1)) rfl (lv_at hl 0 rfl) ?_
  refine lv_iconst (v := 0) hx hb (by decide +kernel : decode cX3_init 14 = .ok (.iconst 0, 1)) (by decide) ?_
  refine va_put (D := D) (ci := 1) (v := .int 0) (C := RX3) (T := TX3) (N := 2) hx hb hts nw_uw_1 tyX3 tyX3_ok nmX3 hown hK hP hD hS 0 rfl rfl 1 (by decide) (hts _ (nw_in 70 (by decide +kernel) (by decide +kernel))) (fun _ h9 => h9) rfl (tyX3_ok 1 (by decide)) rfl rfl (Nat.le_of_ble_eq_true rfl) (by decide +kernel : decode cX3_init 15 = .ok (.putfield 15, 3)) (fun H locs hP hD hS => ?_)
  have hP : va_P D nw_cls [(h0, .inr (1, [.ref q1, .int 0])), (q1, .inl (cy false, 200, .inl (fun _ => 0)))] H := hP
  have hD : va_D A [(h0, .inr (1, [.ref q1, .int 0])), (q1, .inl (cy false, 200, .inl (fun _ => 0)))] := hD
  have hP9 := hP.sub (ws' := [(h0, .inr (1, [.ref q1, .int 0])), (q1, .inl (cy false, 200, .inl (fun _ => 0)))]) [0, 1] rfl
  have hD9 := hD.sub (ws' := [(h0, .inr (1, [.ref q1, .int 0])), (q1, .inl (cy false, 200, .inl (fun _ => 0)))]) [0, 1] (by decide) rfl
  exact W.vret hx hb hr (fun t ht hW => ⟨⟨q1, rfl, trivial, by rw [ht]; exact hP9, hD9⟩, hS.F ht⟩) hS.2.2 (by decide +kernel : decode cX3_init 18 = .ok (.return_, 1)) hlocks
set_option maxHeartbeats 4000000 in
set_option maxRecDepth 100000 in
theorem nc_X4 (l : Launch) (D : va_G) (cy : Bool → ClassId) (h0 sz : Nat) : Met l yX4_init (Cond.code yX4_init cX4_init 1 none :: nw_TBL) ({ frames := 2, cells := 3, slots := 48, locals := 128 } : Room) (va_Pc [.ref h0] (nc_Pre D cy [(h0, .inr (3, [.null, .null, .null, .int 0, .int 0, .int 0]))] sz)) (va_Qv (fun _ : Nat × Nat × Nat => True) (fun u t => match u with | (q1, q2, q3) => va_P D nw_cls [(h0, .inr (3, [.ref q1, .ref q2, .ref q3, .int 2, .int 0, .int 0])), (q1, .inl (cy false, 8, .inl (fun _ => 0))), (q2, .inl (cy false, 8, .inl (fun _ => 0))), (q3, .inl (cy false, 32, .inl (fun _ => 0)))] t.heap ∧ va_D (va_A [(h0, .inr (3, [.null, .null, .null, .int 0, .int 0, .int 0]))] sz) [(h0, .inr (3, [.ref q1, .ref q2, .ref q3, .int 2, .int 0, .int 0])), (q1, .inl (cy false, 8, .inl (fun _ => 0))), (q2, .inl (cy false, 8, .inl (fun _ => 0))), (q3, .inl (cy false, 32, .inl (fun _ => 0)))]) (va_A [(h0, .inr (3, [.null, .null, .null, .int 0, .int 0, .int 0]))] sz)) 3 48 (va_A [(h0, .inr (3, [.null, .null, .null, .int 0, .int 0, .int 0]))] sz) := by
  refine Met.ofW (cc := cX4_init) (maxL := 1) (ret := none) (by decide +kernel) rfl ?_
  intro p e s m args below meth c s₁ B hml hv
  obtain ⟨rfl, hsz, hP, hK, hD0, hN⟩ := hv
  have hx := B.exec
  have hb := B.bytes
  have hr := B.returns
  have hts : ∀ w ∈ nw_TBL, w.before ([.ref h0] : List Value).toArray s = true := fun w hw => atoms_spec (ws := Cond.code yX4_init cX4_init 1 none :: nw_TBL) B.pre w (List.mem_cons_of_mem _ hw)
  have hown : s.vm.findClass RX4 = some m.cls := findClass_of_methodNamed B.named
  have hlocks := B.notSynchronized
  have hin : meth.name = "<init>" := (name_of_methodNamed B.named B.method).1
  subst hsz
  have hD := hD0.self (sz := s.heap.size)
  generalize hAe : va_A [(h0, .inr (3, [.null, .null, .null, .int 0, .int 0, .int 0]))] s.heap.size = A at hD ⊢
  have hA : ∀ q : Nat, s.heap.size ≤ q → A q := fun q h => by rw [← hAe]; exact Or.inr h
  have hS : va_S A s.heap s.heap [] := va_S.rf
  have hl := lv_entry ([.ref h0]) (n := 1) (Nat.le_of_ble_eq_true rfl)
  rw [lg_entry_eq]
  generalize (lg_sl ([.ref h0]) ++ List.replicate (1 - (lg_sl ([.ref h0])).length) Slot.unset).toArray = ls at hl ⊢
  have hl : lv_has ls 1 [(0, .ref h0)] := hl
  refine lv_aload_n hx hb (by decide +kernel : decode cX4_init 0 = .ok (.aload_n 0, 1)) rfl (lv_at hl 0 rfl) ?_
  refine W.objInit hx hb hown (hts _ (nw_in 90 (by decide +kernel) (by decide +kernel))) (hts _ (nw_in 61 (by decide +kernel) (by decide +kernel))) (hts _ (nw_in 62 (by decide +kernel) (by decide +kernel))) rfl (by rw [hml]; exact hl.1) rfl (by decide +kernel : decode cX4_init 1 = .ok (.invokespecial 3, 3)) (Nat.le_of_ble_eq_true rfl) (Nat.le_of_ble_eq_true rfl) ?_
  refine W.eq (g2 := F0 m 4 ls []) rfl ?_
  refine lv_aload_n hx hb (by decide +kernel : decode cX4_init 4 = .ok (.aload_n 0, 1)) rfl (lv_at hl 0 rfl) ?_
  refine lv_bipush (v := 8) hx hb (by decide +kernel : decode cX4_init 5 = .ok (.bipush 8, 2)) (by decide) ?_
  refine nc_newi hx hb (hts _ (nw_in 78 (by decide +kernel) (by decide +kernel))) hK hP hD hS hA (n := 8) (N := 8) (by decide) (by decide) (Nat.le_of_ble_eq_true rfl) (Nat.le_of_ble_eq_true rfl) (Nat.le_of_ble_eq_true rfl) (by decide +kernel : decode cX4_init 7 = .ok (.newarray .int, 2)) (fun q1 H hP hD hS => ?_)
  have hP : va_P D nw_cls [(h0, .inr (3, [.null, .null, .null, .int 0, .int 0, .int 0])), (q1, .inl (cy false, 8, .inl (fun _ => 0)))] H := hP
  have hD : va_D A [(h0, .inr (3, [.null, .null, .null, .int 0, .int 0, .int 0])), (q1, .inl (cy false, 8, .inl (fun _ => 0)))] := hD
  refine W.widen (k := 1) (n := 8) (by omega) (by omega) ?_
  refine va_putF (D := D) (ci := 3) (v := .ref q1) (C := RX4) (T := TX4) (N := 6) hx hb hts nw_uw_3 tyX4 tyX4_ok nmX4 hown hK hP hD hS 0 rfl rfl 0 (by decide) (hts _ (nw_in 91 (by decide +kernel) (by decide +kernel))) (fun _ h9 => h9) rfl hin rfl (tyX4_ok 0 (by decide)) rfl rfl (Nat.le_of_ble_eq_true rfl) (by decide +kernel : decode cX4_init 9 = .ok (.putfield 11, 3)) (fun H locs hP hD hS => ?_)
  have hP : va_P D nw_cls [(h0, .inr (3, [.ref q1, .null, .null, .int 0, .int 0, .int 0])), (q1, .inl (cy false, 8, .inl (fun _ => 0)))] H := hP
  have hD : va_D A [(h0, .inr (3, [.ref q1, .null, .null, .int 0, .int 0, .int 0])), (q1, .inl (cy false, 8, .inl (fun _ => 0)))] := hD
  refine lv_aload_n hx hb (by decide +kernel : decode cX4_init 12 = .ok (.aload_n 0, 1)) rfl (lv_at hl 0 rfl) ?_
  refine lv_bipush (v := 8) hx hb (by decide +kernel : decode cX4_init 13 = .ok (.bipush 8, 2)) (by decide) ?_
  refine nc_newi hx hb (hts _ (nw_in 78 (by decide +kernel) (by decide +kernel))) hK hP hD hS hA (n := 8) (N := 8) (by decide) (by decide) (Nat.le_of_ble_eq_true rfl) (Nat.le_of_ble_eq_true rfl) (Nat.le_of_ble_eq_true rfl) (by decide +kernel : decode cX4_init 15 = .ok (.newarray .int, 2)) (fun q2 H hP hD hS => ?_)
  have hP : va_P D nw_cls [(h0, .inr (3, [.ref q1, .null, .null, .int 0, .int 0, .int 0])), (q1, .inl (cy false, 8, .inl (fun _ => 0))), (q2, .inl (cy false, 8, .inl (fun _ => 0)))] H := hP
  have hD : va_D A [(h0, .inr (3, [.ref q1, .null, .null, .int 0, .int 0, .int 0])), (q1, .inl (cy false, 8, .inl (fun _ => 0))), (q2, .inl (cy false, 8, .inl (fun _ => 0)))] := hD
  refine W.widen (k := 2) (n := 16) (by omega) (by omega) ?_
  refine va_putF (D := D) (ci := 3) (v := .ref q2) (C := RX4) (T := TX4) (N := 6) hx hb hts nw_uw_3 tyX4 tyX4_ok nmX4 hown hK hP hD hS 0 rfl rfl 1 (by decide) (hts _ (nw_in 92 (by decide +kernel) (by decide +kernel))) (fun _ h9 => h9) rfl hin rfl (tyX4_ok 1 (by decide)) rfl rfl (Nat.le_of_ble_eq_true rfl) (by decide +kernel : decode cX4_init 17 = .ok (.putfield 15, 3)) (fun H locs hP hD hS => ?_)
  have hP : va_P D nw_cls [(h0, .inr (3, [.ref q1, .ref q2, .null, .int 0, .int 0, .int 0])), (q1, .inl (cy false, 8, .inl (fun _ => 0))), (q2, .inl (cy false, 8, .inl (fun _ => 0)))] H := hP
  have hD : va_D A [(h0, .inr (3, [.ref q1, .ref q2, .null, .int 0, .int 0, .int 0])), (q1, .inl (cy false, 8, .inl (fun _ => 0))), (q2, .inl (cy false, 8, .inl (fun _ => 0)))] := hD
  refine lv_aload_n hx hb (by decide +kernel : decode cX4_init 20 = .ok (.aload_n 0, 1)) rfl (lv_at hl 0 rfl) ?_
  refine lv_bipush (v := 32) hx hb (by decide +kernel : decode cX4_init 21 = .ok (.bipush 32, 2)) (by decide) ?_
  refine nc_newi hx hb (hts _ (nw_in 78 (by decide +kernel) (by decide +kernel))) hK hP hD hS hA (n := 32) (N := 32) (by decide) (by decide) (Nat.le_of_ble_eq_true rfl) (Nat.le_of_ble_eq_true rfl) (Nat.le_of_ble_eq_true rfl) (by decide +kernel : decode cX4_init 23 = .ok (.newarray .int, 2)) (fun q3 H hP hD hS => ?_)
  have hP : va_P D nw_cls [(h0, .inr (3, [.ref q1, .ref q2, .null, .int 0, .int 0, .int 0])), (q1, .inl (cy false, 8, .inl (fun _ => 0))), (q2, .inl (cy false, 8, .inl (fun _ => 0))), (q3, .inl (cy false, 32, .inl (fun _ => 0)))] H := hP
  have hD : va_D A [(h0, .inr (3, [.ref q1, .ref q2, .null, .int 0, .int 0, .int 0])), (q1, .inl (cy false, 8, .inl (fun _ => 0))), (q2, .inl (cy false, 8, .inl (fun _ => 0))), (q3, .inl (cy false, 32, .inl (fun _ => 0)))] := hD
  refine W.widen (k := 3) (n := 48) (by omega) (by omega) ?_
  refine va_putF (D := D) (ci := 3) (v := .ref q3) (C := RX4) (T := TX4) (N := 6) hx hb hts nw_uw_3 tyX4 tyX4_ok nmX4 hown hK hP hD hS 0 rfl rfl 2 (by decide) (hts _ (nw_in 93 (by decide +kernel) (by decide +kernel))) (fun _ h9 => h9) rfl hin rfl (tyX4_ok 2 (by decide)) rfl rfl (Nat.le_of_ble_eq_true rfl) (by decide +kernel : decode cX4_init 25 = .ok (.putfield 18, 3)) (fun H locs hP hD hS => ?_)
  have hP : va_P D nw_cls [(h0, .inr (3, [.ref q1, .ref q2, .ref q3, .int 0, .int 0, .int 0])), (q1, .inl (cy false, 8, .inl (fun _ => 0))), (q2, .inl (cy false, 8, .inl (fun _ => 0))), (q3, .inl (cy false, 32, .inl (fun _ => 0)))] H := hP
  have hD : va_D A [(h0, .inr (3, [.ref q1, .ref q2, .ref q3, .int 0, .int 0, .int 0])), (q1, .inl (cy false, 8, .inl (fun _ => 0))), (q2, .inl (cy false, 8, .inl (fun _ => 0))), (q3, .inl (cy false, 32, .inl (fun _ => 0)))] := hD
  refine lv_aload_n hx hb (by decide +kernel : decode cX4_init 28 = .ok (.aload_n 0, 1)) rfl (lv_at hl 0 rfl) ?_
  refine lv_iconst (v := 2) hx hb (by decide +kernel : decode cX4_init 29 = .ok (.iconst 2, 1)) (by decide) ?_
  refine va_put (D := D) (ci := 3) (v := .int 2) (C := RX4) (T := TX4) (N := 6) hx hb hts nw_uw_3 tyX4 tyX4_ok nmX4 hown hK hP hD hS 0 rfl rfl 3 (by decide) (hts _ (nw_in 94 (by decide +kernel) (by decide +kernel))) (fun _ h9 => h9) rfl (tyX4_ok 3 (by decide)) rfl rfl (Nat.le_of_ble_eq_true rfl) (by decide +kernel : decode cX4_init 30 = .ok (.putfield 21, 3)) (fun H locs hP hD hS => ?_)
  have hP : va_P D nw_cls [(h0, .inr (3, [.ref q1, .ref q2, .ref q3, .int 2, .int 0, .int 0])), (q1, .inl (cy false, 8, .inl (fun _ => 0))), (q2, .inl (cy false, 8, .inl (fun _ => 0))), (q3, .inl (cy false, 32, .inl (fun _ => 0)))] H := hP
  have hD : va_D A [(h0, .inr (3, [.ref q1, .ref q2, .ref q3, .int 2, .int 0, .int 0])), (q1, .inl (cy false, 8, .inl (fun _ => 0))), (q2, .inl (cy false, 8, .inl (fun _ => 0))), (q3, .inl (cy false, 32, .inl (fun _ => 0)))] := hD
  refine lv_aload_n hx hb (by decide +kernel : decode cX4_init 33 = .ok (.aload_n 0, 1)) rfl (lv_at hl 0 rfl) ?_
  refine lv_iconst (v := 0) hx hb (by decide +kernel : decode cX4_init 34 = .ok (.iconst 0, 1)) (by decide) ?_
  refine va_put (D := D) (ci := 3) (v := .int 0) (C := RX4) (T := TX4) (N := 6) hx hb hts nw_uw_3 tyX4 tyX4_ok nmX4 hown hK hP hD hS 0 rfl rfl 4 (by decide) (hts _ (nw_in 97 (by decide +kernel) (by decide +kernel))) (fun _ h9 => h9) rfl (tyX4_ok 4 (by decide)) rfl rfl (Nat.le_of_ble_eq_true rfl) (by decide +kernel : decode cX4_init 35 = .ok (.putfield 25, 3)) (fun H locs hP hD hS => ?_)
  have hP : va_P D nw_cls [(h0, .inr (3, [.ref q1, .ref q2, .ref q3, .int 2, .int 0, .int 0])), (q1, .inl (cy false, 8, .inl (fun _ => 0))), (q2, .inl (cy false, 8, .inl (fun _ => 0))), (q3, .inl (cy false, 32, .inl (fun _ => 0)))] H := hP
  have hD : va_D A [(h0, .inr (3, [.ref q1, .ref q2, .ref q3, .int 2, .int 0, .int 0])), (q1, .inl (cy false, 8, .inl (fun _ => 0))), (q2, .inl (cy false, 8, .inl (fun _ => 0))), (q3, .inl (cy false, 32, .inl (fun _ => 0)))] := hD
  refine lv_aload_n hx hb (by decide +kernel : decode cX4_init 38 = .ok (.aload_n 0, 1)) rfl (lv_at hl 0 rfl) ?_
  refine lv_iconst (v := 0) hx hb (by decide +kernel : decode cX4_init 39 = .ok (.iconst 0, 1)) (by decide) ?_
  refine va_put (D := D) (ci := 3) (v := .int 0) (C := RX4) (T := TX4) (N := 6) hx hb hts nw_uw_3 tyX4 tyX4_ok nmX4 hown hK hP hD hS 0 rfl rfl 5 (by decide) (hts _ (nw_in 100 (by decide +kernel) (by decide +kernel))) (fun _ h9 => h9) rfl (tyX4_ok 5 (by decide)) rfl rfl (Nat.le_of_ble_eq_true rfl) (by decide +kernel : decode cX4_init 40 = .ok (.putfield 28, 3)) (fun H locs hP hD hS => ?_)
  have hP : va_P D nw_cls [(h0, .inr (3, [.ref q1, .ref q2, .ref q3, .int 2, .int 0, .int 0])), (q1, .inl (cy false, 8, .inl (fun _ => 0))), (q2, .inl (cy false, 8, .inl (fun _ => 0))), (q3, .inl (cy false, 32, .inl (fun _ => 0)))] H := hP
  have hD : va_D A [(h0, .inr (3, [.ref q1, .ref q2, .ref q3, .int 2, .int 0, .int 0])), (q1, .inl (cy false, 8, .inl (fun _ => 0))), (q2, .inl (cy false, 8, .inl (fun _ => 0))), (q3, .inl (cy false, 32, .inl (fun _ => 0)))] := hD
  have hP9 := hP.sub (ws' := [(h0, .inr (3, [.ref q1, .ref q2, .ref q3, .int 2, .int 0, .int 0])), (q1, .inl (cy false, 8, .inl (fun _ => 0))), (q2, .inl (cy false, 8, .inl (fun _ => 0))), (q3, .inl (cy false, 32, .inl (fun _ => 0)))]) [0, 1, 2, 3] rfl
  have hD9 := hD.sub (ws' := [(h0, .inr (3, [.ref q1, .ref q2, .ref q3, .int 2, .int 0, .int 0])), (q1, .inl (cy false, 8, .inl (fun _ => 0))), (q2, .inl (cy false, 8, .inl (fun _ => 0))), (q3, .inl (cy false, 32, .inl (fun _ => 0)))]) [0, 1, 2, 3] (by decide) rfl
  exact W.vret hx hb hr (fun t ht hW => ⟨⟨(q1, q2, q3), rfl, trivial, by rw [ht]; exact hP9, hD9⟩, hS.F ht⟩) hS.2.2 (by decide +kernel : decode cX4_init 43 = .ok (.return_, 1)) hlocks
set_option maxHeartbeats 4000000 in
set_option maxRecDepth 100000 in
theorem nc_X2 (l : Launch) (D : va_G) (cy : Bool → ClassId) (h0 sz : Nat) : Met l yX2_init (Cond.code yX2_init cX2_init 1 none :: nw_TBL) ({ frames := 4, cells := 4, slots := 54, locals := 256 } : Room) (va_Pc [.ref h0] (nc_Pre D cy [(h0, .inr (2, [.null, .int 0, .int 0, .int 0, .int 0]))] sz)) (va_Qv (fun _ : Nat × Nat × Nat × Nat => True) (fun u t => match u with | (q1, q2, q3, q4) => va_P D nw_cls [(h0, .inr (2, [.ref q1, .int 0, .int 0, .int 0, .int 0])), (q1, .inr (3, [.ref q2, .ref q3, .ref q4, .int 2, .int 0, .int 0])), (q2, .inl (cy false, 8, .inl (fun _ => 0))), (q3, .inl (cy false, 8, .inl (fun _ => 0))), (q4, .inl (cy false, 32, .inl (fun _ => 0)))] t.heap ∧ va_D (va_A [(h0, .inr (2, [.null, .int 0, .int 0, .int 0, .int 0]))] sz) [(h0, .inr (2, [.ref q1, .int 0, .int 0, .int 0, .int 0])), (q1, .inr (3, [.ref q2, .ref q3, .ref q4, .int 2, .int 0, .int 0])), (q2, .inl (cy false, 8, .inl (fun _ => 0))), (q3, .inl (cy false, 8, .inl (fun _ => 0))), (q4, .inl (cy false, 32, .inl (fun _ => 0)))]) (va_A [(h0, .inr (2, [.null, .int 0, .int 0, .int 0, .int 0]))] sz)) 4 54 (va_A [(h0, .inr (2, [.null, .int 0, .int 0, .int 0, .int 0]))] sz) := by
  refine Met.ofW (cc := cX2_init) (maxL := 1) (ret := none) (by decide +kernel) rfl ?_
  intro p e s m args below meth c s₁ B hml hv
  obtain ⟨rfl, hsz, hP, hK, hD0, hN⟩ := hv
  have hx := B.exec
  have hb := B.bytes
  have hr := B.returns
  have hts : ∀ w ∈ nw_TBL, w.before ([.ref h0] : List Value).toArray s = true := fun w hw => atoms_spec (ws := Cond.code yX2_init cX2_init 1 none :: nw_TBL) B.pre w (List.mem_cons_of_mem _ hw)
  have hown : s.vm.findClass RX2 = some m.cls := findClass_of_methodNamed B.named
  have hlocks := B.notSynchronized
  have hin : meth.name = "<init>" := (name_of_methodNamed B.named B.method).1
  subst hsz
  have hD := hD0.self (sz := s.heap.size)
  generalize hAe : va_A [(h0, .inr (2, [.null, .int 0, .int 0, .int 0, .int 0]))] s.heap.size = A at hD ⊢
  have hA : ∀ q : Nat, s.heap.size ≤ q → A q := fun q h => by rw [← hAe]; exact Or.inr h
  have hS : va_S A s.heap s.heap [] := va_S.rf
  have hl := lv_entry ([.ref h0]) (n := 1) (Nat.le_of_ble_eq_true rfl)
  rw [lg_entry_eq]
  generalize (lg_sl ([.ref h0]) ++ List.replicate (1 - (lg_sl ([.ref h0])).length) Slot.unset).toArray = ls at hl ⊢
  have hl : lv_has ls 1 [(0, .ref h0)] := hl
  refine lv_aload_n hx hb (by decide +kernel : decode cX2_init 0 = .ok (.aload_n 0, 1)) rfl (lv_at hl 0 rfl) ?_
  refine W.objInit hx hb hown (hts _ (nw_in 84 (by decide +kernel) (by decide +kernel))) (hts _ (nw_in 61 (by decide +kernel) (by decide +kernel))) (hts _ (nw_in 62 (by decide +kernel) (by decide +kernel))) rfl (by rw [hml]; exact hl.1) rfl (by decide +kernel : decode cX2_init 1 = .ok (.invokespecial 3, 3)) (Nat.le_of_ble_eq_true rfl) (Nat.le_of_ble_eq_true rfl) ?_
  refine W.eq (g2 := F0 m 4 ls []) rfl ?_
  refine lv_aload_n hx hb (by decide +kernel : decode cX2_init 4 = .ok (.aload_n 0, 1)) rfl (lv_at hl 0 rfl) ?_
  refine va_new (ci := 3) (fs := [.null, .null, .null, .int 0, .int 0, .int 0]) (C := RX4) (T := TX4) (N := 6) hx hb hts nw_uw_3 tyX4 tyX4_ok hown (hts _ (nw_in 85 (by decide +kernel) (by decide +kernel))) (hts _ (nw_in 86 (by decide +kernel) (by decide +kernel))) (hts _ (nw_in 45 (by decide +kernel) (by decide +kernel))) hK hP hD hS hA rfl (fun j hj => by rcases (show j = 0 ∨ j = 1 ∨ j = 2 ∨ j = 3 ∨ j = 4 ∨ j = 5 by omega) with rfl | rfl | rfl | rfl | rfl | rfl <;> rfl) (Nat.le_of_ble_eq_true rfl) (Nat.le_of_ble_eq_true rfl) (by decide +kernel : decode cX2_init 5 = .ok (.new 9, 3)) (fun q1 H hP hD hS => ?_)
  have hP : va_P D nw_cls [(h0, .inr (2, [.null, .int 0, .int 0, .int 0, .int 0])), (q1, .inr (3, [.null, .null, .null, .int 0, .int 0, .int 0]))] H := hP
  have hD : va_D A [(h0, .inr (2, [.null, .int 0, .int 0, .int 0, .int 0])), (q1, .inr (3, [.null, .null, .null, .int 0, .int 0, .int 0]))] := hD
  refine W.widen (k := 1) (n := 6) (by omega) (by omega) ?_
  refine lv_dup hx hb (by decide +kernel : decode cX2_init 8 = .ok (.dup, 1)) rfl ?_
  have hPc := hP.sub (ws' := [(q1, .inr (3, [.null, .null, .null, .int 0, .int 0, .int 0]))]) [1] rfl
  have hDc := hD.sub (ws' := [(q1, .inr (3, [.null, .null, .null, .int 0, .int 0, .int 0]))]) [1] (by decide) rfl
  have hFc := va_free (wc := [(q1, .inr (3, [.null, .null, .null, .int 0, .int 0, .int 0]))]) hD hS hA [1] rfl
  refine va_callv (va_runI (As := []) (rest := [.ref q1, .ref h0]) ⟨hx, hb, hml, hown, hts⟩ (nc_X4 l D cy q1 H.size) (cwI 0 hts (nw_good (fun w hw => (List.mem_cons.mp hw).elim (fun z => z ▸ (nw_in 89 (by decide +kernel) (by decide +kernel))) (fun z => z))) rfl rfl rfl (hts _ (nw_in 45 (by decide +kernel) (by decide +kernel))) (hts _ (nw_in 87 (by decide +kernel) (by decide +kernel))) (hts _ (nw_in 88 (by decide +kernel) (by decide +kernel))) rfl (by decide +kernel) ⟨Nat.le_of_ble_eq_true rfl, Nat.le_of_ble_eq_true rfl⟩) ⟨nc_blind, fun U hU hW => ⟨rfl, nc_pre_at hK hN hPc hDc hU hW⟩⟩ rfl rfl hl.1 rfl (lv_room (Nat.le_of_ble_eq_true rfl)) (by decide +kernel : decode cX2_init 9 = .ok (.invokespecial 11, 3)) ⟨Nat.le_of_ble_eq_true rfl, Nat.le_of_ble_eq_true rfl⟩) hS (fun q _ h => hFc q h) hFc (fun u t H1 locs ht hvm hw hB hz1 hk1 hS => ?_)
  obtain ⟨q2, q3, q4⟩ := u
  obtain ⟨hP1, hD1⟩ := hB
  rw [ht] at hP1
  obtain ⟨hP, hD⟩ := va_join (wr := [(h0, .inr (2, [.null, .int 0, .int 0, .int 0, .int 0]))]) (w1 := [(q1, .inr (3, [.ref q2, .ref q3, .ref q4, .int 2, .int 0, .int 0])), (q2, .inl (cy false, 8, .inl (fun _ => 0))), (q3, .inl (cy false, 8, .inl (fun _ => 0))), (q4, .inl (cy false, 32, .inl (fun _ => 0)))]) hP hD [1] [0] rfl rfl (by decide) (by decide) hk1 hFc hP1 hD1
  generalize H1 = H at hP hS ⊢
  have hP : va_P D nw_cls [(h0, .inr (2, [.null, .int 0, .int 0, .int 0, .int 0])), (q1, .inr (3, [.ref q2, .ref q3, .ref q4, .int 2, .int 0, .int 0])), (q2, .inl (cy false, 8, .inl (fun _ => 0))), (q3, .inl (cy false, 8, .inl (fun _ => 0))), (q4, .inl (cy false, 32, .inl (fun _ => 0)))] H := hP
  have hD : va_D A [(h0, .inr (2, [.null, .int 0, .int 0, .int 0, .int 0])), (q1, .inr (3, [.ref q2, .ref q3, .ref q4, .int 2, .int 0, .int 0])), (q2, .inl (cy false, 8, .inl (fun _ => 0))), (q3, .inl (cy false, 8, .inl (fun _ => 0))), (q4, .inl (cy false, 32, .inl (fun _ => 0)))] := hD
  refine W.widen (k := 4) (n := 54) (by omega) (by omega) ?_
  refine va_putF (D := D) (ci := 2) (v := .ref q1) (C := RX2) (T := TX2) (N := 5) hx hb hts nw_uw_2 tyX2 tyX2_ok nmX2 hown hK hP hD hS 0 rfl rfl 0 (by decide) (hts _ (nw_in 116 (by decide +kernel) (by decide +kernel))) (fun _ h9 => h9) rfl hin rfl (tyX2_ok 0 (by decide)) rfl rfl (Nat.le_of_ble_eq_true rfl) (by decide +kernel : decode cX2_init 12 = .ok (.putfield 12, 3)) (fun H locs hP hD hS => ?_)
  have hP : va_P D nw_cls [(h0, .inr (2, [.ref q1, .int 0, .int 0, .int 0, .int 0])), (q1, .inr (3, [.ref q2, .ref q3, .ref q4, .int 2, .int 0, .int 0])), (q2, .inl (cy false, 8, .inl (fun _ => 0))), (q3, .inl (cy false, 8, .inl (fun _ => 0))), (q4, .inl (cy false, 32, .inl (fun _ => 0)))] H := hP
  have hD : va_D A [(h0, .inr (2, [.ref q1, .int 0, .int 0, .int 0, .int 0])), (q1, .inr (3, [.ref q2, .ref q3, .ref q4, .int 2, .int 0, .int 0])), (q2, .inl (cy false, 8, .inl (fun _ => 0))), (q3, .inl (cy false, 8, .inl (fun _ => 0))), (q4, .inl (cy false, 32, .inl (fun _ => 0)))] := hD
  refine lv_aload_n hx hb (by decide +kernel : decode cX2_init 15 = .ok (.aload_n 0, 1)) rfl (lv_at hl 0 rfl) ?_
  refine lv_iconst (v := 0) hx hb (by decide +kernel : decode cX2_init 16 = .ok (.iconst 0, 1)) (by decide) ?_
  refine va_put (D := D) (ci := 2) (v := .int 0) (C := RX2) (T := TX2) (N := 5) hx hb hts nw_uw_2 tyX2 tyX2_ok nmX2 hown hK hP hD hS 0 rfl rfl 1 (by decide) (hts _ (nw_in 118 (by decide +kernel) (by decide +kernel))) (fun _ h9 => h9) rfl (tyX2_ok 1 (by decide)) rfl rfl (Nat.le_of_ble_eq_true rfl) (by decide +kernel : decode cX2_init 17 = .ok (.putfield 18, 3)) (fun H locs hP hD hS => ?_)
  have hP : va_P D nw_cls [(h0, .inr (2, [.ref q1, .int 0, .int 0, .int 0, .int 0])), (q1, .inr (3, [.ref q2, .ref q3, .ref q4, .int 2, .int 0, .int 0])), (q2, .inl (cy false, 8, .inl (fun _ => 0))), (q3, .inl (cy false, 8, .inl (fun _ => 0))), (q4, .inl (cy false, 32, .inl (fun _ => 0)))] H := hP
  have hD : va_D A [(h0, .inr (2, [.ref q1, .int 0, .int 0, .int 0, .int 0])), (q1, .inr (3, [.ref q2, .ref q3, .ref q4, .int 2, .int 0, .int 0])), (q2, .inl (cy false, 8, .inl (fun _ => 0))), (q3, .inl (cy false, 8, .inl (fun _ => 0))), (q4, .inl (cy false, 32, .inl (fun _ => 0)))] := hD
  refine lv_aload_n hx hb (by decide +kernel : decode cX2_init 20 = .ok (.aload_n 0, 1)) rfl (lv_at hl 0 rfl) ?_
  refine lv_iconst (v := 0) hx hb (by decide +kernel : decode cX2_init 21 = .ok (.iconst 0, 1)) (by decide) ?_
  refine va_put (D := D) (ci := 2) (v := .int 0) (C := RX2) (T := TX2) (N := 5) hx hb hts nw_uw_2 tyX2 tyX2_ok nmX2 hown hK hP hD hS 0 rfl rfl 2 (by decide) (hts _ (nw_in 120 (by decide +kernel) (by decide +kernel))) (fun _ h9 => h9) rfl (tyX2_ok 2 (by decide)) rfl rfl (Nat.le_of_ble_eq_true rfl) (by decide +kernel : decode cX2_init 22 = .ok (.putfield 22, 3)) (fun H locs hP hD hS => ?_)
  have hP : va_P D nw_cls [(h0, .inr (2, [.ref q1, .int 0, .int 0, .int 0, .int 0])), (q1, .inr (3, [.ref q2, .ref q3, .ref q4, .int 2, .int 0, .int 0])), (q2, .inl (cy false, 8, .inl (fun _ => 0))), (q3, .inl (cy false, 8, .inl (fun _ => 0))), (q4, .inl (cy false, 32, .inl (fun _ => 0)))] H := hP
  have hD : va_D A [(h0, .inr (2, [.ref q1, .int 0, .int 0, .int 0, .int 0])), (q1, .inr (3, [.ref q2, .ref q3, .ref q4, .int 2, .int 0, .int 0])), (q2, .inl (cy false, 8, .inl (fun _ => 0))), (q3, .inl (cy false, 8, .inl (fun _ => 0))), (q4, .inl (cy false, 32, .inl (fun _ => 0)))] := hD
  refine lv_aload_n hx hb (by decide +kernel : decode cX2_init 25 = .ok (.aload_n 0, 1)) rfl (lv_at hl 0 rfl) ?_
  refine lv_iconst (v := 0) hx hb (by decide +kernel : decode cX2_init 26 = .ok (.iconst 0, 1)) (by decide) ?_
  refine va_put (D := D) (ci := 2) (v := .int 0) (C := RX2) (T := TX2) (N := 5) hx hb hts nw_uw_2 tyX2 tyX2_ok nmX2 hown hK hP hD hS 0 rfl rfl 3 (by decide) (hts _ (nw_in 121 (by decide +kernel) (by decide +kernel))) (fun _ h9 => h9) rfl (tyX2_ok 3 (by decide)) rfl rfl (Nat.le_of_ble_eq_true rfl) (by decide +kernel : decode cX2_init 27 = .ok (.putfield 25, 3)) (fun H locs hP hD hS => ?_)
  have hP : va_P D nw_cls [(h0, .inr (2, [.ref q1, .int 0, .int 0, .int 0, .int 0])), (q1, .inr (3, [.ref q2, .ref q3, .ref q4, .int 2, .int 0, .int 0])), (q2, .inl (cy false, 8, .inl (fun _ => 0))), (q3, .inl (cy false, 8, .inl (fun _ => 0))), (q4, .inl (cy false, 32, .inl (fun _ => 0)))] H := hP
  have hD : va_D A [(h0, .inr (2, [.ref q1, .int 0, .int 0, .int 0, .int 0])), (q1, .inr (3, [.ref q2, .ref q3, .ref q4, .int 2, .int 0, .int 0])), (q2, .inl (cy false, 8, .inl (fun _ => 0))), (q3, .inl (cy false, 8, .inl (fun _ => 0))), (q4, .inl (cy false, 32, .inl (fun _ => 0)))] := hD
  refine lv_aload_n hx hb (by decide +kernel : decode cX2_init 30 = .ok (.aload_n 0, 1)) rfl (lv_at hl 0 rfl) ?_
  refine lv_iconst (v := 0) hx hb (by decide +kernel : decode cX2_init 31 = .ok (.iconst 0, 1)) (by decide) ?_
  refine va_put (D := D) (ci := 2) (v := .int 0) (C := RX2) (T := TX2) (N := 5) hx hb hts nw_uw_2 tyX2 tyX2_ok nmX2 hown hK hP hD hS 0 rfl rfl 4 (by decide) (hts _ (nw_in 122 (by decide +kernel) (by decide +kernel))) (fun _ h9 => h9) rfl (tyX2_ok 4 (by decide)) rfl rfl (Nat.le_of_ble_eq_true rfl) (by decide +kernel : decode cX2_init 32 = .ok (.putfield 28, 3)) (fun H locs hP hD hS => ?_)
  have hP : va_P D nw_cls [(h0, .inr (2, [.ref q1, .int 0, .int 0, .int 0, .int 0])), (q1, .inr (3, [.ref q2, .ref q3, .ref q4, .int 2, .int 0, .int 0])), (q2, .inl (cy false, 8, .inl (fun _ => 0))), (q3, .inl (cy false, 8, .inl (fun _ => 0))), (q4, .inl (cy false, 32, .inl (fun _ => 0)))] H := hP
  have hD : va_D A [(h0, .inr (2, [.ref q1, .int 0, .int 0, .int 0, .int 0])), (q1, .inr (3, [.ref q2, .ref q3, .ref q4, .int 2, .int 0, .int 0])), (q2, .inl (cy false, 8, .inl (fun _ => 0))), (q3, .inl (cy false, 8, .inl (fun _ => 0))), (q4, .inl (cy false, 32, .inl (fun _ => 0)))] := hD
  have hP9 := hP.sub (ws' := [(h0, .inr (2, [.ref q1, .int 0, .int 0, .int 0, .int 0])), (q1, .inr (3, [.ref q2, .ref q3, .ref q4, .int 2, .int 0, .int 0])), (q2, .inl (cy false, 8, .inl (fun _ => 0))), (q3, .inl (cy false, 8, .inl (fun _ => 0))), (q4, .inl (cy false, 32, .inl (fun _ => 0)))]) [0, 1, 2, 3, 4] rfl
  have hD9 := hD.sub (ws' := [(h0, .inr (2, [.ref q1, .int 0, .int 0, .int 0, .int 0])), (q1, .inr (3, [.ref q2, .ref q3, .ref q4, .int 2, .int 0, .int 0])), (q2, .inl (cy false, 8, .inl (fun _ => 0))), (q3, .inl (cy false, 8, .inl (fun _ => 0))), (q4, .inl (cy false, 32, .inl (fun _ => 0)))]) [0, 1, 2, 3, 4] (by decide) rfl
  exact W.vret hx hb hr (fun t ht hW => ⟨⟨(q1, q2, q3, q4), rfl, trivial, by rw [ht]; exact hP9, hD9⟩, hS.F ht⟩) hS.2.2 (by decide +kernel : decode cX2_init 35 = .ok (.return_, 1)) hlocks
