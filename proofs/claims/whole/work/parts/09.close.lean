/-! every step of the small machine's is the JVM's; its methods keep their contracts -/
section NWU
variable {p : Program} {l : Launch} {e : Env} {s : State} {m : MethodId} {args : Array Value} {below : List Frame} {meth : Method} {c : Code} {D : va_G} {ad adV : Nat → Nat} {cy : Bool → ClassId} {sh : nw_Sh} {d k : Nat} {A : Nat → Prop} {Z : State → Prop} {pc : Nat} {lv : nw_L} {st : List Value} {mem : nw_M}
theorem nw_nfw5 : nativeFrameWords "java/lang/System" "arraycopy" 5 + 11 ≤ 500 := by decide +kernel
/-- System.arraycopy -/
theorem nw_snd_cp (C0 : nw_Cx p l s m args meth c D ad adV cy sh k A) {i : Nat} (hO : nw_kO k = 3) (hi : i = 31) (hd : decode (nw_kB k) pc = .ok (.invokestatic i, 3)) (h : nw_cp sh (nw_W p l e s m args below meth c D ad cy sh d (nw_kL k) A Z) pc lv mem st) : nw_W p l e s m args below meth c D ad cy sh d (nw_kL k) A Z pc lv st mem := by
  obtain ⟨hx, hb, hml, hown, hts, hr, hlocks, hK, hE, hA, hSL, hSC⟩ := C0
  intro H locs ls hP hD hS hl
  unfold nw_cp at h
  split at h
  case h_2 => exact h.elim
  case h_1 n dp dd sp ss r =>
  split at h
  case h_2 => exact h.elim
  case h_1 ns nd e1 e2 =>
  obtain ⟨⟨h1, h2, h3, h4, h5, rfl⟩, h6⟩ := h
  have g1 := nw_al_ok e1
  have g2 := nw_al_ok e2
  rw [hO] at hown
  obtain ⟨w1, w2, w3, w4⟩ := nw_cp_ok
  subst hi
  have hset : (nw_pic ad cy mem 0 sh).set dd (ad dd, .inl (cy false, nd, .inl (va_cpy (mem ss) (mem dd) sp.toNatClampNeg dp.toNatClampNeg n.toNatClampNeg))) = nw_pic ad cy (nw_row mem dd (va_cpy (mem ss) (mem dd) sp.toNatClampNeg dp.toNatClampNeg n.toNatClampNeg)) 0 sh := by
    refine nw_pic_set g2 (fun q hq => nw_row_ne hq) ?_
    simp only [nw_cel, nw_row_eq]
  have hwd := nw_nfw5
  refine va_copyi (D := D) (cl := nw_cls) (tys := nw_ty cy) (ws := nw_pic ad cy mem 0 sh) (A := A) (H0 := s.heap) hx hb (by rw [hml]; exact hl.1.1.symm) hown (hts _ w1) (hts _ w2) (hts _ w3) (hts _ w4) hK hP hD hS ss dd 0 0 (nw_pic_at g1) (nw_pic_at g2) rfl rfl rfl h1 h2 h3 h4 h5 (fun _ _ => rfl) (by show 1 ≤ d + 1 + 8; omega) ?_ hd (fun H1 locs1 hP1 hD1 hS1 => ?_)
  · show 0 + _ ≤ 64 * (d + 1 + 8)
    omega
  · rw [hset] at hP1 hD1
    exact h6 H1 locs1 ls hP1 hD1 hS1 hl
theorem nw_room0 (x : Nat) (hx : x ≤ 40) : (nw_rm 0).frames + 1 ≤ (nw_rm (d + 1)).frames ∧ 8 + (x + 11) + (nw_rm 0).locals ≤ (nw_rm (d + 1)).locals := by
  refine ⟨?_, ?_⟩
  · show 0 + 8 + 1 ≤ d + 1 + 8
    omega
  · show 8 + (x + 11) + 64 * (0 + 8) ≤ 64 * (d + 1 + 8)
    omega
/-- String.length of a constant -/
theorem nw_snd_sl (C0 : nw_Cx p l s m args meth c D ad adV cy sh k A) {i : Nat} (hO : nw_kO k = 2) (hi : i = 100) (hd : decode (nw_kB k) pc = .ok (.invokevirtual i, 3)) (h : nw_sl nw_sn (nw_W p l e s m args below meth c D ad cy sh d (nw_kL k) A Z) pc lv mem st) : nw_W p l e s m args below meth c D ad cy sh d (nw_kL k) A Z pc lv st mem := by
  obtain ⟨hx, hb, hml, hown, hts, hr, hlocks, hK, hE, hA, hSL, hSC⟩ := C0
  intro H locs ls hP hD hS hl
  unfold nw_sl at h
  split at h
  case h_2 => exact h.elim
  case h_1 a r =>
  obtain ⟨⟨h1, h2, h3⟩, h4⟩ := h
  obtain ⟨j, rfl⟩ : ∃ j : Nat, a = 100 + j := ⟨a - 100, (Nat.add_sub_of_le h1).symm⟩
  rw [Nat.add_sub_cancel_left] at h2 h4
  have hj : j < 9 := h2
  rw [hO] at hown
  subst hi
  obtain ⟨w1, w2, w3, w4, w5⟩ := nw_wL
  have hin : ∀ w ∈ (Cond.code yJ0_length_8abf5 cJ0_length_8abf5 1 (some .int) :: nw_TBL), w ∈ nw_TBL := fun w hw => (List.mem_cons.mp hw).elim (fun q => q ▸ w5) (fun q => q)
  have hgi : GoodIn nw_TBL (wsV RX2 100 RJ0 yJ0_length_8abf5 (Cond.code yJ0_length_8abf5 cJ0_length_8abf5 1 (some .int) :: nw_TBL)) := by
    refine nw_good (fun w hw => ?_)
    rcases List.mem_append.mp hw with hw | hw
    · simp only [List.mem_cons, List.not_mem_nil, or_false] at hw
      rcases hw with rfl | rfl | rfl | rfl
      · exact w1
      · exact w2
      · exact w3
      · exact w4
    · exact hin w hw
  have hcw := cwV (R := nw_rm (d + 1)) (s := s) (args := args) (rm := nw_rm 0) (mc := 0) (ms := 0) 0 hts hgi rfl rfl rfl (by decide +kernel) (nw_room0 1 (by decide))
  have hpv : PreV s H RJ0 (ad (100 + j)) (va_Pc [.ref (ad (100 + j))] (nw_Pre D ad adV cy sh H.size mem)) [] := ⟨nw_blind, vk_recv (adK := fun j => ad (100 + j)) (i := j) hE.2.2.2.1 hj hS, fun U q1 q2 => ⟨rfl, nw_pre_at hK hE hA hP hD hS q1 q2⟩⟩
  have hrun := va_runV (e := e) (below := below) (meth := meth) (locs := locs) (cells := 0) (slots := 0) (cc := nw_kB k) (nL := nw_kL k) (g := F0 m pc ls (.ref (ad (100 + j)) :: r.map (nw_tv ad))) (rest := r.map (nw_tv ad)) ⟨hx, hb, hml, hown, hts⟩ (hSL j hj H.size mem) hcw hpv rfl rfl hl.1.1 rfl (lv_room (nw_sml_ok h3)) hd ⟨Nat.le_refl 0, Nat.le_refl 0⟩
  refine nw_after hD hS hA hrun (fun v mem' H1 locs1 _ hv hP1 hD1 hS1 => ?_)
  obtain ⟨rfl, rfl⟩ := hv
  exact h4 H1 locs1 ls hP1 hD1 hS1 hl
theorem nw_snd_sc (C0 : nw_Cx p l s m args meth c D ad adV cy sh k A) {i : Nat} (hO : nw_kO k = 2) (hi : i = 105) (hd : decode (nw_kB k) pc = .ok (.invokevirtual i, 3)) (h : nw_sc nw_sn nw_sb (nw_W p l e s m args below meth c D ad cy sh d (nw_kL k) A Z) pc lv mem st) : nw_W p l e s m args below meth c D ad cy sh d (nw_kL k) A Z pc lv st mem := by
  obtain ⟨hx, hb, hml, hown, hts, hr, hlocks, hK, hE, hA, hSL, hSC⟩ := C0
  intro H locs ls hP hD hS hl
  unfold nw_sc at h
  split at h
  case h_2 => exact h.elim
  case h_1 ix a r =>
  obtain ⟨⟨h1, h2, h3, h5⟩, h4⟩ := h
  obtain ⟨j, rfl⟩ : ∃ j : Nat, a = 100 + j := ⟨a - 100, (Nat.add_sub_of_le h1).symm⟩
  rw [Nat.add_sub_cancel_left] at h2 h4 h5
  have hj : j < 9 := h2
  rw [hO] at hown
  subst hi
  obtain ⟨w1, w2, w3, w4, w5⟩ := nw_wC
  have hin : ∀ w ∈ (Cond.code yJ0_charAt_5068e cJ0_charAt_5068e 2 (some .char) :: nw_TBL), w ∈ nw_TBL := fun w hw => (List.mem_cons.mp hw).elim (fun q => q ▸ w5) (fun q => q)
  have hgi : GoodIn nw_TBL (wsV RX2 105 RJ0 yJ0_charAt_5068e (Cond.code yJ0_charAt_5068e cJ0_charAt_5068e 2 (some .char) :: nw_TBL)) := by
    refine nw_good (fun w hw => ?_)
    rcases List.mem_append.mp hw with hw | hw
    · simp only [List.mem_cons, List.not_mem_nil, or_false] at hw
      rcases hw with rfl | rfl | rfl | rfl
      · exact w1
      · exact w2
      · exact w3
      · exact w4
    · exact hin w hw
  have hcw := cwV (R := nw_rm (d + 1)) (s := s) (args := args) (rm := nw_rm 0) (mc := 0) (ms := 0) 1 hts hgi rfl rfl rfl (by decide +kernel) (nw_room0 2 (by decide))
  have hpv : PreV s H RJ0 (ad (100 + j)) (va_Pc [.ref (ad (100 + j)), .int ix] (nw_Pre D ad adV cy sh H.size mem)) [.int ix] := ⟨nw_blind, vk_recv (adK := fun j => ad (100 + j)) (i := j) hE.2.2.2.1 hj hS, fun U q1 q2 => ⟨rfl, nw_pre_at hK hE hA hP hD hS q1 q2⟩⟩
  have hrun := va_runV (e := e) (below := below) (meth := meth) (locs := locs) (cells := 0) (slots := 0) (cc := nw_kB k) (nL := nw_kL k) (g := F0 m pc ls (.int ix :: .ref (ad (100 + j)) :: r.map (nw_tv ad))) (rest := r.map (nw_tv ad)) ⟨hx, hb, hml, hown, hts⟩ (hSC j hj ix h5 H.size mem) hcw hpv rfl rfl hl.1.1 rfl (lv_room (nw_sml_ok h3)) hd ⟨Nat.le_refl 0, Nat.le_refl 0⟩
  refine nw_after hD hS hA hrun (fun v mem' H1 locs1 _ hv hP1 hD1 hS1 => ?_)
  obtain ⟨rfl, rfl⟩ := hv
  exact h4 H1 locs1 ls hP1 hD1 hS1 hl
/-- every instruction that is no call and no return -/
theorem nw_snd_S (C0 : nw_Cx p l s m args meth c D ad adV cy sh k A) (hso : nw_shok sh) {i : Instr} {n : Nat} (hd : decode (nw_kB k) pc = .ok (i, n)) (hn : nw_lk i n = true) (ht : nw_tk pc i = true) (h : nw_on (nw_S nw_rF nw_rC nw_rL nw_rS (nw_kO k) sh pc lv mem st i) (nw_A (nw_W p l e s m args below meth c D ad cy sh d (nw_kL k) A Z))) : nw_W p l e s m args below meth c D ad cy sh d (nw_kL k) A Z pc lv st mem := by
  have hx := C0.1
  have hb := C0.2.1
  have hown := C0.2.2.2.1
  have hts := C0.2.2.2.2.1
  have hK := C0.2.2.2.2.2.2.2.1
  cases i
  case iconst x =>
    obtain rfl : n = 1 := eq_of_beq hn
    exact fun H locs ls hP hD hS hl => lv_iconst hx hb hd rfl (h H locs ls hP hD hS hl)
  case bipush x =>
    obtain rfl : n = 2 := eq_of_beq hn
    exact fun H locs ls hP hD hS hl => lv_bipush hx hb hd rfl (h H locs ls hP hD hS hl)
  case sipush x =>
    obtain rfl : n = 3 := eq_of_beq hn
    exact fun H locs ls hP hD hS hl => lv_sipush hx hb hd rfl (h H locs ls hP hD hS hl)
  case lconst x =>
    obtain rfl : n = 1 := eq_of_beq hn
    exact fun H locs ls hP hD hS hl => lv_lconst hx hb hd rfl (h H locs ls hP hD hS hl)
  case iload i =>
    obtain rfl : n = 2 := eq_of_beq hn
    obtain ⟨x, e1, h⟩ := nw_ldI_inv h
    exact fun H locs ls hP hD hS hl => lv_iload hx hb hd (nw_lr_ld hl e1) (h H locs ls hP hD hS hl)
  case iload_n i =>
    obtain rfl : n = 1 := eq_of_beq hn
    obtain ⟨x, e1, h⟩ := nw_ldI_inv h
    exact fun H locs ls hP hD hS hl => lv_iload_n hx hb hd rfl (nw_lr_ld hl e1) (h H locs ls hP hD hS hl)
  case lload i =>
    obtain rfl : n = 2 := eq_of_beq hn
    obtain ⟨x, e1, h⟩ := nw_ldL_inv h
    exact fun H locs ls hP hD hS hl => lv_lload hx hb hd (nw_lr_ld hl e1) (h H locs ls hP hD hS hl)
  case lload_n i =>
    obtain rfl : n = 1 := eq_of_beq hn
    obtain ⟨x, e1, h⟩ := nw_ldL_inv h
    exact fun H locs ls hP hD hS hl => lv_lload_n hx hb hd rfl (nw_lr_ld hl e1) (h H locs ls hP hD hS hl)
  case aload i =>
    obtain rfl : n = 2 := eq_of_beq hn
    obtain ⟨x, e1, h⟩ := nw_ldR_inv h
    exact fun H locs ls hP hD hS hl => lv_aload hx hb hd (nw_lr_ld hl e1) (h H locs ls hP hD hS hl)
  case aload_n i =>
    obtain rfl : n = 1 := eq_of_beq hn
    obtain ⟨x, e1, h⟩ := nw_ldR_inv h
    exact fun H locs ls hP hD hS hl => lv_aload_n hx hb hd rfl (nw_lr_ld hl e1) (h H locs ls hP hD hS hl)
  case istore i =>
    obtain rfl : n = 2 := eq_of_beq hn
    obtain ⟨x, r, lv', rfl, e1, h⟩ := nw_stI_inv h
    exact fun H locs ls hP hD hS hl => lv_istore hx hb hd hl.1 (nw_lr_lt hl e1) rfl (fun ls' hl' => h H locs ls' hP hD hS (nw_lr_st hl e1 hl'))
  case istore_n i =>
    obtain rfl : n = 1 := eq_of_beq hn
    obtain ⟨x, r, lv', rfl, e1, h⟩ := nw_stI_inv h
    exact fun H locs ls hP hD hS hl => lv_istore_n hx hb hd rfl hl.1 (nw_lr_lt hl e1) rfl (fun ls' hl' => h H locs ls' hP hD hS (nw_lr_st hl e1 hl'))
  case astore i =>
    obtain rfl : n = 2 := eq_of_beq hn
    obtain ⟨x, r, lv', rfl, e1, h⟩ := nw_stR_inv h
    exact fun H locs ls hP hD hS hl => lv_astore hx hb hd hl.1 (nw_lr_lt hl e1) rfl (fun ls' hl' => h H locs ls' hP hD hS (nw_lr_st hl e1 hl'))
  case astore_n i =>
    obtain rfl : n = 1 := eq_of_beq hn
    obtain ⟨x, r, lv', rfl, e1, h⟩ := nw_stR_inv h
    exact fun H locs ls hP hD hS hl => lv_astore_n hx hb hd rfl hl.1 (nw_lr_lt hl e1) rfl (fun ls' hl' => h H locs ls' hP hD hS (nw_lr_st hl e1 hl'))
  case iinc i x =>
    obtain rfl : n = 3 := eq_of_beq hn
    simp only [nw_S] at h
    split at h
    · rename_i y e1
      split at h
      · rename_i lv' e2
        intro H locs ls hP hD hS hl
        have hg := nw_as_get ad lv 0 i _ e1
        rw [Nat.zero_add] at hg
        obtain ⟨q, hq⟩ := List.getElem?_of_mem hg
        exact lv_iinc (k := q) hx hb hd hl.1 hq rfl (nw_lr_lt hl e2) rfl (fun ls' hl' => h H locs ls' hP hD hS (nw_lr_st hl e2 hl'))
      · exact (nw_on_none h).elim
    · exact (nw_on_none h).elim
  case iadd =>
    obtain rfl : n = 1 := eq_of_beq hn
    obtain ⟨x, y, r, rfl, h⟩ := nw_i2_inv h
    exact fun H locs ls hP hD hS hl => lv_iadd hx hb hd (h H locs ls hP hD hS hl)
  case isub =>
    obtain rfl : n = 1 := eq_of_beq hn
    obtain ⟨x, y, r, rfl, h⟩ := nw_i2_inv h
    exact fun H locs ls hP hD hS hl => lv_isub hx hb hd (h H locs ls hP hD hS hl)
  case imul =>
    obtain rfl : n = 1 := eq_of_beq hn
    obtain ⟨x, y, r, rfl, h⟩ := nw_i2_inv h
    exact fun H locs ls hP hD hS hl => lv_imul hx hb hd (h H locs ls hP hD hS hl)
  case iand =>
    obtain rfl : n = 1 := eq_of_beq hn
    obtain ⟨x, y, r, rfl, h⟩ := nw_i2_inv h
    exact fun H locs ls hP hD hS hl => lv_iand hx hb hd (h H locs ls hP hD hS hl)
  case ior =>
    obtain rfl : n = 1 := eq_of_beq hn
    obtain ⟨x, y, r, rfl, h⟩ := nw_i2_inv h
    exact fun H locs ls hP hD hS hl => lv_ior hx hb hd (h H locs ls hP hD hS hl)
  case ixor =>
    obtain rfl : n = 1 := eq_of_beq hn
    obtain ⟨x, y, r, rfl, h⟩ := nw_i2_inv h
    exact fun H locs ls hP hD hS hl => lv_ixor hx hb hd (h H locs ls hP hD hS hl)
  case ishl =>
    obtain rfl : n = 1 := eq_of_beq hn
    obtain ⟨x, y, r, rfl, h⟩ := nw_i2_inv h
    exact fun H locs ls hP hD hS hl => lv_ishl hx hb hd (h H locs ls hP hD hS hl)
  case ishr =>
    obtain rfl : n = 1 := eq_of_beq hn
    obtain ⟨x, y, r, rfl, h⟩ := nw_i2_inv h
    exact fun H locs ls hP hD hS hl => lv_ishr hx hb hd (h H locs ls hP hD hS hl)
  case idiv =>
    obtain rfl : n = 1 := eq_of_beq hn
    obtain ⟨x, y, r, rfl, h⟩ := nw_i2_inv h
    exact fun H locs ls hP hD hS hl => lv_idiv hx hb hd h.1 (h.2 H locs ls hP hD hS hl)
  case irem =>
    obtain rfl : n = 1 := eq_of_beq hn
    obtain ⟨x, y, r, rfl, h⟩ := nw_i2_inv h
    exact fun H locs ls hP hD hS hl => lv_irem hx hb hd h.1 (h.2 H locs ls hP hD hS hl)
  case ineg =>
    obtain rfl : n = 1 := eq_of_beq hn
    obtain ⟨x, r, rfl, h⟩ := nw_i1_inv h
    exact fun H locs ls hP hD hS hl => lv_ineg hx hb hd (h H locs ls hP hD hS hl)
  case i2l =>
    obtain rfl : n = 1 := eq_of_beq hn
    obtain ⟨x, r, rfl, h⟩ := nw_i1_inv h
    exact fun H locs ls hP hD hS hl => lv_i2l hx hb hd rfl (h H locs ls hP hD hS hl)
  case l2i =>
    obtain rfl : n = 1 := eq_of_beq hn
    obtain ⟨x, r, rfl, h⟩ := nw_l1_inv h
    exact fun H locs ls hP hD hS hl => lv_l2i hx hb hd rfl (h H locs ls hP hD hS hl)
  case land =>
    obtain rfl : n = 1 := eq_of_beq hn
    obtain ⟨x, y, r, rfl, h⟩ := nw_l2_inv h
    exact fun H locs ls hP hD hS hl => lv_land hx hb hd (h H locs ls hP hD hS hl)
  case lor =>
    obtain rfl : n = 1 := eq_of_beq hn
    obtain ⟨x, y, r, rfl, h⟩ := nw_l2_inv h
    exact fun H locs ls hP hD hS hl => lv_lor hx hb hd (h H locs ls hP hD hS hl)
  case lcmp =>
    obtain rfl : n = 1 := eq_of_beq hn
    obtain ⟨x, y, r, rfl, h⟩ := nw_l2_inv h
    exact fun H locs ls hP hD hS hl => W.lcmp hx hb hd (h H locs ls hP hD hS hl)
  case lshl =>
    obtain rfl : n = 1 := eq_of_beq hn
    obtain ⟨x, y, r, rfl, h⟩ := nw_li_inv h
    exact fun H locs ls hP hD hS hl => lv_lshl hx hb hd rfl (h H locs ls hP hD hS hl)
  case lshr =>
    obtain rfl : n = 1 := eq_of_beq hn
    obtain ⟨x, y, r, rfl, h⟩ := nw_li_inv h
    exact fun H locs ls hP hD hS hl => lv_lshr hx hb hd rfl (h H locs ls hP hD hS hl)
  case pop =>
    obtain rfl : n = 1 := eq_of_beq hn
    simp only [nw_S] at h
    split at h
    · exact fun H locs ls hP hD hS hl => lv_pop hx hb hd rfl (h H locs ls hP hD hS hl)
    · exact (nw_on_none h).elim
  case dup =>
    obtain rfl : n = 1 := eq_of_beq hn
    simp only [nw_S] at h
    split at h
    · exact fun H locs ls hP hD hS hl => lv_dup hx hb hd rfl (h H locs ls hP hD hS hl)
    · exact fun H locs ls hP hD hS hl => lv_dup hx hb hd rfl (h H locs ls hP hD hS hl)
    · exact (nw_on_none h).elim
  case dup2 =>
    obtain rfl : n = 1 := eq_of_beq hn
    simp only [nw_S] at h
    split at h
    · exact fun H locs ls hP hD hS hl => lv_dup2_11 hx hb hd rfl rfl (h H locs ls hP hD hS hl)
    · exact (nw_on_none h).elim
  case goto off =>
    obtain rfl : n = 3 := eq_of_beq hn
    exact fun H locs ls hP hD hS hl => lv_goto hx hb hd (nw_nn_t ht) (h H locs ls hP hD hS hl)
  case if_icmp cd off =>
    obtain rfl : n = 3 := eq_of_beq hn
    obtain ⟨x, y, r, rfl, h⟩ := nw_i2_inv h
    exact nw_snd_cmp hx hb ht hd h
  case ifCond cd off =>
    obtain rfl : n = 3 := eq_of_beq hn
    obtain ⟨x, r, rfl, h⟩ := nw_i1_inv h
    exact nw_snd_if hx hb ht hd h
  case tableswitch df lo hi offs =>
    obtain ⟨x, r, rfl, h⟩ := nw_i1_inv h
    simp only [nw_tk, Bool.and_eq_true, decide_eq_true_eq] at ht
    obtain ⟨⟨t1, t2⟩, t3⟩ := ht
    intro H locs ls hP hD hS hl
    have h1 := h H locs ls hP hD hS hl
    unfold nw_ts at h1
    by_cases hc : x.toInt < lo ∨ hi < x.toInt
    · rw [if_pos hc] at h1
      exact lv_tableOut hx hb hd hc (nw_nn_t t1) h1
    · rw [if_neg hc] at h1
      have hlo : ¬ x.toInt < lo := fun q => hc (Or.inl q)
      have hhi : ¬ hi < x.toInt := fun q => hc (Or.inr q)
      have hlt : (x.toInt - lo).toNat < offs.size := by omega
      have ho : offs[(x.toInt - lo).toNat]? = some offs[(x.toInt - lo).toNat] := Array.getElem?_eq_getElem hlt
      rw [ho] at h1
      have hnn : nw_nn pc offs[(x.toInt - lo).toNat] = true := List.all_eq_true.mp t2 _ (by simp)
      exact lv_tableIn hx hb hd hlo hhi ho (nw_nn_t hnn) h1
  case lookupswitch df ps =>
    obtain ⟨x, r, rfl, h⟩ := nw_i1_inv h
    exact fun H locs ls hP hD hS hl => lv_lookup hx hb hd ht rfl (nw_nn_t (decide_eq_true h.1)) (h.2 H locs ls hP hD hS hl)
  case ldc i =>
    obtain rfl : n = 2 := eq_of_beq hn
    simp only [nw_S] at h
    split at h
    · rename_i v e1
      exact fun H locs ls hP hD hS hl => lv_ldc hx hb hown (hts _ (nw_rC_ok e1)) hd (h H locs ls hP hD hS hl)
    · split at h
      · rename_i a e2
        obtain ⟨o1, o2, o3, o4⟩ := nw_rS_ok e2
        obtain ⟨j, rfl⟩ : ∃ j, a = 100 + j := ⟨a - 100, by omega⟩
        rw [Nat.add_sub_cancel_left] at o3 o4
        rw [List.getElem?_map] at o4
        cases hsx : nw_sx[j]? with
        | none => rw [hsx] at o4; cases o4
        | some q =>
          rw [hsx] at o4
          obtain ⟨q1, q2⟩ := q
          have hq : q1 = i := by simpa using o4
          subst hq
          have hR := C0.2.2.2.2.2.2.2.2.1.2.2.1 j q1 q2 hsx
          rw [o1] at hown
          exact fun H locs ls hP hD hS hl => va_ldcS hx hb hown hR hd (h H locs ls hP hD hS hl)
      · exact (nw_on_none h).elim
  case ldc2_w i =>
    obtain rfl : n = 3 := eq_of_beq hn
    simp only [nw_S] at h
    split at h
    · rename_i v e1
      exact fun H locs ls hP hD hS hl => lv_ldc2 hx hb hown (hts _ (nw_rL_ok e1)) hd (h H locs ls hP hD hS hl)
    · exact (nw_on_none h).elim
  case getfield i =>
    obtain rfl : n = 3 := eq_of_beq hn
    simp only [nw_S] at h
    split at h
    case h_2 => exact (nw_on_none h).elim
    case h_1 ci kf e1 =>
    split at h
    case h_2 => exact (nw_on_none h).elim
    case h_1 a r =>
    split at h
    · rename_i j e2
      exact nw_snd_get C0 hd e1 e2 h
    · rename_i e2
      exact nw_snd_get C0 hd e1 e2 h
    · exact (nw_on_none h).elim
  case putfield i =>
    obtain rfl : n = 3 := eq_of_beq hn
    simp only [nw_S] at h
    split at h
    case h_2 => exact (nw_on_none h).elim
    case h_1 ci kf e1 =>
    split at h
    case h_2 => exact (nw_on_none h).elim
    case h_1 v a r =>
    split at h
    · rename_i e2
      exact nw_snd_put C0 hso hd e1 e2 h
    · exact (nw_on_none h).elim
  case iaload =>
    obtain rfl : n = 1 := eq_of_beq hn
    simp only [nw_S] at h
    split at h
    case h_2 => exact (nw_on_none h).elim
    case h_1 i a r =>
    split at h
    · rename_i n e2
      exact fun H locs ls hP hD hS hl => va_iald (D := D) (cl := nw_cls) (tys := nw_ty cy) hx hb hK hP a 0 (nw_snd_st C0 (v := 0) (i := 0) e2).1 rfl h.1 hd (h.2 H locs ls hP hD hS hl)
    · exact (nw_on_none h).elim
  case baload =>
    obtain rfl : n = 1 := eq_of_beq hn
    simp only [nw_S] at h
    split at h
    case h_2 => exact (nw_on_none h).elim
    case h_1 i a r =>
    split at h
    · rename_i n e2
      exact fun H locs ls hP hD hS hl => va_zald (D := D) (cl := nw_cls) (tys := nw_ty cy) hx hb hK hP a 1 (nw_snd_st C0 (v := 0) (i := 0) e2).1 rfl h.1 hd (h.2 H locs ls hP hD hS hl)
    · exact (nw_on_none h).elim
  case iastore =>
    obtain rfl : n = 1 := eq_of_beq hn
    simp only [nw_S] at h
    split at h
    case h_2 => exact (nw_on_none h).elim
    case h_1 v i a r =>
    split at h
    · rename_i n e2
      intro H locs ls hP hD hS hl
      obtain ⟨g1, g2⟩ := nw_snd_st C0 (v := v) (i := i) (mem := mem) e2
      refine va_iast (D := D) (cl := nw_cls) (tys := nw_ty cy) hx hb hK hP hD hS a 0 g1 rfl h.1 hd (fun H1 locs1 hP1 hD1 hS1 => ?_)
      rw [g2] at hP1 hD1
      exact h.2 H1 locs1 ls hP1 hD1 hS1 hl
    · exact (nw_on_none h).elim
  case bastore =>
    obtain rfl : n = 1 := eq_of_beq hn
    simp only [nw_S] at h
    split at h
    case h_2 => exact (nw_on_none h).elim
    case h_1 v i a r =>
    split at h
    · rename_i n e2
      intro H locs ls hP hD hS hl
      obtain ⟨g1, g2⟩ := nw_snd_st C0 (v := v) (i := i) (mem := mem) e2
      refine va_zast (D := D) (cl := nw_cls) (tys := nw_ty cy) hx hb hK hP hD hS a 1 g1 rfl h.1.1 hd (fun H1 locs1 hP1 hD1 hS1 => ?_)
      rw [(nw_bool h.1.2).1, g2] at hP1 hD1
      exact h.2 H1 locs1 ls hP1 hD1 hS1 hl
    · exact (nw_on_none h).elim
  all_goals exact (nw_on_none h).elim
theorem nw_snd_ret (C0 : nw_Cx p l s m args meth c D ad adV cy sh k A) {v : Int32} {P : nw_K} (hd : decode (nw_kB k) pc = .ok (.ireturn, 1)) (hv : nw_rt (nw_kR k) v) (hQ : P (some (.int v)) mem) : nw_W p l e s m args below meth c D ad cy sh d (nw_kL k) A (MQ below (nw_Qr D ad cy sh A P (nw_kR k)) args s 0 0 A) pc lv [.int v] mem := by
  obtain ⟨hx, hb, hml, hown, hts, hr, hlocks, hK, hE, hA, hSL, hSC⟩ := C0
  intro H locs ls hP hD hS hl
  have key : ∀ ty : FieldType, nw_kR k = some ty → narrow ty (.int v) = .int v → W p l e (nw_rm (d + 1)) s m args below meth c H locs 0 0 (MQ below (nw_Qr D ad cy sh A P (nw_kR k)) args s 0 0 A) (F0 m pc ls [.int v]) := by
    intro ty hk hn
    rw [hk] at hr ⊢
    exact W.zret (v := v) hx hb hr hn (fun t ht hW => ⟨⟨v, mem, rfl, hQ, by rw [ht]; exact hP, hD⟩, hS.F ht⟩) hS.2.2 hd hlocks
  unfold nw_rt at hv
  split at hv
  · rename_i hk
    exact key .int hk rfl
  · rename_i hk
    exact key .boolean hk (nw_bool hv).2
  · exact hv.elim
theorem nw_snd_F (C0 : nw_Cx p l s m args meth c D ad adV cy sh k A) (hso : nw_shok sh) {P : nw_K}
    (IH : ∀ (k' : Nat) (as : List Value) (mem : nw_M) (P : nw_K), nw_Ex d sh k' as mem P → nw_mok k' → ∀ sz : Nat, Met l (nw_kY k') (nw_ws k') (nw_rm d) (va_Pc (as.map (nw_tv ad)) (nw_Pre D ad adV cy sh sz mem)) (nw_Qr D ad cy sh (va_A (nw_pic ad cy mem 0 sh) sz) P (nw_kR k')) 0 0 (va_A (nw_pic ad cy mem 0 sh) sz))
    (h : nw_F nw_tb (nw_kB k) (nw_kO k) (nw_kR k) sh (nw_Ex d sh) P (nw_W p l e s m args below meth c D ad cy sh d (nw_kL k) A (MQ below (nw_Qr D ad cy sh A P (nw_kR k)) args s 0 0 A)) pc lv st mem) : nw_W p l e s m args below meth c D ad cy sh d (nw_kL k) A (MQ below (nw_Qr D ad cy sh A P (nw_kR k)) args s 0 0 A) pc lv st mem := by
  unfold nw_F at h
  split at h
  case h_2 => exact h.elim
  case h_1 i e0 =>
  obtain ⟨n, hd, hn, ht⟩ := nw_dec_ok e0
  unfold nw_I at h
  split at h
  case h_1 j =>
    obtain rfl : n = 3 := eq_of_beq hn
    split at h
    · rename_i e1
      rcases nw_rP_ok e1 with ⟨-, q1, q2⟩ | ⟨q, -⟩ | ⟨q, -⟩
      · exact nw_snd_cp C0 q1 q2 hd h
      · cases q
      · cases q
    · exact h.elim
    · exact nw_snd_call C0 IH (vt := false) hd h
  case h_2 j =>
    obtain rfl : n = 3 := eq_of_beq hn
    split at h
    · rename_i e1
      rcases nw_rP_ok e1 with ⟨q, -⟩ | ⟨-, q1, q2⟩ | ⟨q, -⟩
      · cases q
      · exact nw_snd_sl C0 q1 q2 hd h
      · cases q
    · rename_i e1
      rcases nw_rP_ok e1 with ⟨q, -⟩ | ⟨q, -⟩ | ⟨-, q1, q2⟩
      · cases q
      · cases q
      · exact nw_snd_sc C0 q1 q2 hd h
    · exact h.elim
    · exact nw_snd_call C0 IH (vt := true) hd h
  case h_3 =>
    obtain rfl : n = 1 := eq_of_beq hn
    split at h
    · exact nw_snd_ret C0 hd h.1 h.2
    · exact h.elim
  case h_4 =>
    obtain rfl : n = 1 := eq_of_beq hn
    split at h
    · rename_i hk
      obtain ⟨hx, hb, hml, hown, hts, hr, hlocks, hK, hE, hA, hSL, hSC⟩ := C0
      intro H locs ls hP hD hS hl
      rw [hk] at hr ⊢
      exact W.vret hx hb hr (fun t ht hW => ⟨⟨mem, rfl, h, by rw [ht]; exact hP, hD⟩, hS.F ht⟩) hS.2.2 hd hlocks
    · exact h.elim
  case h_5 => exact nw_snd_S C0 hso hd hn ht h
/-- THE TIE: what the small machine says of a method holds of the JVM's -/
theorem nw_met (hso : nw_shok sh) (hSL : nw_StrL l D ad adV cy sh) (hSC : nw_StrC l D ad adV cy sh) : ∀ (d k : Nat) (as : List Value) (mem : nw_M) (P : nw_K), nw_Ex d sh k as mem P → nw_mok k → ∀ sz : Nat, Met l (nw_kY k) (nw_ws k) (nw_rm d) (va_Pc (as.map (nw_tv ad)) (nw_Pre D ad adV cy sh sz mem)) (nw_Qr D ad cy sh (va_A (nw_pic ad cy mem 0 sh) sz) P (nw_kR k)) 0 0 (va_A (nw_pic ad cy mem 0 sh) sz) := by
  intro d
  induction d with
  | zero => intro k as mem P h; exact h.elim
  | succ d IH =>
    intro k as mem P h hmk sz
    obtain ⟨hfit, hrun⟩ := h
    refine va_MetF (cc := nw_kB k) (maxL := nw_kL k) (ret := nw_kR k) (ws' := nw_TBL) hmk.2.2.2.1 rfl ?_
    intro p e s m args below meth c s₁ B hml hv
    obtain ⟨rfl, hsz, hP, hK, hD0, hE⟩ := hv
    subst hsz
    have hD := hD0.self (sz := s.heap.size)
    have hA : ∀ q : Nat, s.heap.size ≤ q → va_A (nw_pic ad cy mem 0 sh) s.heap.size q := fun q h => Or.inr h
    have hts : ∀ w ∈ nw_TBL, w.before (as.map (nw_tv ad)).toArray s = true := fun w hw => atoms_spec (ws := nw_ws k) B.pre w (List.mem_cons_of_mem _ hw)
    have hown : s.vm.findClass (nw_cn (nw_kO k)) = some m.cls := by rw [hmk.2.2.2.2.2.1]; exact findClass_of_methodNamed B.named
    have C0 : nw_Cx p l s m (as.map (nw_tv ad)).toArray meth c D ad adV cy sh k (va_A (nw_pic ad cy mem 0 sh) s.heap.size) := ⟨B.exec, B.bytes, hml, hown, hts, B.returns, B.notSynchronized, hK, hE, hA, hSL, hSC⟩
    have hw := hrun (nw_W p l e s m (as.map (nw_tv ad)).toArray below meth c D ad cy sh d (nw_kL k) (va_A (nw_pic ad cy mem 0 sh) s.heap.size) (MQ below (nw_Qr D ad cy sh (va_A (nw_pic ad cy mem 0 sh) s.heap.size) P (nw_kR k)) (as.map (nw_tv ad)).toArray s 0 0 (va_A (nw_pic ad cy mem 0 sh) s.heap.size))) (fun pc lv st mem' h => nw_snd_F C0 hso IH h)
    rw [lg_entry_eq]
    exact hw s.heap [] _ hP hD va_S.rf (nw_lr_entry ad as hfit)
end NWU
