/-! the law's cases: printed by gen/law.py -/
section NLC
variable {p : Program} {l : Launch} {e : Env} {s : State} {m : MethodId} {below : List Frame} {meth : Method} {c : Code} {b L : Nat} {xs : Nat → Int32} {D : va_G} {cy : Bool → ClassId} {Z : State → Prop} {cells slots : Nat} {ls : Array Slot} {H : Heap} {locs : List Loc} {adX adM adV : Nat → Nat}
theorem nl_case_10 (C : nl_C p s m c b L xs D cy) (hL : L ≤ 2560) (hEX : nw_En adX adV (nl_A s) s s.heap) (hEM : nw_En adM adV (nl_A s) s s.heap) {mx mm : nw_M} {A : nA} (hX : nX A mx) (hM : nM A mm) (hP : va_P D nw_cls (nw_pic adX cy mx 0 nw_shX ++ nw_pic adM cy mm 0 nw_shM) H) (hD : va_D (nl_A s) (nw_pic adX cy mx 0 nw_shX ++ nw_pic adM cy mm 0 nw_shM)) (hS : va_S (nl_A s) s.heap H locs) {i : Nat} (hi : i + 5 ≤ L) (hl : lv_has ls 4 [(3, .int (nI i)), (2, .ref (adM 0)), (1, .ref (adX 0)), (0, .ref b)]) (hc : cells ≤ 600000) (hsl : slots ≤ 7302250) (kk : nl_kk p l e s m below meth c b D cy adX adM Z cells slots ls) : W p l e room_1 s m #[Value.ref b] below meth c H locs cells slots Z (F0 m 418 ls []) := by
  obtain ⟨A1, r, hpx, hpm⟩ := p_put A (xs (i + 1)) (xs (i + 2)) mx mm hX hM
  obtain ⟨hx, hb, hml, hown, hts, hK, hXs, hbl⟩ := id C
  refine lv_aload_n hx hb (by decide +kernel : decode code 418 = .ok (.aload_n 1, 1)) rfl (lv_at hl 2 rfl) ?_
  refine lv_aload_n hx hb (by decide +kernel : decode code 419 = .ok (.aload_n 0, 1)) rfl (lv_at hl 3 rfl) ?_
  refine lv_iload_n hx hb (by decide +kernel : decode code 420 = .ok (.iload_n 3, 1)) rfl (lv_at hl 0 rfl) ?_
  refine lv_iconst (v := 1) hx hb (by decide +kernel : decode code 421 = .ok (.iconst 1, 1)) (by decide) ?_
  refine lv_iadd hx hb (by decide +kernel : decode code 422 = .ok (.iadd, 1)) ?_
  refine nl_ld C hS (x := nI i + 1) (j := i + 1) (nI_add i 1) (by omega) hL (by decide +kernel : decode code 423 = .ok (.iaload, 1)) ?_
  refine lv_aload_n hx hb (by decide +kernel : decode code 424 = .ok (.aload_n 0, 1)) rfl (lv_at hl 3 rfl) ?_
  refine lv_iload_n hx hb (by decide +kernel : decode code 425 = .ok (.iload_n 3, 1)) rfl (lv_at hl 0 rfl) ?_
  refine lv_iconst (v := 2) hx hb (by decide +kernel : decode code 426 = .ok (.iconst 2, 1)) (by decide) ?_
  refine lv_iadd hx hb (by decide +kernel : decode code 427 = .ok (.iadd, 1)) ?_
  refine nl_ld C hS (x := nI i + 2) (j := i + 2) (nI_add i 2) (by omega) hL (by decide +kernel : decode code 428 = .ok (.iaload, 1)) ?_
  refine nl_call C nl_okX hEX (by rw [nw_pic_len]; decide) hP hD hS (k := 80) (ci := 0) (as := [.int (xs (i + 1)), .int (xs (i + 2))]) (rest := []) (Q := fun v u => v = some (.int r) ∧ nX A1 u) nw_m_80 rfl rfl (hpx _ (fun _ h => ⟨rfl, h⟩)) rfl rfl (nw_in 449 (by decide +kernel) (by decide +kernel)) rfl (Nat.le_of_ble_eq_true rfl) (by decide +kernel : decode code 429 = .ok (.invokevirtual 59, 3)) hl.1 hc hsl (fun r1 mx1 H locs hq hP hD hS => ?_)
  obtain ⟨hq1, hX1⟩ := hq
  cases hq1
  refine lv_aload_n hx hb (by decide +kernel : decode code 432 = .ok (.aload_n 2, 1)) rfl (lv_at hl 1 rfl) ?_
  refine lv_aload_n hx hb (by decide +kernel : decode code 433 = .ok (.aload_n 0, 1)) rfl (lv_at hl 3 rfl) ?_
  refine lv_iload_n hx hb (by decide +kernel : decode code 434 = .ok (.iload_n 3, 1)) rfl (lv_at hl 0 rfl) ?_
  refine lv_iconst (v := 1) hx hb (by decide +kernel : decode code 435 = .ok (.iconst 1, 1)) (by decide) ?_
  refine lv_iadd hx hb (by decide +kernel : decode code 436 = .ok (.iadd, 1)) ?_
  refine nl_ld C hS (x := nI i + 1) (j := i + 1) (nI_add i 1) (by omega) hL (by decide +kernel : decode code 437 = .ok (.iaload, 1)) ?_
  refine lv_aload_n hx hb (by decide +kernel : decode code 438 = .ok (.aload_n 0, 1)) rfl (lv_at hl 3 rfl) ?_
  refine lv_iload_n hx hb (by decide +kernel : decode code 439 = .ok (.iload_n 3, 1)) rfl (lv_at hl 0 rfl) ?_
  refine lv_iconst (v := 2) hx hb (by decide +kernel : decode code 440 = .ok (.iconst 2, 1)) (by decide) ?_
  refine lv_iadd hx hb (by decide +kernel : decode code 441 = .ok (.iadd, 1)) ?_
  refine nl_ld C hS (x := nI i + 2) (j := i + 2) (nI_add i 2) (by omega) hL (by decide +kernel : decode code 442 = .ok (.iaload, 1)) ?_
  refine nl_call C nl_okM hEM (by rw [nw_pic_len]; decide) hP hD hS (k := 128) (ci := 4) (as := [.int (xs (i + 1)), .int (xs (i + 2))]) (rest := [.int r]) (Q := fun v u => v = some (.int r) ∧ nM A1 u) nw_m_128 rfl rfl (hpm _ (fun _ h => ⟨rfl, h⟩)) rfl rfl (nw_in 818 (by decide +kernel) (by decide +kernel)) rfl (Nat.le_of_ble_eq_true rfl) (by decide +kernel : decode code 443 = .ok (.invokevirtual 62, 3)) hl.1 hc hsl (fun r1 mm1 H locs hq hP hD hS => ?_)
  obtain ⟨hq1, hM1⟩ := hq
  cases hq1
  exact lv_icmp_eq hx hb (by decide +kernel : decode code 446 = .ok (.if_icmp .eq 507, 3)) (tgt := 953) (by decide) (fun _ => kk A1 mx1 mm1 H locs hX1 hM1 hP hD hS) (fun z => absurd rfl z)
theorem nl_case_11 (C : nl_C p s m c b L xs D cy) (hL : L ≤ 2560) (hEX : nw_En adX adV (nl_A s) s s.heap) (hEM : nw_En adM adV (nl_A s) s s.heap) {mx mm : nw_M} {A : nA} (hX : nX A mx) (hM : nM A mm) (hP : va_P D nw_cls (nw_pic adX cy mx 0 nw_shX ++ nw_pic adM cy mm 0 nw_shM) H) (hD : va_D (nl_A s) (nw_pic adX cy mx 0 nw_shX ++ nw_pic adM cy mm 0 nw_shM)) (hS : va_S (nl_A s) s.heap H locs) {i : Nat} (hi : i + 5 ≤ L) (hl : lv_has ls 4 [(3, .int (nI i)), (2, .ref (adM 0)), (1, .ref (adX 0)), (0, .ref b)]) (hc : cells ≤ 600000) (hsl : slots ≤ 7302250) (kk : nl_kk p l e s m below meth c b D cy adX adM Z cells slots ls) : W p l e room_1 s m #[Value.ref b] below meth c H locs cells slots Z (F0 m 451 ls []) := by
  obtain ⟨A1, r, hpx, hpm⟩ := p_keep A (xs (i + 1)) mx mm hX hM
  obtain ⟨hx, hb, hml, hown, hts, hK, hXs, hbl⟩ := id C
  refine lv_aload_n hx hb (by decide +kernel : decode code 451 = .ok (.aload_n 1, 1)) rfl (lv_at hl 2 rfl) ?_
  refine lv_aload_n hx hb (by decide +kernel : decode code 452 = .ok (.aload_n 0, 1)) rfl (lv_at hl 3 rfl) ?_
  refine lv_iload_n hx hb (by decide +kernel : decode code 453 = .ok (.iload_n 3, 1)) rfl (lv_at hl 0 rfl) ?_
  refine lv_iconst (v := 1) hx hb (by decide +kernel : decode code 454 = .ok (.iconst 1, 1)) (by decide) ?_
  refine lv_iadd hx hb (by decide +kernel : decode code 455 = .ok (.iadd, 1)) ?_
  refine nl_ld C hS (x := nI i + 1) (j := i + 1) (nI_add i 1) (by omega) hL (by decide +kernel : decode code 456 = .ok (.iaload, 1)) ?_
  refine nl_call C nl_okX hEX (by rw [nw_pic_len]; decide) hP hD hS (k := 81) (ci := 0) (as := [.int (xs (i + 1))]) (rest := []) (Q := fun v u => v = some (.int r) ∧ nX A1 u) nw_m_81 rfl rfl (hpx _ (fun _ h => ⟨rfl, h⟩)) rfl rfl (nw_in 454 (by decide +kernel) (by decide +kernel)) rfl (Nat.le_of_ble_eq_true rfl) (by decide +kernel : decode code 457 = .ok (.invokevirtual 63, 3)) hl.1 hc hsl (fun r1 mx1 H locs hq hP hD hS => ?_)
  obtain ⟨hq1, hX1⟩ := hq
  cases hq1
  refine lv_aload_n hx hb (by decide +kernel : decode code 460 = .ok (.aload_n 2, 1)) rfl (lv_at hl 1 rfl) ?_
  refine lv_aload_n hx hb (by decide +kernel : decode code 461 = .ok (.aload_n 0, 1)) rfl (lv_at hl 3 rfl) ?_
  refine lv_iload_n hx hb (by decide +kernel : decode code 462 = .ok (.iload_n 3, 1)) rfl (lv_at hl 0 rfl) ?_
  refine lv_iconst (v := 1) hx hb (by decide +kernel : decode code 463 = .ok (.iconst 1, 1)) (by decide) ?_
  refine lv_iadd hx hb (by decide +kernel : decode code 464 = .ok (.iadd, 1)) ?_
  refine nl_ld C hS (x := nI i + 1) (j := i + 1) (nI_add i 1) (by omega) hL (by decide +kernel : decode code 465 = .ok (.iaload, 1)) ?_
  refine nl_call C nl_okM hEM (by rw [nw_pic_len]; decide) hP hD hS (k := 129) (ci := 4) (as := [.int (xs (i + 1))]) (rest := [.int r]) (Q := fun v u => v = some (.int r) ∧ nM A1 u) nw_m_129 rfl rfl (hpm _ (fun _ h => ⟨rfl, h⟩)) rfl rfl (nw_in 822 (by decide +kernel) (by decide +kernel)) rfl (Nat.le_of_ble_eq_true rfl) (by decide +kernel : decode code 466 = .ok (.invokevirtual 66, 3)) hl.1 hc hsl (fun r1 mm1 H locs hq hP hD hS => ?_)
  obtain ⟨hq1, hM1⟩ := hq
  cases hq1
  exact lv_icmp_eq hx hb (by decide +kernel : decode code 469 = .ok (.if_icmp .eq 484, 3)) (tgt := 953) (by decide) (fun _ => kk A1 mx1 mm1 H locs hX1 hM1 hP hD hS) (fun z => absurd rfl z)
theorem nl_case_12 (C : nl_C p s m c b L xs D cy) (hL : L ≤ 2560) (hEX : nw_En adX adV (nl_A s) s s.heap) (hEM : nw_En adM adV (nl_A s) s s.heap) {mx mm : nw_M} {A : nA} (hX : nX A mx) (hM : nM A mm) (hP : va_P D nw_cls (nw_pic adX cy mx 0 nw_shX ++ nw_pic adM cy mm 0 nw_shM) H) (hD : va_D (nl_A s) (nw_pic adX cy mx 0 nw_shX ++ nw_pic adM cy mm 0 nw_shM)) (hS : va_S (nl_A s) s.heap H locs) {i : Nat} (hi : i + 5 ≤ L) (hl : lv_has ls 4 [(3, .int (nI i)), (2, .ref (adM 0)), (1, .ref (adX 0)), (0, .ref b)]) (hc : cells ≤ 600000) (hsl : slots ≤ 7302250) (kk : nl_kk p l e s m below meth c b D cy adX adM Z cells slots ls) : W p l e room_1 s m #[Value.ref b] below meth c H locs cells slots Z (F0 m 474 ls []) := by
  obtain ⟨A1, r, hpx, hpm⟩ := p_back A (xs (i + 1)) mx mm hX hM
  obtain ⟨hx, hb, hml, hown, hts, hK, hXs, hbl⟩ := id C
  refine lv_aload_n hx hb (by decide +kernel : decode code 474 = .ok (.aload_n 1, 1)) rfl (lv_at hl 2 rfl) ?_
  refine lv_aload_n hx hb (by decide +kernel : decode code 475 = .ok (.aload_n 0, 1)) rfl (lv_at hl 3 rfl) ?_
  refine lv_iload_n hx hb (by decide +kernel : decode code 476 = .ok (.iload_n 3, 1)) rfl (lv_at hl 0 rfl) ?_
  refine lv_iconst (v := 1) hx hb (by decide +kernel : decode code 477 = .ok (.iconst 1, 1)) (by decide) ?_
  refine lv_iadd hx hb (by decide +kernel : decode code 478 = .ok (.iadd, 1)) ?_
  refine nl_ld C hS (x := nI i + 1) (j := i + 1) (nI_add i 1) (by omega) hL (by decide +kernel : decode code 479 = .ok (.iaload, 1)) ?_
  refine nl_call C nl_okX hEX (by rw [nw_pic_len]; decide) hP hD hS (k := 82) (ci := 0) (as := [.int (xs (i + 1))]) (rest := []) (Q := fun v u => v = some (.int r) ∧ nX A1 u) nw_m_82 rfl rfl (hpx _ (fun _ h => ⟨rfl, h⟩)) rfl rfl (nw_in 458 (by decide +kernel) (by decide +kernel)) rfl (Nat.le_of_ble_eq_true rfl) (by decide +kernel : decode code 480 = .ok (.invokevirtual 67, 3)) hl.1 hc hsl (fun r1 mx1 H locs hq hP hD hS => ?_)
  obtain ⟨hq1, hX1⟩ := hq
  cases hq1
  refine lv_aload_n hx hb (by decide +kernel : decode code 483 = .ok (.aload_n 2, 1)) rfl (lv_at hl 1 rfl) ?_
  refine lv_aload_n hx hb (by decide +kernel : decode code 484 = .ok (.aload_n 0, 1)) rfl (lv_at hl 3 rfl) ?_
  refine lv_iload_n hx hb (by decide +kernel : decode code 485 = .ok (.iload_n 3, 1)) rfl (lv_at hl 0 rfl) ?_
  refine lv_iconst (v := 1) hx hb (by decide +kernel : decode code 486 = .ok (.iconst 1, 1)) (by decide) ?_
  refine lv_iadd hx hb (by decide +kernel : decode code 487 = .ok (.iadd, 1)) ?_
  refine nl_ld C hS (x := nI i + 1) (j := i + 1) (nI_add i 1) (by omega) hL (by decide +kernel : decode code 488 = .ok (.iaload, 1)) ?_
  refine nl_call C nl_okM hEM (by rw [nw_pic_len]; decide) hP hD hS (k := 130) (ci := 4) (as := [.int (xs (i + 1))]) (rest := [.int r]) (Q := fun v u => v = some (.int r) ∧ nM A1 u) nw_m_130 rfl rfl (hpm _ (fun _ h => ⟨rfl, h⟩)) rfl rfl (nw_in 826 (by decide +kernel) (by decide +kernel)) rfl (Nat.le_of_ble_eq_true rfl) (by decide +kernel : decode code 489 = .ok (.invokevirtual 70, 3)) hl.1 hc hsl (fun r1 mm1 H locs hq hP hD hS => ?_)
  obtain ⟨hq1, hM1⟩ := hq
  cases hq1
  exact lv_icmp_eq hx hb (by decide +kernel : decode code 492 = .ok (.if_icmp .eq 461, 3)) (tgt := 953) (by decide) (fun _ => kk A1 mx1 mm1 H locs hX1 hM1 hP hD hS) (fun z => absurd rfl z)
theorem nl_case_13 (C : nl_C p s m c b L xs D cy) (hL : L ≤ 2560) (hEX : nw_En adX adV (nl_A s) s s.heap) (hEM : nw_En adM adV (nl_A s) s s.heap) {mx mm : nw_M} {A : nA} (hX : nX A mx) (hM : nM A mm) (hP : va_P D nw_cls (nw_pic adX cy mx 0 nw_shX ++ nw_pic adM cy mm 0 nw_shM) H) (hD : va_D (nl_A s) (nw_pic adX cy mx 0 nw_shX ++ nw_pic adM cy mm 0 nw_shM)) (hS : va_S (nl_A s) s.heap H locs) {i : Nat} (hi : i + 5 ≤ L) (hl : lv_has ls 4 [(3, .int (nI i)), (2, .ref (adM 0)), (1, .ref (adX 0)), (0, .ref b)]) (hc : cells ≤ 600000) (hsl : slots ≤ 7302250) (kk : nl_kk p l e s m below meth c b D cy adX adM Z cells slots ls) : W p l e room_1 s m #[Value.ref b] below meth c H locs cells slots Z (F0 m 497 ls []) := by
  obtain ⟨A1, r, hpx, hpm⟩ := p_later A (xs (i + 1)) (xs (i + 2)) (xs (i + 3)) mx mm hX hM
  obtain ⟨hx, hb, hml, hown, hts, hK, hXs, hbl⟩ := id C
  refine lv_aload_n hx hb (by decide +kernel : decode code 497 = .ok (.aload_n 1, 1)) rfl (lv_at hl 2 rfl) ?_
  refine lv_aload_n hx hb (by decide +kernel : decode code 498 = .ok (.aload_n 0, 1)) rfl (lv_at hl 3 rfl) ?_
  refine lv_iload_n hx hb (by decide +kernel : decode code 499 = .ok (.iload_n 3, 1)) rfl (lv_at hl 0 rfl) ?_
  refine lv_iconst (v := 1) hx hb (by decide +kernel : decode code 500 = .ok (.iconst 1, 1)) (by decide) ?_
  refine lv_iadd hx hb (by decide +kernel : decode code 501 = .ok (.iadd, 1)) ?_
  refine nl_ld C hS (x := nI i + 1) (j := i + 1) (nI_add i 1) (by omega) hL (by decide +kernel : decode code 502 = .ok (.iaload, 1)) ?_
  refine lv_aload_n hx hb (by decide +kernel : decode code 503 = .ok (.aload_n 0, 1)) rfl (lv_at hl 3 rfl) ?_
  refine lv_iload_n hx hb (by decide +kernel : decode code 504 = .ok (.iload_n 3, 1)) rfl (lv_at hl 0 rfl) ?_
  refine lv_iconst (v := 2) hx hb (by decide +kernel : decode code 505 = .ok (.iconst 2, 1)) (by decide) ?_
  refine lv_iadd hx hb (by decide +kernel : decode code 506 = .ok (.iadd, 1)) ?_
  refine nl_ld C hS (x := nI i + 2) (j := i + 2) (nI_add i 2) (by omega) hL (by decide +kernel : decode code 507 = .ok (.iaload, 1)) ?_
  refine lv_aload_n hx hb (by decide +kernel : decode code 508 = .ok (.aload_n 0, 1)) rfl (lv_at hl 3 rfl) ?_
  refine lv_iload_n hx hb (by decide +kernel : decode code 509 = .ok (.iload_n 3, 1)) rfl (lv_at hl 0 rfl) ?_
  refine lv_iconst (v := 3) hx hb (by decide +kernel : decode code 510 = .ok (.iconst 3, 1)) (by decide) ?_
  refine lv_iadd hx hb (by decide +kernel : decode code 511 = .ok (.iadd, 1)) ?_
  refine nl_ld C hS (x := nI i + 3) (j := i + 3) (nI_add i 3) (by omega) hL (by decide +kernel : decode code 512 = .ok (.iaload, 1)) ?_
  refine nl_call C nl_okX hEX (by rw [nw_pic_len]; decide) hP hD hS (k := 83) (ci := 0) (as := [.int (xs (i + 1)), .int (xs (i + 2)), .int (xs (i + 3))]) (rest := []) (Q := fun v u => v = some (.int r) ∧ nX A1 u) nw_m_83 rfl rfl (hpx _ (fun _ h => ⟨rfl, h⟩)) rfl rfl (nw_in 462 (by decide +kernel) (by decide +kernel)) rfl (Nat.le_of_ble_eq_true rfl) (by decide +kernel : decode code 513 = .ok (.invokevirtual 71, 3)) hl.1 hc hsl (fun r1 mx1 H locs hq hP hD hS => ?_)
  obtain ⟨hq1, hX1⟩ := hq
  cases hq1
  refine lv_aload_n hx hb (by decide +kernel : decode code 516 = .ok (.aload_n 2, 1)) rfl (lv_at hl 1 rfl) ?_
  refine lv_aload_n hx hb (by decide +kernel : decode code 517 = .ok (.aload_n 0, 1)) rfl (lv_at hl 3 rfl) ?_
  refine lv_iload_n hx hb (by decide +kernel : decode code 518 = .ok (.iload_n 3, 1)) rfl (lv_at hl 0 rfl) ?_
  refine lv_iconst (v := 1) hx hb (by decide +kernel : decode code 519 = .ok (.iconst 1, 1)) (by decide) ?_
  refine lv_iadd hx hb (by decide +kernel : decode code 520 = .ok (.iadd, 1)) ?_
  refine nl_ld C hS (x := nI i + 1) (j := i + 1) (nI_add i 1) (by omega) hL (by decide +kernel : decode code 521 = .ok (.iaload, 1)) ?_
  refine lv_aload_n hx hb (by decide +kernel : decode code 522 = .ok (.aload_n 0, 1)) rfl (lv_at hl 3 rfl) ?_
  refine lv_iload_n hx hb (by decide +kernel : decode code 523 = .ok (.iload_n 3, 1)) rfl (lv_at hl 0 rfl) ?_
  refine lv_iconst (v := 2) hx hb (by decide +kernel : decode code 524 = .ok (.iconst 2, 1)) (by decide) ?_
  refine lv_iadd hx hb (by decide +kernel : decode code 525 = .ok (.iadd, 1)) ?_
  refine nl_ld C hS (x := nI i + 2) (j := i + 2) (nI_add i 2) (by omega) hL (by decide +kernel : decode code 526 = .ok (.iaload, 1)) ?_
  refine lv_aload_n hx hb (by decide +kernel : decode code 527 = .ok (.aload_n 0, 1)) rfl (lv_at hl 3 rfl) ?_
  refine lv_iload_n hx hb (by decide +kernel : decode code 528 = .ok (.iload_n 3, 1)) rfl (lv_at hl 0 rfl) ?_
  refine lv_iconst (v := 3) hx hb (by decide +kernel : decode code 529 = .ok (.iconst 3, 1)) (by decide) ?_
  refine lv_iadd hx hb (by decide +kernel : decode code 530 = .ok (.iadd, 1)) ?_
  refine nl_ld C hS (x := nI i + 3) (j := i + 3) (nI_add i 3) (by omega) hL (by decide +kernel : decode code 531 = .ok (.iaload, 1)) ?_
  refine nl_call C nl_okM hEM (by rw [nw_pic_len]; decide) hP hD hS (k := 131) (ci := 4) (as := [.int (xs (i + 1)), .int (xs (i + 2)), .int (xs (i + 3))]) (rest := [.int r]) (Q := fun v u => v = some (.int r) ∧ nM A1 u) nw_m_131 rfl rfl (hpm _ (fun _ h => ⟨rfl, h⟩)) rfl rfl (nw_in 830 (by decide +kernel) (by decide +kernel)) rfl (Nat.le_of_ble_eq_true rfl) (by decide +kernel : decode code 532 = .ok (.invokevirtual 75, 3)) hl.1 hc hsl (fun r1 mm1 H locs hq hP hD hS => ?_)
  obtain ⟨hq1, hM1⟩ := hq
  cases hq1
  exact lv_icmp_eq hx hb (by decide +kernel : decode code 535 = .ok (.if_icmp .eq 418, 3)) (tgt := 953) (by decide) (fun _ => kk A1 mx1 mm1 H locs hX1 hM1 hP hD hS) (fun z => absurd rfl z)
theorem nl_case_14 (C : nl_C p s m c b L xs D cy) (hL : L ≤ 2560) (hEX : nw_En adX adV (nl_A s) s s.heap) (hEM : nw_En adM adV (nl_A s) s s.heap) {mx mm : nw_M} {A : nA} (hX : nX A mx) (hM : nM A mm) (hP : va_P D nw_cls (nw_pic adX cy mx 0 nw_shX ++ nw_pic adM cy mm 0 nw_shM) H) (hD : va_D (nl_A s) (nw_pic adX cy mx 0 nw_shX ++ nw_pic adM cy mm 0 nw_shM)) (hS : va_S (nl_A s) s.heap H locs) {i : Nat} (hi : i + 5 ≤ L) (hl : lv_has ls 4 [(3, .int (nI i)), (2, .ref (adM 0)), (1, .ref (adX 0)), (0, .ref b)]) (hc : cells ≤ 600000) (hsl : slots ≤ 7302250) (kk : nl_kk p l e s m below meth c b D cy adX adM Z cells slots ls) : W p l e room_1 s m #[Value.ref b] below meth c H locs cells slots Z (F0 m 540 ls []) := by
  obtain ⟨A1, r, hpx, hpm⟩ := p_when A (xs (i + 1)) (xs (i + 2)) mx mm hX hM
  obtain ⟨hx, hb, hml, hown, hts, hK, hXs, hbl⟩ := id C
  refine lv_aload_n hx hb (by decide +kernel : decode code 540 = .ok (.aload_n 1, 1)) rfl (lv_at hl 2 rfl) ?_
  refine lv_aload_n hx hb (by decide +kernel : decode code 541 = .ok (.aload_n 0, 1)) rfl (lv_at hl 3 rfl) ?_
  refine lv_iload_n hx hb (by decide +kernel : decode code 542 = .ok (.iload_n 3, 1)) rfl (lv_at hl 0 rfl) ?_
  refine lv_iconst (v := 1) hx hb (by decide +kernel : decode code 543 = .ok (.iconst 1, 1)) (by decide) ?_
  refine lv_iadd hx hb (by decide +kernel : decode code 544 = .ok (.iadd, 1)) ?_
  refine nl_ld C hS (x := nI i + 1) (j := i + 1) (nI_add i 1) (by omega) hL (by decide +kernel : decode code 545 = .ok (.iaload, 1)) ?_
  refine lv_aload_n hx hb (by decide +kernel : decode code 546 = .ok (.aload_n 0, 1)) rfl (lv_at hl 3 rfl) ?_
  refine lv_iload_n hx hb (by decide +kernel : decode code 547 = .ok (.iload_n 3, 1)) rfl (lv_at hl 0 rfl) ?_
  refine lv_iconst (v := 2) hx hb (by decide +kernel : decode code 548 = .ok (.iconst 2, 1)) (by decide) ?_
  refine lv_iadd hx hb (by decide +kernel : decode code 549 = .ok (.iadd, 1)) ?_
  refine nl_ld C hS (x := nI i + 2) (j := i + 2) (nI_add i 2) (by omega) hL (by decide +kernel : decode code 550 = .ok (.iaload, 1)) ?_
  refine nl_call C nl_okX hEX (by rw [nw_pic_len]; decide) hP hD hS (k := 84) (ci := 0) (as := [.int (xs (i + 1)), .int (xs (i + 2))]) (rest := []) (Q := fun v u => v = some (.int r) ∧ nX A1 u) nw_m_84 rfl rfl (hpx _ (fun _ h => ⟨rfl, h⟩)) rfl rfl (nw_in 469 (by decide +kernel) (by decide +kernel)) rfl (Nat.le_of_ble_eq_true rfl) (by decide +kernel : decode code 551 = .ok (.invokevirtual 76, 3)) hl.1 hc hsl (fun r1 mx1 H locs hq hP hD hS => ?_)
  obtain ⟨hq1, hX1⟩ := hq
  cases hq1
  refine lv_aload_n hx hb (by decide +kernel : decode code 554 = .ok (.aload_n 2, 1)) rfl (lv_at hl 1 rfl) ?_
  refine lv_aload_n hx hb (by decide +kernel : decode code 555 = .ok (.aload_n 0, 1)) rfl (lv_at hl 3 rfl) ?_
  refine lv_iload_n hx hb (by decide +kernel : decode code 556 = .ok (.iload_n 3, 1)) rfl (lv_at hl 0 rfl) ?_
  refine lv_iconst (v := 1) hx hb (by decide +kernel : decode code 557 = .ok (.iconst 1, 1)) (by decide) ?_
  refine lv_iadd hx hb (by decide +kernel : decode code 558 = .ok (.iadd, 1)) ?_
  refine nl_ld C hS (x := nI i + 1) (j := i + 1) (nI_add i 1) (by omega) hL (by decide +kernel : decode code 559 = .ok (.iaload, 1)) ?_
  refine lv_aload_n hx hb (by decide +kernel : decode code 560 = .ok (.aload_n 0, 1)) rfl (lv_at hl 3 rfl) ?_
  refine lv_iload_n hx hb (by decide +kernel : decode code 561 = .ok (.iload_n 3, 1)) rfl (lv_at hl 0 rfl) ?_
  refine lv_iconst (v := 2) hx hb (by decide +kernel : decode code 562 = .ok (.iconst 2, 1)) (by decide) ?_
  refine lv_iadd hx hb (by decide +kernel : decode code 563 = .ok (.iadd, 1)) ?_
  refine nl_ld C hS (x := nI i + 2) (j := i + 2) (nI_add i 2) (by omega) hL (by decide +kernel : decode code 564 = .ok (.iaload, 1)) ?_
  refine nl_call C nl_okM hEM (by rw [nw_pic_len]; decide) hP hD hS (k := 133) (ci := 4) (as := [.int (xs (i + 1)), .int (xs (i + 2))]) (rest := [.int r]) (Q := fun v u => v = some (.int r) ∧ nM A1 u) nw_m_133 rfl rfl (hpm _ (fun _ h => ⟨rfl, h⟩)) rfl rfl (nw_in 835 (by decide +kernel) (by decide +kernel)) rfl (Nat.le_of_ble_eq_true rfl) (by decide +kernel : decode code 565 = .ok (.invokevirtual 79, 3)) hl.1 hc hsl (fun r1 mm1 H locs hq hP hD hS => ?_)
  obtain ⟨hq1, hM1⟩ := hq
  cases hq1
  exact lv_icmp_eq hx hb (by decide +kernel : decode code 568 = .ok (.if_icmp .eq 385, 3)) (tgt := 953) (by decide) (fun _ => kk A1 mx1 mm1 H locs hX1 hM1 hP hD hS) (fun z => absurd rfl z)
end NLC
