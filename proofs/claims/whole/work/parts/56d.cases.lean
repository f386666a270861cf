/-! the law's cases: printed by gen/law.py -/
section NLC
variable {p : Program} {l : Launch} {e : Env} {s : State} {m : MethodId} {below : List Frame} {meth : Method} {c : Code} {b L : Nat} {xs : Nat → Int32} {D : va_G} {cy : Bool → ClassId} {Z : State → Prop} {cells slots : Nat} {ls : Array Slot} {H : Heap} {locs : List Loc} {adX adM adV : Nat → Nat}
theorem nl_case_15 (C : nl_C p s m c b L xs D cy) (hL : L ≤ 2560) (hEX : nw_En adX adV (nl_A s) s s.heap) (hEM : nw_En adM adV (nl_A s) s s.heap) {mx mm : nw_M} {A : nA} (hX : nX A mx) (hM : nM A mm) (hP : va_P D nw_cls (nw_pic adX cy mx 0 nw_shX ++ nw_pic adM cy mm 0 nw_shM) H) (hD : va_D (nl_A s) (nw_pic adX cy mx 0 nw_shX ++ nw_pic adM cy mm 0 nw_shM)) (hS : va_S (nl_A s) s.heap H locs) {i : Nat} (hi : i + 5 ≤ L) (hl : lv_has ls 4 [(3, .int (nI i)), (2, .ref (adM 0)), (1, .ref (adX 0)), (0, .ref b)]) (hc : cells ≤ 600000) (hsl : slots ≤ 7302250) (kk : nl_kk p l e s m below meth c b D cy adX adM Z cells slots ls) : W p l e room_1 s m #[Value.ref b] below meth c H locs cells slots Z (F0 m 573 ls []) := by
  obtain ⟨A1, r, hpx, hpm⟩ := p_often A (xs (i + 1)) (xs (i + 2)) (xs (i + 3)) mx mm hX hM
  obtain ⟨hx, hb, hml, hown, hts, hK, hXs, hbl⟩ := id C
  refine lv_aload_n hx hb (by decide +kernel : decode code 573 = .ok (.aload_n 1, 1)) rfl (lv_at hl 2 rfl) ?_
  refine lv_aload_n hx hb (by decide +kernel : decode code 574 = .ok (.aload_n 0, 1)) rfl (lv_at hl 3 rfl) ?_
  refine lv_iload_n hx hb (by decide +kernel : decode code 575 = .ok (.iload_n 3, 1)) rfl (lv_at hl 0 rfl) ?_
  refine lv_iconst (v := 1) hx hb (by decide +kernel : decode code 576 = .ok (.iconst 1, 1)) (by decide) ?_
  refine lv_iadd hx hb (by decide +kernel : decode code 577 = .ok (.iadd, 1)) ?_
  refine nl_ld C hS (x := nI i + 1) (j := i + 1) (nI_add i 1) (by omega) hL (by decide +kernel : decode code 578 = .ok (.iaload, 1)) ?_
  refine lv_aload_n hx hb (by decide +kernel : decode code 579 = .ok (.aload_n 0, 1)) rfl (lv_at hl 3 rfl) ?_
  refine lv_iload_n hx hb (by decide +kernel : decode code 580 = .ok (.iload_n 3, 1)) rfl (lv_at hl 0 rfl) ?_
  refine lv_iconst (v := 2) hx hb (by decide +kernel : decode code 581 = .ok (.iconst 2, 1)) (by decide) ?_
  refine lv_iadd hx hb (by decide +kernel : decode code 582 = .ok (.iadd, 1)) ?_
  refine nl_ld C hS (x := nI i + 2) (j := i + 2) (nI_add i 2) (by omega) hL (by decide +kernel : decode code 583 = .ok (.iaload, 1)) ?_
  refine lv_aload_n hx hb (by decide +kernel : decode code 584 = .ok (.aload_n 0, 1)) rfl (lv_at hl 3 rfl) ?_
  refine lv_iload_n hx hb (by decide +kernel : decode code 585 = .ok (.iload_n 3, 1)) rfl (lv_at hl 0 rfl) ?_
  refine lv_iconst (v := 3) hx hb (by decide +kernel : decode code 586 = .ok (.iconst 3, 1)) (by decide) ?_
  refine lv_iadd hx hb (by decide +kernel : decode code 587 = .ok (.iadd, 1)) ?_
  refine nl_ld C hS (x := nI i + 3) (j := i + 3) (nI_add i 3) (by omega) hL (by decide +kernel : decode code 588 = .ok (.iaload, 1)) ?_
  refine nl_call C nl_okX hEX (by rw [nw_pic_len]; decide) hP hD hS (k := 85) (ci := 0) (as := [.int (xs (i + 1)), .int (xs (i + 2)), .int (xs (i + 3))]) (rest := []) (Q := fun v u => v = some (.int r) ∧ nX A1 u) nw_m_85 rfl rfl (hpx _ (fun _ h => ⟨rfl, h⟩)) rfl rfl (nw_in 478 (by decide +kernel) (by decide +kernel)) rfl (Nat.le_of_ble_eq_true rfl) (by decide +kernel : decode code 589 = .ok (.invokevirtual 80, 3)) hl.1 hc hsl (fun r1 mx1 H locs hq hP hD hS => ?_)
  obtain ⟨hq1, hX1⟩ := hq
  cases hq1
  refine lv_aload_n hx hb (by decide +kernel : decode code 592 = .ok (.aload_n 2, 1)) rfl (lv_at hl 1 rfl) ?_
  refine lv_aload_n hx hb (by decide +kernel : decode code 593 = .ok (.aload_n 0, 1)) rfl (lv_at hl 3 rfl) ?_
  refine lv_iload_n hx hb (by decide +kernel : decode code 594 = .ok (.iload_n 3, 1)) rfl (lv_at hl 0 rfl) ?_
  refine lv_iconst (v := 1) hx hb (by decide +kernel : decode code 595 = .ok (.iconst 1, 1)) (by decide) ?_
  refine lv_iadd hx hb (by decide +kernel : decode code 596 = .ok (.iadd, 1)) ?_
  refine nl_ld C hS (x := nI i + 1) (j := i + 1) (nI_add i 1) (by omega) hL (by decide +kernel : decode code 597 = .ok (.iaload, 1)) ?_
  refine lv_aload_n hx hb (by decide +kernel : decode code 598 = .ok (.aload_n 0, 1)) rfl (lv_at hl 3 rfl) ?_
  refine lv_iload_n hx hb (by decide +kernel : decode code 599 = .ok (.iload_n 3, 1)) rfl (lv_at hl 0 rfl) ?_
  refine lv_iconst (v := 2) hx hb (by decide +kernel : decode code 600 = .ok (.iconst 2, 1)) (by decide) ?_
  refine lv_iadd hx hb (by decide +kernel : decode code 601 = .ok (.iadd, 1)) ?_
  refine nl_ld C hS (x := nI i + 2) (j := i + 2) (nI_add i 2) (by omega) hL (by decide +kernel : decode code 602 = .ok (.iaload, 1)) ?_
  refine lv_aload_n hx hb (by decide +kernel : decode code 603 = .ok (.aload_n 0, 1)) rfl (lv_at hl 3 rfl) ?_
  refine lv_iload_n hx hb (by decide +kernel : decode code 604 = .ok (.iload_n 3, 1)) rfl (lv_at hl 0 rfl) ?_
  refine lv_iconst (v := 3) hx hb (by decide +kernel : decode code 605 = .ok (.iconst 3, 1)) (by decide) ?_
  refine lv_iadd hx hb (by decide +kernel : decode code 606 = .ok (.iadd, 1)) ?_
  refine nl_ld C hS (x := nI i + 3) (j := i + 3) (nI_add i 3) (by omega) hL (by decide +kernel : decode code 607 = .ok (.iaload, 1)) ?_
  refine nl_call C nl_okM hEM (by rw [nw_pic_len]; decide) hP hD hS (k := 134) (ci := 4) (as := [.int (xs (i + 1)), .int (xs (i + 2)), .int (xs (i + 3))]) (rest := [.int r]) (Q := fun v u => v = some (.int r) ∧ nM A1 u) nw_m_134 rfl rfl (hpm _ (fun _ h => ⟨rfl, h⟩)) rfl rfl (nw_in 843 (by decide +kernel) (by decide +kernel)) rfl (Nat.le_of_ble_eq_true rfl) (by decide +kernel : decode code 608 = .ok (.invokevirtual 83, 3)) hl.1 hc hsl (fun r1 mm1 H locs hq hP hD hS => ?_)
  obtain ⟨hq1, hM1⟩ := hq
  cases hq1
  exact lv_icmp_eq hx hb (by decide +kernel : decode code 611 = .ok (.if_icmp .eq 342, 3)) (tgt := 953) (by decide) (fun _ => kk A1 mx1 mm1 H locs hX1 hM1 hP hD hS) (fun z => absurd rfl z)
theorem nl_case_16 (C : nl_C p s m c b L xs D cy) (hL : L ≤ 2560) (hEX : nw_En adX adV (nl_A s) s s.heap) (hEM : nw_En adM adV (nl_A s) s s.heap) {mx mm : nw_M} {A : nA} (hX : nX A mx) (hM : nM A mm) (hP : va_P D nw_cls (nw_pic adX cy mx 0 nw_shX ++ nw_pic adM cy mm 0 nw_shM) H) (hD : va_D (nl_A s) (nw_pic adX cy mx 0 nw_shX ++ nw_pic adM cy mm 0 nw_shM)) (hS : va_S (nl_A s) s.heap H locs) {i : Nat} (hi : i + 5 ≤ L) (hl : lv_has ls 4 [(3, .int (nI i)), (2, .ref (adM 0)), (1, .ref (adX 0)), (0, .ref b)]) (hc : cells ≤ 600000) (hsl : slots ≤ 7302250) (kk : nl_kk p l e s m below meth c b D cy adX adM Z cells slots ls) : W p l e room_1 s m #[Value.ref b] below meth c H locs cells slots Z (F0 m 616 ls []) := by
  obtain ⟨A1, r, hpx, hpm⟩ := p_meet A (xs (i + 1)) (xs (i + 2)) (xs (i + 3)) mx mm hX hM
  obtain ⟨hx, hb, hml, hown, hts, hK, hXs, hbl⟩ := id C
  refine lv_aload_n hx hb (by decide +kernel : decode code 616 = .ok (.aload_n 1, 1)) rfl (lv_at hl 2 rfl) ?_
  refine lv_aload_n hx hb (by decide +kernel : decode code 617 = .ok (.aload_n 0, 1)) rfl (lv_at hl 3 rfl) ?_
  refine lv_iload_n hx hb (by decide +kernel : decode code 618 = .ok (.iload_n 3, 1)) rfl (lv_at hl 0 rfl) ?_
  refine lv_iconst (v := 1) hx hb (by decide +kernel : decode code 619 = .ok (.iconst 1, 1)) (by decide) ?_
  refine lv_iadd hx hb (by decide +kernel : decode code 620 = .ok (.iadd, 1)) ?_
  refine nl_ld C hS (x := nI i + 1) (j := i + 1) (nI_add i 1) (by omega) hL (by decide +kernel : decode code 621 = .ok (.iaload, 1)) ?_
  refine lv_aload_n hx hb (by decide +kernel : decode code 622 = .ok (.aload_n 0, 1)) rfl (lv_at hl 3 rfl) ?_
  refine lv_iload_n hx hb (by decide +kernel : decode code 623 = .ok (.iload_n 3, 1)) rfl (lv_at hl 0 rfl) ?_
  refine lv_iconst (v := 2) hx hb (by decide +kernel : decode code 624 = .ok (.iconst 2, 1)) (by decide) ?_
  refine lv_iadd hx hb (by decide +kernel : decode code 625 = .ok (.iadd, 1)) ?_
  refine nl_ld C hS (x := nI i + 2) (j := i + 2) (nI_add i 2) (by omega) hL (by decide +kernel : decode code 626 = .ok (.iaload, 1)) ?_
  refine lv_aload_n hx hb (by decide +kernel : decode code 627 = .ok (.aload_n 0, 1)) rfl (lv_at hl 3 rfl) ?_
  refine lv_iload_n hx hb (by decide +kernel : decode code 628 = .ok (.iload_n 3, 1)) rfl (lv_at hl 0 rfl) ?_
  refine lv_iconst (v := 3) hx hb (by decide +kernel : decode code 629 = .ok (.iconst 3, 1)) (by decide) ?_
  refine lv_iadd hx hb (by decide +kernel : decode code 630 = .ok (.iadd, 1)) ?_
  refine nl_ld C hS (x := nI i + 3) (j := i + 3) (nI_add i 3) (by omega) hL (by decide +kernel : decode code 631 = .ok (.iaload, 1)) ?_
  refine nl_call C nl_okX hEX (by rw [nw_pic_len]; decide) hP hD hS (k := 86) (ci := 0) (as := [.int (xs (i + 1)), .int (xs (i + 2)), .int (xs (i + 3))]) (rest := []) (Q := fun v u => v = some (.int r) ∧ nX A1 u) nw_m_86 rfl rfl (hpx _ (fun _ h => ⟨rfl, h⟩)) rfl rfl (nw_in 485 (by decide +kernel) (by decide +kernel)) rfl (Nat.le_of_ble_eq_true rfl) (by decide +kernel : decode code 632 = .ok (.invokevirtual 84, 3)) hl.1 hc hsl (fun r1 mx1 H locs hq hP hD hS => ?_)
  obtain ⟨hq1, hX1⟩ := hq
  cases hq1
  refine lv_aload_n hx hb (by decide +kernel : decode code 635 = .ok (.aload_n 2, 1)) rfl (lv_at hl 1 rfl) ?_
  refine lv_aload_n hx hb (by decide +kernel : decode code 636 = .ok (.aload_n 0, 1)) rfl (lv_at hl 3 rfl) ?_
  refine lv_iload_n hx hb (by decide +kernel : decode code 637 = .ok (.iload_n 3, 1)) rfl (lv_at hl 0 rfl) ?_
  refine lv_iconst (v := 1) hx hb (by decide +kernel : decode code 638 = .ok (.iconst 1, 1)) (by decide) ?_
  refine lv_iadd hx hb (by decide +kernel : decode code 639 = .ok (.iadd, 1)) ?_
  refine nl_ld C hS (x := nI i + 1) (j := i + 1) (nI_add i 1) (by omega) hL (by decide +kernel : decode code 640 = .ok (.iaload, 1)) ?_
  refine lv_aload_n hx hb (by decide +kernel : decode code 641 = .ok (.aload_n 0, 1)) rfl (lv_at hl 3 rfl) ?_
  refine lv_iload_n hx hb (by decide +kernel : decode code 642 = .ok (.iload_n 3, 1)) rfl (lv_at hl 0 rfl) ?_
  refine lv_iconst (v := 2) hx hb (by decide +kernel : decode code 643 = .ok (.iconst 2, 1)) (by decide) ?_
  refine lv_iadd hx hb (by decide +kernel : decode code 644 = .ok (.iadd, 1)) ?_
  refine nl_ld C hS (x := nI i + 2) (j := i + 2) (nI_add i 2) (by omega) hL (by decide +kernel : decode code 645 = .ok (.iaload, 1)) ?_
  refine lv_aload_n hx hb (by decide +kernel : decode code 646 = .ok (.aload_n 0, 1)) rfl (lv_at hl 3 rfl) ?_
  refine lv_iload_n hx hb (by decide +kernel : decode code 647 = .ok (.iload_n 3, 1)) rfl (lv_at hl 0 rfl) ?_
  refine lv_iconst (v := 3) hx hb (by decide +kernel : decode code 648 = .ok (.iconst 3, 1)) (by decide) ?_
  refine lv_iadd hx hb (by decide +kernel : decode code 649 = .ok (.iadd, 1)) ?_
  refine nl_ld C hS (x := nI i + 3) (j := i + 3) (nI_add i 3) (by omega) hL (by decide +kernel : decode code 650 = .ok (.iaload, 1)) ?_
  refine nl_call C nl_okM hEM (by rw [nw_pic_len]; decide) hP hD hS (k := 135) (ci := 4) (as := [.int (xs (i + 1)), .int (xs (i + 2)), .int (xs (i + 3))]) (rest := [.int r]) (Q := fun v u => v = some (.int r) ∧ nM A1 u) nw_m_135 rfl rfl (hpm _ (fun _ h => ⟨rfl, h⟩)) rfl rfl (nw_in 847 (by decide +kernel) (by decide +kernel)) rfl (Nat.le_of_ble_eq_true rfl) (by decide +kernel : decode code 651 = .ok (.invokevirtual 87, 3)) hl.1 hc hsl (fun r1 mm1 H locs hq hP hD hS => ?_)
  obtain ⟨hq1, hM1⟩ := hq
  cases hq1
  exact lv_icmp_eq hx hb (by decide +kernel : decode code 654 = .ok (.if_icmp .eq 299, 3)) (tgt := 953) (by decide) (fun _ => kk A1 mx1 mm1 H locs hX1 hM1 hP hD hS) (fun z => absurd rfl z)
theorem nl_case_17 (C : nl_C p s m c b L xs D cy) (hL : L ≤ 2560) (hEX : nw_En adX adV (nl_A s) s s.heap) (hEM : nw_En adM adV (nl_A s) s s.heap) {mx mm : nw_M} {A : nA} (hX : nX A mx) (hM : nM A mm) (hP : va_P D nw_cls (nw_pic adX cy mx 0 nw_shX ++ nw_pic adM cy mm 0 nw_shM) H) (hD : va_D (nl_A s) (nw_pic adX cy mx 0 nw_shX ++ nw_pic adM cy mm 0 nw_shM)) (hS : va_S (nl_A s) s.heap H locs) {i : Nat} (hi : i + 5 ≤ L) (hl : lv_has ls 4 [(3, .int (nI i)), (2, .ref (adM 0)), (1, .ref (adX 0)), (0, .ref b)]) (hc : cells ≤ 600000) (hsl : slots ≤ 7302250) (kk : nl_kk p l e s m below meth c b D cy adX adM Z cells slots ls) : W p l e room_1 s m #[Value.ref b] below meth c H locs cells slots Z (F0 m 659 ls []) := by
  obtain ⟨A1, r, hpx, hpm⟩ := p_round A (xs (i + 1)) (xs (i + 2)) mx mm hX hM
  obtain ⟨hx, hb, hml, hown, hts, hK, hXs, hbl⟩ := id C
  refine lv_aload_n hx hb (by decide +kernel : decode code 659 = .ok (.aload_n 1, 1)) rfl (lv_at hl 2 rfl) ?_
  refine lv_aload_n hx hb (by decide +kernel : decode code 660 = .ok (.aload_n 0, 1)) rfl (lv_at hl 3 rfl) ?_
  refine lv_iload_n hx hb (by decide +kernel : decode code 661 = .ok (.iload_n 3, 1)) rfl (lv_at hl 0 rfl) ?_
  refine lv_iconst (v := 1) hx hb (by decide +kernel : decode code 662 = .ok (.iconst 1, 1)) (by decide) ?_
  refine lv_iadd hx hb (by decide +kernel : decode code 663 = .ok (.iadd, 1)) ?_
  refine nl_ld C hS (x := nI i + 1) (j := i + 1) (nI_add i 1) (by omega) hL (by decide +kernel : decode code 664 = .ok (.iaload, 1)) ?_
  refine lv_aload_n hx hb (by decide +kernel : decode code 665 = .ok (.aload_n 0, 1)) rfl (lv_at hl 3 rfl) ?_
  refine lv_iload_n hx hb (by decide +kernel : decode code 666 = .ok (.iload_n 3, 1)) rfl (lv_at hl 0 rfl) ?_
  refine lv_iconst (v := 2) hx hb (by decide +kernel : decode code 667 = .ok (.iconst 2, 1)) (by decide) ?_
  refine lv_iadd hx hb (by decide +kernel : decode code 668 = .ok (.iadd, 1)) ?_
  refine nl_ld C hS (x := nI i + 2) (j := i + 2) (nI_add i 2) (by omega) hL (by decide +kernel : decode code 669 = .ok (.iaload, 1)) ?_
  refine nl_call C nl_okX hEX (by rw [nw_pic_len]; decide) hP hD hS (k := 87) (ci := 0) (as := [.int (xs (i + 1)), .int (xs (i + 2))]) (rest := []) (Q := fun v u => v = some (.int r) ∧ nX A1 u) nw_m_87 rfl rfl (hpx _ (fun _ h => ⟨rfl, h⟩)) rfl rfl (nw_in 492 (by decide +kernel) (by decide +kernel)) rfl (Nat.le_of_ble_eq_true rfl) (by decide +kernel : decode code 670 = .ok (.invokevirtual 88, 3)) hl.1 hc hsl (fun r1 mx1 H locs hq hP hD hS => ?_)
  obtain ⟨hq1, hX1⟩ := hq
  cases hq1
  refine lv_aload_n hx hb (by decide +kernel : decode code 673 = .ok (.aload_n 2, 1)) rfl (lv_at hl 1 rfl) ?_
  refine lv_aload_n hx hb (by decide +kernel : decode code 674 = .ok (.aload_n 0, 1)) rfl (lv_at hl 3 rfl) ?_
  refine lv_iload_n hx hb (by decide +kernel : decode code 675 = .ok (.iload_n 3, 1)) rfl (lv_at hl 0 rfl) ?_
  refine lv_iconst (v := 1) hx hb (by decide +kernel : decode code 676 = .ok (.iconst 1, 1)) (by decide) ?_
  refine lv_iadd hx hb (by decide +kernel : decode code 677 = .ok (.iadd, 1)) ?_
  refine nl_ld C hS (x := nI i + 1) (j := i + 1) (nI_add i 1) (by omega) hL (by decide +kernel : decode code 678 = .ok (.iaload, 1)) ?_
  refine lv_aload_n hx hb (by decide +kernel : decode code 679 = .ok (.aload_n 0, 1)) rfl (lv_at hl 3 rfl) ?_
  refine lv_iload_n hx hb (by decide +kernel : decode code 680 = .ok (.iload_n 3, 1)) rfl (lv_at hl 0 rfl) ?_
  refine lv_iconst (v := 2) hx hb (by decide +kernel : decode code 681 = .ok (.iconst 2, 1)) (by decide) ?_
  refine lv_iadd hx hb (by decide +kernel : decode code 682 = .ok (.iadd, 1)) ?_
  refine nl_ld C hS (x := nI i + 2) (j := i + 2) (nI_add i 2) (by omega) hL (by decide +kernel : decode code 683 = .ok (.iaload, 1)) ?_
  refine nl_call C nl_okM hEM (by rw [nw_pic_len]; decide) hP hD hS (k := 137) (ci := 4) (as := [.int (xs (i + 1)), .int (xs (i + 2))]) (rest := [.int r]) (Q := fun v u => v = some (.int r) ∧ nM A1 u) nw_m_137 rfl rfl (hpm _ (fun _ h => ⟨rfl, h⟩)) rfl rfl (nw_in 851 (by decide +kernel) (by decide +kernel)) rfl (Nat.le_of_ble_eq_true rfl) (by decide +kernel : decode code 684 = .ok (.invokevirtual 91, 3)) hl.1 hc hsl (fun r1 mm1 H locs hq hP hD hS => ?_)
  obtain ⟨hq1, hM1⟩ := hq
  cases hq1
  exact lv_icmp_eq hx hb (by decide +kernel : decode code 687 = .ok (.if_icmp .eq 266, 3)) (tgt := 953) (by decide) (fun _ => kk A1 mx1 mm1 H locs hX1 hM1 hP hD hS) (fun z => absurd rfl z)
theorem nl_case_18 (C : nl_C p s m c b L xs D cy) (hL : L ≤ 2560) (hEX : nw_En adX adV (nl_A s) s s.heap) (hEM : nw_En adM adV (nl_A s) s s.heap) {mx mm : nw_M} {A : nA} (hX : nX A mx) (hM : nM A mm) (hP : va_P D nw_cls (nw_pic adX cy mx 0 nw_shX ++ nw_pic adM cy mm 0 nw_shM) H) (hD : va_D (nl_A s) (nw_pic adX cy mx 0 nw_shX ++ nw_pic adM cy mm 0 nw_shM)) (hS : va_S (nl_A s) s.heap H locs) {i : Nat} (hi : i + 5 ≤ L) (hl : lv_has ls 4 [(3, .int (nI i)), (2, .ref (adM 0)), (1, .ref (adX 0)), (0, .ref b)]) (hc : cells ≤ 600000) (hsl : slots ≤ 7302250) (kk : nl_kk p l e s m below meth c b D cy adX adM Z cells slots ls) : W p l e room_1 s m #[Value.ref b] below meth c H locs cells slots Z (F0 m 692 ls []) := by
  obtain ⟨A1, r, hpx, hpm⟩ := p_quick A (xs (i + 1)) (xs (i + 2)) (xs (i + 3)) mx mm hX hM
  obtain ⟨hx, hb, hml, hown, hts, hK, hXs, hbl⟩ := id C
  refine lv_aload_n hx hb (by decide +kernel : decode code 692 = .ok (.aload_n 1, 1)) rfl (lv_at hl 2 rfl) ?_
  refine lv_aload_n hx hb (by decide +kernel : decode code 693 = .ok (.aload_n 0, 1)) rfl (lv_at hl 3 rfl) ?_
  refine lv_iload_n hx hb (by decide +kernel : decode code 694 = .ok (.iload_n 3, 1)) rfl (lv_at hl 0 rfl) ?_
  refine lv_iconst (v := 1) hx hb (by decide +kernel : decode code 695 = .ok (.iconst 1, 1)) (by decide) ?_
  refine lv_iadd hx hb (by decide +kernel : decode code 696 = .ok (.iadd, 1)) ?_
  refine nl_ld C hS (x := nI i + 1) (j := i + 1) (nI_add i 1) (by omega) hL (by decide +kernel : decode code 697 = .ok (.iaload, 1)) ?_
  refine lv_aload_n hx hb (by decide +kernel : decode code 698 = .ok (.aload_n 0, 1)) rfl (lv_at hl 3 rfl) ?_
  refine lv_iload_n hx hb (by decide +kernel : decode code 699 = .ok (.iload_n 3, 1)) rfl (lv_at hl 0 rfl) ?_
  refine lv_iconst (v := 2) hx hb (by decide +kernel : decode code 700 = .ok (.iconst 2, 1)) (by decide) ?_
  refine lv_iadd hx hb (by decide +kernel : decode code 701 = .ok (.iadd, 1)) ?_
  refine nl_ld C hS (x := nI i + 2) (j := i + 2) (nI_add i 2) (by omega) hL (by decide +kernel : decode code 702 = .ok (.iaload, 1)) ?_
  refine lv_aload_n hx hb (by decide +kernel : decode code 703 = .ok (.aload_n 0, 1)) rfl (lv_at hl 3 rfl) ?_
  refine lv_iload_n hx hb (by decide +kernel : decode code 704 = .ok (.iload_n 3, 1)) rfl (lv_at hl 0 rfl) ?_
  refine lv_iconst (v := 3) hx hb (by decide +kernel : decode code 705 = .ok (.iconst 3, 1)) (by decide) ?_
  refine lv_iadd hx hb (by decide +kernel : decode code 706 = .ok (.iadd, 1)) ?_
  refine nl_ld C hS (x := nI i + 3) (j := i + 3) (nI_add i 3) (by omega) hL (by decide +kernel : decode code 707 = .ok (.iaload, 1)) ?_
  refine nl_call C nl_okX hEX (by rw [nw_pic_len]; decide) hP hD hS (k := 88) (ci := 0) (as := [.int (xs (i + 1)), .int (xs (i + 2)), .int (xs (i + 3))]) (rest := []) (Q := fun v u => v = some (.int r) ∧ nX A1 u) nw_m_88 rfl rfl (hpx _ (fun _ h => ⟨rfl, h⟩)) rfl rfl (nw_in 508 (by decide +kernel) (by decide +kernel)) rfl (Nat.le_of_ble_eq_true rfl) (by decide +kernel : decode code 708 = .ok (.invokevirtual 92, 3)) hl.1 hc hsl (fun r1 mx1 H locs hq hP hD hS => ?_)
  obtain ⟨hq1, hX1⟩ := hq
  cases hq1
  refine lv_aload_n hx hb (by decide +kernel : decode code 711 = .ok (.aload_n 2, 1)) rfl (lv_at hl 1 rfl) ?_
  refine lv_aload_n hx hb (by decide +kernel : decode code 712 = .ok (.aload_n 0, 1)) rfl (lv_at hl 3 rfl) ?_
  refine lv_iload_n hx hb (by decide +kernel : decode code 713 = .ok (.iload_n 3, 1)) rfl (lv_at hl 0 rfl) ?_
  refine lv_iconst (v := 1) hx hb (by decide +kernel : decode code 714 = .ok (.iconst 1, 1)) (by decide) ?_
  refine lv_iadd hx hb (by decide +kernel : decode code 715 = .ok (.iadd, 1)) ?_
  refine nl_ld C hS (x := nI i + 1) (j := i + 1) (nI_add i 1) (by omega) hL (by decide +kernel : decode code 716 = .ok (.iaload, 1)) ?_
  refine lv_aload_n hx hb (by decide +kernel : decode code 717 = .ok (.aload_n 0, 1)) rfl (lv_at hl 3 rfl) ?_
  refine lv_iload_n hx hb (by decide +kernel : decode code 718 = .ok (.iload_n 3, 1)) rfl (lv_at hl 0 rfl) ?_
  refine lv_iconst (v := 2) hx hb (by decide +kernel : decode code 719 = .ok (.iconst 2, 1)) (by decide) ?_
  refine lv_iadd hx hb (by decide +kernel : decode code 720 = .ok (.iadd, 1)) ?_
  refine nl_ld C hS (x := nI i + 2) (j := i + 2) (nI_add i 2) (by omega) hL (by decide +kernel : decode code 721 = .ok (.iaload, 1)) ?_
  refine lv_aload_n hx hb (by decide +kernel : decode code 722 = .ok (.aload_n 0, 1)) rfl (lv_at hl 3 rfl) ?_
  refine lv_iload_n hx hb (by decide +kernel : decode code 723 = .ok (.iload_n 3, 1)) rfl (lv_at hl 0 rfl) ?_
  refine lv_iconst (v := 3) hx hb (by decide +kernel : decode code 724 = .ok (.iconst 3, 1)) (by decide) ?_
  refine lv_iadd hx hb (by decide +kernel : decode code 725 = .ok (.iadd, 1)) ?_
  refine nl_ld C hS (x := nI i + 3) (j := i + 3) (nI_add i 3) (by omega) hL (by decide +kernel : decode code 726 = .ok (.iaload, 1)) ?_
  refine nl_call C nl_okM hEM (by rw [nw_pic_len]; decide) hP hD hS (k := 141) (ci := 4) (as := [.int (xs (i + 1)), .int (xs (i + 2)), .int (xs (i + 3))]) (rest := [.int r]) (Q := fun v u => v = some (.int r) ∧ nM A1 u) nw_m_141 rfl rfl (hpm _ (fun _ h => ⟨rfl, h⟩)) rfl rfl (nw_in 859 (by decide +kernel) (by decide +kernel)) rfl (Nat.le_of_ble_eq_true rfl) (by decide +kernel : decode code 727 = .ok (.invokevirtual 95, 3)) hl.1 hc hsl (fun r1 mm1 H locs hq hP hD hS => ?_)
  obtain ⟨hq1, hM1⟩ := hq
  cases hq1
  exact lv_icmp_eq hx hb (by decide +kernel : decode code 730 = .ok (.if_icmp .eq 223, 3)) (tgt := 953) (by decide) (fun _ => kk A1 mx1 mm1 H locs hX1 hM1 hP hD hS) (fun z => absurd rfl z)
theorem nl_case_19 (C : nl_C p s m c b L xs D cy) (hL : L ≤ 2560) (hEX : nw_En adX adV (nl_A s) s s.heap) (hEM : nw_En adM adV (nl_A s) s s.heap) {mx mm : nw_M} {A : nA} (hX : nX A mx) (hM : nM A mm) (hP : va_P D nw_cls (nw_pic adX cy mx 0 nw_shX ++ nw_pic adM cy mm 0 nw_shM) H) (hD : va_D (nl_A s) (nw_pic adX cy mx 0 nw_shX ++ nw_pic adM cy mm 0 nw_shM)) (hS : va_S (nl_A s) s.heap H locs) {i : Nat} (hi : i + 5 ≤ L) (hl : lv_has ls 4 [(3, .int (nI i)), (2, .ref (adM 0)), (1, .ref (adX 0)), (0, .ref b)]) (hc : cells ≤ 600000) (hsl : slots ≤ 7302250) (kk : nl_kk p l e s m below meth c b D cy adX adM Z cells slots ls) : W p l e room_1 s m #[Value.ref b] below meth c H locs cells slots Z (F0 m 735 ls []) := by
  obtain ⟨A1, r, hpx, hpm⟩ := p_slow A (xs (i + 1)) (xs (i + 2)) mx mm hX hM
  obtain ⟨hx, hb, hml, hown, hts, hK, hXs, hbl⟩ := id C
  refine lv_aload_n hx hb (by decide +kernel : decode code 735 = .ok (.aload_n 1, 1)) rfl (lv_at hl 2 rfl) ?_
  refine lv_aload_n hx hb (by decide +kernel : decode code 736 = .ok (.aload_n 0, 1)) rfl (lv_at hl 3 rfl) ?_
  refine lv_iload_n hx hb (by decide +kernel : decode code 737 = .ok (.iload_n 3, 1)) rfl (lv_at hl 0 rfl) ?_
  refine lv_iconst (v := 1) hx hb (by decide +kernel : decode code 738 = .ok (.iconst 1, 1)) (by decide) ?_
  refine lv_iadd hx hb (by decide +kernel : decode code 739 = .ok (.iadd, 1)) ?_
  refine nl_ld C hS (x := nI i + 1) (j := i + 1) (nI_add i 1) (by omega) hL (by decide +kernel : decode code 740 = .ok (.iaload, 1)) ?_
  refine lv_aload_n hx hb (by decide +kernel : decode code 741 = .ok (.aload_n 0, 1)) rfl (lv_at hl 3 rfl) ?_
  refine lv_iload_n hx hb (by decide +kernel : decode code 742 = .ok (.iload_n 3, 1)) rfl (lv_at hl 0 rfl) ?_
  refine lv_iconst (v := 2) hx hb (by decide +kernel : decode code 743 = .ok (.iconst 2, 1)) (by decide) ?_
  refine lv_iadd hx hb (by decide +kernel : decode code 744 = .ok (.iadd, 1)) ?_
  refine nl_ld C hS (x := nI i + 2) (j := i + 2) (nI_add i 2) (by omega) hL (by decide +kernel : decode code 745 = .ok (.iaload, 1)) ?_
  refine nl_call C nl_okX hEX (by rw [nw_pic_len]; decide) hP hD hS (k := 89) (ci := 0) (as := [.int (xs (i + 1)), .int (xs (i + 2))]) (rest := []) (Q := fun v u => v = some (.int r) ∧ nX A1 u) nw_m_89 rfl rfl (hpx _ (fun _ h => ⟨rfl, h⟩)) rfl rfl (nw_in 531 (by decide +kernel) (by decide +kernel)) rfl (Nat.le_of_ble_eq_true rfl) (by decide +kernel : decode code 746 = .ok (.invokevirtual 96, 3)) hl.1 hc hsl (fun r1 mx1 H locs hq hP hD hS => ?_)
  obtain ⟨hq1, hX1⟩ := hq
  cases hq1
  refine lv_aload_n hx hb (by decide +kernel : decode code 749 = .ok (.aload_n 2, 1)) rfl (lv_at hl 1 rfl) ?_
  refine lv_aload_n hx hb (by decide +kernel : decode code 750 = .ok (.aload_n 0, 1)) rfl (lv_at hl 3 rfl) ?_
  refine lv_iload_n hx hb (by decide +kernel : decode code 751 = .ok (.iload_n 3, 1)) rfl (lv_at hl 0 rfl) ?_
  refine lv_iconst (v := 1) hx hb (by decide +kernel : decode code 752 = .ok (.iconst 1, 1)) (by decide) ?_
  refine lv_iadd hx hb (by decide +kernel : decode code 753 = .ok (.iadd, 1)) ?_
  refine nl_ld C hS (x := nI i + 1) (j := i + 1) (nI_add i 1) (by omega) hL (by decide +kernel : decode code 754 = .ok (.iaload, 1)) ?_
  refine lv_aload_n hx hb (by decide +kernel : decode code 755 = .ok (.aload_n 0, 1)) rfl (lv_at hl 3 rfl) ?_
  refine lv_iload_n hx hb (by decide +kernel : decode code 756 = .ok (.iload_n 3, 1)) rfl (lv_at hl 0 rfl) ?_
  refine lv_iconst (v := 2) hx hb (by decide +kernel : decode code 757 = .ok (.iconst 2, 1)) (by decide) ?_
  refine lv_iadd hx hb (by decide +kernel : decode code 758 = .ok (.iadd, 1)) ?_
  refine nl_ld C hS (x := nI i + 2) (j := i + 2) (nI_add i 2) (by omega) hL (by decide +kernel : decode code 759 = .ok (.iaload, 1)) ?_
  refine nl_call C nl_okM hEM (by rw [nw_pic_len]; decide) hP hD hS (k := 142) (ci := 4) (as := [.int (xs (i + 1)), .int (xs (i + 2))]) (rest := [.int r]) (Q := fun v u => v = some (.int r) ∧ nM A1 u) nw_m_142 rfl rfl (hpm _ (fun _ h => ⟨rfl, h⟩)) rfl rfl (nw_in 875 (by decide +kernel) (by decide +kernel)) rfl (Nat.le_of_ble_eq_true rfl) (by decide +kernel : decode code 760 = .ok (.invokevirtual 99, 3)) hl.1 hc hsl (fun r1 mm1 H locs hq hP hD hS => ?_)
  obtain ⟨hq1, hM1⟩ := hq
  cases hq1
  exact lv_icmp_eq hx hb (by decide +kernel : decode code 763 = .ok (.if_icmp .eq 190, 3)) (tgt := 953) (by decide) (fun _ => kk A1 mx1 mm1 H locs hX1 hM1 hP hD hS) (fun z => absurd rfl z)
end NLC
