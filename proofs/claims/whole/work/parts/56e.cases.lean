/-! the law's cases: printed by gen/law.py -/
section NLC
variable {p : Program} {l : Launch} {e : Env} {s : State} {m : MethodId} {below : List Frame} {meth : Method} {c : Code} {b L : Nat} {xs : Nat → Int32} {D : va_G} {cy : Bool → ClassId} {Z : State → Prop} {cells slots : Nat} {ls : Array Slot} {H : Heap} {locs : List Loc} {adX adM adV : Nat → Nat}
theorem nl_case_20 (C : nl_C p s m c b L xs D cy) (hL : L ≤ 2560) (hEX : nw_En adX adV (nl_A s) s s.heap) (hEM : nw_En adM adV (nl_A s) s s.heap) {mx mm : nw_M} {A : nA} (hX : nX A mx) (hM : nM A mm) (hP : va_P D nw_cls (nw_pic adX cy mx 0 nw_shX ++ nw_pic adM cy mm 0 nw_shM) H) (hD : va_D (nl_A s) (nw_pic adX cy mx 0 nw_shX ++ nw_pic adM cy mm 0 nw_shM)) (hS : va_S (nl_A s) s.heap H locs) {i : Nat} (hi : i + 5 ≤ L) (hl : lv_has ls 4 [(3, .int (nI i)), (2, .ref (adM 0)), (1, .ref (adX 0)), (0, .ref b)]) (hc : cells ≤ 600000) (hsl : slots ≤ 7302250) (kk : nl_kk p l e s m below meth c b D cy adX adM Z cells slots ls) : W p l e room_1 s m #[Value.ref b] below meth c H locs cells slots Z (F0 m 768 ls []) := by
  obtain ⟨A1, r, hpx, hpm⟩ := p_pennies A (xs (i + 1)) (xs (i + 2)) (xs (i + 3)) (xs (i + 4)) mx mm hX hM
  obtain ⟨hx, hb, hml, hown, hts, hK, hXs, hbl⟩ := id C
  refine lv_aload_n hx hb (by decide +kernel : decode code 768 = .ok (.aload_n 1, 1)) rfl (lv_at hl 2 rfl) ?_
  refine lv_aload_n hx hb (by decide +kernel : decode code 769 = .ok (.aload_n 0, 1)) rfl (lv_at hl 3 rfl) ?_
  refine lv_iload_n hx hb (by decide +kernel : decode code 770 = .ok (.iload_n 3, 1)) rfl (lv_at hl 0 rfl) ?_
  refine lv_iconst (v := 1) hx hb (by decide +kernel : decode code 771 = .ok (.iconst 1, 1)) (by decide) ?_
  refine lv_iadd hx hb (by decide +kernel : decode code 772 = .ok (.iadd, 1)) ?_
  refine nl_ld C hS (x := nI i + 1) (j := i + 1) (nI_add i 1) (by omega) hL (by decide +kernel : decode code 773 = .ok (.iaload, 1)) ?_
  refine lv_aload_n hx hb (by decide +kernel : decode code 774 = .ok (.aload_n 0, 1)) rfl (lv_at hl 3 rfl) ?_
  refine lv_iload_n hx hb (by decide +kernel : decode code 775 = .ok (.iload_n 3, 1)) rfl (lv_at hl 0 rfl) ?_
  refine lv_iconst (v := 2) hx hb (by decide +kernel : decode code 776 = .ok (.iconst 2, 1)) (by decide) ?_
  refine lv_iadd hx hb (by decide +kernel : decode code 777 = .ok (.iadd, 1)) ?_
  refine nl_ld C hS (x := nI i + 2) (j := i + 2) (nI_add i 2) (by omega) hL (by decide +kernel : decode code 778 = .ok (.iaload, 1)) ?_
  refine lv_aload_n hx hb (by decide +kernel : decode code 779 = .ok (.aload_n 0, 1)) rfl (lv_at hl 3 rfl) ?_
  refine lv_iload_n hx hb (by decide +kernel : decode code 780 = .ok (.iload_n 3, 1)) rfl (lv_at hl 0 rfl) ?_
  refine lv_iconst (v := 3) hx hb (by decide +kernel : decode code 781 = .ok (.iconst 3, 1)) (by decide) ?_
  refine lv_iadd hx hb (by decide +kernel : decode code 782 = .ok (.iadd, 1)) ?_
  refine nl_ld C hS (x := nI i + 3) (j := i + 3) (nI_add i 3) (by omega) hL (by decide +kernel : decode code 783 = .ok (.iaload, 1)) ?_
  refine lv_aload_n hx hb (by decide +kernel : decode code 784 = .ok (.aload_n 0, 1)) rfl (lv_at hl 3 rfl) ?_
  refine lv_iload_n hx hb (by decide +kernel : decode code 785 = .ok (.iload_n 3, 1)) rfl (lv_at hl 0 rfl) ?_
  refine lv_iconst (v := 4) hx hb (by decide +kernel : decode code 786 = .ok (.iconst 4, 1)) (by decide) ?_
  refine lv_iadd hx hb (by decide +kernel : decode code 787 = .ok (.iadd, 1)) ?_
  refine nl_ld C hS (x := nI i + 4) (j := i + 4) (nI_add i 4) (by omega) hL (by decide +kernel : decode code 788 = .ok (.iaload, 1)) ?_
  refine nl_call C nl_okX hEX (by rw [nw_pic_len]; decide) hP hD hS (k := 90) (ci := 0) (as := [.int (xs (i + 1)), .int (xs (i + 2)), .int (xs (i + 3)), .int (xs (i + 4))]) (rest := []) (Q := fun v u => v = some (.int r) ∧ nX A1 u) nw_m_90 rfl rfl (hpx _ (fun _ h => ⟨rfl, h⟩)) rfl rfl (nw_in 546 (by decide +kernel) (by decide +kernel)) rfl (Nat.le_of_ble_eq_true rfl) (by decide +kernel : decode code 789 = .ok (.invokevirtual 100, 3)) hl.1 hc hsl (fun r1 mx1 H locs hq hP hD hS => ?_)
  obtain ⟨hq1, hX1⟩ := hq
  cases hq1
  refine lv_aload_n hx hb (by decide +kernel : decode code 792 = .ok (.aload_n 2, 1)) rfl (lv_at hl 1 rfl) ?_
  refine lv_aload_n hx hb (by decide +kernel : decode code 793 = .ok (.aload_n 0, 1)) rfl (lv_at hl 3 rfl) ?_
  refine lv_iload_n hx hb (by decide +kernel : decode code 794 = .ok (.iload_n 3, 1)) rfl (lv_at hl 0 rfl) ?_
  refine lv_iconst (v := 1) hx hb (by decide +kernel : decode code 795 = .ok (.iconst 1, 1)) (by decide) ?_
  refine lv_iadd hx hb (by decide +kernel : decode code 796 = .ok (.iadd, 1)) ?_
  refine nl_ld C hS (x := nI i + 1) (j := i + 1) (nI_add i 1) (by omega) hL (by decide +kernel : decode code 797 = .ok (.iaload, 1)) ?_
  refine lv_aload_n hx hb (by decide +kernel : decode code 798 = .ok (.aload_n 0, 1)) rfl (lv_at hl 3 rfl) ?_
  refine lv_iload_n hx hb (by decide +kernel : decode code 799 = .ok (.iload_n 3, 1)) rfl (lv_at hl 0 rfl) ?_
  refine lv_iconst (v := 2) hx hb (by decide +kernel : decode code 800 = .ok (.iconst 2, 1)) (by decide) ?_
  refine lv_iadd hx hb (by decide +kernel : decode code 801 = .ok (.iadd, 1)) ?_
  refine nl_ld C hS (x := nI i + 2) (j := i + 2) (nI_add i 2) (by omega) hL (by decide +kernel : decode code 802 = .ok (.iaload, 1)) ?_
  refine lv_aload_n hx hb (by decide +kernel : decode code 803 = .ok (.aload_n 0, 1)) rfl (lv_at hl 3 rfl) ?_
  refine lv_iload_n hx hb (by decide +kernel : decode code 804 = .ok (.iload_n 3, 1)) rfl (lv_at hl 0 rfl) ?_
  refine lv_iconst (v := 3) hx hb (by decide +kernel : decode code 805 = .ok (.iconst 3, 1)) (by decide) ?_
  refine lv_iadd hx hb (by decide +kernel : decode code 806 = .ok (.iadd, 1)) ?_
  refine nl_ld C hS (x := nI i + 3) (j := i + 3) (nI_add i 3) (by omega) hL (by decide +kernel : decode code 807 = .ok (.iaload, 1)) ?_
  refine lv_aload_n hx hb (by decide +kernel : decode code 808 = .ok (.aload_n 0, 1)) rfl (lv_at hl 3 rfl) ?_
  refine lv_iload_n hx hb (by decide +kernel : decode code 809 = .ok (.iload_n 3, 1)) rfl (lv_at hl 0 rfl) ?_
  refine lv_iconst (v := 4) hx hb (by decide +kernel : decode code 810 = .ok (.iconst 4, 1)) (by decide) ?_
  refine lv_iadd hx hb (by decide +kernel : decode code 811 = .ok (.iadd, 1)) ?_
  refine nl_ld C hS (x := nI i + 4) (j := i + 4) (nI_add i 4) (by omega) hL (by decide +kernel : decode code 812 = .ok (.iaload, 1)) ?_
  refine nl_call C nl_okM hEM (by rw [nw_pic_len]; decide) hP hD hS (k := 147) (ci := 4) (as := [.int (xs (i + 1)), .int (xs (i + 2)), .int (xs (i + 3)), .int (xs (i + 4))]) (rest := [.int r]) (Q := fun v u => v = some (.int r) ∧ nM A1 u) nw_m_147 rfl rfl (hpm _ (fun _ h => ⟨rfl, h⟩)) rfl rfl (nw_in 879 (by decide +kernel) (by decide +kernel)) rfl (Nat.le_of_ble_eq_true rfl) (by decide +kernel : decode code 813 = .ok (.invokevirtual 104, 3)) hl.1 hc hsl (fun r1 mm1 H locs hq hP hD hS => ?_)
  obtain ⟨hq1, hM1⟩ := hq
  cases hq1
  exact lv_icmp_eq hx hb (by decide +kernel : decode code 816 = .ok (.if_icmp .eq 137, 3)) (tgt := 953) (by decide) (fun _ => kk A1 mx1 mm1 H locs hX1 hM1 hP hD hS) (fun z => absurd rfl z)
theorem nl_case_21 (C : nl_C p s m c b L xs D cy) (hL : L ≤ 2560) (hEX : nw_En adX adV (nl_A s) s s.heap) (hEM : nw_En adM adV (nl_A s) s s.heap) {mx mm : nw_M} {A : nA} (hX : nX A mx) (hM : nM A mm) (hP : va_P D nw_cls (nw_pic adX cy mx 0 nw_shX ++ nw_pic adM cy mm 0 nw_shM) H) (hD : va_D (nl_A s) (nw_pic adX cy mx 0 nw_shX ++ nw_pic adM cy mm 0 nw_shM)) (hS : va_S (nl_A s) s.heap H locs) {i : Nat} (hi : i + 5 ≤ L) (hl : lv_has ls 4 [(3, .int (nI i)), (2, .ref (adM 0)), (1, .ref (adX 0)), (0, .ref b)]) (hc : cells ≤ 600000) (hsl : slots ≤ 7302250) (kk : nl_kk p l e s m below meth c b D cy adX adM Z cells slots ls) : W p l e room_1 s m #[Value.ref b] below meth c H locs cells slots Z (F0 m 821 ls []) := by
  obtain ⟨A1, r, hpx, hpm⟩ := p_shares A (xs (i + 1)) (xs (i + 2)) (xs (i + 3)) mx mm hX hM
  obtain ⟨hx, hb, hml, hown, hts, hK, hXs, hbl⟩ := id C
  refine lv_aload_n hx hb (by decide +kernel : decode code 821 = .ok (.aload_n 1, 1)) rfl (lv_at hl 2 rfl) ?_
  refine lv_aload_n hx hb (by decide +kernel : decode code 822 = .ok (.aload_n 0, 1)) rfl (lv_at hl 3 rfl) ?_
  refine lv_iload_n hx hb (by decide +kernel : decode code 823 = .ok (.iload_n 3, 1)) rfl (lv_at hl 0 rfl) ?_
  refine lv_iconst (v := 1) hx hb (by decide +kernel : decode code 824 = .ok (.iconst 1, 1)) (by decide) ?_
  refine lv_iadd hx hb (by decide +kernel : decode code 825 = .ok (.iadd, 1)) ?_
  refine nl_ld C hS (x := nI i + 1) (j := i + 1) (nI_add i 1) (by omega) hL (by decide +kernel : decode code 826 = .ok (.iaload, 1)) ?_
  refine lv_aload_n hx hb (by decide +kernel : decode code 827 = .ok (.aload_n 0, 1)) rfl (lv_at hl 3 rfl) ?_
  refine lv_iload_n hx hb (by decide +kernel : decode code 828 = .ok (.iload_n 3, 1)) rfl (lv_at hl 0 rfl) ?_
  refine lv_iconst (v := 2) hx hb (by decide +kernel : decode code 829 = .ok (.iconst 2, 1)) (by decide) ?_
  refine lv_iadd hx hb (by decide +kernel : decode code 830 = .ok (.iadd, 1)) ?_
  refine nl_ld C hS (x := nI i + 2) (j := i + 2) (nI_add i 2) (by omega) hL (by decide +kernel : decode code 831 = .ok (.iaload, 1)) ?_
  refine lv_aload_n hx hb (by decide +kernel : decode code 832 = .ok (.aload_n 0, 1)) rfl (lv_at hl 3 rfl) ?_
  refine lv_iload_n hx hb (by decide +kernel : decode code 833 = .ok (.iload_n 3, 1)) rfl (lv_at hl 0 rfl) ?_
  refine lv_iconst (v := 3) hx hb (by decide +kernel : decode code 834 = .ok (.iconst 3, 1)) (by decide) ?_
  refine lv_iadd hx hb (by decide +kernel : decode code 835 = .ok (.iadd, 1)) ?_
  refine nl_ld C hS (x := nI i + 3) (j := i + 3) (nI_add i 3) (by omega) hL (by decide +kernel : decode code 836 = .ok (.iaload, 1)) ?_
  refine nl_call C nl_okX hEX (by rw [nw_pic_len]; decide) hP hD hS (k := 91) (ci := 0) (as := [.int (xs (i + 1)), .int (xs (i + 2)), .int (xs (i + 3))]) (rest := []) (Q := fun v u => v = some (.int r) ∧ nX A1 u) nw_m_91 rfl rfl (hpx _ (fun _ h => ⟨rfl, h⟩)) rfl rfl (nw_in 561 (by decide +kernel) (by decide +kernel)) rfl (Nat.le_of_ble_eq_true rfl) (by decide +kernel : decode code 837 = .ok (.invokevirtual 105, 3)) hl.1 hc hsl (fun r1 mx1 H locs hq hP hD hS => ?_)
  obtain ⟨hq1, hX1⟩ := hq
  cases hq1
  refine lv_aload_n hx hb (by decide +kernel : decode code 840 = .ok (.aload_n 2, 1)) rfl (lv_at hl 1 rfl) ?_
  refine lv_aload_n hx hb (by decide +kernel : decode code 841 = .ok (.aload_n 0, 1)) rfl (lv_at hl 3 rfl) ?_
  refine lv_iload_n hx hb (by decide +kernel : decode code 842 = .ok (.iload_n 3, 1)) rfl (lv_at hl 0 rfl) ?_
  refine lv_iconst (v := 1) hx hb (by decide +kernel : decode code 843 = .ok (.iconst 1, 1)) (by decide) ?_
  refine lv_iadd hx hb (by decide +kernel : decode code 844 = .ok (.iadd, 1)) ?_
  refine nl_ld C hS (x := nI i + 1) (j := i + 1) (nI_add i 1) (by omega) hL (by decide +kernel : decode code 845 = .ok (.iaload, 1)) ?_
  refine lv_aload_n hx hb (by decide +kernel : decode code 846 = .ok (.aload_n 0, 1)) rfl (lv_at hl 3 rfl) ?_
  refine lv_iload_n hx hb (by decide +kernel : decode code 847 = .ok (.iload_n 3, 1)) rfl (lv_at hl 0 rfl) ?_
  refine lv_iconst (v := 2) hx hb (by decide +kernel : decode code 848 = .ok (.iconst 2, 1)) (by decide) ?_
  refine lv_iadd hx hb (by decide +kernel : decode code 849 = .ok (.iadd, 1)) ?_
  refine nl_ld C hS (x := nI i + 2) (j := i + 2) (nI_add i 2) (by omega) hL (by decide +kernel : decode code 850 = .ok (.iaload, 1)) ?_
  refine lv_aload_n hx hb (by decide +kernel : decode code 851 = .ok (.aload_n 0, 1)) rfl (lv_at hl 3 rfl) ?_
  refine lv_iload_n hx hb (by decide +kernel : decode code 852 = .ok (.iload_n 3, 1)) rfl (lv_at hl 0 rfl) ?_
  refine lv_iconst (v := 3) hx hb (by decide +kernel : decode code 853 = .ok (.iconst 3, 1)) (by decide) ?_
  refine lv_iadd hx hb (by decide +kernel : decode code 854 = .ok (.iadd, 1)) ?_
  refine nl_ld C hS (x := nI i + 3) (j := i + 3) (nI_add i 3) (by omega) hL (by decide +kernel : decode code 855 = .ok (.iaload, 1)) ?_
  refine nl_call C nl_okM hEM (by rw [nw_pic_len]; decide) hP hD hS (k := 148) (ci := 4) (as := [.int (xs (i + 1)), .int (xs (i + 2)), .int (xs (i + 3))]) (rest := [.int r]) (Q := fun v u => v = some (.int r) ∧ nM A1 u) nw_m_148 rfl rfl (hpm _ (fun _ h => ⟨rfl, h⟩)) rfl rfl (nw_in 899 (by decide +kernel) (by decide +kernel)) rfl (Nat.le_of_ble_eq_true rfl) (by decide +kernel : decode code 856 = .ok (.invokevirtual 108, 3)) hl.1 hc hsl (fun r1 mm1 H locs hq hP hD hS => ?_)
  obtain ⟨hq1, hM1⟩ := hq
  cases hq1
  exact lv_icmp_eq hx hb (by decide +kernel : decode code 859 = .ok (.if_icmp .eq 94, 3)) (tgt := 953) (by decide) (fun _ => kk A1 mx1 mm1 H locs hX1 hM1 hP hD hS) (fun z => absurd rfl z)
theorem nl_case_22 (C : nl_C p s m c b L xs D cy) (hL : L ≤ 2560) (hEX : nw_En adX adV (nl_A s) s s.heap) (hEM : nw_En adM adV (nl_A s) s s.heap) {mx mm : nw_M} {A : nA} (hX : nX A mx) (hM : nM A mm) (hP : va_P D nw_cls (nw_pic adX cy mx 0 nw_shX ++ nw_pic adM cy mm 0 nw_shM) H) (hD : va_D (nl_A s) (nw_pic adX cy mx 0 nw_shX ++ nw_pic adM cy mm 0 nw_shM)) (hS : va_S (nl_A s) s.heap H locs) {i : Nat} (hi : i + 5 ≤ L) (hl : lv_has ls 4 [(3, .int (nI i)), (2, .ref (adM 0)), (1, .ref (adX 0)), (0, .ref b)]) (hc : cells ≤ 600000) (hsl : slots ≤ 7302250) (kk : nl_kk p l e s m below meth c b D cy adX adM Z cells slots ls) : W p l e room_1 s m #[Value.ref b] below meth c H locs cells slots Z (F0 m 864 ls []) := by
  obtain ⟨A1, r, hpx, hpm⟩ := p_settled A (xs (i + 1)) mx mm hX hM
  obtain ⟨hx, hb, hml, hown, hts, hK, hXs, hbl⟩ := id C
  refine lv_aload_n hx hb (by decide +kernel : decode code 864 = .ok (.aload_n 1, 1)) rfl (lv_at hl 2 rfl) ?_
  refine lv_aload_n hx hb (by decide +kernel : decode code 865 = .ok (.aload_n 0, 1)) rfl (lv_at hl 3 rfl) ?_
  refine lv_iload_n hx hb (by decide +kernel : decode code 866 = .ok (.iload_n 3, 1)) rfl (lv_at hl 0 rfl) ?_
  refine lv_iconst (v := 1) hx hb (by decide +kernel : decode code 867 = .ok (.iconst 1, 1)) (by decide) ?_
  refine lv_iadd hx hb (by decide +kernel : decode code 868 = .ok (.iadd, 1)) ?_
  refine nl_ld C hS (x := nI i + 1) (j := i + 1) (nI_add i 1) (by omega) hL (by decide +kernel : decode code 869 = .ok (.iaload, 1)) ?_
  refine nl_call C nl_okX hEX (by rw [nw_pic_len]; decide) hP hD hS (k := 92) (ci := 0) (as := [.int (xs (i + 1))]) (rest := []) (Q := fun v u => v = some (.int r) ∧ nX A1 u) nw_m_92 rfl rfl (hpx _ (fun _ h => ⟨rfl, h⟩)) rfl rfl (nw_in 569 (by decide +kernel) (by decide +kernel)) rfl (Nat.le_of_ble_eq_true rfl) (by decide +kernel : decode code 870 = .ok (.invokevirtual 109, 3)) hl.1 hc hsl (fun r1 mx1 H locs hq hP hD hS => ?_)
  obtain ⟨hq1, hX1⟩ := hq
  cases hq1
  refine lv_aload_n hx hb (by decide +kernel : decode code 873 = .ok (.aload_n 2, 1)) rfl (lv_at hl 1 rfl) ?_
  refine lv_aload_n hx hb (by decide +kernel : decode code 874 = .ok (.aload_n 0, 1)) rfl (lv_at hl 3 rfl) ?_
  refine lv_iload_n hx hb (by decide +kernel : decode code 875 = .ok (.iload_n 3, 1)) rfl (lv_at hl 0 rfl) ?_
  refine lv_iconst (v := 1) hx hb (by decide +kernel : decode code 876 = .ok (.iconst 1, 1)) (by decide) ?_
  refine lv_iadd hx hb (by decide +kernel : decode code 877 = .ok (.iadd, 1)) ?_
  refine nl_ld C hS (x := nI i + 1) (j := i + 1) (nI_add i 1) (by omega) hL (by decide +kernel : decode code 878 = .ok (.iaload, 1)) ?_
  refine nl_call C nl_okM hEM (by rw [nw_pic_len]; decide) hP hD hS (k := 149) (ci := 4) (as := [.int (xs (i + 1))]) (rest := [.int r]) (Q := fun v u => v = some (.int r) ∧ nM A1 u) nw_m_149 rfl rfl (hpm _ (fun _ h => ⟨rfl, h⟩)) rfl rfl (nw_in 903 (by decide +kernel) (by decide +kernel)) rfl (Nat.le_of_ble_eq_true rfl) (by decide +kernel : decode code 879 = .ok (.invokevirtual 112, 3)) hl.1 hc hsl (fun r1 mm1 H locs hq hP hD hS => ?_)
  obtain ⟨hq1, hM1⟩ := hq
  cases hq1
  exact lv_icmp_eq hx hb (by decide +kernel : decode code 882 = .ok (.if_icmp .eq 71, 3)) (tgt := 953) (by decide) (fun _ => kk A1 mx1 mm1 H locs hX1 hM1 hP hD hS) (fun z => absurd rfl z)
theorem nl_case_23 (C : nl_C p s m c b L xs D cy) (hL : L ≤ 2560) (hEX : nw_En adX adV (nl_A s) s s.heap) (hEM : nw_En adM adV (nl_A s) s s.heap) {mx mm : nw_M} {A : nA} (hX : nX A mx) (hM : nM A mm) (hP : va_P D nw_cls (nw_pic adX cy mx 0 nw_shX ++ nw_pic adM cy mm 0 nw_shM) H) (hD : va_D (nl_A s) (nw_pic adX cy mx 0 nw_shX ++ nw_pic adM cy mm 0 nw_shM)) (hS : va_S (nl_A s) s.heap H locs) {i : Nat} (hi : i + 5 ≤ L) (hl : lv_has ls 4 [(3, .int (nI i)), (2, .ref (adM 0)), (1, .ref (adX 0)), (0, .ref b)]) (hc : cells ≤ 600000) (hsl : slots ≤ 7302250) (kk : nl_kk p l e s m below meth c b D cy adX adM Z cells slots ls) : W p l e room_1 s m #[Value.ref b] below meth c H locs cells slots Z (F0 m 887 ls []) := by
  obtain ⟨A1, r, hpx, hpm⟩ := p_past A (xs (i + 1)) (xs (i + 2)) (xs (i + 3)) mx mm hX hM
  obtain ⟨hx, hb, hml, hown, hts, hK, hXs, hbl⟩ := id C
  refine lv_aload_n hx hb (by decide +kernel : decode code 887 = .ok (.aload_n 1, 1)) rfl (lv_at hl 2 rfl) ?_
  refine lv_aload_n hx hb (by decide +kernel : decode code 888 = .ok (.aload_n 0, 1)) rfl (lv_at hl 3 rfl) ?_
  refine lv_iload_n hx hb (by decide +kernel : decode code 889 = .ok (.iload_n 3, 1)) rfl (lv_at hl 0 rfl) ?_
  refine lv_iconst (v := 1) hx hb (by decide +kernel : decode code 890 = .ok (.iconst 1, 1)) (by decide) ?_
  refine lv_iadd hx hb (by decide +kernel : decode code 891 = .ok (.iadd, 1)) ?_
  refine nl_ld C hS (x := nI i + 1) (j := i + 1) (nI_add i 1) (by omega) hL (by decide +kernel : decode code 892 = .ok (.iaload, 1)) ?_
  refine lv_aload_n hx hb (by decide +kernel : decode code 893 = .ok (.aload_n 0, 1)) rfl (lv_at hl 3 rfl) ?_
  refine lv_iload_n hx hb (by decide +kernel : decode code 894 = .ok (.iload_n 3, 1)) rfl (lv_at hl 0 rfl) ?_
  refine lv_iconst (v := 2) hx hb (by decide +kernel : decode code 895 = .ok (.iconst 2, 1)) (by decide) ?_
  refine lv_iadd hx hb (by decide +kernel : decode code 896 = .ok (.iadd, 1)) ?_
  refine nl_ld C hS (x := nI i + 2) (j := i + 2) (nI_add i 2) (by omega) hL (by decide +kernel : decode code 897 = .ok (.iaload, 1)) ?_
  refine lv_aload_n hx hb (by decide +kernel : decode code 898 = .ok (.aload_n 0, 1)) rfl (lv_at hl 3 rfl) ?_
  refine lv_iload_n hx hb (by decide +kernel : decode code 899 = .ok (.iload_n 3, 1)) rfl (lv_at hl 0 rfl) ?_
  refine lv_iconst (v := 3) hx hb (by decide +kernel : decode code 900 = .ok (.iconst 3, 1)) (by decide) ?_
  refine lv_iadd hx hb (by decide +kernel : decode code 901 = .ok (.iadd, 1)) ?_
  refine nl_ld C hS (x := nI i + 3) (j := i + 3) (nI_add i 3) (by omega) hL (by decide +kernel : decode code 902 = .ok (.iaload, 1)) ?_
  refine nl_call C nl_okX hEX (by rw [nw_pic_len]; decide) hP hD hS (k := 93) (ci := 0) (as := [.int (xs (i + 1)), .int (xs (i + 2)), .int (xs (i + 3))]) (rest := []) (Q := fun v u => v = some (.int r) ∧ nX A1 u) nw_m_93 rfl rfl (hpx _ (fun _ h => ⟨rfl, h⟩)) rfl rfl (nw_in 583 (by decide +kernel) (by decide +kernel)) rfl (Nat.le_of_ble_eq_true rfl) (by decide +kernel : decode code 903 = .ok (.invokevirtual 113, 3)) hl.1 hc hsl (fun r1 mx1 H locs hq hP hD hS => ?_)
  obtain ⟨hq1, hX1⟩ := hq
  cases hq1
  refine lv_aload_n hx hb (by decide +kernel : decode code 906 = .ok (.aload_n 2, 1)) rfl (lv_at hl 1 rfl) ?_
  refine lv_aload_n hx hb (by decide +kernel : decode code 907 = .ok (.aload_n 0, 1)) rfl (lv_at hl 3 rfl) ?_
  refine lv_iload_n hx hb (by decide +kernel : decode code 908 = .ok (.iload_n 3, 1)) rfl (lv_at hl 0 rfl) ?_
  refine lv_iconst (v := 1) hx hb (by decide +kernel : decode code 909 = .ok (.iconst 1, 1)) (by decide) ?_
  refine lv_iadd hx hb (by decide +kernel : decode code 910 = .ok (.iadd, 1)) ?_
  refine nl_ld C hS (x := nI i + 1) (j := i + 1) (nI_add i 1) (by omega) hL (by decide +kernel : decode code 911 = .ok (.iaload, 1)) ?_
  refine lv_aload_n hx hb (by decide +kernel : decode code 912 = .ok (.aload_n 0, 1)) rfl (lv_at hl 3 rfl) ?_
  refine lv_iload_n hx hb (by decide +kernel : decode code 913 = .ok (.iload_n 3, 1)) rfl (lv_at hl 0 rfl) ?_
  refine lv_iconst (v := 2) hx hb (by decide +kernel : decode code 914 = .ok (.iconst 2, 1)) (by decide) ?_
  refine lv_iadd hx hb (by decide +kernel : decode code 915 = .ok (.iadd, 1)) ?_
  refine nl_ld C hS (x := nI i + 2) (j := i + 2) (nI_add i 2) (by omega) hL (by decide +kernel : decode code 916 = .ok (.iaload, 1)) ?_
  refine lv_aload_n hx hb (by decide +kernel : decode code 917 = .ok (.aload_n 0, 1)) rfl (lv_at hl 3 rfl) ?_
  refine lv_iload_n hx hb (by decide +kernel : decode code 918 = .ok (.iload_n 3, 1)) rfl (lv_at hl 0 rfl) ?_
  refine lv_iconst (v := 3) hx hb (by decide +kernel : decode code 919 = .ok (.iconst 3, 1)) (by decide) ?_
  refine lv_iadd hx hb (by decide +kernel : decode code 920 = .ok (.iadd, 1)) ?_
  refine nl_ld C hS (x := nI i + 3) (j := i + 3) (nI_add i 3) (by omega) hL (by decide +kernel : decode code 921 = .ok (.iaload, 1)) ?_
  refine nl_call C nl_okM hEM (by rw [nw_pic_len]; decide) hP hD hS (k := 151) (ci := 4) (as := [.int (xs (i + 1)), .int (xs (i + 2)), .int (xs (i + 3))]) (rest := [.int r]) (Q := fun v u => v = some (.int r) ∧ nM A1 u) nw_m_151 rfl rfl (hpm _ (fun _ h => ⟨rfl, h⟩)) rfl rfl (nw_in 910 (by decide +kernel) (by decide +kernel)) rfl (Nat.le_of_ble_eq_true rfl) (by decide +kernel : decode code 922 = .ok (.invokevirtual 116, 3)) hl.1 hc hsl (fun r1 mm1 H locs hq hP hD hS => ?_)
  obtain ⟨hq1, hM1⟩ := hq
  cases hq1
  exact lv_icmp_eq hx hb (by decide +kernel : decode code 925 = .ok (.if_icmp .eq 28, 3)) (tgt := 953) (by decide) (fun _ => kk A1 mx1 mm1 H locs hX1 hM1 hP hD hS) (fun z => absurd rfl z)
theorem nl_case_24 (C : nl_C p s m c b L xs D cy) (hL : L ≤ 2560) (hEX : nw_En adX adV (nl_A s) s s.heap) (hEM : nw_En adM adV (nl_A s) s s.heap) {mx mm : nw_M} {A : nA} (hX : nX A mx) (hM : nM A mm) (hP : va_P D nw_cls (nw_pic adX cy mx 0 nw_shX ++ nw_pic adM cy mm 0 nw_shM) H) (hD : va_D (nl_A s) (nw_pic adX cy mx 0 nw_shX ++ nw_pic adM cy mm 0 nw_shM)) (hS : va_S (nl_A s) s.heap H locs) {i : Nat} (hi : i + 5 ≤ L) (hl : lv_has ls 4 [(3, .int (nI i)), (2, .ref (adM 0)), (1, .ref (adX 0)), (0, .ref b)]) (hc : cells ≤ 600000) (hsl : slots ≤ 7302250) (kk : nl_kk p l e s m below meth c b D cy adX adM Z cells slots ls) : W p l e room_1 s m #[Value.ref b] below meth c H locs cells slots Z (F0 m 930 ls []) := by
  obtain ⟨A1, r, hpx, hpm⟩ := p_count A (xs (i + 1)) mx mm hX hM
  obtain ⟨hx, hb, hml, hown, hts, hK, hXs, hbl⟩ := id C
  refine lv_aload_n hx hb (by decide +kernel : decode code 930 = .ok (.aload_n 1, 1)) rfl (lv_at hl 2 rfl) ?_
  refine lv_aload_n hx hb (by decide +kernel : decode code 931 = .ok (.aload_n 0, 1)) rfl (lv_at hl 3 rfl) ?_
  refine lv_iload_n hx hb (by decide +kernel : decode code 932 = .ok (.iload_n 3, 1)) rfl (lv_at hl 0 rfl) ?_
  refine lv_iconst (v := 1) hx hb (by decide +kernel : decode code 933 = .ok (.iconst 1, 1)) (by decide) ?_
  refine lv_iadd hx hb (by decide +kernel : decode code 934 = .ok (.iadd, 1)) ?_
  refine nl_ld C hS (x := nI i + 1) (j := i + 1) (nI_add i 1) (by omega) hL (by decide +kernel : decode code 935 = .ok (.iaload, 1)) ?_
  refine nl_call C nl_okX hEX (by rw [nw_pic_len]; decide) hP hD hS (k := 94) (ci := 0) (as := [.int (xs (i + 1))]) (rest := []) (Q := fun v u => v = some (.int r) ∧ nX A1 u) nw_m_94 rfl rfl (hpx _ (fun _ h => ⟨rfl, h⟩)) rfl rfl (nw_in 602 (by decide +kernel) (by decide +kernel)) rfl (Nat.le_of_ble_eq_true rfl) (by decide +kernel : decode code 936 = .ok (.invokevirtual 117, 3)) hl.1 hc hsl (fun r1 mx1 H locs hq hP hD hS => ?_)
  obtain ⟨hq1, hX1⟩ := hq
  cases hq1
  refine lv_aload_n hx hb (by decide +kernel : decode code 939 = .ok (.aload_n 2, 1)) rfl (lv_at hl 1 rfl) ?_
  refine lv_aload_n hx hb (by decide +kernel : decode code 940 = .ok (.aload_n 0, 1)) rfl (lv_at hl 3 rfl) ?_
  refine lv_iload_n hx hb (by decide +kernel : decode code 941 = .ok (.iload_n 3, 1)) rfl (lv_at hl 0 rfl) ?_
  refine lv_iconst (v := 1) hx hb (by decide +kernel : decode code 942 = .ok (.iconst 1, 1)) (by decide) ?_
  refine lv_iadd hx hb (by decide +kernel : decode code 943 = .ok (.iadd, 1)) ?_
  refine nl_ld C hS (x := nI i + 1) (j := i + 1) (nI_add i 1) (by omega) hL (by decide +kernel : decode code 944 = .ok (.iaload, 1)) ?_
  refine nl_call C nl_okM hEM (by rw [nw_pic_len]; decide) hP hD hS (k := 152) (ci := 4) (as := [.int (xs (i + 1))]) (rest := [.int r]) (Q := fun v u => v = some (.int r) ∧ nM A1 u) nw_m_152 rfl rfl (hpm _ (fun _ h => ⟨rfl, h⟩)) rfl rfl (nw_in 919 (by decide +kernel) (by decide +kernel)) rfl (Nat.le_of_ble_eq_true rfl) (by decide +kernel : decode code 945 = .ok (.invokevirtual 120, 3)) hl.1 hc hsl (fun r1 mm1 H locs hq hP hD hS => ?_)
  obtain ⟨hq1, hM1⟩ := hq
  cases hq1
  exact lv_icmp_eq hx hb (by decide +kernel : decode code 948 = .ok (.if_icmp .eq 5, 3)) (tgt := 953) (by decide) (fun _ => kk A1 mx1 mm1 H locs hX1 hM1 hP hD hS) (fun z => absurd rfl z)
end NLC
