/-! the law's cases: printed by gen/law.py -/
section NLC
variable {p : Program} {l : Launch} {e : Env} {s : State} {m : MethodId} {below : List Frame} {meth : Method} {c : Code} {b L : Nat} {xs : Nat → Int32} {D : va_G} {cy : Bool → ClassId} {Z : State → Prop} {cells slots : Nat} {ls : Array Slot} {H : Heap} {locs : List Loc} {adX adM adV : Nat → Nat}
theorem nl_case_5 (C : nl_C p s m c b L xs D cy) (hL : L ≤ 2560) (hEX : nw_En adX adV (nl_A s) s s.heap) (hEM : nw_En adM adV (nl_A s) s s.heap) {mx mm : nw_M} {A : nA} (hX : nX A mx) (hM : nM A mm) (hP : va_P D nw_cls (nw_pic adX cy mx 0 nw_shX ++ nw_pic adM cy mm 0 nw_shM) H) (hD : va_D (nl_A s) (nw_pic adX cy mx 0 nw_shX ++ nw_pic adM cy mm 0 nw_shM)) (hS : va_S (nl_A s) s.heap H locs) {i : Nat} (hi : i + 5 ≤ L) (hl : lv_has ls 4 [(3, .int (nI i)), (2, .ref (adM 0)), (1, .ref (adX 0)), (0, .ref b)]) (hc : cells ≤ 600000) (hsl : slots ≤ 7302250) (kk : nl_kk p l e s m below meth c b D cy adX adM Z cells slots ls) : W p l e room_1 s m #[Value.ref b] below meth c H locs cells slots Z (F0 m 283 ls []) := by
  obtain ⟨A1, r, hpx, hpm⟩ := p_way A (xs (i + 1)) (xs (i + 2)) mx mm hX hM
  obtain ⟨hx, hb, hml, hown, hts, hK, hXs, hbl⟩ := id C
  refine lv_aload_n hx hb (by decide +kernel : decode code 283 = .ok (.aload_n 1, 1)) rfl (lv_at hl 2 rfl) ?_
  refine lv_aload_n hx hb (by decide +kernel : decode code 284 = .ok (.aload_n 0, 1)) rfl (lv_at hl 3 rfl) ?_
  refine lv_iload_n hx hb (by decide +kernel : decode code 285 = .ok (.iload_n 3, 1)) rfl (lv_at hl 0 rfl) ?_
  refine lv_iconst (v := 1) hx hb (by decide +kernel : decode code 286 = .ok (.iconst 1, 1)) (by decide) ?_
  refine lv_iadd hx hb (by decide +kernel : decode code 287 = .ok (.iadd, 1)) ?_
  refine nl_ld C hS (x := nI i + 1) (j := i + 1) (nI_add i 1) (by omega) hL (by decide +kernel : decode code 288 = .ok (.iaload, 1)) ?_
  refine lv_aload_n hx hb (by decide +kernel : decode code 289 = .ok (.aload_n 0, 1)) rfl (lv_at hl 3 rfl) ?_
  refine lv_iload_n hx hb (by decide +kernel : decode code 290 = .ok (.iload_n 3, 1)) rfl (lv_at hl 0 rfl) ?_
  refine lv_iconst (v := 2) hx hb (by decide +kernel : decode code 291 = .ok (.iconst 2, 1)) (by decide) ?_
  refine lv_iadd hx hb (by decide +kernel : decode code 292 = .ok (.iadd, 1)) ?_
  refine nl_ld C hS (x := nI i + 2) (j := i + 2) (nI_add i 2) (by omega) hL (by decide +kernel : decode code 293 = .ok (.iaload, 1)) ?_
  refine nl_call C nl_okX hEX (by rw [nw_pic_len]; decide) hP hD hS (k := 75) (ci := 0) (as := [.int (xs (i + 1)), .int (xs (i + 2))]) (rest := []) (Q := fun v u => v = some (.int r) ∧ nX A1 u) nw_m_75 rfl rfl (hpx _ (fun _ h => ⟨rfl, h⟩)) rfl rfl (nw_in 373 (by decide +kernel) (by decide +kernel)) rfl (Nat.le_of_ble_eq_true rfl) (by decide +kernel : decode code 294 = .ok (.invokevirtual 38, 3)) hl.1 hc hsl (fun r1 mx1 H locs hq hP hD hS => ?_)
  obtain ⟨hq1, hX1⟩ := hq
  cases hq1
  refine lv_aload_n hx hb (by decide +kernel : decode code 297 = .ok (.aload_n 2, 1)) rfl (lv_at hl 1 rfl) ?_
  refine lv_aload_n hx hb (by decide +kernel : decode code 298 = .ok (.aload_n 0, 1)) rfl (lv_at hl 3 rfl) ?_
  refine lv_iload_n hx hb (by decide +kernel : decode code 299 = .ok (.iload_n 3, 1)) rfl (lv_at hl 0 rfl) ?_
  refine lv_iconst (v := 1) hx hb (by decide +kernel : decode code 300 = .ok (.iconst 1, 1)) (by decide) ?_
  refine lv_iadd hx hb (by decide +kernel : decode code 301 = .ok (.iadd, 1)) ?_
  refine nl_ld C hS (x := nI i + 1) (j := i + 1) (nI_add i 1) (by omega) hL (by decide +kernel : decode code 302 = .ok (.iaload, 1)) ?_
  refine lv_aload_n hx hb (by decide +kernel : decode code 303 = .ok (.aload_n 0, 1)) rfl (lv_at hl 3 rfl) ?_
  refine lv_iload_n hx hb (by decide +kernel : decode code 304 = .ok (.iload_n 3, 1)) rfl (lv_at hl 0 rfl) ?_
  refine lv_iconst (v := 2) hx hb (by decide +kernel : decode code 305 = .ok (.iconst 2, 1)) (by decide) ?_
  refine lv_iadd hx hb (by decide +kernel : decode code 306 = .ok (.iadd, 1)) ?_
  refine nl_ld C hS (x := nI i + 2) (j := i + 2) (nI_add i 2) (by omega) hL (by decide +kernel : decode code 307 = .ok (.iaload, 1)) ?_
  refine nl_call C nl_okM hEM (by rw [nw_pic_len]; decide) hP hD hS (k := 121) (ci := 4) (as := [.int (xs (i + 1)), .int (xs (i + 2))]) (rest := [.int r]) (Q := fun v u => v = some (.int r) ∧ nM A1 u) nw_m_121 rfl rfl (hpm _ (fun _ h => ⟨rfl, h⟩)) rfl rfl (nw_in 771 (by decide +kernel) (by decide +kernel)) rfl (Nat.le_of_ble_eq_true rfl) (by decide +kernel : decode code 308 = .ok (.invokevirtual 41, 3)) hl.1 hc hsl (fun r1 mm1 H locs hq hP hD hS => ?_)
  obtain ⟨hq1, hM1⟩ := hq
  cases hq1
  exact lv_icmp_eq hx hb (by decide +kernel : decode code 311 = .ok (.if_icmp .eq 642, 3)) (tgt := 953) (by decide) (fun _ => kk A1 mx1 mm1 H locs hX1 hM1 hP hD hS) (fun z => absurd rfl z)
theorem nl_case_6 (C : nl_C p s m c b L xs D cy) (hL : L ≤ 2560) (hEX : nw_En adX adV (nl_A s) s s.heap) (hEM : nw_En adM adV (nl_A s) s s.heap) {mx mm : nw_M} {A : nA} (hX : nX A mx) (hM : nM A mm) (hP : va_P D nw_cls (nw_pic adX cy mx 0 nw_shX ++ nw_pic adM cy mm 0 nw_shM) H) (hD : va_D (nl_A s) (nw_pic adX cy mx 0 nw_shX ++ nw_pic adM cy mm 0 nw_shM)) (hS : va_S (nl_A s) s.heap H locs) {i : Nat} (hi : i + 5 ≤ L) (hl : lv_has ls 4 [(3, .int (nI i)), (2, .ref (adM 0)), (1, .ref (adX 0)), (0, .ref b)]) (hc : cells ≤ 600000) (hsl : slots ≤ 7302250) (kk : nl_kk p l e s m below meth c b D cy adX adM Z cells slots ls) : W p l e room_1 s m #[Value.ref b] below meth c H locs cells slots Z (F0 m 316 ls []) := by
  obtain ⟨A1, r, hpx, hpm⟩ := p_as A (xs (i + 1)) (xs (i + 2)) mx mm hX hM
  obtain ⟨hx, hb, hml, hown, hts, hK, hXs, hbl⟩ := id C
  refine lv_aload_n hx hb (by decide +kernel : decode code 316 = .ok (.aload_n 1, 1)) rfl (lv_at hl 2 rfl) ?_
  refine lv_aload_n hx hb (by decide +kernel : decode code 317 = .ok (.aload_n 0, 1)) rfl (lv_at hl 3 rfl) ?_
  refine lv_iload_n hx hb (by decide +kernel : decode code 318 = .ok (.iload_n 3, 1)) rfl (lv_at hl 0 rfl) ?_
  refine lv_iconst (v := 1) hx hb (by decide +kernel : decode code 319 = .ok (.iconst 1, 1)) (by decide) ?_
  refine lv_iadd hx hb (by decide +kernel : decode code 320 = .ok (.iadd, 1)) ?_
  refine nl_ld C hS (x := nI i + 1) (j := i + 1) (nI_add i 1) (by omega) hL (by decide +kernel : decode code 321 = .ok (.iaload, 1)) ?_
  refine lv_aload_n hx hb (by decide +kernel : decode code 322 = .ok (.aload_n 0, 1)) rfl (lv_at hl 3 rfl) ?_
  refine lv_iload_n hx hb (by decide +kernel : decode code 323 = .ok (.iload_n 3, 1)) rfl (lv_at hl 0 rfl) ?_
  refine lv_iconst (v := 2) hx hb (by decide +kernel : decode code 324 = .ok (.iconst 2, 1)) (by decide) ?_
  refine lv_iadd hx hb (by decide +kernel : decode code 325 = .ok (.iadd, 1)) ?_
  refine nl_ld C hS (x := nI i + 2) (j := i + 2) (nI_add i 2) (by omega) hL (by decide +kernel : decode code 326 = .ok (.iaload, 1)) ?_
  refine nl_call C nl_okX hEX (by rw [nw_pic_len]; decide) hP hD hS (k := 76) (ci := 0) (as := [.int (xs (i + 1)), .int (xs (i + 2))]) (rest := []) (Q := fun v u => v = some (.int r) ∧ nX A1 u) nw_m_76 rfl rfl (hpx _ (fun _ h => ⟨rfl, h⟩)) rfl rfl (nw_in 383 (by decide +kernel) (by decide +kernel)) rfl (Nat.le_of_ble_eq_true rfl) (by decide +kernel : decode code 327 = .ok (.invokevirtual 42, 3)) hl.1 hc hsl (fun r1 mx1 H locs hq hP hD hS => ?_)
  obtain ⟨hq1, hX1⟩ := hq
  cases hq1
  refine lv_aload_n hx hb (by decide +kernel : decode code 330 = .ok (.aload_n 2, 1)) rfl (lv_at hl 1 rfl) ?_
  refine lv_aload_n hx hb (by decide +kernel : decode code 331 = .ok (.aload_n 0, 1)) rfl (lv_at hl 3 rfl) ?_
  refine lv_iload_n hx hb (by decide +kernel : decode code 332 = .ok (.iload_n 3, 1)) rfl (lv_at hl 0 rfl) ?_
  refine lv_iconst (v := 1) hx hb (by decide +kernel : decode code 333 = .ok (.iconst 1, 1)) (by decide) ?_
  refine lv_iadd hx hb (by decide +kernel : decode code 334 = .ok (.iadd, 1)) ?_
  refine nl_ld C hS (x := nI i + 1) (j := i + 1) (nI_add i 1) (by omega) hL (by decide +kernel : decode code 335 = .ok (.iaload, 1)) ?_
  refine lv_aload_n hx hb (by decide +kernel : decode code 336 = .ok (.aload_n 0, 1)) rfl (lv_at hl 3 rfl) ?_
  refine lv_iload_n hx hb (by decide +kernel : decode code 337 = .ok (.iload_n 3, 1)) rfl (lv_at hl 0 rfl) ?_
  refine lv_iconst (v := 2) hx hb (by decide +kernel : decode code 338 = .ok (.iconst 2, 1)) (by decide) ?_
  refine lv_iadd hx hb (by decide +kernel : decode code 339 = .ok (.iadd, 1)) ?_
  refine nl_ld C hS (x := nI i + 2) (j := i + 2) (nI_add i 2) (by omega) hL (by decide +kernel : decode code 340 = .ok (.iaload, 1)) ?_
  refine nl_call C nl_okM hEM (by rw [nw_pic_len]; decide) hP hD hS (k := 122) (ci := 4) (as := [.int (xs (i + 1)), .int (xs (i + 2))]) (rest := [.int r]) (Q := fun v u => v = some (.int r) ∧ nM A1 u) nw_m_122 rfl rfl (hpm _ (fun _ h => ⟨rfl, h⟩)) rfl rfl (nw_in 775 (by decide +kernel) (by decide +kernel)) rfl (Nat.le_of_ble_eq_true rfl) (by decide +kernel : decode code 341 = .ok (.invokevirtual 45, 3)) hl.1 hc hsl (fun r1 mm1 H locs hq hP hD hS => ?_)
  obtain ⟨hq1, hM1⟩ := hq
  cases hq1
  exact lv_icmp_eq hx hb (by decide +kernel : decode code 344 = .ok (.if_icmp .eq 609, 3)) (tgt := 953) (by decide) (fun _ => kk A1 mx1 mm1 H locs hX1 hM1 hP hD hS) (fun z => absurd rfl z)
theorem nl_case_7 (C : nl_C p s m c b L xs D cy) (hL : L ≤ 2560) (hEX : nw_En adX adV (nl_A s) s s.heap) (hEM : nw_En adM adV (nl_A s) s s.heap) {mx mm : nw_M} {A : nA} (hX : nX A mx) (hM : nM A mm) (hP : va_P D nw_cls (nw_pic adX cy mx 0 nw_shX ++ nw_pic adM cy mm 0 nw_shM) H) (hD : va_D (nl_A s) (nw_pic adX cy mx 0 nw_shX ++ nw_pic adM cy mm 0 nw_shM)) (hS : va_S (nl_A s) s.heap H locs) {i : Nat} (hi : i + 5 ≤ L) (hl : lv_has ls 4 [(3, .int (nI i)), (2, .ref (adM 0)), (1, .ref (adX 0)), (0, .ref b)]) (hc : cells ≤ 600000) (hsl : slots ≤ 7302250) (kk : nl_kk p l e s m below meth c b D cy adX adM Z cells slots ls) : W p l e room_1 s m #[Value.ref b] below meth c H locs cells slots Z (F0 m 349 ls []) := by
  obtain ⟨A1, r, hpx, hpm⟩ := p_walker A (xs (i + 1)) mx mm hX hM
  obtain ⟨hx, hb, hml, hown, hts, hK, hXs, hbl⟩ := id C
  refine lv_aload_n hx hb (by decide +kernel : decode code 349 = .ok (.aload_n 1, 1)) rfl (lv_at hl 2 rfl) ?_
  refine lv_aload_n hx hb (by decide +kernel : decode code 350 = .ok (.aload_n 0, 1)) rfl (lv_at hl 3 rfl) ?_
  refine lv_iload_n hx hb (by decide +kernel : decode code 351 = .ok (.iload_n 3, 1)) rfl (lv_at hl 0 rfl) ?_
  refine lv_iconst (v := 1) hx hb (by decide +kernel : decode code 352 = .ok (.iconst 1, 1)) (by decide) ?_
  refine lv_iadd hx hb (by decide +kernel : decode code 353 = .ok (.iadd, 1)) ?_
  refine nl_ld C hS (x := nI i + 1) (j := i + 1) (nI_add i 1) (by omega) hL (by decide +kernel : decode code 354 = .ok (.iaload, 1)) ?_
  refine nl_call C nl_okX hEX (by rw [nw_pic_len]; decide) hP hD hS (k := 77) (ci := 0) (as := [.int (xs (i + 1))]) (rest := []) (Q := fun v u => v = some (.int r) ∧ nX A1 u) nw_m_77 rfl rfl (hpx _ (fun _ h => ⟨rfl, h⟩)) rfl rfl (nw_in 417 (by decide +kernel) (by decide +kernel)) rfl (Nat.le_of_ble_eq_true rfl) (by decide +kernel : decode code 355 = .ok (.invokevirtual 46, 3)) hl.1 hc hsl (fun r1 mx1 H locs hq hP hD hS => ?_)
  obtain ⟨hq1, hX1⟩ := hq
  cases hq1
  refine lv_aload_n hx hb (by decide +kernel : decode code 358 = .ok (.aload_n 2, 1)) rfl (lv_at hl 1 rfl) ?_
  refine lv_aload_n hx hb (by decide +kernel : decode code 359 = .ok (.aload_n 0, 1)) rfl (lv_at hl 3 rfl) ?_
  refine lv_iload_n hx hb (by decide +kernel : decode code 360 = .ok (.iload_n 3, 1)) rfl (lv_at hl 0 rfl) ?_
  refine lv_iconst (v := 1) hx hb (by decide +kernel : decode code 361 = .ok (.iconst 1, 1)) (by decide) ?_
  refine lv_iadd hx hb (by decide +kernel : decode code 362 = .ok (.iadd, 1)) ?_
  refine nl_ld C hS (x := nI i + 1) (j := i + 1) (nI_add i 1) (by omega) hL (by decide +kernel : decode code 363 = .ok (.iaload, 1)) ?_
  refine nl_call C nl_okM hEM (by rw [nw_pic_len]; decide) hP hD hS (k := 123) (ci := 4) (as := [.int (xs (i + 1))]) (rest := [.int r]) (Q := fun v u => v = some (.int r) ∧ nM A1 u) nw_m_123 rfl rfl (hpm _ (fun _ h => ⟨rfl, h⟩)) rfl rfl (nw_in 792 (by decide +kernel) (by decide +kernel)) rfl (Nat.le_of_ble_eq_true rfl) (by decide +kernel : decode code 364 = .ok (.invokevirtual 50, 3)) hl.1 hc hsl (fun r1 mm1 H locs hq hP hD hS => ?_)
  obtain ⟨hq1, hM1⟩ := hq
  cases hq1
  exact lv_icmp_eq hx hb (by decide +kernel : decode code 367 = .ok (.if_icmp .eq 586, 3)) (tgt := 953) (by decide) (fun _ => kk A1 mx1 mm1 H locs hX1 hM1 hP hD hS) (fun z => absurd rfl z)
theorem nl_case_8 (C : nl_C p s m c b L xs D cy) (hL : L ≤ 2560) (hEX : nw_En adX adV (nl_A s) s s.heap) (hEM : nw_En adM adV (nl_A s) s s.heap) {mx mm : nw_M} {A : nA} (hX : nX A mx) (hM : nM A mm) (hP : va_P D nw_cls (nw_pic adX cy mx 0 nw_shX ++ nw_pic adM cy mm 0 nw_shM) H) (hD : va_D (nl_A s) (nw_pic adX cy mx 0 nw_shX ++ nw_pic adM cy mm 0 nw_shM)) (hS : va_S (nl_A s) s.heap H locs) {i : Nat} (hi : i + 5 ≤ L) (hl : lv_has ls 4 [(3, .int (nI i)), (2, .ref (adM 0)), (1, .ref (adX 0)), (0, .ref b)]) (hc : cells ≤ 600000) (hsl : slots ≤ 7302250) (kk : nl_kk p l e s m below meth c b D cy adX adM Z cells slots ls) : W p l e room_1 s m #[Value.ref b] below meth c H locs cells slots Z (F0 m 372 ls []) := by
  obtain ⟨A1, r, hpx, hpm⟩ := p_go A (xs (i + 1)) mx mm hX hM
  obtain ⟨hx, hb, hml, hown, hts, hK, hXs, hbl⟩ := id C
  refine lv_aload_n hx hb (by decide +kernel : decode code 372 = .ok (.aload_n 1, 1)) rfl (lv_at hl 2 rfl) ?_
  refine lv_aload_n hx hb (by decide +kernel : decode code 373 = .ok (.aload_n 0, 1)) rfl (lv_at hl 3 rfl) ?_
  refine lv_iload_n hx hb (by decide +kernel : decode code 374 = .ok (.iload_n 3, 1)) rfl (lv_at hl 0 rfl) ?_
  refine lv_iconst (v := 1) hx hb (by decide +kernel : decode code 375 = .ok (.iconst 1, 1)) (by decide) ?_
  refine lv_iadd hx hb (by decide +kernel : decode code 376 = .ok (.iadd, 1)) ?_
  refine nl_ld C hS (x := nI i + 1) (j := i + 1) (nI_add i 1) (by omega) hL (by decide +kernel : decode code 377 = .ok (.iaload, 1)) ?_
  refine nl_call C nl_okX hEX (by rw [nw_pic_len]; decide) hP hD hS (k := 78) (ci := 0) (as := [.int (xs (i + 1))]) (rest := []) (Q := fun v u => v = some (.int r) ∧ nX A1 u) nw_m_78 rfl rfl (hpx _ (fun _ h => ⟨rfl, h⟩)) rfl rfl (nw_in 426 (by decide +kernel) (by decide +kernel)) rfl (Nat.le_of_ble_eq_true rfl) (by decide +kernel : decode code 378 = .ok (.invokevirtual 51, 3)) hl.1 hc hsl (fun r1 mx1 H locs hq hP hD hS => ?_)
  obtain ⟨hq1, hX1⟩ := hq
  cases hq1
  refine lv_aload_n hx hb (by decide +kernel : decode code 381 = .ok (.aload_n 2, 1)) rfl (lv_at hl 1 rfl) ?_
  refine lv_aload_n hx hb (by decide +kernel : decode code 382 = .ok (.aload_n 0, 1)) rfl (lv_at hl 3 rfl) ?_
  refine lv_iload_n hx hb (by decide +kernel : decode code 383 = .ok (.iload_n 3, 1)) rfl (lv_at hl 0 rfl) ?_
  refine lv_iconst (v := 1) hx hb (by decide +kernel : decode code 384 = .ok (.iconst 1, 1)) (by decide) ?_
  refine lv_iadd hx hb (by decide +kernel : decode code 385 = .ok (.iadd, 1)) ?_
  refine nl_ld C hS (x := nI i + 1) (j := i + 1) (nI_add i 1) (by omega) hL (by decide +kernel : decode code 386 = .ok (.iaload, 1)) ?_
  refine nl_call C nl_okM hEM (by rw [nw_pic_len]; decide) hP hD hS (k := 126) (ci := 4) (as := [.int (xs (i + 1))]) (rest := [.int r]) (Q := fun v u => v = some (.int r) ∧ nM A1 u) nw_m_126 rfl rfl (hpm _ (fun _ h => ⟨rfl, h⟩)) rfl rfl (nw_in 800 (by decide +kernel) (by decide +kernel)) rfl (Nat.le_of_ble_eq_true rfl) (by decide +kernel : decode code 387 = .ok (.invokevirtual 54, 3)) hl.1 hc hsl (fun r1 mm1 H locs hq hP hD hS => ?_)
  obtain ⟨hq1, hM1⟩ := hq
  cases hq1
  exact lv_icmp_eq hx hb (by decide +kernel : decode code 390 = .ok (.if_icmp .eq 563, 3)) (tgt := 953) (by decide) (fun _ => kk A1 mx1 mm1 H locs hX1 hM1 hP hD hS) (fun z => absurd rfl z)
theorem nl_case_9 (C : nl_C p s m c b L xs D cy) (hL : L ≤ 2560) (hEX : nw_En adX adV (nl_A s) s s.heap) (hEM : nw_En adM adV (nl_A s) s s.heap) {mx mm : nw_M} {A : nA} (hX : nX A mx) (hM : nM A mm) (hP : va_P D nw_cls (nw_pic adX cy mx 0 nw_shX ++ nw_pic adM cy mm 0 nw_shM) H) (hD : va_D (nl_A s) (nw_pic adX cy mx 0 nw_shX ++ nw_pic adM cy mm 0 nw_shM)) (hS : va_S (nl_A s) s.heap H locs) {i : Nat} (hi : i + 5 ≤ L) (hl : lv_has ls 4 [(3, .int (nI i)), (2, .ref (adM 0)), (1, .ref (adX 0)), (0, .ref b)]) (hc : cells ≤ 600000) (hsl : slots ≤ 7302250) (kk : nl_kk p l e s m below meth c b D cy adX adM Z cells slots ls) : W p l e room_1 s m #[Value.ref b] below meth c H locs cells slots Z (F0 m 395 ls []) := by
  obtain ⟨A1, r, hpx, hpm⟩ := p_turn A (xs (i + 1)) mx mm hX hM
  obtain ⟨hx, hb, hml, hown, hts, hK, hXs, hbl⟩ := id C
  refine lv_aload_n hx hb (by decide +kernel : decode code 395 = .ok (.aload_n 1, 1)) rfl (lv_at hl 2 rfl) ?_
  refine lv_aload_n hx hb (by decide +kernel : decode code 396 = .ok (.aload_n 0, 1)) rfl (lv_at hl 3 rfl) ?_
  refine lv_iload_n hx hb (by decide +kernel : decode code 397 = .ok (.iload_n 3, 1)) rfl (lv_at hl 0 rfl) ?_
  refine lv_iconst (v := 1) hx hb (by decide +kernel : decode code 398 = .ok (.iconst 1, 1)) (by decide) ?_
  refine lv_iadd hx hb (by decide +kernel : decode code 399 = .ok (.iadd, 1)) ?_
  refine nl_ld C hS (x := nI i + 1) (j := i + 1) (nI_add i 1) (by omega) hL (by decide +kernel : decode code 400 = .ok (.iaload, 1)) ?_
  refine nl_call C nl_okX hEX (by rw [nw_pic_len]; decide) hP hD hS (k := 79) (ci := 0) (as := [.int (xs (i + 1))]) (rest := []) (Q := fun v u => v = some (.int r) ∧ nX A1 u) nw_m_79 rfl rfl (hpx _ (fun _ h => ⟨rfl, h⟩)) rfl rfl (nw_in 444 (by decide +kernel) (by decide +kernel)) rfl (Nat.le_of_ble_eq_true rfl) (by decide +kernel : decode code 401 = .ok (.invokevirtual 55, 3)) hl.1 hc hsl (fun r1 mx1 H locs hq hP hD hS => ?_)
  obtain ⟨hq1, hX1⟩ := hq
  cases hq1
  refine lv_aload_n hx hb (by decide +kernel : decode code 404 = .ok (.aload_n 2, 1)) rfl (lv_at hl 1 rfl) ?_
  refine lv_aload_n hx hb (by decide +kernel : decode code 405 = .ok (.aload_n 0, 1)) rfl (lv_at hl 3 rfl) ?_
  refine lv_iload_n hx hb (by decide +kernel : decode code 406 = .ok (.iload_n 3, 1)) rfl (lv_at hl 0 rfl) ?_
  refine lv_iconst (v := 1) hx hb (by decide +kernel : decode code 407 = .ok (.iconst 1, 1)) (by decide) ?_
  refine lv_iadd hx hb (by decide +kernel : decode code 408 = .ok (.iadd, 1)) ?_
  refine nl_ld C hS (x := nI i + 1) (j := i + 1) (nI_add i 1) (by omega) hL (by decide +kernel : decode code 409 = .ok (.iaload, 1)) ?_
  refine nl_call C nl_okM hEM (by rw [nw_pic_len]; decide) hP hD hS (k := 127) (ci := 4) (as := [.int (xs (i + 1))]) (rest := [.int r]) (Q := fun v u => v = some (.int r) ∧ nM A1 u) nw_m_127 rfl rfl (hpm _ (fun _ h => ⟨rfl, h⟩)) rfl rfl (nw_in 814 (by decide +kernel) (by decide +kernel)) rfl (Nat.le_of_ble_eq_true rfl) (by decide +kernel : decode code 410 = .ok (.invokevirtual 58, 3)) hl.1 hc hsl (fun r1 mm1 H locs hq hP hD hS => ?_)
  obtain ⟨hq1, hM1⟩ := hq
  cases hq1
  exact lv_icmp_eq hx hb (by decide +kernel : decode code 413 = .ok (.if_icmp .eq 540, 3)) (tgt := 953) (by decide) (fun _ => kk A1 mx1 mm1 H locs hX1 hM1 hP hD hS) (fun z => absurd rfl z)
end NLC
