/-! THE LAW'S LOOP -/
section NLP
variable {p : Program} {l : Launch} {e : Env} {s : State} {m : MethodId} {below : List Frame} {meth : Method} {c : Code} {b L : Nat} {xs : Nat → Int32} {D : va_G} {cy : Bool → ClassId} {Z : State → Prop} {cells slots : Nat} {ls : Array Slot} {H : Heap} {locs : List Loc} {adX adM adV : Nat → Nat}
theorem nl_go (C : nl_C p s m c b L xs D cy) (hL : L ≤ 2560) (hEX : nw_En adX adV (nl_A s) s s.heap) (hEM : nw_En adM adV (nl_A s) s s.heap) {mx mm : nw_M} {A : nA} (hX : nX A mx) (hM : nM A mm) (hP : va_P D nw_cls (nw_pic adX cy mx 0 nw_shX ++ nw_pic adM cy mm 0 nw_shM) H) (hD : va_D (nl_A s) (nw_pic adX cy mx 0 nw_shX ++ nw_pic adM cy mm 0 nw_shM)) (hS : va_S (nl_A s) s.heap H locs) {i : Nat} (hi : i + 5 ≤ L) (hl : lv_has ls 4 [(3, .int (nI i)), (2, .ref (adM 0)), (1, .ref (adX 0)), (0, .ref b)]) (hc : cells ≤ 600000) (hsl : slots ≤ 7302250) (kk : nl_kk p l e s m below meth c b D cy adX adM Z cells slots ls) : W p l e room_1 s m #[Value.ref b] below meth c H locs cells slots Z (F0 m 26 ls []) := by
  obtain ⟨hx, hb, hml, hown, hts, hK, hXs, hbl⟩ := id C
  refine lv_aload_n hx hb (by decide +kernel : decode code 26 = .ok (.aload_n 0, 1)) rfl (lv_at hl 3 rfl) ?_
  refine lv_iload_n hx hb (by decide +kernel : decode code 27 = .ok (.iload_n 3, 1)) rfl (lv_at hl 0 rfl) ?_
  refine nl_ld C hS (x := nI i) (j := i) rfl (by omega) hL (by decide +kernel : decode code 28 = .ok (.iaload, 1)) ?_
  refine lv_bipush (v := 31) hx hb (by decide +kernel : decode code 29 = .ok (.bipush 31, 2)) (by decide) ?_
  refine lv_iand hx hb (by decide +kernel : decode code 31 = .ok (.iand, 1)) ?_
  obtain ⟨j, hj, ej⟩ := pk_andE (xs i) (m := 31) 5 (by decide)
  rw [ej]
  have dsw := (by decide +kernel : decode code 32 = .ok (.tableswitch 921 0 24 #[116, 179, 192, 205, 218, 251, 284, 317, 340, 363, 386, 419, 442, 465, 508, 541, 584, 627, 660, 703, 736, 789, 832, 855, 898], 116))
  match j, hj with
  | 0, _ => exact lv_tableIn hx hb dsw (off := 116) (tgt := 148) (by decide) (by decide) (by decide) (by decide) (nl_case_0 C hL hEX hEM hX hM hP hD hS hi hl hc hsl kk)
  | 1, _ => exact lv_tableIn hx hb dsw (off := 179) (tgt := 211) (by decide) (by decide) (by decide) (by decide) (nl_case_1 C hL hEX hEM hX hM hP hD hS hi hl hc hsl kk)
  | 2, _ => exact lv_tableIn hx hb dsw (off := 192) (tgt := 224) (by decide) (by decide) (by decide) (by decide) (nl_case_2 C hL hEX hEM hX hM hP hD hS hi hl hc hsl kk)
  | 3, _ => exact lv_tableIn hx hb dsw (off := 205) (tgt := 237) (by decide) (by decide) (by decide) (by decide) (nl_case_3 C hL hEX hEM hX hM hP hD hS hi hl hc hsl kk)
  | 4, _ => exact lv_tableIn hx hb dsw (off := 218) (tgt := 250) (by decide) (by decide) (by decide) (by decide) (nl_case_4 C hL hEX hEM hX hM hP hD hS hi hl hc hsl kk)
  | 5, _ => exact lv_tableIn hx hb dsw (off := 251) (tgt := 283) (by decide) (by decide) (by decide) (by decide) (nl_case_5 C hL hEX hEM hX hM hP hD hS hi hl hc hsl kk)
  | 6, _ => exact lv_tableIn hx hb dsw (off := 284) (tgt := 316) (by decide) (by decide) (by decide) (by decide) (nl_case_6 C hL hEX hEM hX hM hP hD hS hi hl hc hsl kk)
  | 7, _ => exact lv_tableIn hx hb dsw (off := 317) (tgt := 349) (by decide) (by decide) (by decide) (by decide) (nl_case_7 C hL hEX hEM hX hM hP hD hS hi hl hc hsl kk)
  | 8, _ => exact lv_tableIn hx hb dsw (off := 340) (tgt := 372) (by decide) (by decide) (by decide) (by decide) (nl_case_8 C hL hEX hEM hX hM hP hD hS hi hl hc hsl kk)
  | 9, _ => exact lv_tableIn hx hb dsw (off := 363) (tgt := 395) (by decide) (by decide) (by decide) (by decide) (nl_case_9 C hL hEX hEM hX hM hP hD hS hi hl hc hsl kk)
  | 10, _ => exact lv_tableIn hx hb dsw (off := 386) (tgt := 418) (by decide) (by decide) (by decide) (by decide) (nl_case_10 C hL hEX hEM hX hM hP hD hS hi hl hc hsl kk)
  | 11, _ => exact lv_tableIn hx hb dsw (off := 419) (tgt := 451) (by decide) (by decide) (by decide) (by decide) (nl_case_11 C hL hEX hEM hX hM hP hD hS hi hl hc hsl kk)
  | 12, _ => exact lv_tableIn hx hb dsw (off := 442) (tgt := 474) (by decide) (by decide) (by decide) (by decide) (nl_case_12 C hL hEX hEM hX hM hP hD hS hi hl hc hsl kk)
  | 13, _ => exact lv_tableIn hx hb dsw (off := 465) (tgt := 497) (by decide) (by decide) (by decide) (by decide) (nl_case_13 C hL hEX hEM hX hM hP hD hS hi hl hc hsl kk)
  | 14, _ => exact lv_tableIn hx hb dsw (off := 508) (tgt := 540) (by decide) (by decide) (by decide) (by decide) (nl_case_14 C hL hEX hEM hX hM hP hD hS hi hl hc hsl kk)
  | 15, _ => exact lv_tableIn hx hb dsw (off := 541) (tgt := 573) (by decide) (by decide) (by decide) (by decide) (nl_case_15 C hL hEX hEM hX hM hP hD hS hi hl hc hsl kk)
  | 16, _ => exact lv_tableIn hx hb dsw (off := 584) (tgt := 616) (by decide) (by decide) (by decide) (by decide) (nl_case_16 C hL hEX hEM hX hM hP hD hS hi hl hc hsl kk)
  | 17, _ => exact lv_tableIn hx hb dsw (off := 627) (tgt := 659) (by decide) (by decide) (by decide) (by decide) (nl_case_17 C hL hEX hEM hX hM hP hD hS hi hl hc hsl kk)
  | 18, _ => exact lv_tableIn hx hb dsw (off := 660) (tgt := 692) (by decide) (by decide) (by decide) (by decide) (nl_case_18 C hL hEX hEM hX hM hP hD hS hi hl hc hsl kk)
  | 19, _ => exact lv_tableIn hx hb dsw (off := 703) (tgt := 735) (by decide) (by decide) (by decide) (by decide) (nl_case_19 C hL hEX hEM hX hM hP hD hS hi hl hc hsl kk)
  | 20, _ => exact lv_tableIn hx hb dsw (off := 736) (tgt := 768) (by decide) (by decide) (by decide) (by decide) (nl_case_20 C hL hEX hEM hX hM hP hD hS hi hl hc hsl kk)
  | 21, _ => exact lv_tableIn hx hb dsw (off := 789) (tgt := 821) (by decide) (by decide) (by decide) (by decide) (nl_case_21 C hL hEX hEM hX hM hP hD hS hi hl hc hsl kk)
  | 22, _ => exact lv_tableIn hx hb dsw (off := 832) (tgt := 864) (by decide) (by decide) (by decide) (by decide) (nl_case_22 C hL hEX hEM hX hM hP hD hS hi hl hc hsl kk)
  | 23, _ => exact lv_tableIn hx hb dsw (off := 855) (tgt := 887) (by decide) (by decide) (by decide) (by decide) (nl_case_23 C hL hEX hEM hX hM hP hD hS hi hl hc hsl kk)
  | 24, _ => exact lv_tableIn hx hb dsw (off := 898) (tgt := 930) (by decide) (by decide) (by decide) (by decide) (nl_case_24 C hL hEX hEM hX hM hP hD hS hi hl hc hsl kk)
  | j + 25, hj =>
    refine lv_tableOut hx hb dsw (tgt := 953) (Or.inr ?_) (by decide) (kk A mx mm H locs hX hM hP hD hS)
    rw [nI_toInt (by omega)]
    omega
theorem nl_loop (C : nl_C p s m c b L xs D cy) (hL : L ≤ 2560) (hr : meth.sig.returnType = ret) (hlocks : meth.locks = false) (hEX : nw_En adX adV (nl_A s) s s.heap) (hEM : nw_En adM adV (nl_A s) s s.heap) : ∀ (n i : Nat) (A : nA) (mx mm : nw_M) (H : Heap) (locs : List Loc) (ls : Array Slot), L < i + 5 * (n + 1) → i ≤ 2565 → nX A mx → nM A mm → va_P D nw_cls (nw_pic adX cy mx 0 nw_shX ++ nw_pic adM cy mm 0 nw_shM) H → va_D (nl_A s) (nw_pic adX cy mx 0 nw_shX ++ nw_pic adM cy mm 0 nw_shM) → va_S (nl_A s) s.heap H locs → lv_has ls 4 [(3, .int (nI i)), (2, .ref (adM 0)), (1, .ref (adX 0)), (0, .ref b)] → W p l e room_1 s m #[Value.ref b] below meth c H locs 26 1726 (lw_Z below #[Value.ref b] s) (F0 m 18 ls []) := by
  obtain ⟨hx, hb, hml, hown, hts, hK, hXs, hbl⟩ := id C
  have hbA : ¬ nl_A s b := Nat.not_le.mpr hbl
  intro n
  induction n with
  | zero =>
    intro i A mx mm H locs ls hn hi hX hM hP hD hS hl
    have hcmp : (Int32.ofNat L - 5) < nI i := by
      rw [fa_lt, show (Int32.ofNat L - 5).toInt = (L : Int) - 5 from pk_sub_toInt (a := L) (b := 5) (by omega) (by decide), nI_toInt (by omega)]
      omega
    refine lv_iload_n hx hb (by decide +kernel : decode code 18 = .ok (.iload_n 3, 1)) rfl (lv_at hl 0 rfl) ?_
    refine lv_aload_n hx hb (by decide +kernel : decode code 19 = .ok (.aload_n 0, 1)) rfl (lv_at hl 3 rfl) ?_
    refine va_slen hx hb hXs hbl hbA hS (by decide +kernel : decode code 20 = .ok (.arraylength, 1)) ?_
    refine lv_iconst (v := 5) hx hb (by decide +kernel : decode code 21 = .ok (.iconst 5, 1)) (by decide) ?_
    refine lv_isub hx hb (by decide +kernel : decode code 22 = .ok (.isub, 1)) ?_
    refine lv_icmp_gt hx hb (by decide +kernel : decode code 23 = .ok (.if_icmp .gt 936, 3)) (tgt := 959) (by decide) (fun _ => ?_) (fun z => absurd hcmp z)
    refine lv_iconst (v := 1) hx hb (by decide +kernel : decode code 959 = .ok (.iconst 1, 1)) (by decide) ?_
    refine va_forget (fun q hq => hS.2.2 q hq) ?_
    refine W.widen (k := 600000) (n := 7302250) (by omega) (by omega) ?_
    exact lw_ret hx hb hr hlocks (by decide +kernel : decode code 960 = .ok (.ireturn, 1))
  | succ n ih =>
    intro i A mx mm H locs ls hn hi hX hM hP hD hS hl
    refine lv_iload_n hx hb (by decide +kernel : decode code 18 = .ok (.iload_n 3, 1)) rfl (lv_at hl 0 rfl) ?_
    refine lv_aload_n hx hb (by decide +kernel : decode code 19 = .ok (.aload_n 0, 1)) rfl (lv_at hl 3 rfl) ?_
    refine va_slen hx hb hXs hbl hbA hS (by decide +kernel : decode code 20 = .ok (.arraylength, 1)) ?_
    refine lv_iconst (v := 5) hx hb (by decide +kernel : decode code 21 = .ok (.iconst 5, 1)) (by decide) ?_
    refine lv_isub hx hb (by decide +kernel : decode code 22 = .ok (.isub, 1)) ?_
    refine lv_icmp_gt hx hb (by decide +kernel : decode code 23 = .ok (.if_icmp .gt 936, 3)) (tgt := 959) (by decide) (fun _ => ?_) (fun hcmp => ?_)
    · refine lv_iconst (v := 1) hx hb (by decide +kernel : decode code 959 = .ok (.iconst 1, 1)) (by decide) ?_
      refine va_forget (fun q hq => hS.2.2 q hq) ?_
      refine W.widen (k := 600000) (n := 7302250) (by omega) (by omega) ?_
      exact lw_ret hx hb hr hlocks (by decide +kernel : decode code 960 = .ok (.ireturn, 1))
    · rw [fa_lt, show (Int32.ofNat L - 5).toInt = (L : Int) - 5 from pk_sub_toInt (a := L) (b := 5) (by omega) (by decide), nI_toInt (by omega)] at hcmp
      refine nl_go C hL hEX hEM hX hM hP hD hS (by omega) hl (by decide) (by decide) (fun A1 mx1 mm1 H1 locs1 hX1 hM1 hP1 hD1 hS1 => ?_)
      refine lv_iinc (k := 0) (v := nI (i + 5)) (lv' := [(3, .int (nI (i + 5))), (2, .ref (adM 0)), (1, .ref (adX 0)), (0, .ref b)]) hx hb (by decide +kernel : decode code 953 = .ok (.iinc 3 5, 3)) hl rfl (nI_add i 5) (by decide) rfl (fun ls hl => ?_)
      refine lv_goto hx hb (by decide +kernel : decode code 956 = .ok (.goto (-938), 3)) (tgt := 18) (by decide) ?_
      exact ih (i + 5) A1 mx1 mm1 H1 locs1 ls (by omega) (by omega) hX1 hM1 hP1 hD1 hS1 hl
end NLP
/-! both, made -/
def nl_T0 : nt_T := (2, fun _ => 0, fun _ => 0, fun _ _ => 0, 0)
def nl_t0 : nt_S := (fun _ => 0, fun _ => 0)
def nl_A0 : nA := (nl_T0, nl_t0, nl_t0, 0, fun _ => none, 0, fun _ => 0)
theorem nl_T0_ok : nt_ok nl_T0 := ⟨by decide, by decide, by decide, fun c => ⟨Nat.zero_le 3, Nat.zero_le 4, fun _ => rfl, fun j hj => absurd (show j < 0 from hj) (Nat.not_lt_zero j)⟩⟩
theorem nl_t0_ok : nt_sok nl_T0 nl_t0 := ⟨fun c => ⟨fun h => h, fun _ => rfl⟩, fun w hw => absurd (show w < 0 from hw) (Nat.not_lt_zero w)⟩
theorem nl_S0 : nx_S 0 nl_t0 := ⟨by decide +kernel, fun c hc => ⟨(by decide +kernel : ∀ c, c < 8 → ns_v 0 c = nI 0) c hc, (by decide : (0 : Nat) < 4)⟩, fun w hw => ⟨(by decide +kernel : ∀ w, w < 5 → ns_p 0 w = nI 0) w hw, (by decide : (0 : Nat) < 8)⟩⟩
theorem nl_X0 : nX nl_A0 nc_m0X := by
  refine ⟨nl_T0_ok, ⟨rfl, rfl, fun c _ => rfl, fun c _ => rfl, fun c _ j hj => absurd (show j < 0 from hj) (Nat.not_lt_zero j)⟩, ⟨nl_t0_ok, nl_S0⟩, ⟨nl_t0_ok, nl_S0⟩, ⟨rfl, by decide⟩, fun k hk => ?_, rfl, by decide, fun i hi => absurd hi (Nat.not_lt_zero i)⟩
  rcases (show k = 0 ∨ k = 1 by omega) with rfl | rfl
  · show nc_m0X 13 0 = -1
    rfl
  · show nc_m0X 13 1 = -1
    rfl
theorem nl_M0 : nM nl_A0 nc_m0M := by
  refine ⟨nl_T0_ok, ⟨rfl, rfl, fun c _ => rfl, fun c _ => rfl, fun c _ j hj => absurd (show j < 0 from hj) (Nat.not_lt_zero j)⟩, ⟨nl_t0_ok, ⟨fun c _ => rfl, fun w hw => absurd (show w < 0 from hw) (Nat.not_lt_zero w)⟩, rfl⟩, ⟨nl_t0_ok, fun c _ => rfl, fun w hw => absurd (show w < 0 from hw) (Nat.not_lt_zero w)⟩, ⟨rfl, by decide⟩, fun k hk => rfl, rfl, by decide, fun i hi => absurd hi (Nat.not_lt_zero i)⟩
def nl_ad (u adK : Nat → Nat) : Nat → Nat := fun c => if c < 50 then u c else adK (c - 100)
theorem nl_ad_s (u adK : Nat → Nat) : ∀ j, j < 9 → nl_ad u adK (100 + j) = adK j := fun j hj => by
  unfold nl_ad
  rw [if_neg (by omega), Nat.add_sub_cancel_left]
theorem nl_picX (u adK : Nat → Nat) (cy : Bool → ClassId) (mem : nw_M) : nw_pic u cy mem 0 nw_shX = nw_pic (nl_ad u adK) cy mem 0 nw_shX := rfl
theorem nl_picM (u adK : Nat → Nat) (cy : Bool → ClassId) (mem : nw_M) : nw_pic u cy mem 0 nw_shM = nw_pic (nl_ad u adK) cy mem 0 nw_shM := rfl
set_option maxHeartbeats 4000000 in
set_option maxRecDepth 100000 in
theorem whole_start {p : Program} {e : Env} {s : State} {m : MethodId} {below : List Frame} {meth : Method} {c : Code} (l : Launch) {b L : Nat} {xs : Nat → Int32} (hL : L ≤ 2560) (C0 : lw_At p s m meth c b L xs) : W p l e room_1 s m #[Value.ref b] below meth c s.heap [] 0 0 (lw_Z below #[Value.ref b] s) (entryFrame m ([Value.ref b] : List Value).toArray 4) := by
  obtain ⟨adK, adV, hEn⟩ := nl_start C0
  obtain ⟨hx, hb, hr, hml, hown, hts0, hX, hbl, hlocks, hgv⟩ := id C0
  obtain ⟨D, cy, hK⟩ := nl_K hts0
  have hts : ∀ w ∈ nw_TBL, w.before #[Value.ref b] s = true := fun w hw => hts0 w (nw_TBL_in hw)
  have hA : ∀ q : Nat, s.heap.size ≤ q → nl_A s q := fun _ h => h
  have hN : va_Nw (nw_nfw (0, 37, 3, 5)) s := (hEn (nl_ad adK adK) (nl_ad_s adK adK)).1 _ (by decide)
  have hS : va_S (nl_A s) s.heap s.heap [] := va_S.rf
  have hP : va_P D nw_cls [] s.heap := fun k q h => by simp at h
  have hD : va_D (nl_A s) [] := ⟨fun i j p q h => by simp at h, fun k q h => by simp at h⟩
  have hl := lv_entry ([.ref b]) (n := 4) (Nat.le_of_ble_eq_true rfl)
  rw [lg_entry_eq]
  generalize (lg_sl ([.ref b]) ++ List.replicate (4 - (lg_sl ([.ref b])).length) Slot.unset).toArray = ls at hl ⊢
  have hl : lv_has ls 4 [(0, .ref b)] := hl
  refine va_new (ci := 0) (fs := [.null, .null, .null, .null, .null, .int 0, .int 0]) (C := RX5) (T := TX5) (N := 7) hx hb hts nw_uw_0 tyX5 tyX5_ok hown (hts _ (nw_in 55 (by decide +kernel) (by decide +kernel))) (hts _ (nw_in 56 (by decide +kernel) (by decide +kernel))) (hts _ (nw_in 42 (by decide +kernel) (by decide +kernel))) hK hP hD hS hA rfl (fun j hj => by rcases (show j = 0 ∨ j = 1 ∨ j = 2 ∨ j = 3 ∨ j = 4 ∨ j = 5 ∨ j = 6 by omega) with rfl | rfl | rfl | rfl | rfl | rfl | rfl <;> rfl) (Nat.le_of_ble_eq_true rfl) (Nat.le_of_ble_eq_true rfl) (by decide +kernel : decode code 0 = .ok (.new 7, 3)) (fun q0 H hP hD hS => ?_)
  have hP : va_P D nw_cls [(q0, .inr (0, [.null, .null, .null, .null, .null, .int 0, .int 0]))] H := hP
  have hD : va_D (nl_A s) [(q0, .inr (0, [.null, .null, .null, .null, .null, .int 0, .int 0]))] := hD
  refine W.widen (k := 1) (n := 7) (by omega) (by omega) ?_
  refine lv_dup hx hb (by decide +kernel : decode code 3 = .ok (.dup, 1)) rfl ?_
  have hFc := va_free (wc := [(q0, .inr (0, [.null, .null, .null, .null, .null, .int 0, .int 0]))]) hD hS hA [0] rfl
  refine va_callv (va_runI (As := []) (rest := [.ref q0]) ⟨hx, hb, hml, hown, hts⟩ (nc_X5 l D cy q0 H.size) (cwI 0 hts (nw_good (fun w hw => (List.mem_cons.mp hw).elim (fun z => z ▸ (nw_in 59 (by decide +kernel) (by decide +kernel))) (fun z => z))) rfl rfl rfl (hts _ (nw_in 42 (by decide +kernel) (by decide +kernel))) (hts _ (nw_in 57 (by decide +kernel) (by decide +kernel))) (hts _ (nw_in 58 (by decide +kernel) (by decide +kernel))) rfl (by decide +kernel) ⟨Nat.le_of_ble_eq_true rfl, Nat.le_of_ble_eq_true rfl⟩) ⟨nc_blind, fun U hU hW => ⟨rfl, nc_pre_at hK hN hP hD hU hW⟩⟩ rfl rfl hl.1 rfl (lv_room (Nat.le_of_ble_eq_true rfl)) (by decide +kernel : decode code 4 = .ok (.invokespecial 9, 3)) ⟨Nat.le_of_ble_eq_true rfl, Nat.le_of_ble_eq_true rfl⟩) hS (fun q _ h => hFc q h) hFc (fun u t H1 locs ht hvm hw hB hz1 hk1 hS => ?_)
  obtain ⟨hu0, hP1, hD1⟩ := hB
  rw [ht] at hP1
  obtain ⟨hP, hD⟩ := va_join (wr := []) (w1 := nw_pic u cy nc_m0X 0 nw_shX) hP hD [0] [] rfl rfl (by decide) (by decide) hk1 hFc hP1 hD1
  rw [List.nil_append] at hP hD
  generalize H1 = H at hP hS ⊢
  refine W.widen (k := 14) (n := 326) (by omega) (by omega) ?_
  refine lv_astore_n (lv' := [(1, .ref q0), (0, .ref b)]) hx hb (by decide +kernel : decode code 7 = .ok (.astore_n 1, 1)) rfl hl (by decide) rfl (fun ls hl => ?_)
  refine va_new (ci := 4) (fs := [.null, .null, .null, .int 0, .null, .int 0, .int 0, .null, .null, .null, .int 0, .int 0, .int 0, .int 0, .int 0, .null, .int 0, .null, .null, .null]) (C := RX6) (T := TX6) (N := 20) hx hb hts nw_uw_4 tyX6 tyX6_ok hown (hts _ (nw_in 614 (by decide +kernel) (by decide +kernel))) (hts _ (nw_in 615 (by decide +kernel) (by decide +kernel))) (hts _ (nw_in 46 (by decide +kernel) (by decide +kernel))) hK hP hD hS hA rfl (fun j hj => by rcases (show j = 0 ∨ j = 1 ∨ j = 2 ∨ j = 3 ∨ j = 4 ∨ j = 5 ∨ j = 6 ∨ j = 7 ∨ j = 8 ∨ j = 9 ∨ j = 10 ∨ j = 11 ∨ j = 12 ∨ j = 13 ∨ j = 14 ∨ j = 15 ∨ j = 16 ∨ j = 17 ∨ j = 18 ∨ j = 19 by omega) with rfl | rfl | rfl | rfl | rfl | rfl | rfl | rfl | rfl | rfl | rfl | rfl | rfl | rfl | rfl | rfl | rfl | rfl | rfl | rfl <;> rfl) (Nat.le_of_ble_eq_true rfl) (Nat.le_of_ble_eq_true rfl) (by decide +kernel : decode code 8 = .ok (.new 10, 3)) (fun q1 H hP hD hS => ?_)
  refine W.widen (k := 15) (n := 346) (by omega) (by omega) ?_
  refine lv_dup hx hb (by decide +kernel : decode code 11 = .ok (.dup, 1)) rfl ?_
  have hPc := hP.sub (ws' := [(q1, .inr (4, [.null, .null, .null, .int 0, .null, .int 0, .int 0, .null, .null, .null, .int 0, .int 0, .int 0, .int 0, .int 0, .null, .int 0, .null, .null, .null]))]) [14] rfl
  have hDc := hD.sub (ws' := [(q1, .inr (4, [.null, .null, .null, .int 0, .null, .int 0, .int 0, .null, .null, .null, .int 0, .int 0, .int 0, .int 0, .int 0, .null, .int 0, .null, .null, .null]))]) [14] (by decide) rfl
  have hFc := va_free (wc := [(q1, .inr (4, [.null, .null, .null, .int 0, .null, .int 0, .int 0, .null, .null, .null, .int 0, .int 0, .int 0, .int 0, .int 0, .null, .int 0, .null, .null, .null]))]) hD hS hA [14] rfl
  refine va_callv (va_runI (As := []) (rest := [.ref q1]) ⟨hx, hb, hml, hown, hts⟩ (nc_X6 l D cy q1 H.size) (cwI 0 hts (nw_good (fun w hw => (List.mem_cons.mp hw).elim (fun z => z ▸ (nw_in 618 (by decide +kernel) (by decide +kernel))) (fun z => z))) rfl rfl rfl (hts _ (nw_in 46 (by decide +kernel) (by decide +kernel))) (hts _ (nw_in 616 (by decide +kernel) (by decide +kernel))) (hts _ (nw_in 617 (by decide +kernel) (by decide +kernel))) rfl (by decide +kernel) ⟨Nat.le_of_ble_eq_true rfl, Nat.le_of_ble_eq_true rfl⟩) ⟨nc_blind, fun U hU hW => ⟨rfl, nc_pre_at hK hN hPc hDc hU hW⟩⟩ rfl rfl hl.1 rfl (lv_room (Nat.le_of_ble_eq_true rfl)) (by decide +kernel : decode code 12 = .ok (.invokespecial 12, 3)) ⟨Nat.le_of_ble_eq_true rfl, Nat.le_of_ble_eq_true rfl⟩) hS (fun q _ h => hFc q h) hFc (fun v t H1 locs ht hvm hw hB hz1 hk1 hS => ?_)
  obtain ⟨hv0, hP1, hD1⟩ := hB
  rw [ht] at hP1
  obtain ⟨hP, hD⟩ := va_join (wr := nw_pic u cy nc_m0X 0 nw_shX) (w1 := nw_pic v cy nc_m0M 0 nw_shM) hP hD [14] [0, 1, 2, 3, 4, 5, 6, 7, 8, 9, 10, 11, 12, 13] rfl rfl (by decide) (by decide) hk1 hFc hP1 hD1
  generalize H1 = H at hP hS ⊢
  refine W.widen (k := 26) (n := 1726) (by omega) (by omega) ?_
  refine lv_astore_n (lv' := [(2, .ref q1), (1, .ref q0), (0, .ref b)]) hx hb (by decide +kernel : decode code 15 = .ok (.astore_n 2, 1)) rfl hl (by decide) rfl (fun ls hl => ?_)
  refine lv_iconst (v := 0) hx hb (by decide +kernel : decode code 16 = .ok (.iconst 0, 1)) (by decide) ?_
  refine lv_istore_n (lv' := [(3, .int 0), (2, .ref q1), (1, .ref q0), (0, .ref b)]) hx hb (by decide +kernel : decode code 17 = .ok (.istore_n 3, 1)) rfl hl (by decide) rfl (fun ls hl => ?_)
  rw [nl_picX u adK, nl_picM v adK] at hP hD
  have e0 : nl_ad u adK 0 = q0 := hu0
  have e1 : nl_ad v adK 0 = q1 := hv0
  rw [← e0, ← e1] at hl
  exact nl_loop (l := l) (e := e) (below := below) ⟨hx, hb, hml, hown, hts, hK, hX, hbl⟩ hL hr hlocks (hEn (nl_ad u adK) (nl_ad_s u adK)) (hEn (nl_ad v adK) (nl_ad_s v adK)) 512 0 nl_A0 nc_m0X nc_m0M H locs ls (by omega) (by omega) nl_X0 nl_M0 hP hD hS hl
