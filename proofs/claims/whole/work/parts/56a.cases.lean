/-! the law's cases: printed by gen/law.py -/
/-- how the law goes on behind a case -/
def nl_kk (p : Program) (l : Launch) (e : Env) (s : State) (m : MethodId) (below : List Frame) (meth : Method) (c : Code) (b : Nat) (D : va_G) (cy : Bool → ClassId) (adX adM : Nat → Nat) (Z : State → Prop) (cells slots : Nat) (ls : Array Slot) : Prop :=
  ∀ (A1 : nA) (mx1 mm1 : nw_M) (H1 : Heap) (locs1 : List Loc), nX A1 mx1 → nM A1 mm1 → va_P D nw_cls (nw_pic adX cy mx1 0 nw_shX ++ nw_pic adM cy mm1 0 nw_shM) H1 → va_D (nl_A s) (nw_pic adX cy mx1 0 nw_shX ++ nw_pic adM cy mm1 0 nw_shM) → va_S (nl_A s) s.heap H1 locs1 → W p l e room_1 s m #[Value.ref b] below meth c H1 locs1 cells slots Z (F0 m 953 ls [])
section NLC
variable {p : Program} {l : Launch} {e : Env} {s : State} {m : MethodId} {below : List Frame} {meth : Method} {c : Code} {b L : Nat} {xs : Nat → Int32} {D : va_G} {cy : Bool → ClassId} {Z : State → Prop} {cells slots : Nat} {ls : Array Slot} {H : Heap} {locs : List Loc} {adX adM adV : Nat → Nat}
theorem nl_case_0 (C : nl_C p s m c b L xs D cy) (hL : L ≤ 2560) (hEX : nw_En adX adV (nl_A s) s s.heap) (hEM : nw_En adM adV (nl_A s) s s.heap) {mx mm : nw_M} {A : nA} (hX : nX A mx) (hM : nM A mm) (hP : va_P D nw_cls (nw_pic adX cy mx 0 nw_shX ++ nw_pic adM cy mm 0 nw_shM) H) (hD : va_D (nl_A s) (nw_pic adX cy mx 0 nw_shX ++ nw_pic adM cy mm 0 nw_shM)) (hS : va_S (nl_A s) s.heap H locs) {i : Nat} (hi : i + 5 ≤ L) (hl : lv_has ls 4 [(3, .int (nI i)), (2, .ref (adM 0)), (1, .ref (adX 0)), (0, .ref b)]) (hc : cells ≤ 600000) (hsl : slots ≤ 7302250) (kk : nl_kk p l e s m below meth c b D cy adX adM Z cells slots ls) : W p l e room_1 s m #[Value.ref b] below meth c H locs cells slots Z (F0 m 148 ls []) := by
  obtain ⟨A1, r, hpx, hpm⟩ := p_write A ((((xs (i + 1)).toInt64 <<< ((32 : Int32).toInt64 &&& 63)) ||| ((xs (i + 2)).toInt64 &&& 4294967295))) (xs (i + 3)) mx mm hX hM
  obtain ⟨hx, hb, hml, hown, hts, hK, hXs, hbl⟩ := id C
  refine lv_aload_n hx hb (by decide +kernel : decode code 148 = .ok (.aload_n 1, 1)) rfl (lv_at hl 2 rfl) ?_
  refine lv_aload_n hx hb (by decide +kernel : decode code 149 = .ok (.aload_n 0, 1)) rfl (lv_at hl 3 rfl) ?_
  refine lv_iload_n hx hb (by decide +kernel : decode code 150 = .ok (.iload_n 3, 1)) rfl (lv_at hl 0 rfl) ?_
  refine lv_iconst (v := 1) hx hb (by decide +kernel : decode code 151 = .ok (.iconst 1, 1)) (by decide) ?_
  refine lv_iadd hx hb (by decide +kernel : decode code 152 = .ok (.iadd, 1)) ?_
  refine nl_ld C hS (x := nI i + 1) (j := i + 1) (nI_add i 1) (by omega) hL (by decide +kernel : decode code 153 = .ok (.iaload, 1)) ?_
  refine lv_i2l hx hb (by decide +kernel : decode code 154 = .ok (.i2l, 1)) rfl ?_
  refine lv_bipush (v := 32) hx hb (by decide +kernel : decode code 155 = .ok (.bipush 32, 2)) (by decide) ?_
  refine lv_lshl hx hb (by decide +kernel : decode code 157 = .ok (.lshl, 1)) rfl ?_
  refine lv_aload_n hx hb (by decide +kernel : decode code 158 = .ok (.aload_n 0, 1)) rfl (lv_at hl 3 rfl) ?_
  refine lv_iload_n hx hb (by decide +kernel : decode code 159 = .ok (.iload_n 3, 1)) rfl (lv_at hl 0 rfl) ?_
  refine lv_iconst (v := 2) hx hb (by decide +kernel : decode code 160 = .ok (.iconst 2, 1)) (by decide) ?_
  refine lv_iadd hx hb (by decide +kernel : decode code 161 = .ok (.iadd, 1)) ?_
  refine nl_ld C hS (x := nI i + 2) (j := i + 2) (nI_add i 2) (by omega) hL (by decide +kernel : decode code 162 = .ok (.iaload, 1)) ?_
  refine lv_i2l hx hb (by decide +kernel : decode code 163 = .ok (.i2l, 1)) rfl ?_
  refine lv_ldc2 (v := 4294967295) hx hb hown (hts _ (nw_in 923 (by decide +kernel) (by decide +kernel))) (by decide +kernel : decode code 164 = .ok (.ldc2_w 13, 3)) ?_
  refine lv_land hx hb (by decide +kernel : decode code 167 = .ok (.land, 1)) ?_
  refine lv_lor hx hb (by decide +kernel : decode code 168 = .ok (.lor, 1)) ?_
  refine lv_aload_n hx hb (by decide +kernel : decode code 169 = .ok (.aload_n 0, 1)) rfl (lv_at hl 3 rfl) ?_
  refine lv_iload_n hx hb (by decide +kernel : decode code 170 = .ok (.iload_n 3, 1)) rfl (lv_at hl 0 rfl) ?_
  refine lv_iconst (v := 3) hx hb (by decide +kernel : decode code 171 = .ok (.iconst 3, 1)) (by decide) ?_
  refine lv_iadd hx hb (by decide +kernel : decode code 172 = .ok (.iadd, 1)) ?_
  refine nl_ld C hS (x := nI i + 3) (j := i + 3) (nI_add i 3) (by omega) hL (by decide +kernel : decode code 173 = .ok (.iaload, 1)) ?_
  refine nl_call C nl_okX hEX (by rw [nw_pic_len]; decide) hP hD hS (k := 70) (ci := 0) (as := [.long (((xs (i + 1)).toInt64 <<< ((32 : Int32).toInt64 &&& 63)) ||| ((xs (i + 2)).toInt64 &&& 4294967295)), .int (xs (i + 3))]) (rest := []) (Q := fun v u => v = some (.int r) ∧ nX A1 u) nw_m_70 rfl rfl (hpx _ (fun _ h => ⟨rfl, h⟩)) rfl rfl (nw_in 158 (by decide +kernel) (by decide +kernel)) rfl (Nat.le_of_ble_eq_true rfl) (by decide +kernel : decode code 174 = .ok (.invokevirtual 15, 3)) hl.1 hc hsl (fun r1 mx1 H locs hq hP hD hS => ?_)
  obtain ⟨hq1, hX1⟩ := hq
  cases hq1
  refine lv_aload_n hx hb (by decide +kernel : decode code 177 = .ok (.aload_n 2, 1)) rfl (lv_at hl 1 rfl) ?_
  refine lv_aload_n hx hb (by decide +kernel : decode code 178 = .ok (.aload_n 0, 1)) rfl (lv_at hl 3 rfl) ?_
  refine lv_iload_n hx hb (by decide +kernel : decode code 179 = .ok (.iload_n 3, 1)) rfl (lv_at hl 0 rfl) ?_
  refine lv_iconst (v := 1) hx hb (by decide +kernel : decode code 180 = .ok (.iconst 1, 1)) (by decide) ?_
  refine lv_iadd hx hb (by decide +kernel : decode code 181 = .ok (.iadd, 1)) ?_
  refine nl_ld C hS (x := nI i + 1) (j := i + 1) (nI_add i 1) (by omega) hL (by decide +kernel : decode code 182 = .ok (.iaload, 1)) ?_
  refine lv_i2l hx hb (by decide +kernel : decode code 183 = .ok (.i2l, 1)) rfl ?_
  refine lv_bipush (v := 32) hx hb (by decide +kernel : decode code 184 = .ok (.bipush 32, 2)) (by decide) ?_
  refine lv_lshl hx hb (by decide +kernel : decode code 186 = .ok (.lshl, 1)) rfl ?_
  refine lv_aload_n hx hb (by decide +kernel : decode code 187 = .ok (.aload_n 0, 1)) rfl (lv_at hl 3 rfl) ?_
  refine lv_iload_n hx hb (by decide +kernel : decode code 188 = .ok (.iload_n 3, 1)) rfl (lv_at hl 0 rfl) ?_
  refine lv_iconst (v := 2) hx hb (by decide +kernel : decode code 189 = .ok (.iconst 2, 1)) (by decide) ?_
  refine lv_iadd hx hb (by decide +kernel : decode code 190 = .ok (.iadd, 1)) ?_
  refine nl_ld C hS (x := nI i + 2) (j := i + 2) (nI_add i 2) (by omega) hL (by decide +kernel : decode code 191 = .ok (.iaload, 1)) ?_
  refine lv_i2l hx hb (by decide +kernel : decode code 192 = .ok (.i2l, 1)) rfl ?_
  refine lv_ldc2 (v := 4294967295) hx hb hown (hts _ (nw_in 923 (by decide +kernel) (by decide +kernel))) (by decide +kernel : decode code 193 = .ok (.ldc2_w 13, 3)) ?_
  refine lv_land hx hb (by decide +kernel : decode code 196 = .ok (.land, 1)) ?_
  refine lv_lor hx hb (by decide +kernel : decode code 197 = .ok (.lor, 1)) ?_
  refine lv_aload_n hx hb (by decide +kernel : decode code 198 = .ok (.aload_n 0, 1)) rfl (lv_at hl 3 rfl) ?_
  refine lv_iload_n hx hb (by decide +kernel : decode code 199 = .ok (.iload_n 3, 1)) rfl (lv_at hl 0 rfl) ?_
  refine lv_iconst (v := 3) hx hb (by decide +kernel : decode code 200 = .ok (.iconst 3, 1)) (by decide) ?_
  refine lv_iadd hx hb (by decide +kernel : decode code 201 = .ok (.iadd, 1)) ?_
  refine nl_ld C hS (x := nI i + 3) (j := i + 3) (nI_add i 3) (by omega) hL (by decide +kernel : decode code 202 = .ok (.iaload, 1)) ?_
  refine nl_call C nl_okM hEM (by rw [nw_pic_len]; decide) hP hD hS (k := 99) (ci := 4) (as := [.long (((xs (i + 1)).toInt64 <<< ((32 : Int32).toInt64 &&& 63)) ||| ((xs (i + 2)).toInt64 &&& 4294967295)), .int (xs (i + 3))]) (rest := [.int r]) (Q := fun v u => v = some (.int r) ∧ nM A1 u) nw_m_99 rfl rfl (hpm _ (fun _ h => ⟨rfl, h⟩)) rfl rfl (nw_in 682 (by decide +kernel) (by decide +kernel)) rfl (Nat.le_of_ble_eq_true rfl) (by decide +kernel : decode code 203 = .ok (.invokevirtual 19, 3)) hl.1 hc hsl (fun r1 mm1 H locs hq hP hD hS => ?_)
  obtain ⟨hq1, hM1⟩ := hq
  cases hq1
  exact lv_icmp_eq hx hb (by decide +kernel : decode code 206 = .ok (.if_icmp .eq 747, 3)) (tgt := 953) (by decide) (fun _ => kk A1 mx1 mm1 H locs hX1 hM1 hP hD hS) (fun z => absurd rfl z)
theorem nl_case_1 (C : nl_C p s m c b L xs D cy) (hL : L ≤ 2560) (hEX : nw_En adX adV (nl_A s) s s.heap) (hEM : nw_En adM adV (nl_A s) s s.heap) {mx mm : nw_M} {A : nA} (hX : nX A mx) (hM : nM A mm) (hP : va_P D nw_cls (nw_pic adX cy mx 0 nw_shX ++ nw_pic adM cy mm 0 nw_shM) H) (hD : va_D (nl_A s) (nw_pic adX cy mx 0 nw_shX ++ nw_pic adM cy mm 0 nw_shM)) (hS : va_S (nl_A s) s.heap H locs) {i : Nat} (hi : i + 5 ≤ L) (hl : lv_has ls 4 [(3, .int (nI i)), (2, .ref (adM 0)), (1, .ref (adX 0)), (0, .ref b)]) (hc : cells ≤ 600000) (hsl : slots ≤ 7302250) (kk : nl_kk p l e s m below meth c b D cy adX adM Z cells slots ls) : W p l e room_1 s m #[Value.ref b] below meth c H locs cells slots Z (F0 m 211 ls []) := by
  obtain ⟨A1, r, hpx, hpm⟩ := p_erase A  mx mm hX hM
  obtain ⟨hx, hb, hml, hown, hts, hK, hXs, hbl⟩ := id C
  refine lv_aload_n hx hb (by decide +kernel : decode code 211 = .ok (.aload_n 1, 1)) rfl (lv_at hl 2 rfl) ?_
  refine nl_call C nl_okX hEX (by rw [nw_pic_len]; decide) hP hD hS (k := 71) (ci := 0) (as := []) (rest := []) (Q := fun v u => v = some (.int r) ∧ nX A1 u) nw_m_71 rfl rfl (hpx _ (fun _ h => ⟨rfl, h⟩)) rfl rfl (nw_in 167 (by decide +kernel) (by decide +kernel)) rfl (Nat.le_of_ble_eq_true rfl) (by decide +kernel : decode code 212 = .ok (.invokevirtual 20, 3)) hl.1 hc hsl (fun r1 mx1 H locs hq hP hD hS => ?_)
  obtain ⟨hq1, hX1⟩ := hq
  cases hq1
  refine lv_aload_n hx hb (by decide +kernel : decode code 215 = .ok (.aload_n 2, 1)) rfl (lv_at hl 1 rfl) ?_
  refine nl_call C nl_okM hEM (by rw [nw_pic_len]; decide) hP hD hS (k := 100) (ci := 4) (as := []) (rest := [.int r]) (Q := fun v u => v = some (.int r) ∧ nM A1 u) nw_m_100 rfl rfl (hpm _ (fun _ h => ⟨rfl, h⟩)) rfl rfl (nw_in 691 (by decide +kernel) (by decide +kernel)) rfl (Nat.le_of_ble_eq_true rfl) (by decide +kernel : decode code 216 = .ok (.invokevirtual 24, 3)) hl.1 hc hsl (fun r1 mm1 H locs hq hP hD hS => ?_)
  obtain ⟨hq1, hM1⟩ := hq
  cases hq1
  exact lv_icmp_eq hx hb (by decide +kernel : decode code 219 = .ok (.if_icmp .eq 734, 3)) (tgt := 953) (by decide) (fun _ => kk A1 mx1 mm1 H locs hX1 hM1 hP hD hS) (fun z => absurd rfl z)
theorem nl_case_2 (C : nl_C p s m c b L xs D cy) (hL : L ≤ 2560) (hEX : nw_En adX adV (nl_A s) s s.heap) (hEM : nw_En adM adV (nl_A s) s s.heap) {mx mm : nw_M} {A : nA} (hX : nX A mx) (hM : nM A mm) (hP : va_P D nw_cls (nw_pic adX cy mx 0 nw_shX ++ nw_pic adM cy mm 0 nw_shM) H) (hD : va_D (nl_A s) (nw_pic adX cy mx 0 nw_shX ++ nw_pic adM cy mm 0 nw_shM)) (hS : va_S (nl_A s) s.heap H locs) {i : Nat} (hi : i + 5 ≤ L) (hl : lv_has ls 4 [(3, .int (nI i)), (2, .ref (adM 0)), (1, .ref (adX 0)), (0, .ref b)]) (hc : cells ≤ 600000) (hsl : slots ≤ 7302250) (kk : nl_kk p l e s m below meth c b D cy adX adM Z cells slots ls) : W p l e room_1 s m #[Value.ref b] below meth c H locs cells slots Z (F0 m 224 ls []) := by
  obtain ⟨A1, r, hpx, hpm⟩ := p_fault A  mx mm hX hM
  obtain ⟨hx, hb, hml, hown, hts, hK, hXs, hbl⟩ := id C
  refine lv_aload_n hx hb (by decide +kernel : decode code 224 = .ok (.aload_n 1, 1)) rfl (lv_at hl 2 rfl) ?_
  refine nl_call C nl_okX hEX (by rw [nw_pic_len]; decide) hP hD hS (k := 72) (ci := 0) (as := []) (rest := []) (Q := fun v u => v = some (.int r) ∧ nX A1 u) nw_m_72 rfl rfl (hpx _ (fun _ h => ⟨rfl, h⟩)) rfl rfl (nw_in 175 (by decide +kernel) (by decide +kernel)) rfl (Nat.le_of_ble_eq_true rfl) (by decide +kernel : decode code 225 = .ok (.invokevirtual 25, 3)) hl.1 hc hsl (fun r1 mx1 H locs hq hP hD hS => ?_)
  obtain ⟨hq1, hX1⟩ := hq
  cases hq1
  refine lv_aload_n hx hb (by decide +kernel : decode code 228 = .ok (.aload_n 2, 1)) rfl (lv_at hl 1 rfl) ?_
  refine nl_call C nl_okM hEM (by rw [nw_pic_len]; decide) hP hD hS (k := 110) (ci := 4) (as := []) (rest := [.int r]) (Q := fun v u => v = some (.int r) ∧ nM A1 u) nw_m_110 rfl rfl (hpm _ (fun _ h => ⟨rfl, h⟩)) rfl rfl (nw_in 695 (by decide +kernel) (by decide +kernel)) rfl (Nat.le_of_ble_eq_true rfl) (by decide +kernel : decode code 229 = .ok (.invokevirtual 28, 3)) hl.1 hc hsl (fun r1 mm1 H locs hq hP hD hS => ?_)
  obtain ⟨hq1, hM1⟩ := hq
  cases hq1
  exact lv_icmp_eq hx hb (by decide +kernel : decode code 232 = .ok (.if_icmp .eq 721, 3)) (tgt := 953) (by decide) (fun _ => kk A1 mx1 mm1 H locs hX1 hM1 hP hD hS) (fun z => absurd rfl z)
theorem nl_case_3 (C : nl_C p s m c b L xs D cy) (hL : L ≤ 2560) (hEX : nw_En adX adV (nl_A s) s s.heap) (hEM : nw_En adM adV (nl_A s) s s.heap) {mx mm : nw_M} {A : nA} (hX : nX A mx) (hM : nM A mm) (hP : va_P D nw_cls (nw_pic adX cy mx 0 nw_shX ++ nw_pic adM cy mm 0 nw_shM) H) (hD : va_D (nl_A s) (nw_pic adX cy mx 0 nw_shX ++ nw_pic adM cy mm 0 nw_shM)) (hS : va_S (nl_A s) s.heap H locs) {i : Nat} (hi : i + 5 ≤ L) (hl : lv_has ls 4 [(3, .int (nI i)), (2, .ref (adM 0)), (1, .ref (adX 0)), (0, .ref b)]) (hc : cells ≤ 600000) (hsl : slots ≤ 7302250) (kk : nl_kk p l e s m below meth c b D cy adX adM Z cells slots ls) : W p l e room_1 s m #[Value.ref b] below meth c H locs cells slots Z (F0 m 237 ls []) := by
  obtain ⟨A1, r, hpx, hpm⟩ := p_town A  mx mm hX hM
  obtain ⟨hx, hb, hml, hown, hts, hK, hXs, hbl⟩ := id C
  refine lv_aload_n hx hb (by decide +kernel : decode code 237 = .ok (.aload_n 1, 1)) rfl (lv_at hl 2 rfl) ?_
  refine nl_call C nl_okX hEX (by rw [nw_pic_len]; decide) hP hD hS (k := 73) (ci := 0) (as := []) (rest := []) (Q := fun v u => v = some (.int r) ∧ nX A1 u) nw_m_73 rfl rfl (hpx _ (fun _ h => ⟨rfl, h⟩)) rfl rfl (nw_in 344 (by decide +kernel) (by decide +kernel)) rfl (Nat.le_of_ble_eq_true rfl) (by decide +kernel : decode code 238 = .ok (.invokevirtual 29, 3)) hl.1 hc hsl (fun r1 mx1 H locs hq hP hD hS => ?_)
  obtain ⟨hq1, hX1⟩ := hq
  cases hq1
  refine lv_aload_n hx hb (by decide +kernel : decode code 241 = .ok (.aload_n 2, 1)) rfl (lv_at hl 1 rfl) ?_
  refine nl_call C nl_okM hEM (by rw [nw_pic_len]; decide) hP hD hS (k := 113) (ci := 4) (as := []) (rest := [.int r]) (Q := fun v u => v = some (.int r) ∧ nM A1 u) nw_m_113 rfl rfl (hpm _ (fun _ h => ⟨rfl, h⟩)) rfl rfl (nw_in 742 (by decide +kernel) (by decide +kernel)) rfl (Nat.le_of_ble_eq_true rfl) (by decide +kernel : decode code 242 = .ok (.invokevirtual 32, 3)) hl.1 hc hsl (fun r1 mm1 H locs hq hP hD hS => ?_)
  obtain ⟨hq1, hM1⟩ := hq
  cases hq1
  exact lv_icmp_eq hx hb (by decide +kernel : decode code 245 = .ok (.if_icmp .eq 708, 3)) (tgt := 953) (by decide) (fun _ => kk A1 mx1 mm1 H locs hX1 hM1 hP hD hS) (fun z => absurd rfl z)
theorem nl_case_4 (C : nl_C p s m c b L xs D cy) (hL : L ≤ 2560) (hEX : nw_En adX adV (nl_A s) s s.heap) (hEM : nw_En adM adV (nl_A s) s s.heap) {mx mm : nw_M} {A : nA} (hX : nX A mx) (hM : nM A mm) (hP : va_P D nw_cls (nw_pic adX cy mx 0 nw_shX ++ nw_pic adM cy mm 0 nw_shM) H) (hD : va_D (nl_A s) (nw_pic adX cy mx 0 nw_shX ++ nw_pic adM cy mm 0 nw_shM)) (hS : va_S (nl_A s) s.heap H locs) {i : Nat} (hi : i + 5 ≤ L) (hl : lv_has ls 4 [(3, .int (nI i)), (2, .ref (adM 0)), (1, .ref (adX 0)), (0, .ref b)]) (hc : cells ≤ 600000) (hsl : slots ≤ 7302250) (kk : nl_kk p l e s m below meth c b D cy adX adM Z cells slots ls) : W p l e room_1 s m #[Value.ref b] below meth c H locs cells slots Z (F0 m 250 ls []) := by
  obtain ⟨A1, r, hpx, hpm⟩ := p_corner A (xs (i + 1)) (xs (i + 2)) mx mm hX hM
  obtain ⟨hx, hb, hml, hown, hts, hK, hXs, hbl⟩ := id C
  refine lv_aload_n hx hb (by decide +kernel : decode code 250 = .ok (.aload_n 1, 1)) rfl (lv_at hl 2 rfl) ?_
  refine lv_aload_n hx hb (by decide +kernel : decode code 251 = .ok (.aload_n 0, 1)) rfl (lv_at hl 3 rfl) ?_
  refine lv_iload_n hx hb (by decide +kernel : decode code 252 = .ok (.iload_n 3, 1)) rfl (lv_at hl 0 rfl) ?_
  refine lv_iconst (v := 1) hx hb (by decide +kernel : decode code 253 = .ok (.iconst 1, 1)) (by decide) ?_
  refine lv_iadd hx hb (by decide +kernel : decode code 254 = .ok (.iadd, 1)) ?_
  refine nl_ld C hS (x := nI i + 1) (j := i + 1) (nI_add i 1) (by omega) hL (by decide +kernel : decode code 255 = .ok (.iaload, 1)) ?_
  refine lv_aload_n hx hb (by decide +kernel : decode code 256 = .ok (.aload_n 0, 1)) rfl (lv_at hl 3 rfl) ?_
  refine lv_iload_n hx hb (by decide +kernel : decode code 257 = .ok (.iload_n 3, 1)) rfl (lv_at hl 0 rfl) ?_
  refine lv_iconst (v := 2) hx hb (by decide +kernel : decode code 258 = .ok (.iconst 2, 1)) (by decide) ?_
  refine lv_iadd hx hb (by decide +kernel : decode code 259 = .ok (.iadd, 1)) ?_
  refine nl_ld C hS (x := nI i + 2) (j := i + 2) (nI_add i 2) (by omega) hL (by decide +kernel : decode code 260 = .ok (.iaload, 1)) ?_
  refine nl_call C nl_okX hEX (by rw [nw_pic_len]; decide) hP hD hS (k := 74) (ci := 0) (as := [.int (xs (i + 1)), .int (xs (i + 2))]) (rest := []) (Q := fun v u => v = some (.int r) ∧ nX A1 u) nw_m_74 rfl rfl (hpx _ (fun _ h => ⟨rfl, h⟩)) rfl rfl (nw_in 349 (by decide +kernel) (by decide +kernel)) rfl (Nat.le_of_ble_eq_true rfl) (by decide +kernel : decode code 261 = .ok (.invokevirtual 33, 3)) hl.1 hc hsl (fun r1 mx1 H locs hq hP hD hS => ?_)
  obtain ⟨hq1, hX1⟩ := hq
  cases hq1
  refine lv_aload_n hx hb (by decide +kernel : decode code 264 = .ok (.aload_n 2, 1)) rfl (lv_at hl 1 rfl) ?_
  refine lv_aload_n hx hb (by decide +kernel : decode code 265 = .ok (.aload_n 0, 1)) rfl (lv_at hl 3 rfl) ?_
  refine lv_iload_n hx hb (by decide +kernel : decode code 266 = .ok (.iload_n 3, 1)) rfl (lv_at hl 0 rfl) ?_
  refine lv_iconst (v := 1) hx hb (by decide +kernel : decode code 267 = .ok (.iconst 1, 1)) (by decide) ?_
  refine lv_iadd hx hb (by decide +kernel : decode code 268 = .ok (.iadd, 1)) ?_
  refine nl_ld C hS (x := nI i + 1) (j := i + 1) (nI_add i 1) (by omega) hL (by decide +kernel : decode code 269 = .ok (.iaload, 1)) ?_
  refine lv_aload_n hx hb (by decide +kernel : decode code 270 = .ok (.aload_n 0, 1)) rfl (lv_at hl 3 rfl) ?_
  refine lv_iload_n hx hb (by decide +kernel : decode code 271 = .ok (.iload_n 3, 1)) rfl (lv_at hl 0 rfl) ?_
  refine lv_iconst (v := 2) hx hb (by decide +kernel : decode code 272 = .ok (.iconst 2, 1)) (by decide) ?_
  refine lv_iadd hx hb (by decide +kernel : decode code 273 = .ok (.iadd, 1)) ?_
  refine nl_ld C hS (x := nI i + 2) (j := i + 2) (nI_add i 2) (by omega) hL (by decide +kernel : decode code 274 = .ok (.iaload, 1)) ?_
  refine nl_call C nl_okM hEM (by rw [nw_pic_len]; decide) hP hD hS (k := 120) (ci := 4) (as := [.int (xs (i + 1)), .int (xs (i + 2))]) (rest := [.int r]) (Q := fun v u => v = some (.int r) ∧ nM A1 u) nw_m_120 rfl rfl (hpm _ (fun _ h => ⟨rfl, h⟩)) rfl rfl (nw_in 759 (by decide +kernel) (by decide +kernel)) rfl (Nat.le_of_ble_eq_true rfl) (by decide +kernel : decode code 275 = .ok (.invokevirtual 37, 3)) hl.1 hc hsl (fun r1 mm1 H locs hq hP hD hS => ?_)
  obtain ⟨hq1, hM1⟩ := hq
  cases hq1
  exact lv_icmp_eq hx hb (by decide +kernel : decode code 278 = .ok (.if_icmp .eq 675, 3)) (tgt := 953) (by decide) (fun _ => kk A1 mx1 mm1 H locs hX1 hM1 hP hD hS) (fun z => absurd rfl z)
end NLC
