/-! ===== Int32 by its bits: bt x i ===== -/
def bt (x : Int32) (i : Nat) : Bool := x.toBitVec.getLsbD i
theorem b_ext {x y : Int32} (h : ∀ i, i < 32 → bt x i = bt y i) : x = y := Int32.toBitVec_inj.mp (BitVec.eq_of_getLsbD_eq (fun i hi => h i hi))
theorem b_or (x y : Int32) (i : Nat) : bt (x ||| y) i = (bt x i || bt y i) := by unfold bt; rw [Int32.toBitVec_or, BitVec.getLsbD_or]
theorem b_and (x y : Int32) (i : Nat) : bt (x &&& y) i = (bt x i && bt y i) := by unfold bt; rw [Int32.toBitVec_and, BitVec.getLsbD_and]
theorem b_xor (x y : Int32) (i : Nat) : bt (x ^^^ y) i = (bt x i ^^ bt y i) := by unfold bt; rw [Int32.toBitVec_xor, BitVec.getLsbD_xor]
theorem b_big {x : Int32} {i : Nat} (h : 32 ≤ i) : bt x i = false := BitVec.getLsbD_of_ge _ _ h
theorem b_255 (i : Nat) : bt 255 i = decide (i < 8) := by
  rcases Nat.lt_or_ge i 32 with h | h
  · exact (by decide +kernel : ∀ i, i < 32 → bt 255 i = decide (i < 8)) i h
  · rw [b_big h, decide_eq_false (by omega)]
theorem b_65535 (i : Nat) : bt 65535 i = decide (i < 16) := by
  rcases Nat.lt_or_ge i 32 with h | h
  · exact (by decide +kernel : ∀ i, i < 32 → bt 65535 i = decide (i < 16)) i h
  · rw [b_big h, decide_eq_false (by omega)]
theorem b_m1 : ∀ i, i < 32 → bt (-1) i = true := by decide +kernel
theorem b_0 (i : Nat) : bt 0 i = false := BitVec.getLsbD_zero
theorem s_l : ∀ n, n < 32 → ((nI n &&& 31).toBitVec.smod 32).toNat = n := by decide +kernel
theorem s_u : ∀ n, n < 32 → (((nI n).toUInt32 &&& Int32.toUInt32 31).toBitVec % 32).toNat = n := by decide +kernel
theorem b_shl (n : Nat) (hn : n < 32) (x : Int32) {i : Nat} (hi : i < 32) : bt (x <<< (nI n &&& 31)) i = (decide (n ≤ i) && bt x (i - n)) := by
  unfold bt
  rw [Int32.toBitVec_shiftLeft]
  show (x.toBitVec <<< ((nI n &&& 31).toBitVec.smod 32).toNat).getLsbD i = _
  rw [s_l n hn, BitVec.getLsbD_shiftLeft]
  rcases Nat.lt_or_ge i n with h | h
  · simp [h, Nat.not_le.mpr h]
  · simp [hi, h, Nat.not_lt.mpr h]
theorem b_ushr (n : Nat) (hn : n < 32) (x : Int32) (i : Nat) : bt ((x.toUInt32 >>> ((nI n).toUInt32 &&& Int32.toUInt32 31)).toInt32) i = bt x (n + i) := by
  show (x.toUInt32 >>> ((nI n).toUInt32 &&& Int32.toUInt32 31)).toBitVec.getLsbD i = x.toUInt32.toBitVec.getLsbD (n + i)
  rw [UInt32.toBitVec_shiftRight]
  show (x.toUInt32.toBitVec >>> (((nI n).toUInt32 &&& Int32.toUInt32 31).toBitVec % 32).toNat).getLsbD i = _
  rw [s_u n hn, BitVec.getLsbD_ushiftRight]
theorem b_sshr (n : Nat) (hn : n < 32) (x : Int32) {i : Nat} (hi : i < 32) : bt (x >>> (nI n &&& 31)) i = if n + i < 32 then bt x (n + i) else bt x 31 := by
  unfold bt
  rw [Int32.toBitVec_shiftRight]
  show (x.toBitVec.sshiftRight ((nI n &&& 31).toBitVec.smod 32).toNat).getLsbD i = _
  rw [s_l n hn, BitVec.getLsbD_sshiftRight, BitVec.msb_eq_getLsbD_last]
  simp [hi]
theorem b_shl8 (x : Int32) {i : Nat} (hi : i < 32) : bt (x <<< ((8 : Int32) &&& 31)) i = (decide (8 ≤ i) && bt x (i - 8)) := b_shl 8 (by omega) x hi
theorem b_lo : ∀ m, m < 5 → ∀ i, i < 32 → bt (nI (2 ^ m - 1)) i = decide (i < m) := by decide +kernel
theorem b_3 {i : Nat} (hi : i < 32) : bt 3 i = decide (i < 2) := b_lo 2 (by decide) i hi
theorem b_7 {i : Nat} (hi : i < 32) : bt 7 i = decide (i < 3) := b_lo 3 (by decide) i hi
theorem b_nI {n i : Nat} (hi : i < 32) : bt (nI n) i = n.testBit i := by
  unfold bt nI
  show (BitVec.ofNat 32 n).getLsbD i = _
  rw [BitVec.getLsbD_ofNat, decide_eq_true hi, Bool.true_and]
theorem b_hi {x : Nat} {m i : Nat} (hx : x < 2 ^ m) (h : m ≤ i) (hi : i < 32) : bt (nI x) i = false := by
  rw [b_nI hi]
  exact Nat.testBit_lt_two_pow (Nat.lt_of_lt_of_le hx (Nat.pow_le_pow_right (by decide) h))
/-- a field of m bits from bit p on -/
def nb_get (s : Int32) (p m : Nat) : Int32 := (s >>> (nI p &&& 31)) &&& nI (2 ^ m - 1)
def nb_put (s : Int32) (p m : Nat) (x : Int32) : Int32 := (s &&& ((nI (2 ^ m - 1) <<< (nI p &&& 31)) ^^^ (-1))) ||| (x <<< (nI p &&& 31))
theorem nb_get_bt {s : Int32} {p m i : Nat} (hm : m < 5) (hp : p + m ≤ 32) (hi : i < 32) : bt (nb_get s p m) i = (decide (i < m) && bt s (p + i)) := by
  unfold nb_get
  rw [b_and, b_lo m hm i hi]
  by_cases h : i < m
  · rw [b_sshr p (by omega) s hi, if_pos (by omega)]
    simp [h]
  · simp [h]
theorem nb_put_bt {s : Int32} {p m x i : Nat} (hm : m < 5) (h0 : 0 < m) (hp : p + m ≤ 32) (hx : x < 2 ^ m) (hi : i < 32) : bt (nb_put s p m (nI x)) i = if p ≤ i ∧ i < p + m then bt (nI x) (i - p) else bt s i := by
  unfold nb_put
  rw [b_or, b_and, b_xor, b_shl p (by omega) _ hi, b_shl p (by omega) _ hi, b_m1 i hi]
  by_cases h1 : p ≤ i
  · rw [b_lo m hm (i - p) (by omega)]
    by_cases h2 : i < p + m
    · rw [if_pos ⟨h1, h2⟩]
      simp [h1, show i - p < m by omega]
    · rw [if_neg (by omega), b_hi hx (by omega) (by omega)]
      simp [h1, show ¬ i - p < m by omega]
  · rw [if_neg (by omega)]
    simp [h1]
theorem nb_get_put {s : Int32} {p m x : Nat} (hm : m < 5) (h0 : 0 < m) (hp : p + m ≤ 32) (hx : x < 2 ^ m) : nb_get (nb_put s p m (nI x)) p m = nI x := by
  refine b_ext (fun i hi => ?_)
  rw [nb_get_bt hm hp hi]
  by_cases h : i < m
  · rw [nb_put_bt hm h0 hp hx (by omega), if_pos (by omega)]
    simp [h]
  · rw [b_hi hx (by omega) hi]
    simp [h]
theorem nb_get_other {s : Int32} {p m q k x : Nat} (hm : m < 5) (h0 : 0 < m) (hp : p + m ≤ 32) (hk : k < 5) (hq : q + k ≤ 32) (hd : q + k ≤ p ∨ p + m ≤ q) (hx : x < 2 ^ m) : nb_get (nb_put s p m (nI x)) q k = nb_get s q k := by
  refine b_ext (fun i hi => ?_)
  rw [nb_get_bt hk hq hi, nb_get_bt hk hq hi]
  by_cases h : i < k
  · rw [nb_put_bt hm h0 hp hx (by omega), if_neg (by omega)]
  · simp [h]
theorem nb_bit {s : Int32} {p m i : Nat} (hm : m < 5) (hp : p + m ≤ 32) (h : i < m) : bt s (p + i) = bt (nb_get s p m) i := by
  rw [nb_get_bt hm hp (by omega)]
  simp [h]
theorem nb_sign {s : Int32} : (¬ s < 0) ↔ bt s 31 = false := by
  unfold bt
  rw [Int32.lt_iff_toInt_lt]
  show ¬ s.toBitVec.toInt < (0 : Int32).toBitVec.toInt ↔ _
  rw [show ((0 : Int32).toBitVec.toInt) = 0 from by decide, BitVec.toInt_neg_iff]
  rw [← Bool.not_eq_true, BitVec.getLsbD_eq_getElem (by decide)]
  have := BitVec.msb_eq_decide s.toBitVec
  have h2 := BitVec.msb_eq_getLsbD_last s.toBitVec
  simp only [this] at h2
  rw [BitVec.getLsbD_eq_getElem (by decide)] at h2
  simp only [show 32 - 1 = 31 from rfl] at h2
  rw [← h2]
  simp
  omega
/-! THE STAND: 2 bits a vane, above them 3 bits a walker's corner -/
def ns_v (s : Int32) (c : Nat) : Int32 := nb_get s (2 * c) 2
def ns_p (s : Int32) (w : Nat) : Int32 := nb_get s (16 + 3 * w) 3
def ns_sv (s : Int32) (c x : Nat) : Int32 := nb_put s (2 * c) 2 (nI x)
def ns_sp (s : Int32) (w x : Nat) : Int32 := nb_put s (16 + 3 * w) 3 (nI x)
theorem ns_v_sv {s : Int32} {c x j : Nat} (hc : c < 8) (hx : x < 4) (hj : j < 8) : ns_v (ns_sv s c x) j = if j = c then nI x else ns_v s j := by
  unfold ns_v ns_sv
  by_cases h : j = c
  · rw [if_pos h, h, nb_get_put (by decide) (by decide) (by omega) hx]
  · rw [if_neg h, nb_get_other (by decide) (by decide) (by omega) (by decide) (by omega) (by omega) hx]
theorem ns_p_sv {s : Int32} {c x w : Nat} (hc : c < 8) (hx : x < 4) (hw : w < 5) : ns_p (ns_sv s c x) w = ns_p s w := by
  unfold ns_p ns_sv
  rw [nb_get_other (by decide) (by decide) (by omega) (by decide) (by omega) (by omega) hx]
theorem ns_p_sp {s : Int32} {w x j : Nat} (hw : w < 5) (hx : x < 8) (hj : j < 5) : ns_p (ns_sp s w x) j = if j = w then nI x else ns_p s j := by
  unfold ns_p ns_sp
  by_cases h : j = w
  · rw [if_pos h, h, nb_get_put (by decide) (by decide) (by omega) hx]
  · rw [if_neg h, nb_get_other (by decide) (by decide) (by omega) (by decide) (by omega) (by omega) hx]
theorem ns_v_sp {s : Int32} {w x c : Nat} (hw : w < 5) (hx : x < 8) (hc : c < 8) : ns_v (ns_sp s w x) c = ns_v s c := by
  unfold ns_v ns_sp
  rw [nb_get_other (by decide) (by decide) (by omega) (by decide) (by omega) (by omega) hx]
theorem ns_sign_sv {s : Int32} {c x : Nat} (hc : c < 8) (hx : x < 4) (h : bt s 31 = false) : bt (ns_sv s c x) 31 = false := by
  unfold ns_sv
  rw [nb_put_bt (by decide) (by decide) (by omega) hx (by decide), if_neg (by omega), h]
theorem ns_sign_sp {s : Int32} {w x : Nat} (hw : w < 5) (hx : x < 8) (h : bt s 31 = false) : bt (ns_sp s w x) 31 = false := by
  unfold ns_sp
  rw [nb_put_bt (by decide) (by decide) (by omega) hx (by decide), if_neg (by omega), h]
/-- vanes alone -/
theorem ns_v_and {s : Int32} {c : Nat} (hc : c < 8) : ns_v (s &&& 65535) c = ns_v s c := by
  refine b_ext (fun i hi => ?_)
  unfold ns_v
  rw [nb_get_bt (by decide) (by omega) hi, nb_get_bt (by decide) (by omega) hi]
  by_cases h : i < 2
  · have h2 : 2 * c + i < 16 := by omega
    rw [b_and, b_65535]
    simp [h2]
  · simp [h]
theorem ns_p_and {s : Int32} {w : Nat} (hw : w < 5) : ns_p (s &&& 65535) w = 0 := by
  refine b_ext (fun i hi => ?_)
  unfold ns_p
  have h2 : ¬ 16 + 3 * w + i < 16 := by omega
  rw [nb_get_bt (by decide) (by omega) hi, b_0, b_and, b_65535]
  simp [h2]
theorem ns_sign_and {s : Int32} : bt (s &&& 65535) 31 = false := by
  rw [b_and, b_65535]
  simp
theorem ns_inj {s t : Int32} (hv : ∀ c, c < 8 → ns_v s c = ns_v t c) (hp : ∀ w, w < 5 → ns_p s w = ns_p t w) (hs : bt s 31 = false) (ht : bt t 31 = false) : s = t := by
  refine b_ext (fun i hi => ?_)
  by_cases h1 : i < 16
  · have h2 := hv (i / 2) (by omega)
    have h3 : i = 2 * (i / 2) + i % 2 := by omega
    rw [h3, nb_bit (m := 2) (by decide) (by omega) (by omega), nb_bit (s := t) (m := 2) (by decide) (by omega) (by omega)]
    show bt (ns_v s (i / 2)) _ = bt (ns_v t (i / 2)) _
    rw [h2]
  · by_cases h4 : i = 31
    · rw [h4, hs, ht]
    · have h2 := hp ((i - 16) / 3) (by omega)
      have h3 : i = 16 + 3 * ((i - 16) / 3) + (i - 16) % 3 := by omega
      rw [h3, nb_bit (m := 3) (by decide) (by omega) (by omega), nb_bit (s := t) (m := 3) (by decide) (by omega) (by omega)]
      show bt (ns_p s ((i - 16) / 3)) _ = bt (ns_p t ((i - 16) / 3)) _
      rw [h2]
theorem ns_v_lt (s : Int32) (c : Nat) : ∃ x, x < 4 ∧ ns_v s c = nI x := by
  obtain ⟨j, h1, h2⟩ := pk_andE (s >>> (nI (2 * c) &&& 31)) (m := nI (2 ^ 2 - 1)) 2 (by decide)
  exact ⟨j, h1, h2⟩
theorem ns_p_lt (s : Int32) (w : Nat) : ∃ x, x < 8 ∧ ns_p s w = nI x := by
  obtain ⟨j, h1, h2⟩ := pk_andE (s >>> (nI (16 + 3 * w) &&& 31)) (m := nI (2 ^ 3 - 1)) 3 (by decide)
  exact ⟨j, h1, h2⟩
