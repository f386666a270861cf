/-! one rule an instruction: a run at it is the run behind it -/
section NWR
variable {k pc d : Nat} {sh : nw_Sh} {Q : nw_K} {lv lv' : nw_L} {st r as : List Value} {mem : nw_M} {i : Nat} {x y v : Int32}
theorem nr_iconst {n : Int} (h : nw_dec (nw_kB k) pc = some (.iconst n)) (hv : Int32.ofInt n = v) : nw_Ev d sh k Q pc lv st mem = nw_Ev d sh k Q (pc + 1) lv (.int v :: st) mem := by rw [nw_step h]; subst hv; rfl
theorem nr_bipush {n : Int} (h : nw_dec (nw_kB k) pc = some (.bipush n)) (hv : (Int8.ofInt n).toInt32 = v) : nw_Ev d sh k Q pc lv st mem = nw_Ev d sh k Q (pc + 2) lv (.int v :: st) mem := by rw [nw_step h]; subst hv; rfl
theorem nr_sipush {n : Int} (h : nw_dec (nw_kB k) pc = some (.sipush n)) (hv : (Int16.ofInt n).toInt32 = v) : nw_Ev d sh k Q pc lv st mem = nw_Ev d sh k Q (pc + 3) lv (.int v :: st) mem := by rw [nw_step h]; subst hv; rfl
theorem nr_lconst {n : Fin 2} {w : Int64} (h : nw_dec (nw_kB k) pc = some (.lconst n)) (hv : Int64.ofNat (n : Nat) = w) : nw_Ev d sh k Q pc lv st mem = nw_Ev d sh k Q (pc + 1) lv (.long w :: st) mem := by rw [nw_step h]; subst hv; rfl
theorem nr_iload (h : nw_dec (nw_kB k) pc = some (.iload i)) (hl : nw_ld lv i = some (.int x)) : nw_Ev d sh k Q pc lv st mem = nw_Ev d sh k Q (pc + 2) lv (.int x :: st) mem := by
  rw [nw_step h]; simp only [nw_I, nw_S, nw_ldI, hl]; rfl
theorem nr_iload_n {j : Fin 4} (h : nw_dec (nw_kB k) pc = some (.iload_n j)) (hl : nw_ld lv j = some (.int x)) : nw_Ev d sh k Q pc lv st mem = nw_Ev d sh k Q (pc + 1) lv (.int x :: st) mem := by
  rw [nw_step h]; simp only [nw_I, nw_S, nw_ldI, hl]; rfl
theorem nr_lload {w : Int64} (h : nw_dec (nw_kB k) pc = some (.lload i)) (hl : nw_ld lv i = some (.long w)) : nw_Ev d sh k Q pc lv st mem = nw_Ev d sh k Q (pc + 2) lv (.long w :: st) mem := by
  rw [nw_step h]; simp only [nw_I, nw_S, nw_ldL, hl]; rfl
theorem nr_lload_n {j : Fin 4} {w : Int64} (h : nw_dec (nw_kB k) pc = some (.lload_n j)) (hl : nw_ld lv j = some (.long w)) : nw_Ev d sh k Q pc lv st mem = nw_Ev d sh k Q (pc + 1) lv (.long w :: st) mem := by
  rw [nw_step h]; simp only [nw_I, nw_S, nw_ldL, hl]; rfl
theorem nr_aload {a : Nat} (h : nw_dec (nw_kB k) pc = some (.aload i)) (hl : nw_ld lv i = some (.ref a)) : nw_Ev d sh k Q pc lv st mem = nw_Ev d sh k Q (pc + 2) lv (.ref a :: st) mem := by
  rw [nw_step h]; simp only [nw_I, nw_S, nw_ldR, hl]; rfl
theorem nr_aload_n {a : Nat} {j : Fin 4} (h : nw_dec (nw_kB k) pc = some (.aload_n j)) (hl : nw_ld lv j = some (.ref a)) : nw_Ev d sh k Q pc lv st mem = nw_Ev d sh k Q (pc + 1) lv (.ref a :: st) mem := by
  rw [nw_step h]; simp only [nw_I, nw_S, nw_ldR, hl]; rfl
theorem nr_istore (h : nw_dec (nw_kB k) pc = some (.istore i)) (hs : nw_sto lv i (.int x) = some lv') : nw_Ev d sh k Q pc lv (.int x :: st) mem = nw_Ev d sh k Q (pc + 2) lv' st mem := by
  rw [nw_step h]; simp only [nw_I, nw_S, nw_stI, hs]; rfl
theorem nr_istore_n {j : Fin 4} (h : nw_dec (nw_kB k) pc = some (.istore_n j)) (hs : nw_sto lv j (.int x) = some lv') : nw_Ev d sh k Q pc lv (.int x :: st) mem = nw_Ev d sh k Q (pc + 1) lv' st mem := by
  rw [nw_step h]; simp only [nw_I, nw_S, nw_stI, hs]; rfl
theorem nr_iinc {n : Int} (h : nw_dec (nw_kB k) pc = some (.iinc i n)) (hl : nw_ld lv i = some (.int x)) (hv : Int32.ofInt n = v) (hs : nw_sto lv i (.int (x + v)) = some lv') : nw_Ev d sh k Q pc lv st mem = nw_Ev d sh k Q (pc + 3) lv' st mem := by
  rw [nw_step h]; subst hv; simp only [nw_I, nw_S, hl, hs]; rfl
theorem nr_iadd (h : nw_dec (nw_kB k) pc = some .iadd) : nw_Ev d sh k Q pc lv (.int y :: .int x :: st) mem = nw_Ev d sh k Q (pc + 1) lv (.int (x + y) :: st) mem := by rw [nw_step h]; rfl
theorem nr_isub (h : nw_dec (nw_kB k) pc = some .isub) : nw_Ev d sh k Q pc lv (.int y :: .int x :: st) mem = nw_Ev d sh k Q (pc + 1) lv (.int (x - y) :: st) mem := by rw [nw_step h]; rfl
theorem nr_imul (h : nw_dec (nw_kB k) pc = some .imul) : nw_Ev d sh k Q pc lv (.int y :: .int x :: st) mem = nw_Ev d sh k Q (pc + 1) lv (.int (x * y) :: st) mem := by rw [nw_step h]; rfl
theorem nr_iand (h : nw_dec (nw_kB k) pc = some .iand) : nw_Ev d sh k Q pc lv (.int y :: .int x :: st) mem = nw_Ev d sh k Q (pc + 1) lv (.int (x &&& y) :: st) mem := by rw [nw_step h]; rfl
theorem nr_ior (h : nw_dec (nw_kB k) pc = some .ior) : nw_Ev d sh k Q pc lv (.int y :: .int x :: st) mem = nw_Ev d sh k Q (pc + 1) lv (.int (x ||| y) :: st) mem := by rw [nw_step h]; rfl
theorem nr_ixor (h : nw_dec (nw_kB k) pc = some .ixor) : nw_Ev d sh k Q pc lv (.int y :: .int x :: st) mem = nw_Ev d sh k Q (pc + 1) lv (.int (x ^^^ y) :: st) mem := by rw [nw_step h]; rfl
theorem nr_ishl (h : nw_dec (nw_kB k) pc = some .ishl) : nw_Ev d sh k Q pc lv (.int y :: .int x :: st) mem = nw_Ev d sh k Q (pc + 1) lv (.int (x <<< (y &&& 31)) :: st) mem := by rw [nw_step h]; rfl
theorem nr_ishr (h : nw_dec (nw_kB k) pc = some .ishr) : nw_Ev d sh k Q pc lv (.int y :: .int x :: st) mem = nw_Ev d sh k Q (pc + 1) lv (.int (x >>> (y &&& 31)) :: st) mem := by rw [nw_step h]; rfl
theorem nr_idiv (h : nw_dec (nw_kB k) pc = some .idiv) : nw_Ev d sh k Q pc lv (.int y :: .int x :: st) mem = (¬ y = 0 ∧ nw_Ev d sh k Q (pc + 1) lv (.int (x / y) :: st) mem) := by rw [nw_step h]; rfl
theorem nr_irem (h : nw_dec (nw_kB k) pc = some .irem) : nw_Ev d sh k Q pc lv (.int y :: .int x :: st) mem = (¬ y = 0 ∧ nw_Ev d sh k Q (pc + 1) lv (.int (x - x / y * y) :: st) mem) := by rw [nw_step h]; rfl
theorem nr_ineg (h : nw_dec (nw_kB k) pc = some .ineg) : nw_Ev d sh k Q pc lv (.int x :: st) mem = nw_Ev d sh k Q (pc + 1) lv (.int (-x) :: st) mem := by rw [nw_step h]; rfl
theorem nr_i2l (h : nw_dec (nw_kB k) pc = some .i2l) : nw_Ev d sh k Q pc lv (.int x :: st) mem = nw_Ev d sh k Q (pc + 1) lv (.long x.toInt64 :: st) mem := by rw [nw_step h]; rfl
theorem nr_l2i {w : Int64} (h : nw_dec (nw_kB k) pc = some .l2i) : nw_Ev d sh k Q pc lv (.long w :: st) mem = nw_Ev d sh k Q (pc + 1) lv (.int w.toInt32 :: st) mem := by rw [nw_step h]; rfl
theorem nr_land {w z : Int64} (h : nw_dec (nw_kB k) pc = some .land) : nw_Ev d sh k Q pc lv (.long z :: .long w :: st) mem = nw_Ev d sh k Q (pc + 1) lv (.long (w &&& z) :: st) mem := by rw [nw_step h]; rfl
theorem nr_lor {w z : Int64} (h : nw_dec (nw_kB k) pc = some .lor) : nw_Ev d sh k Q pc lv (.long z :: .long w :: st) mem = nw_Ev d sh k Q (pc + 1) lv (.long (w ||| z) :: st) mem := by rw [nw_step h]; rfl
theorem nr_lcmp {w z : Int64} (h : nw_dec (nw_kB k) pc = some .lcmp) : nw_Ev d sh k Q pc lv (.long z :: .long w :: st) mem = nw_Ev d sh k Q (pc + 1) lv (.int (lg_cmp w z) :: st) mem := by rw [nw_step h]; rfl
theorem nr_lshl {w : Int64} (h : nw_dec (nw_kB k) pc = some .lshl) : nw_Ev d sh k Q pc lv (.int y :: .long w :: st) mem = nw_Ev d sh k Q (pc + 1) lv (.long (w <<< (y.toInt64 &&& 63)) :: st) mem := by rw [nw_step h]; rfl
theorem nr_lshr {w : Int64} (h : nw_dec (nw_kB k) pc = some .lshr) : nw_Ev d sh k Q pc lv (.int y :: .long w :: st) mem = nw_Ev d sh k Q (pc + 1) lv (.long (w >>> (y.toInt64 &&& 63)) :: st) mem := by rw [nw_step h]; rfl
theorem nr_pop (h : nw_dec (nw_kB k) pc = some .pop) : nw_Ev d sh k Q pc lv (.int x :: st) mem = nw_Ev d sh k Q (pc + 1) lv st mem := by rw [nw_step h]; rfl
theorem nr_dupI (h : nw_dec (nw_kB k) pc = some .dup) : nw_Ev d sh k Q pc lv (.int x :: st) mem = nw_Ev d sh k Q (pc + 1) lv (.int x :: .int x :: st) mem := by rw [nw_step h]; rfl
theorem nr_dupR {a : Nat} (h : nw_dec (nw_kB k) pc = some .dup) : nw_Ev d sh k Q pc lv (.ref a :: st) mem = nw_Ev d sh k Q (pc + 1) lv (.ref a :: .ref a :: st) mem := by rw [nw_step h]; rfl
theorem nr_dup2 {a : Nat} (h : nw_dec (nw_kB k) pc = some .dup2) : nw_Ev d sh k Q pc lv (.int x :: .ref a :: st) mem = nw_Ev d sh k Q (pc + 1) lv (.int x :: .ref a :: .int x :: .ref a :: st) mem := by rw [nw_step h]; rfl
theorem nr_goto {off : Int} (h : nw_dec (nw_kB k) pc = some (.goto off)) {t : Nat} (ht : nw_t pc off = t) : nw_Ev d sh k Q pc lv st mem = nw_Ev d sh k Q t lv st mem := by rw [nw_step h]; subst ht; rfl
theorem nr_ieq {off : Int} (h : nw_dec (nw_kB k) pc = some (.if_icmp .eq off)) {t : Nat} (ht : nw_t pc off = t) : nw_Ev d sh k Q pc lv (.int y :: .int x :: st) mem = ((x = y → nw_Ev d sh k Q t lv st mem) ∧ (¬ x = y → nw_Ev d sh k Q (pc + 3) lv st mem)) := by rw [nw_step h]; subst ht; rfl
theorem nr_ine {off : Int} (h : nw_dec (nw_kB k) pc = some (.if_icmp .ne off)) {t : Nat} (ht : nw_t pc off = t) : nw_Ev d sh k Q pc lv (.int y :: .int x :: st) mem = ((x = y → nw_Ev d sh k Q (pc + 3) lv st mem) ∧ (¬ x = y → nw_Ev d sh k Q t lv st mem)) := by rw [nw_step h]; subst ht; rfl
theorem nr_ilt {off : Int} (h : nw_dec (nw_kB k) pc = some (.if_icmp .lt off)) {t : Nat} (ht : nw_t pc off = t) : nw_Ev d sh k Q pc lv (.int y :: .int x :: st) mem = ((x < y → nw_Ev d sh k Q t lv st mem) ∧ (¬ x < y → nw_Ev d sh k Q (pc + 3) lv st mem)) := by rw [nw_step h]; subst ht; rfl
theorem nr_ige {off : Int} (h : nw_dec (nw_kB k) pc = some (.if_icmp .ge off)) {t : Nat} (ht : nw_t pc off = t) : nw_Ev d sh k Q pc lv (.int y :: .int x :: st) mem = ((y ≤ x → nw_Ev d sh k Q t lv st mem) ∧ (¬ y ≤ x → nw_Ev d sh k Q (pc + 3) lv st mem)) := by rw [nw_step h]; subst ht; rfl
theorem nr_igt {off : Int} (h : nw_dec (nw_kB k) pc = some (.if_icmp .gt off)) {t : Nat} (ht : nw_t pc off = t) : nw_Ev d sh k Q pc lv (.int y :: .int x :: st) mem = ((y < x → nw_Ev d sh k Q t lv st mem) ∧ (¬ y < x → nw_Ev d sh k Q (pc + 3) lv st mem)) := by rw [nw_step h]; subst ht; rfl
theorem nr_ile {off : Int} (h : nw_dec (nw_kB k) pc = some (.if_icmp .le off)) {t : Nat} (ht : nw_t pc off = t) : nw_Ev d sh k Q pc lv (.int y :: .int x :: st) mem = ((x ≤ y → nw_Ev d sh k Q t lv st mem) ∧ (¬ x ≤ y → nw_Ev d sh k Q (pc + 3) lv st mem)) := by rw [nw_step h]; subst ht; rfl
theorem nr_eq {off : Int} (h : nw_dec (nw_kB k) pc = some (.ifCond .eq off)) {t : Nat} (ht : nw_t pc off = t) : nw_Ev d sh k Q pc lv (.int x :: st) mem = ((x = 0 → nw_Ev d sh k Q t lv st mem) ∧ (¬ x = 0 → nw_Ev d sh k Q (pc + 3) lv st mem)) := by rw [nw_step h]; subst ht; rfl
theorem nr_ne {off : Int} (h : nw_dec (nw_kB k) pc = some (.ifCond .ne off)) {t : Nat} (ht : nw_t pc off = t) : nw_Ev d sh k Q pc lv (.int x :: st) mem = ((x = 0 → nw_Ev d sh k Q (pc + 3) lv st mem) ∧ (¬ x = 0 → nw_Ev d sh k Q t lv st mem)) := by rw [nw_step h]; subst ht; rfl
theorem nr_lt {off : Int} (h : nw_dec (nw_kB k) pc = some (.ifCond .lt off)) {t : Nat} (ht : nw_t pc off = t) : nw_Ev d sh k Q pc lv (.int x :: st) mem = ((x < 0 → nw_Ev d sh k Q t lv st mem) ∧ (¬ x < 0 → nw_Ev d sh k Q (pc + 3) lv st mem)) := by rw [nw_step h]; subst ht; rfl
theorem nr_ge {off : Int} (h : nw_dec (nw_kB k) pc = some (.ifCond .ge off)) {t : Nat} (ht : nw_t pc off = t) : nw_Ev d sh k Q pc lv (.int x :: st) mem = ((0 ≤ x → nw_Ev d sh k Q t lv st mem) ∧ (¬ 0 ≤ x → nw_Ev d sh k Q (pc + 3) lv st mem)) := by rw [nw_step h]; subst ht; rfl
theorem nr_gt {off : Int} (h : nw_dec (nw_kB k) pc = some (.ifCond .gt off)) {t : Nat} (ht : nw_t pc off = t) : nw_Ev d sh k Q pc lv (.int x :: st) mem = ((0 < x → nw_Ev d sh k Q t lv st mem) ∧ (¬ 0 < x → nw_Ev d sh k Q (pc + 3) lv st mem)) := by rw [nw_step h]; subst ht; rfl
theorem nr_le {off : Int} (h : nw_dec (nw_kB k) pc = some (.ifCond .le off)) {t : Nat} (ht : nw_t pc off = t) : nw_Ev d sh k Q pc lv (.int x :: st) mem = ((x ≤ 0 → nw_Ev d sh k Q t lv st mem) ∧ (¬ x ≤ 0 → nw_Ev d sh k Q (pc + 3) lv st mem)) := by rw [nw_step h]; subst ht; rfl
theorem nr_tsw {df lo hi : Int} {offs : Array Int} (h : nw_dec (nw_kB k) pc = some (.tableswitch df lo hi offs)) : nw_Ev d sh k Q pc lv (.int x :: st) mem = nw_Ev d sh k Q (nw_ts pc df lo hi offs x) lv st mem := by rw [nw_step h]; rfl
theorem nr_lsw {df : Int} {ps : Array (Int × Int)} (h : nw_dec (nw_kB k) pc = some (.lookupswitch df ps)) : nw_Ev d sh k Q pc lv (.int x :: st) mem = (0 ≤ (pc : Int) + Op.lookupswitch.offset ps.toList df x.toInt ∧ nw_Ev d sh k Q (nw_t pc (Op.lookupswitch.offset ps.toList df x.toInt)) lv st mem) := by rw [nw_step h]; rfl
theorem nr_ldc (h : nw_dec (nw_kB k) pc = some (.ldc i)) (hc : nw_rC (nw_kO k) i = some v) : nw_Ev d sh k Q pc lv st mem = nw_Ev d sh k Q (pc + 2) lv (.int v :: st) mem := by
  rw [nw_step h]; simp only [nw_I, nw_S, hc]; rfl
theorem nr_ldcS {a : Nat} (h : nw_dec (nw_kB k) pc = some (.ldc i)) (hc : nw_rC (nw_kO k) i = none) (hs : nw_rS (nw_kO k) i = some a) : nw_Ev d sh k Q pc lv st mem = nw_Ev d sh k Q (pc + 2) lv (.ref a :: st) mem := by
  rw [nw_step h]; simp only [nw_I, nw_S, hc, hs]; rfl
theorem nr_ldc2 {w : Int64} (h : nw_dec (nw_kB k) pc = some (.ldc2_w i)) (hc : nw_rL (nw_kO k) i = some w) : nw_Ev d sh k Q pc lv st mem = nw_Ev d sh k Q (pc + 3) lv (.long w :: st) mem := by
  rw [nw_step h]; simp only [nw_I, nw_S, hc]; rfl
theorem nr_getI {a ci kf : Nat} (h : nw_dec (nw_kB k) pc = some (.getfield i)) (hf : nw_rF (nw_kO k) i = some (ci, kf)) (hk : nw_fk sh a ci kf = some none) : nw_Ev d sh k Q pc lv (.ref a :: st) mem = nw_Ev d sh k Q (pc + 3) lv (.int (mem a kf) :: st) mem := by
  rw [nw_step h]; simp only [nw_I, nw_S, hf, hk]; rfl
theorem nr_getR {a ci kf j : Nat} (h : nw_dec (nw_kB k) pc = some (.getfield i)) (hf : nw_rF (nw_kO k) i = some (ci, kf)) (hk : nw_fk sh a ci kf = some (some j)) : nw_Ev d sh k Q pc lv (.ref a :: st) mem = nw_Ev d sh k Q (pc + 3) lv (.ref j :: st) mem := by
  rw [nw_step h]; simp only [nw_I, nw_S, hf, hk]; rfl
theorem nr_put {a ci kf : Nat} (h : nw_dec (nw_kB k) pc = some (.putfield i)) (hf : nw_rF (nw_kO k) i = some (ci, kf)) (hk : nw_fk sh a ci kf = some none) : nw_Ev d sh k Q pc lv (.int v :: .ref a :: st) mem = nw_Ev d sh k Q (pc + 3) lv st (nw_up mem a kf v) := by
  rw [nw_step h]; simp only [nw_I, nw_S, hf, hk]; rfl
theorem nr_iald {a n : Nat} (h : nw_dec (nw_kB k) pc = some .iaload) (hk : nw_al sh false a = some n) : nw_Ev d sh k Q pc lv (.int x :: .ref a :: st) mem = (vp_in x n ∧ nw_Ev d sh k Q (pc + 1) lv (.int (mem a x.toNatClampNeg) :: st) mem) := by
  rw [nw_step h]; simp only [nw_I, nw_S, hk]; rfl
theorem nr_bald {a n : Nat} (h : nw_dec (nw_kB k) pc = some .baload) (hk : nw_al sh true a = some n) : nw_Ev d sh k Q pc lv (.int x :: .ref a :: st) mem = (vp_in x n ∧ nw_Ev d sh k Q (pc + 1) lv (.int (mem a x.toNatClampNeg) :: st) mem) := by
  rw [nw_step h]; simp only [nw_I, nw_S, hk]; rfl
theorem nr_iast {a n : Nat} (h : nw_dec (nw_kB k) pc = some .iastore) (hk : nw_al sh false a = some n) : nw_Ev d sh k Q pc lv (.int v :: .int x :: .ref a :: st) mem = (vp_in x n ∧ nw_Ev d sh k Q (pc + 1) lv st (nw_up mem a x.toNatClampNeg v)) := by
  rw [nw_step h]; simp only [nw_I, nw_S, hk]; rfl
theorem nr_bast {a n : Nat} (h : nw_dec (nw_kB k) pc = some .bastore) (hk : nw_al sh true a = some n) : nw_Ev d sh k Q pc lv (.int v :: .int x :: .ref a :: st) mem = ((vp_in x n ∧ (v = 0 ∨ v = 1)) ∧ nw_Ev d sh k Q (pc + 1) lv st (nw_up mem a x.toNatClampNeg v)) := by
  rw [nw_step h]; simp only [nw_I, nw_S, hk]; rfl
theorem nr_retI (h : nw_dec (nw_kB k) pc = some .ireturn) (hr : nw_kR k = some .int) : nw_Ev d sh k Q pc lv [.int v] mem = Q (some (.int v)) mem := by
  rw [nw_step h]; simp only [nw_I, hr, nw_rt, true_and]
theorem nr_retZ (h : nw_dec (nw_kB k) pc = some .ireturn) (hr : nw_kR k = some .boolean) : nw_Ev d sh k Q pc lv [.int v] mem = ((v = 0 ∨ v = 1) ∧ Q (some (.int v)) mem) := by
  rw [nw_step h]; simp only [nw_I, hr, nw_rt]
theorem nr_retV (h : nw_dec (nw_kB k) pc = some .return_) (hr : nw_kR k = none) : nw_Ev d sh k Q pc lv [] mem = Q none mem := by
  rw [nw_step h]; simp only [nw_I, hr]
theorem nr_callS {k' n : Nat} (h : nw_dec (nw_kB k) pc = some (.invokestatic i)) (hP : nw_rP (nw_kO k) i = none) (hM : nw_rM (nw_kO k) i = some (k', n, none)) (hp : nw_pop n st [] = some (as, r)) (hs : nw_sml r = true) : nw_Ev d sh k Q pc lv st mem = nw_Ex d sh k' as mem (fun v m => nw_Ev d sh k Q (pc + 3) lv (nw_psh v r) m) := by
  rw [nw_step h]; simp only [nw_I, hP, nw_Cl, hM, hp, hs, nw_rc, Option.isSome_none, and_self, true_and]
theorem nr_callV {k' n ci a : Nat} {as' : List Value} (h : nw_dec (nw_kB k) pc = some (.invokevirtual i)) (hP : nw_rP (nw_kO k) i = none) (hM : nw_rM (nw_kO k) i = some (k', n, some ci)) (hp : nw_pop n st [] = some (.ref a :: as', r)) (hs : nw_sml r = true) (hc : nw_cl sh a = some ci) : nw_Ev d sh k Q pc lv st mem = nw_Ex d sh k' (.ref a :: as') mem (fun v m => nw_Ev d sh k Q (pc + 3) lv (nw_psh v r) m) := by
  rw [nw_step h]; simp only [nw_I, hP, nw_Cl, hM, hp, hs, nw_rc, hc, Option.isSome_some, beq_self_eq_true, and_self, true_and]
theorem nr_copy (h : nw_dec (nw_kB k) pc = some (.invokestatic i)) (hP : nw_rP (nw_kO k) i = some 0) : nw_Ev d sh k Q pc lv st mem = nw_cp sh (nw_Ev d sh k Q) pc lv mem st := by
  rw [nw_step h]; simp only [nw_I, hP]
theorem nr_slen (h : nw_dec (nw_kB k) pc = some (.invokevirtual i)) (hP : nw_rP (nw_kO k) i = some 1) : nw_Ev d sh k Q pc lv st mem = nw_sl nw_sn (nw_Ev d sh k Q) pc lv mem st := by
  rw [nw_step h]; simp only [nw_I, hP]
theorem nr_schar (h : nw_dec (nw_kB k) pc = some (.invokevirtual i)) (hP : nw_rP (nw_kO k) i = some 2) : nw_Ev d sh k Q pc lv st mem = nw_sc nw_sn nw_sb (nw_Ev d sh k Q) pc lv mem st := by
  rw [nw_step h]; simp only [nw_I, hP]
theorem nr_enter {lv0 : nw_L} (hf : (nw_ea as).length ≤ nw_kL k) (hl : nw_pad (nw_ea as) (nw_kL k) = lv0) : nw_Ex (d + 1) sh k as mem Q = nw_Ev d sh k Q 0 lv0 [] mem := by
  subst hl
  exact propext ⟨fun h => h.2, fun h => ⟨hf, h⟩⟩
theorem nw_nl_pos : ∀ (a : Option Value) (i : Nat), nw_nl a (i + 1) = true
  | none, _ => rfl
  | some (.int _), _ => rfl
  | some (.ref _), _ => rfl
  | some .null, _ => rfl
  | some (.float _), _ => rfl
  | some (.retAddr _), _ => rfl
  | some (.long _), _ => rfl
  | some (.double _), _ => rfl
end NWR
def nw_shX : nw_Sh := [.inl (0, [some 1, some 3, some 4, some 12, some 13, none, none]), .inl (1, [some 2, none]), .inr (false, 200), .inl (2, [some 8, none, none, none, none]), .inl (3, [some 5, some 6, some 7, none, none, none]), .inr (false, 8), .inr (false, 8), .inr (false, 32), .inl (3, [some 9, some 10, some 11, none, none, none]), .inr (false, 8), .inr (false, 8), .inr (false, 32), .inr (false, 2), .inr (false, 2)]
def nw_shM : nw_Sh := [.inl (4, [some 1, some 2, some 3, none, some 4, none, none, some 5, some 6, some 7, none, none, none, none, none, some 8, none, some 9, some 10, some 11]), .inr (false, 70), .inr (true, 2), .inr (false, 200), .inr (false, 36), .inr (false, 8), .inr (false, 8), .inr (false, 32), .inr (false, 8), .inr (false, 1000), .inr (false, 8), .inr (false, 8)]
theorem nw_int_ok {ci k : Nat} (h : ∀ r : vw_C, nw_cls[ci]? = some r → (r.2.1 k).2.2.2 = false ∧ (r.2.1 k).2.2.1 = "I") : nw_int ci k := h
theorem nw_sto_1 {a b : Option Value} {t : nw_L} {v : Value} (h : nw_nl a 0 = true) : nw_sto (a :: b :: t) 1 v = some (a :: some v :: t) := by simp only [nw_sto, h, if_true, Option.map_some]
theorem nw_sto_s {a b : Option Value} {t t' : nw_L} {i : Nat} {v : Value} (h : nw_sto (b :: t) (i + 1) v = some t') : nw_sto (a :: b :: t) (i + 2) v = some (a :: t') := by
  show (if nw_nl a (i + 1) then (nw_sto (b :: t) (i + 1) v).map (a :: ·) else none) = _
  rw [nw_nl_pos, if_pos rfl, h]
  rfl
