/-! A small machine of our own over the class's decoded instructions: cells by number, ints in them as functions; its runs are a least fixed point, told by what must hold at the end. Part 05 ties it to the JVM's machine once for all methods. -/
abbrev nw_M : Type := Nat → Nat → Int32
abbrev nw_E : Type := (Nat × List (Option Nat)) ⊕ (Bool × Nat)
abbrev nw_Sh : Type := List nw_E
abbrev nw_L : Type := List (Option Value)
abbrev nw_K : Type := Option Value → nw_M → Prop
abbrev nw_C : Type := Nat → List Value → nw_M → nw_K → Prop
abbrev nw_X : Type := Nat → nw_L → List Value → nw_M → Prop
abbrev nw_St : Type := Nat × nw_L × List Value × nw_M
abbrev nw_O : Type := nw_St ⊕ (Prop × nw_St) ⊕ (Prop × nw_St × nw_St)
def nw_row (mem : nw_M) (c : Nat) (f : Nat → Int32) : nw_M := fun a => if a = c then f else mem a
def nw_up (mem : nw_M) (c k : Nat) (v : Int32) : nw_M := nw_row mem c (upd (mem c) k v)
def nw_ld : nw_L → Nat → Option Value
  | [], _ => none
  | a :: _, 0 => a
  | _ :: t, i + 1 => nw_ld t i
def nw_nl : Option Value → Nat → Bool
  | none, _ => true
  | some (.int _), _ => true
  | some (.ref _), _ => true
  | some .null, _ => true
  | some (.float _), _ => true
  | some (.retAddr _), _ => true
  | some (.long _), i => decide (¬ i = 0)
  | some (.double _), i => decide (¬ i = 0)
def nw_sto : nw_L → Nat → Value → Option nw_L
  | [], _, _ => none
  | _ :: t, 0, v => some (some v :: t)
  | a :: t, i + 1, v => if nw_nl a i then (nw_sto t i v).map (a :: ·) else none
def nw_lk : Instr → Nat → Bool
  | .iconst _, n | .lconst _, n | .iload_n _, n | .lload_n _, n | .aload_n _, n | .istore_n _, n | .astore_n _, n => n == 1
  | .iadd, n | .isub, n | .imul, n | .idiv, n | .irem, n | .ineg, n | .iand, n | .ior, n | .ixor, n | .ishl, n | .ishr, n => n == 1
  | .land, n | .lor, n | .lshl, n | .lshr, n | .lcmp, n | .i2l, n | .l2i, n | .dup, n | .dup2, n | .pop, n => n == 1
  | .iaload, n | .iastore, n | .baload, n | .bastore, n | .ireturn, n | .return_, n => n == 1
  | .bipush _, n | .iload _, n | .lload _, n | .aload _, n | .istore _, n | .astore _, n | .ldc _, n => n == 2
  | .sipush _, n | .iinc _ _, n | .goto _, n | .if_icmp _ _, n | .ifCond _ _, n | .getfield _, n | .putfield _, n | .ldc2_w _, n => n == 3
  | .invokestatic _, n | .invokevirtual _, n => n == 3
  | .tableswitch _ _ _ _, _ | .lookupswitch _ _, _ => true
  | _, _ => false
def nw_nn (pc : Nat) (off : Int) : Bool := decide (0 ≤ (pc : Int) + off)
def nw_tk (pc : Nat) : Instr → Bool
  | .goto off => nw_nn pc off
  | .if_icmp _ off => nw_nn pc off
  | .ifCond _ off => nw_nn pc off
  | .tableswitch d lo hi offs => nw_nn pc d && offs.toList.all (nw_nn pc) && decide (hi - lo + 1 = offs.size)
  | .lookupswitch _ ps => (ps.toList.zip (ps.toList.drop 1)).all (fun (a, next) => a.1 < next.1)
  | _ => true
def nw_dec (cc : ByteArray) (pc : Nat) : Option Instr := match decode cc pc with
  | .ok (i, n) => if nw_lk i n && nw_tk pc i then some i else none
  | .error _ => none
theorem nw_dec_ok {cc : ByteArray} {pc : Nat} {i : Instr} (h : nw_dec cc pc = some i) : ∃ n, decode cc pc = .ok (i, n) ∧ nw_lk i n = true ∧ nw_tk pc i = true := by
  unfold nw_dec at h
  cases hd : decode cc pc with
  | error e => rw [hd] at h; cases h
  | ok q =>
    obtain ⟨j, n⟩ := q
    rw [hd] at h
    dsimp only at h
    by_cases hc : (nw_lk j n && nw_tk pc j) = true
    · rw [if_pos hc] at h
      cases h
      rw [Bool.and_eq_true] at hc
      exact ⟨n, rfl, hc.1, hc.2⟩
    · rw [if_neg hc] at h
      cases h
def nw_t (pc : Nat) (off : Int) : Nat := ((pc : Int) + off).toNat
def nw_ts (pc : Nat) (d lo hi : Int) (offs : Array Int) (v : Int32) : Nat := if v.toInt < lo ∨ hi < v.toInt then nw_t pc d else nw_t pc ((offs[(v.toInt - lo).toNat]?).getD d)
def nw_i1 (st : List Value) (k : Int32 → List Value → nw_O) : Option nw_O := match st with
  | .int x :: r => some (k x r)
  | _ => none
def nw_i2 (st : List Value) (k : Int32 → Int32 → List Value → nw_O) : Option nw_O := match st with
  | .int y :: .int x :: r => some (k x y r)
  | _ => none
def nw_l2 (st : List Value) (k : Int64 → Int64 → List Value → nw_O) : Option nw_O := match st with
  | .long y :: .long x :: r => some (k x y r)
  | _ => none
def nw_l1 (st : List Value) (k : Int64 → List Value → nw_O) : Option nw_O := match st with
  | .long x :: r => some (k x r)
  | _ => none
def nw_li (st : List Value) (k : Int64 → Int32 → List Value → nw_O) : Option nw_O := match st with
  | .int y :: .long x :: r => some (k x y r)
  | _ => none
def nw_lo (lv : nw_L) (i : Nat) (k : Value → nw_O) : Option nw_O := match nw_ld lv i with
  | some v => some (k v)
  | none => none
def nw_ldI (lv : nw_L) (i : Nat) (k : Int32 → nw_O) : Option nw_O := match nw_ld lv i with
  | some (.int v) => some (k v)
  | _ => none
def nw_ldL (lv : nw_L) (i : Nat) (k : Int64 → nw_O) : Option nw_O := match nw_ld lv i with
  | some (.long v) => some (k v)
  | _ => none
def nw_ldR (lv : nw_L) (i : Nat) (k : Nat → nw_O) : Option nw_O := match nw_ld lv i with
  | some (.ref v) => some (k v)
  | _ => none
def nw_stI (lv : nw_L) (i : Nat) (st : List Value) (k : nw_L → List Value → nw_O) : Option nw_O := match st with
  | .int x :: r => match nw_sto lv i (.int x) with
    | some lv' => some (k lv' r)
    | none => none
  | _ => none
def nw_stR (lv : nw_L) (i : Nat) (st : List Value) (k : nw_L → List Value → nw_O) : Option nw_O := match st with
  | .ref x :: r => match nw_sto lv i (.ref x) with
    | some lv' => some (k lv' r)
    | none => none
  | _ => none
/-- an int array's length, a boolean array's -/
def nw_al (sh : nw_Sh) (z : Bool) (c : Nat) : Option Nat := match sh[c]? with
  | some (.inr (b, n)) => if b = z then some n else none
  | _ => none
/-- an object's field: none, an int; some j, the cell j -/
def nw_fk (sh : nw_Sh) (c ci k : Nat) : Option (Option Nat) := match sh[c]? with
  | some (.inl (cj, fs)) => if cj = ci then fs[k]? else none
  | _ => none
def nw_ic (pc : Nat) (lv : nw_L) (mem : nw_M) (c : Prop) (off : Int) (r : List Value) : nw_O := .inr (.inr (c, (nw_t pc off, lv, r, mem), (pc + 3, lv, r, mem)))
def nw_icn (pc : Nat) (lv : nw_L) (mem : nw_M) (c : Prop) (off : Int) (r : List Value) : nw_O := .inr (.inr (c, (pc + 3, lv, r, mem), (nw_t pc off, lv, r, mem)))
def nw_cmp (pc : Nat) (lv : nw_L) (mem : nw_M) (off : Int) (x y : Int32) (r : List Value) : ClassFile.Cond → nw_O
  | .eq => nw_ic pc lv mem (x = y) off r
  | .ne => nw_icn pc lv mem (x = y) off r
  | .lt => nw_ic pc lv mem (x < y) off r
  | .ge => nw_ic pc lv mem (y ≤ x) off r
  | .gt => nw_ic pc lv mem (y < x) off r
  | .le => nw_ic pc lv mem (x ≤ y) off r
/-- one instruction that is no call and no return; rF: own class, entry -> class, field; rC, rL: constants; rS: string constants, as cells from 100 on -/
def nw_S (rF : Nat → Nat → Option (Nat × Nat)) (rC : Nat → Nat → Option Int32) (rL : Nat → Nat → Option Int64) (rS : Nat → Nat → Option Nat) (own : Nat) (sh : nw_Sh) (pc : Nat) (lv : nw_L) (mem : nw_M) (st : List Value) : Instr → Option nw_O
  | .iconst n => some (.inl (pc + 1, lv, .int (Int32.ofInt n) :: st, mem))
  | .bipush n => some (.inl (pc + 2, lv, .int (Int8.ofInt n).toInt32 :: st, mem))
  | .sipush n => some (.inl (pc + 3, lv, .int (Int16.ofInt n).toInt32 :: st, mem))
  | .lconst n => some (.inl (pc + 1, lv, .long (Int64.ofNat (n : Nat)) :: st, mem))
  | .iload i => nw_ldI lv i fun x => .inl (pc + 2, lv, .int x :: st, mem)
  | .iload_n i => nw_ldI lv i fun x => .inl (pc + 1, lv, .int x :: st, mem)
  | .lload i => nw_ldL lv i fun x => .inl (pc + 2, lv, .long x :: st, mem)
  | .lload_n i => nw_ldL lv i fun x => .inl (pc + 1, lv, .long x :: st, mem)
  | .aload i => nw_ldR lv i fun x => .inl (pc + 2, lv, .ref x :: st, mem)
  | .aload_n i => nw_ldR lv i fun x => .inl (pc + 1, lv, .ref x :: st, mem)
  | .istore i => nw_stI lv i st fun lv' r => .inl (pc + 2, lv', r, mem)
  | .istore_n i => nw_stI lv i st fun lv' r => .inl (pc + 1, lv', r, mem)
  | .astore i => nw_stR lv i st fun lv' r => .inl (pc + 2, lv', r, mem)
  | .astore_n i => nw_stR lv i st fun lv' r => .inl (pc + 1, lv', r, mem)
  | .iinc i n => match nw_ld lv i with
    | some (.int x) => match nw_sto lv i (.int (x + Int32.ofInt n)) with
      | some lv' => some (.inl (pc + 3, lv', st, mem))
      | none => none
    | _ => none
  | .iadd => nw_i2 st fun x y r => .inl (pc + 1, lv, .int (x + y) :: r, mem)
  | .isub => nw_i2 st fun x y r => .inl (pc + 1, lv, .int (x - y) :: r, mem)
  | .imul => nw_i2 st fun x y r => .inl (pc + 1, lv, .int (x * y) :: r, mem)
  | .iand => nw_i2 st fun x y r => .inl (pc + 1, lv, .int (x &&& y) :: r, mem)
  | .ior => nw_i2 st fun x y r => .inl (pc + 1, lv, .int (x ||| y) :: r, mem)
  | .ixor => nw_i2 st fun x y r => .inl (pc + 1, lv, .int (x ^^^ y) :: r, mem)
  | .ishl => nw_i2 st fun x y r => .inl (pc + 1, lv, .int (x <<< (y &&& 31)) :: r, mem)
  | .ishr => nw_i2 st fun x y r => .inl (pc + 1, lv, .int (x >>> (y &&& 31)) :: r, mem)
  | .idiv => nw_i2 st fun x y r => .inr (.inl (¬ y = 0, (pc + 1, lv, .int (x / y) :: r, mem)))
  | .irem => nw_i2 st fun x y r => .inr (.inl (¬ y = 0, (pc + 1, lv, .int (x - x / y * y) :: r, mem)))
  | .ineg => nw_i1 st fun x r => .inl (pc + 1, lv, .int (-x) :: r, mem)
  | .i2l => nw_i1 st fun x r => .inl (pc + 1, lv, .long x.toInt64 :: r, mem)
  | .l2i => nw_l1 st fun x r => .inl (pc + 1, lv, .int x.toInt32 :: r, mem)
  | .land => nw_l2 st fun x y r => .inl (pc + 1, lv, .long (x &&& y) :: r, mem)
  | .lor => nw_l2 st fun x y r => .inl (pc + 1, lv, .long (x ||| y) :: r, mem)
  | .lcmp => nw_l2 st fun x y r => .inl (pc + 1, lv, .int (lg_cmp x y) :: r, mem)
  | .lshl => nw_li st fun x y r => .inl (pc + 1, lv, .long (x <<< (y.toInt64 &&& 63)) :: r, mem)
  | .lshr => nw_li st fun x y r => .inl (pc + 1, lv, .long (x >>> (y.toInt64 &&& 63)) :: r, mem)
  | .pop => match st with
    | .int _ :: r => some (.inl (pc + 1, lv, r, mem))
    | _ => none
  | .dup => match st with
    | .int x :: r => some (.inl (pc + 1, lv, .int x :: .int x :: r, mem))
    | .ref x :: r => some (.inl (pc + 1, lv, .ref x :: .ref x :: r, mem))
    | _ => none
  | .dup2 => match st with
    | .int x :: .ref y :: r => some (.inl (pc + 1, lv, .int x :: .ref y :: .int x :: .ref y :: r, mem))
    | _ => none
  | .goto off => some (.inl (nw_t pc off, lv, st, mem))
  | .if_icmp c off => nw_i2 st fun x y r => nw_cmp pc lv mem off x y r c
  | .ifCond c off => nw_i1 st fun x r => nw_cmp pc lv mem off x 0 r c
  | .tableswitch d lo hi offs => nw_i1 st fun x r => .inl (nw_ts pc d lo hi offs x, lv, r, mem)
  | .lookupswitch d ps => nw_i1 st fun x r => .inr (.inl (0 ≤ (pc : Int) + Op.lookupswitch.offset ps.toList d x.toInt, (nw_t pc (Op.lookupswitch.offset ps.toList d x.toInt), lv, r, mem)))
  | .ldc i => match rC own i with
    | some v => some (.inl (pc + 2, lv, .int v :: st, mem))
    | none => match rS own i with
      | some a => some (.inl (pc + 2, lv, .ref a :: st, mem))
      | none => none
  | .ldc2_w i => match rL own i with
    | some v => some (.inl (pc + 3, lv, .long v :: st, mem))
    | none => none
  | .getfield i => match rF own i with
    | some (ci, k) => match st with
      | .ref c :: r => match nw_fk sh c ci k with
        | some (some j) => some (.inl (pc + 3, lv, .ref j :: r, mem))
        | some none => some (.inl (pc + 3, lv, .int (mem c k) :: r, mem))
        | none => none
      | _ => none
    | none => none
  | .putfield i => match rF own i with
    | some (ci, k) => match st with
      | .int v :: .ref c :: r => match nw_fk sh c ci k with
        | some none => some (.inl (pc + 3, lv, r, nw_up mem c k v))
        | _ => none
      | _ => none
    | none => none
  | .iaload => match st with
    | .int i :: .ref c :: r => match nw_al sh false c with
      | some n => some (.inr (.inl (vp_in i n, (pc + 1, lv, .int (mem c i.toNatClampNeg) :: r, mem))))
      | none => none
    | _ => none
  | .baload => match st with
    | .int i :: .ref c :: r => match nw_al sh true c with
      | some n => some (.inr (.inl (vp_in i n, (pc + 1, lv, .int (mem c i.toNatClampNeg) :: r, mem))))
      | none => none
    | _ => none
  | .iastore => match st with
    | .int v :: .int i :: .ref c :: r => match nw_al sh false c with
      | some n => some (.inr (.inl (vp_in i n, (pc + 1, lv, r, nw_up mem c i.toNatClampNeg v))))
      | none => none
    | _ => none
  | .bastore => match st with
    | .int v :: .int i :: .ref c :: r => match nw_al sh true c with
      | some n => some (.inr (.inl (vp_in i n ∧ (v = 0 ∨ v = 1), (pc + 1, lv, r, nw_up mem c i.toNatClampNeg v))))
      | none => none
    | _ => none
  | _ => none
def nw_A (X : nw_X) : nw_O → Prop
  | .inl s => X s.1 s.2.1 s.2.2.1 s.2.2.2
  | .inr (.inl (c, s)) => c ∧ X s.1 s.2.1 s.2.2.1 s.2.2.2
  | .inr (.inr (c, s, t)) => (c → X s.1 s.2.1 s.2.2.1 s.2.2.2) ∧ (¬ c → X t.1 t.2.1 t.2.2.1 t.2.2.2)
theorem nw_A_mono {X Y : nw_X} (h : ∀ pc lv st mem, X pc lv st mem → Y pc lv st mem) : ∀ o, nw_A X o → nw_A Y o
  | .inl _, k => h _ _ _ _ k
  | .inr (.inl _), k => ⟨k.1, h _ _ _ _ k.2⟩
  | .inr (.inr _), k => ⟨fun c => h _ _ _ _ (k.1 c), fun c => h _ _ _ _ (k.2 c)⟩
/-- the first n of the stack, turned round, and the rest, which is small -/
def nw_sml : List Value → Bool
  | [] => true
  | [_] => true
  | [_, _] => true
  | [_, _, _] => true
  | [_, _, _, _] => true
  | _ => false
def nw_pop : Nat → List Value → List Value → Option (List Value × List Value)
  | 0, st, acc => some (acc, st)
  | _ + 1, [], _ => none
  | n + 1, v :: st, acc => nw_pop n st (v :: acc)
def nw_psh : Option Value → List Value → List Value
  | none, r => r
  | some v, r => v :: r
/-- an object's class -/
def nw_cl (sh : nw_Sh) (c : Nat) : Option Nat := match sh[c]? with
  | some (.inl (cj, _)) => some cj
  | _ => none
/-- a call: of which method (its number), how many words it takes, of which class its receiver must be (none: static) -/
abbrev nw_T : Type := Nat → Nat → Option (Nat × Nat × Option Nat)
def nw_rc (sh : nw_Sh) (rc : Option Nat) (as : List Value) : Bool := match rc, as with
  | none, _ => true
  | some ci, .ref c :: _ => nw_cl sh c == some ci
  | _, _ => false
def nw_Cl (rM : nw_T) (own : Nat) (sh : nw_Sh) (call : nw_C) (X : nw_X) (pc : Nat) (lv : nw_L) (mem : nw_M) (st : List Value) (i : Nat) (vt : Bool) : Prop := match rM own i with
  | some (k, n, rc) => match nw_pop n st [] with
    | some (as, r) => (rc.isSome = vt ∧ nw_rc sh rc as = true ∧ nw_sml r = true) ∧ call k as mem (fun v m => X (pc + 3) lv (nw_psh v r) m)
    | none => False
  | none => False
/-- System.arraycopy between two int arrays -/
def nw_cp (sh : nw_Sh) (X : nw_X) (pc : Nat) (lv : nw_L) (mem : nw_M) (st : List Value) : Prop := match st with
  | .int n :: .int dp :: .ref d :: .int sp :: .ref s :: r => match nw_al sh false s, nw_al sh false d with
    | some ns, some nd => (¬ sp < 0 ∧ ¬ dp < 0 ∧ ¬ n < 0 ∧ sp.toNatClampNeg + n.toNatClampNeg ≤ ns ∧ dp.toNatClampNeg + n.toNatClampNeg ≤ nd ∧ r = []) ∧ X (pc + 3) lv r (nw_row mem d (va_cpy (mem s) (mem d) sp.toNatClampNeg dp.toNatClampNeg n.toNatClampNeg))
    | _, _ => False
  | _ => False
/-- String.length, String.charAt of a constant -/
def nw_sl (sn : List Nat) (X : nw_X) (pc : Nat) (lv : nw_L) (mem : nw_M) (st : List Value) : Prop := match st with
  | .ref a :: r => (100 ≤ a ∧ a - 100 < sn.length ∧ nw_sml r = true) ∧ X (pc + 3) lv (.int (Int32.ofNat (sn.getD (a - 100) 0)) :: r) mem
  | _ => False
def nw_sc (sn : List Nat) (sb : List (List Int32)) (X : nw_X) (pc : Nat) (lv : nw_L) (mem : nw_M) (st : List Value) : Prop := match st with
  | .int i :: .ref a :: r => (100 ≤ a ∧ a - 100 < sn.length ∧ nw_sml r = true ∧ vp_in i (sn.getD (a - 100) 0)) ∧ X (pc + 3) lv (.int ((sb.getD (a - 100) []).getD i.toNatClampNeg 0) :: r) mem
  | _ => False
/-- the tables of a system -/
abbrev nw_Tb : Type := (Nat → Nat → Option (Nat × Nat)) × (Nat → Nat → Option Int32) × (Nat → Nat → Option Int64) × (Nat → Nat → Option Nat) × nw_T × (Nat → Nat → Option Nat) × List Nat × List (List Int32)
def nw_on (o : Option nw_O) (G : nw_O → Prop) : Prop := match o with
  | some o => G o
  | none => False
def nw_rt (ret : Option FieldType) (v : Int32) : Prop := match ret with
  | some .int => True
  | some .boolean => v = 0 ∨ v = 1
  | _ => False
def nw_I (tb : nw_Tb) (own : Nat) (ret : Option FieldType) (sh : nw_Sh) (call : nw_C) (Q : nw_K) (X : nw_X) (pc : Nat) (lv : nw_L) (st : List Value) (mem : nw_M) : Instr → Prop
  | .invokestatic i => match tb.2.2.2.2.2.1 own i with
    | some 0 => nw_cp sh X pc lv mem st
    | some _ => False
    | none => nw_Cl tb.2.2.2.2.1 own sh call X pc lv mem st i false
  | .invokevirtual i => match tb.2.2.2.2.2.1 own i with
    | some 1 => nw_sl tb.2.2.2.2.2.2.1 X pc lv mem st
    | some 2 => nw_sc tb.2.2.2.2.2.2.1 tb.2.2.2.2.2.2.2 X pc lv mem st
    | some _ => False
    | none => nw_Cl tb.2.2.2.2.1 own sh call X pc lv mem st i true
  | .ireturn => match st with
    | [.int v] => nw_rt ret v ∧ Q (some (.int v)) mem
    | _ => False
  | .return_ => match st, ret with
    | [], none => Q none mem
    | _, _ => False
  | i => nw_on (nw_S tb.1 tb.2.1 tb.2.2.1 tb.2.2.2.1 own sh pc lv mem st i) (nw_A X)
def nw_F (tb : nw_Tb) (cc : ByteArray) (own : Nat) (ret : Option FieldType) (sh : nw_Sh) (call : nw_C) (Q : nw_K) (X : nw_X) (pc : Nat) (lv : nw_L) (st : List Value) (mem : nw_M) : Prop := match nw_dec cc pc with
  | some i => nw_I tb own ret sh call Q X pc lv st mem i
  | none => False
def nw_lfp (F : nw_X → nw_X) : nw_X := fun pc lv st mem => ∀ X : nw_X, (∀ pc lv st mem, F X pc lv st mem → X pc lv st mem) → X pc lv st mem
def nw_mono (call : nw_C) : Prop := ∀ (k : Nat) (as : List Value) (mem : nw_M) (P P' : nw_K), (∀ v m, P v m → P' v m) → call k as mem P → call k as mem P'
theorem nw_Cl_mono {rM : nw_T} {own : Nat} {sh : nw_Sh} {call : nw_C} (hc : nw_mono call) {X Y : nw_X} (h : ∀ pc lv st mem, X pc lv st mem → Y pc lv st mem) {pc : Nat} {lv : nw_L} {mem : nw_M} {st : List Value} {i : Nat} {vt : Bool} (k : nw_Cl rM own sh call X pc lv mem st i vt) : nw_Cl rM own sh call Y pc lv mem st i vt := by
  unfold nw_Cl at k ⊢
  split at k <;> rename_i e1
  · split at k <;> rename_i e2
    · exact ⟨k.1, hc _ _ _ _ _ (fun v m q => h _ _ _ _ q) k.2⟩
    · exact k.elim
  · exact k.elim
theorem nw_I_mono {tb : nw_Tb} {own : Nat} {ret : Option FieldType} {sh : nw_Sh} {call : nw_C} (hc : nw_mono call) {Q Q' : nw_K} (hQ : ∀ v m, Q v m → Q' v m) {X Y : nw_X} (h : ∀ pc lv st mem, X pc lv st mem → Y pc lv st mem) {pc : Nat} {lv : nw_L} {st : List Value} {mem : nw_M} {i : Instr} (k : nw_I tb own ret sh call Q X pc lv st mem i) : nw_I tb own ret sh call Q' Y pc lv st mem i := by
  unfold nw_I at k ⊢
  split at k
  · split at k <;> rename_i e1
    · unfold nw_cp at k ⊢
      split at k
      · split at k
        · exact ⟨k.1, h _ _ _ _ k.2⟩
        · exact k.elim
      · exact k.elim
    · exact k.elim
    · exact nw_Cl_mono hc h k
  · split at k <;> rename_i e1
    · unfold nw_sl at k ⊢
      split at k
      · exact ⟨k.1, h _ _ _ _ k.2⟩
      · exact k.elim
    · unfold nw_sc at k ⊢
      split at k
      · exact ⟨k.1, h _ _ _ _ k.2⟩
      · exact k.elim
    · exact k.elim
    · exact nw_Cl_mono hc h k
  · split at k
    · exact ⟨k.1, hQ _ _ k.2⟩
    · exact k.elim
  · split at k
    · exact hQ _ _ k
    · exact k.elim
  · unfold nw_on at k ⊢
    split at k
    · exact nw_A_mono h _ k
    · exact k.elim
theorem nw_F_mono {tb : nw_Tb} {cc : ByteArray} {own : Nat} {ret : Option FieldType} {sh : nw_Sh} {call : nw_C} (hc : nw_mono call) {Q Q' : nw_K} (hQ : ∀ v m, Q v m → Q' v m) {X Y : nw_X} (h : ∀ pc lv st mem, X pc lv st mem → Y pc lv st mem) {pc : Nat} {lv : nw_L} {st : List Value} {mem : nw_M} (k : nw_F tb cc own ret sh call Q X pc lv st mem) : nw_F tb cc own ret sh call Q' Y pc lv st mem := by
  unfold nw_F at k ⊢
  split at k
  · exact nw_I_mono hc hQ h k
  · exact k.elim
theorem nw_lfp_eq {F : nw_X → nw_X} (hF : ∀ X Y : nw_X, (∀ pc lv st mem, X pc lv st mem → Y pc lv st mem) → ∀ pc lv st mem, F X pc lv st mem → F Y pc lv st mem) (pc : Nat) (lv : nw_L) (st : List Value) (mem : nw_M) : nw_lfp F pc lv st mem = F (nw_lfp F) pc lv st mem := by
  have up : ∀ pc lv st mem, F (nw_lfp F) pc lv st mem → nw_lfp F pc lv st mem := fun pc lv st mem k X hX => hX _ _ _ _ (hF _ _ (fun _ _ _ _ q => q X hX) _ _ _ _ k)
  exact propext ⟨fun k => k _ (fun pc lv st mem q => hF _ _ up _ _ _ _ q), fun k => up _ _ _ _ k⟩
/-- the locals at a method's entry -/
def nw_ea : List Value → nw_L
  | [] => []
  | .long x :: t => some (.long x) :: none :: nw_ea t
  | .double x :: t => some (.double x) :: none :: nw_ea t
  | v :: t => some v :: nw_ea t
def nw_pad : nw_L → Nat → nw_L
  | _, 0 => []
  | [], n + 1 => none :: nw_pad [] n
  | a :: t, n + 1 => a :: nw_pad t n
