/-! THE ENGINE: the bytecode over a typed heap of numbers. A value: an int, a long (a number that stands for its rest by 2^32, 2^64), a reference (0: null; k + 2: cell k).
A heap: how many cells, how many slots, each cell's kind and length, its numbers, its references. Cells 0, 1, 2: the script, the String constant, its bytes. -/
def e_w32 (x : Int) : Int := x.bmod 4294967296
def e_w64 (x : Int) : Int := x.bmod 18446744073709551616
abbrev eV : Type := Int ⊕ (Int ⊕ Nat)
abbrev eR : Type := Nat × Nat × Nat × Int × List (Int × Nat)
abbrev eI : Type := Instr × Nat × eR
abbrev eH : Type := Nat × Nat × (Nat → Nat × Nat) × (Nat → Nat → Int) × (Nat → Nat → Nat)
abbrev eL : Type := List (Option eV)
def e_put (σ : eH) (a i : Nat) (x : Int) : eH := (σ.1, σ.2.1, σ.2.2.1, va_up σ.2.2.2.1 a (va_up (σ.2.2.2.1 a) i x), σ.2.2.2.2)
def e_puR (σ : eH) (a i r : Nat) : eH := (σ.1, σ.2.1, σ.2.2.1, σ.2.2.2.1, va_up σ.2.2.2.2 a (va_up (σ.2.2.2.2 a) i r))
def e_new (σ : eH) (kd len : Nat) : eH := (σ.1 + 1, σ.2.1 + len, va_up σ.2.2.1 σ.1 (kd, len), va_up σ.2.2.2.1 σ.1 (fun _ => 0), va_up σ.2.2.2.2 σ.1 (fun _ => 0))
def e_mna (σ : eH) (N K : Nat) : eH := (σ.1 + 1 + N, σ.2.1 + N + N * K, fun a => if a = σ.1 then (27, N) else if σ.1 < a ∧ a < σ.1 + 1 + N then (20, K) else σ.2.2.1 a, fun a => if σ.1 ≤ a ∧ a < σ.1 + 1 + N then (fun _ => 0) else σ.2.2.2.1 a, va_up σ.2.2.2.2 σ.1 (fun i => if i < N then σ.1 + 1 + i + 2 else 0))
def e_cpy (σ : eH) (a b sp dp n : Nat) : eH := (σ.1, σ.2.1, σ.2.2.1, va_up σ.2.2.2.1 b (va_cpy (σ.2.2.2.1 a) (σ.2.2.2.1 b) sp dp n), σ.2.2.2.2)
def e_s1 : eL → Nat → eV → eL
  | [], _, _ => []
  | _ :: xs, 0, v => some v :: xs
  | x :: xs, 1, v => (match x with | some (.inr (.inl _)) => none | y => y) :: e_s1 xs 0 v
  | x :: xs, k + 2, v => x :: e_s1 xs (k + 1) v
def e_n0 : eL → eL
  | [] => []
  | _ :: xs => none :: xs
def e_s2 : eL → Nat → eV → eL
  | [], _, _ => []
  | _ :: xs, 0, v => some v :: e_n0 xs
  | x :: xs, 1, v => (match x with | some (.inr (.inl _)) => none | y => y) :: e_s2 xs 0 v
  | x :: xs, k + 2, v => x :: e_s2 xs (k + 1) v
def e_sw : List (Int × Nat) → Int → Nat → Nat
  | [], _, d => d
  | (k, t) :: r, x, d => if x = k then t else e_sw r x d
def e_ld (v : eV) (ty : Nat) : Bool := match v with
  | .inl _ => ty == 0
  | .inr (.inl _) => ty == 1
  | .inr (.inr _) => ty == 2
def e_c1 (v : eV) : Bool := match v with
  | .inr (.inl _) => false
  | _ => true
def e_cmp (c : Jvm.ClassFile.Cond) (x y : Int) : Bool := match c with
  | .eq => decide (x = y)
  | .ne => decide (¬ x = y)
  | .lt => decide (x < y)
  | .ge => decide (y ≤ x)
  | .gt => decide (y < x)
  | .le => decide (x ≤ y)
/-- a class's field's kind: 0 int, 1 boolean, 2 long, 3 reference, 4 byte -/
abbrev eT : Type := Nat × eL × List eV × eH
def e_load (ls : eL) (k ty pc : Nat) (st : List eV) (σ : eH) : Option eT := match ls[k]? with
  | some (some v) => if e_ld v ty then some (pc, ls, v :: st, σ) else none
  | _ => none
def e_bin (st : List eV) (f : Int → Int → Option Int) (pc : Nat) (ls : eL) (σ : eH) : Option eT := match st with
  | .inl y :: .inl x :: t => (f x y).map fun z => (pc, ls, .inl z :: t, σ)
  | _ => none
def e_binL (st : List eV) (f : Int → Int → Option Int) (pc : Nat) (ls : eL) (σ : eH) : Option eT := match st with
  | .inr (.inl y) :: .inr (.inl x) :: t => (f x y).map fun z => (pc, ls, .inr (.inl z) :: t, σ)
  | _ => none
def e_ok (σ : eH) (a : Nat) (k : Nat) (i : Int) : Bool := decide ((σ.2.2.1 a).1 = k) && decide (0 ≤ e_w32 i) && decide (e_w32 i < (σ.2.2.1 a).2)
def e_stp (ins : Instr) (r : eR) (pc : Nat) (ls : eL) (st : List eV) (σ : eH) : Option eT := match ins with
  | .iconst n => some (pc + 1, ls, .inl n :: st, σ)
  | .bipush n => some (pc + 2, ls, .inl n :: st, σ)
  | .sipush n => some (pc + 3, ls, .inl n :: st, σ)
  | .lconst n => some (pc + 1, ls, .inr (.inl (n.val : Int)) :: st, σ)
  | .aconst_null => some (pc + 1, ls, .inr (.inr 0) :: st, σ)
  | .ldc _ => if r.1 = 0 then some (pc + 2, ls, .inl r.2.2.2.1 :: st, σ) else some (pc + 2, ls, .inr (.inr 3) :: st, σ)
  | .ldc_w _ => some (pc + 3, ls, .inl r.2.2.2.1 :: st, σ)
  | .ldc2_w _ => some (pc + 3, ls, .inr (.inl r.2.2.2.1) :: st, σ)
  | .iload k => e_load ls k 0 (pc + 2) st σ
  | .iload_n k => e_load ls k.val 0 (pc + 1) st σ
  | .lload k => e_load ls k 1 (pc + 2) st σ
  | .lload_n k => e_load ls k.val 1 (pc + 1) st σ
  | .aload k => e_load ls k 2 (pc + 2) st σ
  | .aload_n k => e_load ls k.val 2 (pc + 1) st σ
  | .istore k => (match st with | .inl x :: t => some (pc + 2, e_s1 ls k (.inl x), t, σ) | _ => none)
  | .istore_n k => (match st with | .inl x :: t => some (pc + 1, e_s1 ls k.val (.inl x), t, σ) | _ => none)
  | .astore k => (match st with | .inr (.inr x) :: t => some (pc + 2, e_s1 ls k (.inr (.inr x)), t, σ) | _ => none)
  | .astore_n k => (match st with | .inr (.inr x) :: t => some (pc + 1, e_s1 ls k.val (.inr (.inr x)), t, σ) | _ => none)
  | .lstore k => (match st with | .inr (.inl x) :: t => some (pc + 2, e_s2 ls k (.inr (.inl x)), t, σ) | _ => none)
  | .lstore_n k => (match st with | .inr (.inl x) :: t => some (pc + 1, e_s2 ls k.val (.inr (.inl x)), t, σ) | _ => none)
  | .iinc k n => (match ls[k]? with | some (some (.inl x)) => some (pc + 3, e_s1 ls k (.inl (x + n)), st, σ) | _ => none)
  | .iadd => e_bin st (fun x y => some (x + y)) (pc + 1) ls σ
  | .isub => e_bin st (fun x y => some (x - y)) (pc + 1) ls σ
  | .imul => e_bin st (fun x y => some (x * y)) (pc + 1) ls σ
  | .idiv => e_bin st (fun x y => if e_w32 y = 0 then none else some ((e_w32 x).tdiv (e_w32 y))) (pc + 1) ls σ
  | .irem => e_bin st (fun x y => if e_w32 y = 0 then none else some ((e_w32 x).tmod (e_w32 y))) (pc + 1) ls σ
  | .ishl => e_bin st (fun x y => if 0 ≤ e_w32 y ∧ e_w32 y < 32 then some (x * 2 ^ (e_w32 y).toNat) else none) (pc + 1) ls σ
  | .ishr => e_bin st (fun x y => if 0 ≤ e_w32 y ∧ e_w32 y < 32 then some (e_w32 x / 2 ^ (e_w32 y).toNat) else none) (pc + 1) ls σ
  | .iushr => e_bin st (fun x y => if 0 ≤ e_w32 y ∧ e_w32 y < 32 then some (x % 4294967296 / 2 ^ (e_w32 y).toNat) else none) (pc + 1) ls σ
  | .iand => e_bin st (fun x y => some ((Int32.ofInt x &&& Int32.ofInt y).toInt)) (pc + 1) ls σ
  | .ior => e_bin st (fun x y => some ((Int32.ofInt x ||| Int32.ofInt y).toInt)) (pc + 1) ls σ
  | .ixor => e_bin st (fun x y => some ((Int32.ofInt x ^^^ Int32.ofInt y).toInt)) (pc + 1) ls σ
  | .ineg => (match st with | .inl x :: t => some (pc + 1, ls, .inl (-x) :: t, σ) | _ => none)
  | .i2l => (match st with | .inl x :: t => some (pc + 1, ls, .inr (.inl (e_w32 x)) :: t, σ) | _ => none)
  | .l2i => (match st with | .inr (.inl x) :: t => some (pc + 1, ls, .inl x :: t, σ) | _ => none)
  | .i2b => (match st with | .inl x :: t => some (pc + 1, ls, .inl (x.bmod 256) :: t, σ) | _ => none)
  | .i2c => (match st with | .inl x :: t => some (pc + 1, ls, .inl (x % 65536) :: t, σ) | _ => none)
  | .getstatic _ => if r.1 = 0 then some (pc + 3, ls, .inl r.2.2.2.1 :: st, σ) else some (pc + 3, ls, .inr (.inr 1) :: st, σ)
  | .ladd => e_binL st (fun x y => some (x + y)) (pc + 1) ls σ
  | .lsub => e_binL st (fun x y => some (x - y)) (pc + 1) ls σ
  | .lmul => e_binL st (fun x y => some (x * y)) (pc + 1) ls σ
  | .ldiv => e_binL st (fun x y => if e_w64 y = 0 then none else some ((e_w64 x).tdiv (e_w64 y))) (pc + 1) ls σ
  | .lrem => e_binL st (fun x y => if e_w64 y = 0 then none else some ((e_w64 x).tmod (e_w64 y))) (pc + 1) ls σ
  | .land => e_binL st (fun x y => some ((Int64.ofInt x &&& Int64.ofInt y).toInt)) (pc + 1) ls σ
  | .lor => e_binL st (fun x y => some ((Int64.ofInt x ||| Int64.ofInt y).toInt)) (pc + 1) ls σ
  | .lshl => (match st with | .inl y :: .inr (.inl x) :: t => if 0 ≤ e_w32 y ∧ e_w32 y < 64 then some (pc + 1, ls, .inr (.inl (x * 2 ^ (e_w32 y).toNat)) :: t, σ) else none | _ => none)
  | .lcmp => (match st with | .inr (.inl y) :: .inr (.inl x) :: t => some (pc + 1, ls, .inl (if e_w64 y < e_w64 x then 1 else if e_w64 x = e_w64 y then 0 else -1) :: t, σ) | _ => none)
  | .dup => (match st with | v :: t => if e_c1 v then some (pc + 1, ls, v :: v :: t, σ) else none | _ => none)
  | .dup2 => (match st with | v :: w :: t => if e_c1 v && e_c1 w then some (pc + 1, ls, v :: w :: v :: w :: t, σ) else none | _ => none)
  | .pop => (match st with | v :: t => if e_c1 v then some (pc + 1, ls, t, σ) else none | _ => none)
  | .goto _ => some (r.1, ls, st, σ)
  | .if_icmp c _ => (match st with | .inl y :: .inl x :: t => some (if e_cmp c (e_w32 x) (e_w32 y) then r.1 else pc + 3, ls, t, σ) | _ => none)
  | .ifCond c _ => (match st with | .inl x :: t => some (if e_cmp c (e_w32 x) 0 then r.1 else pc + 3, ls, t, σ) | _ => none)
  | .ifnull _ => (match st with | .inr (.inr 0) :: t => some (r.1, ls, t, σ) | .inr (.inr (_ + 2)) :: t => some (pc + 3, ls, t, σ) | _ => none)
  | .ifnonnull _ => (match st with | .inr (.inr 0) :: t => some (pc + 3, ls, t, σ) | .inr (.inr (_ + 2)) :: t => some (r.1, ls, t, σ) | _ => none)
  | .tableswitch _ _ _ _ => (match st with | .inl x :: t => some (e_sw r.2.2.2.2 (e_w32 x) r.1, ls, t, σ) | _ => none)
  | .lookupswitch _ _ => (match st with | .inl x :: t => some (e_sw r.2.2.2.2 (e_w32 x) r.1, ls, t, σ) | _ => none)
  | .getfield _ => (match st with
    | .inr (.inr (a + 2)) :: t => if (σ.2.2.1 a).1 = r.1 then some (pc + 3, ls, (if r.2.2.1 = 3 then .inr (.inr (σ.2.2.2.2 a r.2.1)) else if r.2.2.1 = 2 then .inr (.inl (σ.2.2.2.1 a r.2.1)) else .inl (σ.2.2.2.1 a r.2.1)) :: t, σ) else none
    | _ => none)
  | .putfield _ => (match st with
    | .inl x :: .inr (.inr (a + 2)) :: t => if (σ.2.2.1 a).1 = r.1 ∧ (r.2.2.1 = 0 ∨ r.2.2.1 = 1 ∧ (x = 0 ∨ x = 1)) then some (pc + 3, ls, t, e_put σ a r.2.1 x) else none
    | .inr (.inl x) :: .inr (.inr (a + 2)) :: t => if (σ.2.2.1 a).1 = r.1 ∧ r.2.2.1 = 2 then some (pc + 3, ls, t, e_put σ a r.2.1 x) else none
    | .inr (.inr x) :: .inr (.inr (a + 2)) :: t => if (σ.2.2.1 a).1 = r.1 ∧ r.2.2.1 = 3 then some (pc + 3, ls, t, e_puR σ a r.2.1 x) else none
    | _ => none)
  | .arraylength => (match st with
    | .inr (.inr (a + 2)) :: t => if 20 ≤ (σ.2.2.1 a).1 ∧ (σ.2.2.1 a).1 ≤ 29 then some (pc + 1, ls, .inl (σ.2.2.1 a).2 :: t, σ) else none
    | _ => none)
  | .iaload => (match st with
    | .inl i :: .inr (.inr (a + 2)) :: t => if e_ok σ a 20 i || e_ok σ a 28 i then some (pc + 1, ls, .inl (σ.2.2.2.1 a (e_w32 i).toNat) :: t, σ) else none
    | _ => none)
  | .laload => (match st with
    | .inl i :: .inr (.inr (a + 2)) :: t => if e_ok σ a 21 i then some (pc + 1, ls, .inr (.inl (σ.2.2.2.1 a (e_w32 i).toNat)) :: t, σ) else none
    | _ => none)
  | .baload => (match st with
    | .inl i :: .inr (.inr (a + 2)) :: t => if e_ok σ a 22 i || e_ok σ a 23 i || e_ok σ a 29 i then some (pc + 1, ls, .inl (σ.2.2.2.1 a (e_w32 i).toNat) :: t, σ) else none
    | _ => none)
  | .aaload => (match st with
    | .inl i :: .inr (.inr (a + 2)) :: t => if e_ok σ a 24 i || e_ok σ a 25 i || e_ok σ a 26 i || e_ok σ a 27 i then some (pc + 1, ls, .inr (.inr (σ.2.2.2.2 a (e_w32 i).toNat)) :: t, σ) else none
    | _ => none)
  | .iastore => (match st with
    | .inl x :: .inl i :: .inr (.inr (a + 2)) :: t => if e_ok σ a 20 i then some (pc + 1, ls, t, e_put σ a (e_w32 i).toNat x) else none
    | _ => none)
  | .lastore => (match st with
    | .inr (.inl x) :: .inl i :: .inr (.inr (a + 2)) :: t => if e_ok σ a 21 i then some (pc + 1, ls, t, e_put σ a (e_w32 i).toNat x) else none
    | _ => none)
  | .bastore => (match st with
    | .inl x :: .inl i :: .inr (.inr (a + 2)) :: t => if e_ok σ a 22 i then some (pc + 1, ls, t, e_put σ a (e_w32 i).toNat (x.bmod 256)) else if e_ok σ a 23 i && decide (x = 0 ∨ x = 1) then some (pc + 1, ls, t, e_put σ a (e_w32 i).toNat x) else none
    | _ => none)
  | .aastore => (match st with
    | .inr (.inr (v + 2)) :: .inl i :: .inr (.inr (a + 2)) :: t => if e_ok σ a 24 i && decide ((σ.2.2.1 v).1 = 10) || e_ok σ a 25 i && decide ((σ.2.2.1 v).1 = 6) || e_ok σ a 26 i && decide ((σ.2.2.1 v).1 = 8) then some (pc + 1, ls, t, e_puR σ a (e_w32 i).toNat (v + 2)) else none
    | _ => none)
  | .new _ => some (pc + 3, ls, .inr (.inr (σ.1 + 2)) :: st, e_new σ r.1 r.2.1)
  | .newarray _ => (match st with
    | .inl n :: t => if 0 ≤ e_w32 n ∧ e_w32 n ≤ 65536 then some (pc + 2, ls, .inr (.inr (σ.1 + 2)) :: t, e_new σ r.1 (e_w32 n).toNat) else none
    | _ => none)
  | .anewarray _ => (match st with
    | .inl n :: t => if 0 ≤ e_w32 n ∧ e_w32 n ≤ 65536 then some (pc + 3, ls, .inr (.inr (σ.1 + 2)) :: t, e_new σ r.1 (e_w32 n).toNat) else none
    | _ => none)
  | .multianewarray _ _ => (match st with
    | .inl k :: .inl n :: t => if 0 ≤ e_w32 n ∧ e_w32 n ≤ 65536 ∧ 0 ≤ e_w32 k ∧ e_w32 k ≤ 65536 then some (pc + 4, ls, .inr (.inr (σ.1 + 2)) :: t, e_mna σ (e_w32 n).toNat (e_w32 k).toNat) else none
    | _ => none)
  | _ => none
def e_cat (v : eV) : Nat := match v with
  | .inr (.inl _) => 2
  | _ => 1
/-- the locals with which a method begins -/
def e_ent : Nat → List eV → eL
  | n, [] => List.replicate n none
  | n, v :: vs => match v with
    | .inr (.inl _) => some v :: none :: e_ent (n - 2) vs
    | _ => some v :: e_ent (n - 1) vs
abbrev eF : Type := Nat → List eV → eH → Option (Option eV × eH)
/-- the receiver, where there is one: an object, of the class asked for -/
def e_rcv (k : Nat) (vs : List eV) (σ : eH) : Bool := if k = 0 then true else match vs with
  | .inr (.inr (a + 2)) :: _ => decide (k < 20 ∨ (σ.2.2.1 a).1 = k - 20)
  | _ => false
/-- a call: its arguments off the stack (the receiver with them), the callee, its answer on the stack; how much may lie below: 8 words -/
def e_call (call : eF) (r : eR) (st : List eV) (σ : eH) : Option (List eV × eH) :=
  if r.2.1 ≤ st.length ∧ ((st.drop r.2.1).map e_cat).sum ≤ 8 ∧ e_rcv r.2.2.1 (st.take r.2.1).reverse σ = true then (call r.1 (st.take r.2.1).reverse σ).map fun q => (q.1.toList ++ st.drop r.2.1, q.2) else none
def e_acp (st : List eV) (σ : eH) : Option (List eV × eH) := match st with
  | .inl n :: .inl dp :: .inr (.inr (b + 2)) :: .inl sp :: .inr (.inr (a + 2)) :: t => if (σ.2.2.1 a).1 = 20 ∧ (σ.2.2.1 b).1 = 20 ∧ 0 ≤ e_w32 n ∧ 0 ≤ e_w32 dp ∧ 0 ≤ e_w32 sp ∧ e_w32 sp + e_w32 n ≤ (σ.2.2.1 a).2 ∧ e_w32 dp + e_w32 n ≤ (σ.2.2.1 b).2 ∧ (t.map e_cat).sum ≤ 8 then some (t, e_cpy σ a b (e_w32 sp).toNat (e_w32 dp).toNat (e_w32 n).toNat) else none
  | _ => none
/-- which call: 0 a static method, 1 a constructor, 2 a nest mate's, 20 + c a method of class c; 10 arraycopy; 11 Object.<init>; 12, 13, 14 Math.max, min, abs -/
def e_inv (call : eF) (r : eR) (st : List eV) (σ : eH) : Option (List eV × eH) :=
  if r.2.2.1 = 10 then e_acp st σ else if r.2.2.1 = 11 then (match st with
    | .inr (.inr (_ + 2)) :: t => if (t.map e_cat).sum ≤ 8 then some (t, σ) else none
    | _ => none) else if r.2.2.1 = 12 then (match st with
    | .inl y :: .inl x :: t => if (t.map e_cat).sum ≤ 8 then some (.inl (if e_w32 x < e_w32 y then y else x) :: t, σ) else none
    | _ => none) else if r.2.2.1 = 13 then (match st with
    | .inl y :: .inl x :: t => if (t.map e_cat).sum ≤ 8 then some (.inl (if e_w32 y < e_w32 x then y else x) :: t, σ) else none
    | _ => none) else if r.2.2.1 = 14 then (match st with
    | .inl x :: t => if (t.map e_cat).sum ≤ 8 then some (.inl (if 0 ≤ e_w32 x then x else -x) :: t, σ) else none
    | _ => none) else e_call call r st σ
def e_isr (ins : Instr) : Bool := match ins with
  | .ireturn => true
  | .lreturn => true
  | .areturn => true
  | .return_ => true
  | _ => false
def e_isc (ins : Instr) : Bool := match ins with
  | .invokevirtual _ => true
  | .invokespecial _ => true
  | .invokestatic _ => true
  | _ => false
def e_rt (ins : Instr) (r : eR) (st : List eV) : Option (Option eV) := match ins with
  | .ireturn => (match st with | [.inl x] => if r.1 = 0 ∨ r.1 = 1 ∧ (x = 0 ∨ x = 1) ∨ r.1 = 2 ∧ 0 ≤ x ∧ x < 128 then some (some (.inl x)) else none | _ => none)
  | .lreturn => (match st with | [.inr (.inl x)] => some (some (.inr (.inl x))) | _ => none)
  | .areturn => (match st with | [.inr (.inr x)] => some (some (.inr (.inr x))) | _ => none)
  | .return_ => (match st with | [] => some none | _ => none)
  | _ => none
def e_run (call : eF) (cd : List (Option eI)) : Nat → Nat → eL → List eV → eH → Option (Option eV × eH)
  | 0, _, _, _, _ => none
  | f + 1, pc, ls, st, σ => match cd[pc]? with
    | some (some e) => if e_isr e.1 then (e_rt e.1 e.2.2 st).map fun v => (v, σ)
      else if e_isc e.1 then (e_inv call e.2.2 st σ).bind fun q => e_run call cd f (pc + 3) ls q.1 q.2
      else (e_stp e.1 e.2.2 pc ls st σ).bind fun q => e_run call cd f q.1 q.2.1 q.2.2.1 q.2.2.2
    | _ => none
def e_cal (cs : List (Nat × List (Option eI))) : Nat → Nat → eF
  | 0, _, _, _, _ => none
  | d + 1, f, i, vs, σ => match cs[i]? with
    | some q => if (vs.map e_cat).sum ≤ q.1 then e_run (e_cal cs d f) q.2 f 0 (e_ent q.1 vs) [] σ else none
    | none => none
