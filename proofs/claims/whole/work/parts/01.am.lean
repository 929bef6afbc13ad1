/-! A small machine of my own over whole numbers: values, a store by kinds, one instruction (am_step), runs (am_run), and what must be shown of a stretch of code (am_wp). Part 04 and on tie it to the machine of the Statement. -/
abbrev am_R : Type := Nat × Nat × Nat
abbrev am_V : Type := Int ⊕ (Int ⊕ Option am_R)
abbrev qi (x : Int) : am_V := .inl x
abbrev ql (x : Int) : am_V := .inr (.inl x)
abbrev qo (r : Option am_R) : am_V := .inr (.inr r)
abbrev qr (r : am_R) : am_V := .inr (.inr (some r))
/-- ints and longs; references; of each cell its tag and length; how many cells; how many places in all -/
abbrev am_S : Type := (Nat → Nat → Int) × (Nat → Nat → Option am_R) × (Nat → Nat × Nat) × Nat × Nat
abbrev am_L : Type := List (Option am_V)
def sI (σ : am_S) (a j : Nat) : Int := σ.1 a j
def sR (σ : am_S) (a j : Nat) : Option am_R := σ.2.1 a j
def sT (σ : am_S) (a : Nat) : Nat × Nat := σ.2.2.1 a
def sN (σ : am_S) : Nat := σ.2.2.2.1
def sU (σ : am_S) : Nat := σ.2.2.2.2
def putI (σ : am_S) (a j : Nat) (v : Int) : am_S := (fun x y => if x = a ∧ y = j then v else σ.1 x y, σ.2)
def putR (σ : am_S) (a j : Nat) (v : Option am_R) : am_S := (σ.1, fun x y => if x = a ∧ y = j then v else σ.2.1 x y, σ.2.2)
/-- the whole contents of a cell -/
def rowI (σ : am_S) (a : Nat) (f : Nat → Int) : am_S := (fun x y => if x = a then f y else σ.1 x y, σ.2)
def newC (σ : am_S) (tag len : Nat) : am_S :=
  (fun x y => if x = σ.2.2.2.1 then 0 else σ.1 x y, fun x y => if x = σ.2.2.2.1 then none else σ.2.1 x y,
   fun x => if x = σ.2.2.2.1 then (tag, len) else σ.2.2.1 x, σ.2.2.2.1 + 1, σ.2.2.2.2 + len)
def cpyF (f g : Nat → Int) (sp dp n : Nat) : Nat → Int := fun j => if dp ≤ j ∧ j < dp + n then f (sp + (j - dp)) else g j
def cpyI (σ : am_S) (a : Nat) (sp : Int) (b : Nat) (dp n : Int) : am_S := rowI σ b (cpyF (sI σ a) (sI σ b) sp.toNat dp.toNat n.toNat)
def rg (o : Option am_R) : am_R := o.getD (0, 99, 0)
def w32 (x : Int) : Int := (x + 2147483648) % 4294967296 - 2147483648
def w64 (x : Int) : Int := (x + 9223372036854775808) % 18446744073709551616 - 9223372036854775808
def a_and (a b : Int) : Int := (Int32.ofInt a &&& Int32.ofInt b).toInt
def a_or (a b : Int) : Int := (Int32.ofInt a ||| Int32.ofInt b).toInt
def a_xor (a b : Int) : Int := (Int32.ofInt a ^^^ Int32.ofInt b).toInt
def a_shl (a b : Int) : Int := (Int32.ofInt a <<< (Int32.ofInt b &&& 31)).toInt
def a_shr (a b : Int) : Int := (Int32.ofInt a >>> (Int32.ofInt b &&& 31)).toInt
def a_ushr (a b : Int) : Int := (((Int32.ofInt a).toUInt32 >>> ((Int32.ofInt b).toUInt32 &&& Int32.toUInt32 31)).toInt32).toInt
def a_land (a b : Int) : Int := (Int64.ofInt a &&& Int64.ofInt b).toInt
def a_lor (a b : Int) : Int := (Int64.ofInt a ||| Int64.ofInt b).toInt
def a_lxor (a b : Int) : Int := (Int64.ofInt a ^^^ Int64.ofInt b).toInt
def a_lshl (a b : Int) : Int := (Int64.ofInt a <<< ((Int32.ofInt b).toInt64 &&& 63)).toInt
def a_lshr (a b : Int) : Int := (Int64.ofInt a >>> ((Int32.ofInt b).toInt64 &&& 63)).toInt
def a_lushr (a b : Int) : Int := (((Int64.ofInt a).toUInt64 >>> ((Int32.ofInt b).toInt64.toUInt64 &&& Int64.toUInt64 63)).toInt64).toInt
def a_cmp (a b : Int) : Int := if a < b then -1 else if a = b then 0 else 1
/-- what comes behind an instruction: on with the method; an answer; a call -/
abbrev am_O : Type := (Nat × am_L × List am_V × am_S) ⊕ (Option am_V ⊕ (Nat × List am_V × Nat × Nat × am_L × List am_V))
abbrev am_Q : Type := Option Prop × List (Prop × am_O) × am_O
/-- an instruction with what it links: (instruction, its place in the code, x1, x2, x3, number, targets, a loop's head) -/
abbrev am_I : Type := Instr × Nat × Nat × Nat × Nat × Int × List Nat × Bool
def am_nx (i : Nat) (ls : am_L) (st : List am_V) (σ : am_S) : Option am_Q := some (none, [], .inl (i, ls, st, σ))
def am_gd (g : Prop) (i : Nat) (ls : am_L) (st : List am_V) (σ : am_S) : Option am_Q := some (some g, [], .inl (i, ls, st, σ))
def am_br (c : Prop) (i j : Nat) (ls : am_L) (st : List am_V) (σ : am_S) : Option am_Q := some (none, [(c, .inl (i, ls, st, σ))], .inl (j, ls, st, σ))
def am_get (ls : am_L) (k : Nat) : Option am_V := ls.getD k none
def am_isL : Option am_V → Bool
  | some (.inr (.inl _)) => true
  | _ => false
def am_cl (x : Option am_V) : Option am_V := match am_isL x with
  | true => none
  | false => x
def am_st1 : am_L → Nat → am_V → am_L
  | [], _, _ => []
  | _ :: t, 0, v => some v :: t
  | x :: t, 1, v => am_cl x :: am_st1 t 0 v
  | x :: t, i + 2, v => x :: am_st1 t (i + 1) v
def am_st2 : am_L → Nat → am_V → am_L
  | [], _, _ => []
  | _ :: t, 0, v => some v :: t.set 0 none
  | x :: t, 1, v => am_cl x :: am_st2 t 0 v
  | x :: t, i + 2, v => x :: am_st2 t (i + 1) v
def am_i1 (st : List am_V) (f : Int → List am_V → Option am_Q) : Option am_Q := match st with
  | .inl a :: t => f a t
  | _ => none
def am_i2 (st : List am_V) (f : Int → Int → List am_V → Option am_Q) : Option am_Q := match st with
  | .inl b :: .inl a :: t => f a b t
  | _ => none
def am_l1 (st : List am_V) (f : Int → List am_V → Option am_Q) : Option am_Q := match st with
  | .inr (.inl a) :: t => f a t
  | _ => none
def am_l2 (st : List am_V) (f : Int → Int → List am_V → Option am_Q) : Option am_Q := match st with
  | .inr (.inl b) :: .inr (.inl a) :: t => f a b t
  | _ => none
def am_li (st : List am_V) (f : Int → Int → List am_V → Option am_Q) : Option am_Q := match st with
  | .inl b :: .inr (.inl a) :: t => f a b t
  | _ => none
def am_o1 (st : List am_V) (f : Option am_R → List am_V → Option am_Q) : Option am_Q := match st with
  | .inr (.inr o) :: t => f o t
  | _ => none
def am_oi (st : List am_V) (f : Option am_R → Int → List am_V → Option am_Q) : Option am_Q := match st with
  | .inl j :: .inr (.inr o) :: t => f o j t
  | _ => none
def am_cat : am_V → Nat
  | .inr (.inl _) => 2
  | _ => 1
def am_cats : List am_V → Nat
  | [] => 0
  | v :: t => am_cat v + am_cats t
def am_if (i j : Nat) (k : Jvm.ClassFile.Cond) (a b : Int) (ls : am_L) (st : List am_V) (σ : am_S) : Option am_Q := match k with
  | .eq => am_br (a = b) j (i + 1) ls st σ
  | .ne => am_br (a = b) (i + 1) j ls st σ
  | .lt => am_br (a < b) j (i + 1) ls st σ
  | .ge => am_br (b ≤ a) j (i + 1) ls st σ
  | .gt => am_br (b < a) j (i + 1) ls st σ
  | .le => am_br (a ≤ b) j (i + 1) ls st σ
def am_sw (x : Int) (ls : am_L) (st : List am_V) (σ : am_S) : Int → List Nat → List (Prop × am_O)
  | _, [] => []
  | n, t :: ts => (x = n, .inl (t, ls, st, σ)) :: am_sw x ls st σ (n + 1) ts
def am_lk (x : Int) (ls : am_L) (st : List am_V) (σ : am_S) : List (Int × Int) → List Nat → List (Prop × am_O)
  | q :: qs, t :: ts => (x = q.1, .inl (t, ls, st, σ)) :: am_lk x ls st σ qs ts
  | _, _ => []
/-- a call's end: which guard, which method, how many arguments -/
def am_call (g : Option Prop) (e : am_I) (i : Nat) (ls : am_L) (st : List am_V) : Option am_Q :=
  match Nat.ble (am_cats (st.drop e.2.2.2.1)) 8 && Nat.ble e.2.2.2.1 st.length with
  | true => some (g, [], .inr (.inr (e.2.2.1, (st.take e.2.2.2.1).reverse, e.2.2.2.2.1, i + 1, ls, st.drop e.2.2.2.1)))
  | false => none
def am_recv (n : Nat) (st : List am_V) : Option am_R := match st.drop (n - 1) with
  | .inr (.inr o) :: _ => o
  | _ => none
def am_copy (i : Nat) (ls : am_L) (st : List am_V) (σ : am_S) : Option am_Q := match st with
  | .inl n :: .inl dp :: .inr (.inr b) :: .inl sp :: .inr (.inr a) :: t =>
    match Nat.ble (am_cats t) 8 with
    | true => am_gd (((rg a).2.1 = 20 ∨ (rg a).2.1 = 21) ∧ (rg b).2.1 = (rg a).2.1 ∧ 0 ≤ sp ∧ 0 ≤ dp ∧ 0 ≤ n ∧ sp + n ≤ (rg a).2.2 ∧ dp + n ≤ (rg b).2.2) (i + 1) ls t (cpyI σ (rg a).1 sp (rg b).1 dp n)
    | false => none
  | _ => none
def am_objI (i : Nat) (ls : am_L) (st : List am_V) (σ : am_S) : Option am_Q := match st with
  | .inr (.inr (some _)) :: t =>
    match Nat.ble (am_cats t) 8 with
    | true => am_nx (i + 1) ls t σ
    | false => none
  | _ => none
def am_put (e : am_I) (i : Nat) (ls : am_L) (st : List am_V) (σ : am_S) : Option am_Q := match e.2.2.2.2.1, st with
  | 0, .inl v :: .inr (.inr o) :: t => am_gd ((rg o).2.1 = e.2.2.1) (i + 1) ls t (putI σ (rg o).1 e.2.2.2.1 v)
  | 1, .inl v :: .inr (.inr o) :: t => am_gd ((rg o).2.1 = e.2.2.1 ∧ (v = 0 ∨ v = 1)) (i + 1) ls t (putI σ (rg o).1 e.2.2.2.1 v)
  | 3, .inr (.inr v) :: .inr (.inr o) :: t => am_gd ((rg o).2.1 = e.2.2.1) (i + 1) ls t (putR σ (rg o).1 e.2.2.2.1 v)
  | _, _ => none
def am_fld (e : am_I) (σ : am_S) (a : Nat) : am_V := match e.2.2.2.2.1 with
  | 3 => qo (sR σ a e.2.2.2.1)
  | _ => qi (sI σ a e.2.2.2.1)
def am_ild (e : am_I) (i k : Nat) (ls : am_L) (st : List am_V) (σ : am_S) : Option am_Q := match am_get ls k with
  | some (.inl x) => am_nx (i + 1) ls (qi x :: st) σ
  | _ => none
def am_lld (e : am_I) (i k : Nat) (ls : am_L) (st : List am_V) (σ : am_S) : Option am_Q := match am_get ls k with
  | some (.inr (.inl x)) => am_nx (i + 1) ls (ql x :: st) σ
  | _ => none
def am_ald (e : am_I) (i k : Nat) (ls : am_L) (st : List am_V) (σ : am_S) : Option am_Q := match am_get ls k with
  | some (.inr (.inr o)) => am_nx (i + 1) ls (qo o :: st) σ
  | _ => none
def am_dup (i : Nat) (ls : am_L) (st : List am_V) (σ : am_S) : Option am_Q := match st with
  | .inr (.inl _) :: _ => none
  | v :: t => am_nx (i + 1) ls (v :: v :: t) σ
  | _ => none
def am_dup2 (i : Nat) (ls : am_L) (st : List am_V) (σ : am_S) : Option am_Q := match st with
  | .inr (.inl x) :: t => am_nx (i + 1) ls (ql x :: ql x :: t) σ
  | .inl x :: .inl y :: t => am_nx (i + 1) ls (qi x :: qi y :: qi x :: qi y :: t) σ
  | .inl x :: .inr (.inr y) :: t => am_nx (i + 1) ls (qi x :: qo y :: qi x :: qo y :: t) σ
  | _ => none
def am_rt (t : List am_V) (q : Option am_Q) : Option am_Q := match t with
  | [] => q
  | _ => none
def am_step (e : am_I) (i : Nat) (ls : am_L) (st : List am_V) (σ : am_S) : Option am_Q := match e.1 with
  | .iconst _ => am_nx (i + 1) ls (qi e.2.2.2.2.2.1 :: st) σ
  | .bipush _ => am_nx (i + 1) ls (qi e.2.2.2.2.2.1 :: st) σ
  | .sipush _ => am_nx (i + 1) ls (qi e.2.2.2.2.2.1 :: st) σ
  | .ldc _ => am_nx (i + 1) ls (qi e.2.2.2.2.2.1 :: st) σ
  | .ldc_w _ => am_nx (i + 1) ls (qi e.2.2.2.2.2.1 :: st) σ
  | .ldc2_w _ => am_nx (i + 1) ls (ql e.2.2.2.2.2.1 :: st) σ
  | .lconst _ => am_nx (i + 1) ls (ql e.2.2.2.2.2.1 :: st) σ
  | .aconst_null => am_nx (i + 1) ls (qo none :: st) σ
  | .iload k => am_ild e i k ls st σ
  | .iload_n k => am_ild e i k.val ls st σ
  | .lload k => am_lld e i k ls st σ
  | .lload_n k => am_lld e i k.val ls st σ
  | .aload k => am_ald e i k ls st σ
  | .aload_n k => am_ald e i k.val ls st σ
  | .istore k => am_i1 st fun a t => am_nx (i + 1) (am_st1 ls k (qi a)) t σ
  | .istore_n k => am_i1 st fun a t => am_nx (i + 1) (am_st1 ls k.val (qi a)) t σ
  | .lstore k => am_l1 st fun a t => am_nx (i + 1) (am_st2 ls k (ql a)) t σ
  | .lstore_n k => am_l1 st fun a t => am_nx (i + 1) (am_st2 ls k.val (ql a)) t σ
  | .astore k => am_o1 st fun a t => am_nx (i + 1) (am_st1 ls k (qo a)) t σ
  | .astore_n k => am_o1 st fun a t => am_nx (i + 1) (am_st1 ls k.val (qo a)) t σ
  | .iinc k n => match am_get ls k with
    | some (.inl x) => am_nx (i + 1) (am_st1 ls k (qi (w32 (x + n)))) st σ
    | _ => none
  | .dup => am_dup i ls st σ
  | .dup2 => am_dup2 i ls st σ
  | .iadd => am_i2 st fun a b t => am_nx (i + 1) ls (qi (w32 (a + b)) :: t) σ
  | .isub => am_i2 st fun a b t => am_nx (i + 1) ls (qi (w32 (a - b)) :: t) σ
  | .imul => am_i2 st fun a b t => am_nx (i + 1) ls (qi (w32 (a * b)) :: t) σ
  | .idiv => am_i2 st fun a b t => am_gd (b ≠ 0) (i + 1) ls (qi (w32 (a.tdiv b)) :: t) σ
  | .irem => am_i2 st fun a b t => am_gd (b ≠ 0) (i + 1) ls (qi (a.tmod b) :: t) σ
  | .ineg => am_i1 st fun a t => am_nx (i + 1) ls (qi (w32 (-a)) :: t) σ
  | .iand => am_i2 st fun a b t => am_nx (i + 1) ls (qi (a_and a b) :: t) σ
  | .ior => am_i2 st fun a b t => am_nx (i + 1) ls (qi (a_or a b) :: t) σ
  | .ixor => am_i2 st fun a b t => am_nx (i + 1) ls (qi (a_xor a b) :: t) σ
  | .ishl => am_i2 st fun a b t => am_nx (i + 1) ls (qi (a_shl a b) :: t) σ
  | .ishr => am_i2 st fun a b t => am_nx (i + 1) ls (qi (a_shr a b) :: t) σ
  | .iushr => am_i2 st fun a b t => am_nx (i + 1) ls (qi (a_ushr a b) :: t) σ
  | .ladd => am_l2 st fun a b t => am_nx (i + 1) ls (ql (w64 (a + b)) :: t) σ
  | .lsub => am_l2 st fun a b t => am_nx (i + 1) ls (ql (w64 (a - b)) :: t) σ
  | .lmul => am_l2 st fun a b t => am_nx (i + 1) ls (ql (w64 (a * b)) :: t) σ
  | .land => am_l2 st fun a b t => am_nx (i + 1) ls (ql (a_land a b) :: t) σ
  | .lor => am_l2 st fun a b t => am_nx (i + 1) ls (ql (a_lor a b) :: t) σ
  | .lxor => am_l2 st fun a b t => am_nx (i + 1) ls (ql (a_lxor a b) :: t) σ
  | .lshl => am_li st fun a b t => am_nx (i + 1) ls (ql (a_lshl a b) :: t) σ
  | .lshr => am_li st fun a b t => am_nx (i + 1) ls (ql (a_lshr a b) :: t) σ
  | .lushr => am_li st fun a b t => am_nx (i + 1) ls (ql (a_lushr a b) :: t) σ
  | .lcmp => am_l2 st fun a b t => am_nx (i + 1) ls (qi (a_cmp a b) :: t) σ
  | .i2l => am_i1 st fun a t => am_nx (i + 1) ls (ql a :: t) σ
  | .l2i => am_l1 st fun a t => am_nx (i + 1) ls (qi (w32 a) :: t) σ
  | .goto _ => am_nx e.2.2.1 ls st σ
  | .ifCond k _ => am_i1 st fun a t => am_if i e.2.2.1 k a 0 ls t σ
  | .if_icmp k _ => am_i2 st fun a b t => am_if i e.2.2.1 k a b ls t σ
  | .ifnull _ => am_o1 st fun o t => am_br (o = none) e.2.2.1 (i + 1) ls t σ
  | .tableswitch _ lo _ _ => am_i1 st fun a t => some (none, am_sw a ls t σ lo e.2.2.2.2.2.2.1, .inl (e.2.2.1, ls, t, σ))
  | .lookupswitch _ ps => am_i1 st fun a t => some (none, am_lk a ls t σ ps.toList e.2.2.2.2.2.2.1, .inl (e.2.2.1, ls, t, σ))
  | .getfield _ => am_o1 st fun o t => am_gd ((rg o).2.1 = e.2.2.1) (i + 1) ls (am_fld e σ (rg o).1 :: t) σ
  | .putfield _ => am_put e i ls st σ
  | .getstatic _ => am_nx (i + 1) ls (qr (1, 24, 7) :: st) σ
  | .new _ => am_nx (i + 1) ls (qr (sN σ, e.2.2.1, e.2.2.2.1) :: st) (newC σ e.2.2.1 e.2.2.2.1)
  | .newarray _ => am_i1 st fun n t => am_gd (0 ≤ n ∧ n ≤ 1000000) (i + 1) ls (qr (sN σ, e.2.2.1, n.toNat) :: t) (newC σ e.2.2.1 n.toNat)
  | .anewarray _ => am_i1 st fun n t => am_gd (0 ≤ n ∧ n ≤ 1000000) (i + 1) ls (qr (sN σ, e.2.2.1, n.toNat) :: t) (newC σ e.2.2.1 n.toNat)
  | .arraylength => am_o1 st fun o t => am_gd (20 ≤ (rg o).2.1 ∧ (rg o).2.1 < 25) (i + 1) ls (qi (rg o).2.2 :: t) σ
  | .iaload => am_oi st fun o j t => am_gd ((rg o).2.1 = e.2.2.1 ∧ 0 ≤ j ∧ j < (rg o).2.2) (i + 1) ls (qi (sI σ (rg o).1 j.toNat) :: t) σ
  | .laload => am_oi st fun o j t => am_gd ((rg o).2.1 = 21 ∧ 0 ≤ j ∧ j < (rg o).2.2) (i + 1) ls (ql (sI σ (rg o).1 j.toNat) :: t) σ
  | .aaload => am_oi st fun o j t => am_gd ((rg o).2.1 = e.2.2.1 ∧ 0 ≤ j ∧ j < (rg o).2.2) (i + 1) ls (qo (sR σ (rg o).1 j.toNat) :: t) σ
  | .iastore => am_i1 st fun v t => am_oi t fun o j t => am_gd ((rg o).2.1 = 20 ∧ 0 ≤ j ∧ j < (rg o).2.2) (i + 1) ls t (putI σ (rg o).1 j.toNat v)
  | .lastore => am_l1 st fun v t => am_oi t fun o j t => am_gd ((rg o).2.1 = 21 ∧ 0 ≤ j ∧ j < (rg o).2.2) (i + 1) ls t (putI σ (rg o).1 j.toNat v)
  | .aastore => am_o1 st fun v t => am_oi t fun o j t => am_gd ((rg o).2.1 = e.2.2.1 ∧ 0 ≤ j ∧ j < (rg o).2.2 ∧ (rg v).2.1 = e.2.2.2.1) (i + 1) ls t (putR σ (rg o).1 j.toNat v)
  | .ireturn => am_i1 st fun v t => am_rt t (match e.2.2.1 with
    | 1 => some (some (v = 0 ∨ v = 1), [], .inr (.inl (some (qi v))))
    | _ => some (none, [], .inr (.inl (some (qi v)))))
  | .lreturn => am_l1 st fun v t => am_rt t (some (none, [], .inr (.inl (some (ql v)))))
  | .areturn => am_o1 st fun v t => am_rt t (some (none, [], .inr (.inl (some (qo v)))))
  | .return_ => am_rt st (some (none, [], .inr (.inl none)))
  | .invokestatic _ => match e.2.2.2.2.2.1 with
    | 1 => am_copy i ls st σ
    | _ => am_call none e i ls st
  | .invokespecial _ => match e.2.2.2.2.2.1 with
    | 1 => am_objI i ls st σ
    | _ => am_call (some ((rg (am_recv e.2.2.2.1 st)).2.1 = e.2.2.2.2.2.1.toNat - 100)) e i ls st
  | .invokevirtual _ => am_call (some ((rg (am_recv e.2.2.2.1 st)).2.1 = e.2.2.2.2.2.1.toNat)) e i ls st
  | _ => none
