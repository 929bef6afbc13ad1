/-! each row of the code tables against the bytes, and what it links -/
def ilen (e : am_I) : Nat := match e.1 with
  | .iload _ => 2 | .lload _ => 2 | .aload _ => 2 | .istore _ => 2 | .lstore _ => 2 | .astore _ => 2
  | .bipush _ => 2 | .sipush _ => 3 | .ldc _ => 2 | .ldc_w _ => 3 | .ldc2_w _ => 3 | .iinc _ _ => 3
  | .goto _ => 3 | .ifCond _ _ => 3 | .if_icmp _ _ => 3 | .ifnull _ => 3 | .getfield _ => 3 | .putfield _ => 3 | .getstatic _ => 3
  | .new _ => 3 | .newarray _ => 2 | .anewarray _ => 3 | .invokestatic _ => 3 | .invokespecial _ => 3 | .invokevirtual _ => 3
  | .tableswitch _ _ _ _ => e.2.2.2.1 | .lookupswitch _ _ => e.2.2.2.1
  | _ => 1
def pcA (m i : Nat) : Nat := match (am_code m)[i]? with
  | some e => e.2.1
  | none => 0
def tyc : FieldType → Nat
  | .int => 0
  | .boolean => 1
  | .long => 2
  | _ => 3
def isRt : Option FieldType → Bool
  | some (.object _) => true
  | some (.array _) => true
  | _ => false
def chkJ (m i : Nat) (e : am_I) : Bool := match e.1 with
  | .goto o => decide ((e.2.1 : Int) + o = (pcA m e.2.2.1 : Nat))
  | .ifCond _ o => decide ((e.2.1 : Int) + o = (pcA m e.2.2.1 : Nat)) && decide (pcA m (i + 1) = e.2.1 + 3)
  | .if_icmp _ o => decide ((e.2.1 : Int) + o = (pcA m e.2.2.1 : Nat)) && decide (pcA m (i + 1) = e.2.1 + 3)
  | .ifnull o => decide ((e.2.1 : Int) + o = (pcA m e.2.2.1 : Nat)) && decide (pcA m (i + 1) = e.2.1 + 3)
  | .tableswitch dd lo hi offs => decide ((e.2.1 : Int) + dd = (pcA m e.2.2.1 : Nat)) && decide (hi = lo + (e.2.2.2.2.2.2.1.length : Nat) - 1) && decide (offs.toList.map (fun o => (e.2.1 : Int) + o) = e.2.2.2.2.2.2.1.map (fun t => ((pcA m t : Nat) : Int)))
  | .lookupswitch dd ps => decide ((e.2.1 : Int) + dd = (pcA m e.2.2.1 : Nat)) && decide (ps.toList.map (fun o => (e.2.1 : Int) + o.2) = e.2.2.2.2.2.2.1.map (fun t => ((pcA m t : Nat) : Int))) && (ps.toList.zip (ps.toList.drop 1)).all (fun (a, next) => a.1 < next.1) && ps.toList.all (fun q => decide (-2147483648 ≤ q.1 ∧ q.1 < 2147483648))
  | .ireturn => true
  | .lreturn => true
  | .areturn => true
  | .return_ => true
  | _ => decide (pcA m (i + 1) = e.2.1 + ilen e)
def chkW (m : Nat) (e : am_I) : Bool := match e.1 with
  | .iconst n => decide (e.2.2.2.2.2.1 = n ∧ -128 ≤ n ∧ n < 128)
  | .bipush n => decide (e.2.2.2.2.2.1 = n ∧ -128 ≤ n ∧ n < 128)
  | .sipush n => decide (e.2.2.2.2.2.1 = n ∧ -32768 ≤ n ∧ n < 32768)
  | .lconst n => decide (e.2.2.2.2.2.1 = (n.val : Nat))
  | .ldc x => KLs.any (fun q => Nat.beq q.1 (m_o m) && Nat.beq q.2.1 x && decide (q.2.2.1 = e.2.2.2.2.2.1)) && decide (-2147483648 ≤ e.2.2.2.2.2.1 ∧ e.2.2.2.2.2.1 < 2147483648)
  | .ldc_w x => KLs.any (fun q => Nat.beq q.1 (m_o m) && Nat.beq q.2.1 x && decide (q.2.2.1 = e.2.2.2.2.2.1)) && decide (-2147483648 ≤ e.2.2.2.2.2.1 ∧ e.2.2.2.2.2.1 < 2147483648)
  | .ldc2_w x => JLs.any (fun q => Nat.beq q.1 (m_o m) && Nat.beq q.2.1 x && decide (q.2.2.1 = e.2.2.2.2.2.1)) && decide (-9223372036854775808 ≤ e.2.2.2.2.2.1 ∧ e.2.2.2.2.2.1 < 9223372036854775808)
  | .istore k => Nat.blt k (MLL m)
  | .astore k => Nat.blt k (MLL m)
  | .lstore k => Nat.blt (k + 1) (MLL m)
  | .istore_n k => Nat.blt k.val (MLL m)
  | .astore_n k => Nat.blt k.val (MLL m)
  | .lstore_n k => Nat.blt (k.val + 1) (MLL m)
  | .iinc k n => Nat.blt k (MLL m) && decide (-32768 ≤ n ∧ n < 32768)
  | .getfield x => FLs.any (fun q => Nat.beq q.1 (m_o m) && Nat.beq q.2.1 x && Nat.beq q.2.2.1 e.2.2.1 && Nat.beq q.2.2.2.1 e.2.2.2.1) && Nat.blt e.2.2.1 13 && Nat.blt e.2.2.2.1 (cF e.2.2.1) && Nat.beq (tyc (cY e.2.2.1 e.2.2.2.1)) e.2.2.2.2.1 && !(Nat.beq e.2.2.2.2.1 2)
  | .putfield x => FLs.any (fun q => Nat.beq q.1 (m_o m) && Nat.beq q.2.1 x && Nat.beq q.2.2.1 e.2.2.1 && Nat.beq q.2.2.2.1 e.2.2.2.1) && Nat.blt e.2.2.1 13 && Nat.blt e.2.2.2.1 (cF e.2.2.1) && Nat.beq (tyc (cY e.2.2.1 e.2.2.2.1)) e.2.2.2.2.1 && (!(cT e.2.2.1 e.2.2.2.1).2.2.2 || (m_inis.contains m && Nat.beq (m_o m) e.2.2.1))
  | .getstatic x => Nat.beq (m_o m) 0 && Nat.beq x 43
  | .new x => NLs.any (fun q => Nat.beq q.1 (m_o m) && Nat.beq q.2.1 x && Nat.beq q.2.2.1 e.2.2.1) && Nat.blt e.2.2.1 13 && Nat.beq e.2.2.2.1 (cF e.2.2.1)
  | .newarray .int => Nat.beq e.2.2.1 20
  | .newarray .long => Nat.beq e.2.2.1 21
  | .newarray _ => false
  | .anewarray x => (NLs.any (fun q => Nat.beq q.1 (m_o m) && Nat.beq q.2.1 x && Nat.beq q.2.2.1 0) && Nat.beq e.2.2.1 22) || (NLs.any (fun q => Nat.beq q.1 (m_o m) && Nat.beq q.2.1 x && Nat.beq q.2.2.1 3) && Nat.beq e.2.2.1 23)
  | .iaload => Nat.beq e.2.2.1 20 || Nat.beq e.2.2.1 24
  | .aaload => Nat.beq e.2.2.1 22 || Nat.beq e.2.2.1 23
  | .aastore => (Nat.beq e.2.2.1 22 && Nat.beq e.2.2.2.1 0) || (Nat.beq e.2.2.1 23 && Nat.beq e.2.2.2.1 3)
  | .ireturn => (Nat.beq e.2.2.1 0 && decide (m_ret m = some .int)) || (Nat.beq e.2.2.1 1 && decide (m_ret m = some .boolean))
  | .lreturn => decide (m_ret m = some .long)
  | .areturn => isRt (m_ret m)
  | .return_ => decide (m_ret m = none)
  | .invokestatic x => (decide (e.2.2.2.2.2.1 = 1) && PLs.any (fun q => Nat.beq q.1 (m_o m) && Nat.beq q.2.1 x)) || (decide (e.2.2.2.2.2.1 = 0) && Nat.blt e.2.2.1 278 && Nat.beq e.2.2.2.1 (m_n e.2.2.1) && m_stats.contains e.2.2.1 && (SLs.any (fun q => Nat.beq q.1 (m_o m) && Nat.beq q.2.1 x && Nat.beq q.2.2.1 e.2.2.1) || TLs.any (fun q => Nat.beq q.1 (m_o m) && Nat.beq q.2.1 x && Nat.beq q.2.2.1 e.2.2.1)))
  | .invokespecial x => (decide (e.2.2.2.2.2.1 = 1) && OLs.any (fun q => Nat.beq q.1 (m_o m) && Nat.beq q.2.1 x)) || (decide (e.2.2.2.2.2.1 = 100 + (m_o e.2.2.1 : Nat)) && Nat.blt (m_o e.2.2.1) 13 && Nat.blt e.2.2.1 278 && Nat.beq e.2.2.2.1 (m_n e.2.2.1 + 1) && m_insts.contains e.2.2.1 && m_inis.contains e.2.2.1 && ILs.any (fun q => Nat.beq q.1 (m_o m) && Nat.beq q.2.1 x && Nat.beq q.2.2.1 e.2.2.1))
  | .invokevirtual x => decide (e.2.2.2.2.2.1 = (m_o e.2.2.1 : Nat)) && Nat.blt (m_o e.2.2.1) 13 && Nat.blt e.2.2.1 278 && Nat.beq e.2.2.2.1 (m_n e.2.2.1 + 1) && m_insts.contains e.2.2.1 && (m_pubs.contains e.2.2.1 || m_prvs.contains e.2.2.1) && VLs.any (fun q => Nat.beq q.1 (m_o m) && Nat.beq q.2.1 x && Nat.beq q.2.2.1 e.2.2.1)
  | _ => true
def chkD (m : Nat) (e : am_I) : Bool := decide (decode (m_bytes m) e.2.1 = .ok (e.1, ilen e))
def chkI (m i : Nat) (e : am_I) : Bool := match e.1 with
  | .nop => true
  | _ => chkJ m i e && chkW m e
def chkL (m : Nat) : Nat → List am_I → Bool
  | _, [] => true
  | i, e :: t => chkI m i e && chkL m (i + 1) t
def chkB (m : Nat) : List am_I → Bool
  | [] => true
  | e :: t => (match e.1 with | .nop => true | _ => chkD m e) && chkB m t
def chkM (m : Nat) : Bool := chkL m 0 (am_code m)
