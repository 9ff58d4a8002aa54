abbrev zPE : Type := Nat × Nat × Nat × Nat × Nat × Int
abbrev zIns : Type := Nat × Instr × Nat
def zcc (c : Nat) : Option Nat := match c with
  | 0 => none
  | n + 1 => some n
/-- which index a jump from pc leads to -/
def ztg (is : List zIns) (pc : Nat) (off : Int) : Nat := is.findIdx (fun q => decide ((q.1 : Int) = (pc : Int) + off))
def zcI (cd : ClassFile.Cond) : Int32 → Int32 → Bool := match cd with
  | .eq => fun x y => decide (x = y)
  | .ne => fun x y => decide (x ≠ y)
  | .lt => fun x y => decide (x < y)
  | .ge => fun x y => decide (y ≤ x)
  | .gt => fun x y => decide (y < x)
  | .le => fun x y => decide (x ≤ y)
def zc0 (cd : ClassFile.Cond) : Int32 → Bool := match cd with
  | .eq => fun x => decide (x = 0)
  | .ne => fun x => decide (x ≠ 0)
  | .lt => fun x => decide (x < 0)
  | .ge => fun x => decide (0 ≤ x)
  | .gt => fun x => decide (0 < x)
  | .le => fun x => decide (x ≤ 0)
def zsCall (e : zPE) : Option zSem := match e with
  | (3, m, n, 0, c, v) => some (sCV m n (zcc c) v.toNat)
  | (3, m, n, 1, c, v) => some (sCI m n (zcc c) v.toNat)
  | (3, m, n, 2, c, v) => some (sCL m n (zcc c) v.toNat)
  | (3, m, n, 3, c, v) => some (sCR m n (zcc c) v.toNat)
  | (10, _) => some (sWr wCp)
  | (11, _) => some (sP (fMM zmax))
  | (12, _) => some (sP (fMM zmin))
  | (13, _) => some (sRI gSn)
  | (14, _) => some (sRI gSc)
  | (9, _) => some (sP fObj)
  | _ => none
/-- what an instruction does; 'pl': the class's pool, 'tg': a jump's index, 'rz': the method answers a boolean -/
def zsem (tb : List (List Nat)) (pl : Nat → Option zPE) (tg : Int → Nat) (rz : Bool) (ins : Instr) : Option zSem := match ins with
  | .iconst n => some (sP (fCon n))
  | .bipush n => some (sP (fCon n))
  | .sipush n => some (sP (fCon n))
  | .lconst n => some (sP (fLon (n.val : Int)))
  | .aconst_null => some (sP (fRef none))
  | .ldc i => match pl i with
    | some (5, _, _, _, _, v) => some (sP (fCon v))
    | some (7, a, _) => some (sP (fRef (some a)))
    | _ => none
  | .ldc_w i => match pl i with
    | some (5, _, _, _, _, v) => some (sP (fCon v))
    | _ => none
  | .ldc2_w i => match pl i with
    | some (6, _, _, _, _, v) => some (sP (fLon v))
    | _ => none
  | .iload k => some (sP (fIld k))
  | .iload_n k => some (sP (fIld k.val))
  | .aload k => some (sP (fAld k))
  | .aload_n k => some (sP (fAld k.val))
  | .lload k => some (sP (fLld k))
  | .lload_n k => some (sP (fLld k.val))
  | .istore k => some (sP (fIst k))
  | .istore_n k => some (sP (fIst k.val))
  | .astore k => some (sP (fAst k))
  | .astore_n k => some (sP (fAst k.val))
  | .lstore k => some (sP (fLst k))
  | .lstore_n k => some (sP (fLst k.val))
  | .iinc k n => some (sP (fInc k n))
  | .iadd => some (sP (fII (fun x y => x + y)))
  | .isub => some (sP (fII (fun x y => x - y)))
  | .imul => some (sP (fII (fun x y => x * y)))
  | .iand => some (sP (fII (fun x y => x &&& y)))
  | .ior => some (sP (fII (fun x y => x ||| y)))
  | .ixor => some (sP (fII (fun x y => x ^^^ y)))
  | .ishl => some (sP (fII zshl))
  | .ishr => some (sP (fII zshr))
  | .iushr => some (sP (fII zushr))
  | .ineg => some (sP (fI1 (fun x => -x)))
  | .i2b => some (sP (fI1 zi2b))
  | .i2l => some (sP fIL)
  | .idiv => some (sRI (gDiv (fun x y => x / y)))
  | .irem => some (sRI (gDiv zrem))
  | .ladd => some (sP (fLL (fun x y => x + y)))
  | .lsub => some (sP (fLL (fun x y => x - y)))
  | .lmul => some (sP (fLL (fun x y => x * y)))
  | .ldiv => some (sDL (fun x y => x / y))
  | .lrem => some (sDL zremL)
  | .lcmp => some (sP fLc)
  | .dup => some (sP fDup)
  | .dup2 => some (sP fDup2)
  | .pop => some (sP fPop)
  | .getfield i => match pl i with
    | some (0, k, _) => some (sRI (gFI k))
    | some (2, k, _) => some (sRI (gFI k))
    | some (1, k, _) => some (sRR (gFR k))
    | _ => none
  | .putfield i => match pl i with
    | some (0, k, _) => some (sWr (wFI k))
    | some (2, k, _) => some (sWr (wFZ k))
    | some (1, k, _) => some (sWr (wFR k))
    | _ => none
  | .getstatic i => match pl i with
    | some (8, a, _) => some (sP (fRef (some a)))
    | _ => none
  | .iaload => some (sRI gAI)
  | .baload => some (sRI gAB)
  | .aaload => some (sRR gAR)
  | .arraylength => some (sRI gAN)
  | .iastore => some (sWr wAI)
  | .bastore => some (sWr wAB)
  | .aastore => some (sWr wAR)
  | .new i => match pl i with
    | some (4, c, _) => some (sNw (nO tb c))
    | _ => none
  | .newarray .int => some (sNA (znA 0))
  | .newarray .byte => some (sNA (znA 1))
  | .newarray .boolean => some (sNA (znA 2))
  | .anewarray i => match pl i with
    | some (4, c, _) => some (sNA (znQ c))
    | _ => none
  | .if_icmp cd off => some (sBr (c2 (zcI cd)) (tg off))
  | .ifCond cd off => some (sBr (c1 (zc0 cd)) (tg off))
  | .ifnull off => some (sBr (cN (fun r => r.isNone)) (tg off))
  | .ifnonnull off => some (sBr (cN (fun r => r.isSome)) (tg off))
  | .goto off => some (sGo (tg off))
  | .tableswitch d lo _ offs => some (sSw (offs.toList.zipIdx.map (fun q => (lo + (q.2 : Int), tg q.1))) (tg d))
  | .lookupswitch d ps => some (sSw (ps.toList.map (fun q => (q.1, tg q.2))) (tg d))
  | .invokestatic i => match pl i with
    | some e => zsCall e
    | none => none
  | .invokevirtual i => match pl i with
    | some e => zsCall e
    | none => none
  | .invokespecial i => match pl i with
    | some e => zsCall e
    | none => none
  | .ireturn => match rz with
    | true => some sRz
    | false => some (sRet rI)
  | .lreturn => some (sRet rL)
  | .areturn => some (sRet rR)
  | .return_ => some (sRet rV)
  | _ => none
