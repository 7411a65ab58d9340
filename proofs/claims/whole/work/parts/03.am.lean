/-! the abstract machine: values, memory, steps -/
abbrev AV : Type := Int ⊕ (Nat ⊕ (Int ⊕ Unit))
abbrev vI (x : Int) : AV := .inl x
abbrev vR (a : Nat) : AV := .inr (.inl a)
abbrev vL (x : Int) : AV := .inr (.inr (.inl x))
abbrev vU : AV := .inr (.inr (.inr ()))
abbrev aSh : Type := List (Nat × Nat)
abbrev aSg : Type := Nat → Nat → Int
abbrev inI (x : Int) : Prop := -2147483648 ≤ x ∧ x ≤ 2147483647
abbrev inL (x : Int) : Prop := -9223372036854775808 ≤ x ∧ x ≤ 9223372036854775807
def isL : AV → Bool
  | .inr (.inr (.inl _)) => true
  | _ => false
def acat (v : AV) : Nat := if isL v then 2 else 1
/-- no long stands just ahead of place j -/
def okSt (ls : List AV) : Nat → Bool
  | 0 => true
  | j + 1 => match ls[j]? with
    | some v => !isL v
    | none => true
def ldI (ls : List AV) (j : Nat) (st : List AV) : Option (List AV × List AV) := match ls[j]? with
  | some (.inl x) => some (ls, .inl x :: st)
  | _ => none
def ldR (ls : List AV) (j : Nat) (st : List AV) : Option (List AV × List AV) := match ls[j]? with
  | some (.inr (.inl x)) => some (ls, .inr (.inl x) :: st)
  | _ => none
def ldL (ls : List AV) (j : Nat) (st : List AV) : Option (List AV × List AV) := match ls[j]? with
  | some (.inr (.inr (.inl x))) => some (ls, .inr (.inr (.inl x)) :: st)
  | _ => none
def stI (ls : List AV) (j : Nat) (st : List AV) : Option (List AV × List AV) := match st with
  | .inl x :: st' => if okSt ls j = true ∧ j < ls.length then some (ls.set j (.inl x), st') else none
  | _ => none
def stR (ls : List AV) (j : Nat) (st : List AV) : Option (List AV × List AV) := match st with
  | .inr (.inl x) :: st' => if okSt ls j = true ∧ j < ls.length then some (ls.set j (.inr (.inl x)), st') else none
  | _ => none
def stL (ls : List AV) (j : Nat) (st : List AV) : Option (List AV × List AV) := match st with
  | .inr (.inr (.inl x)) :: st' => if okSt ls j = true ∧ j + 1 < ls.length then some ((ls.set j (.inr (.inr (.inl x)))).set (j + 1) vU, st') else none
  | _ => none
def pushI (x : Int) (ls st : List AV) : Option (List AV × List AV) := if inI x then some (ls, .inl x :: st) else none
def pushL (x : Int) (ls st : List AV) : Option (List AV × List AV) := if inL x then some (ls, .inr (.inr (.inl x)) :: st) else none
def bitA (f : Int32 → Int32 → Int32) (a b : Int) : Int := (f (Int32.ofInt a) (Int32.ofInt b)).toInt
def cmpL (a b : Int) : Int := if a < b then -1 else if a = b then 0 else 1
def two (f : Int → Int → Option Int) (ls st : List AV) : Option (List AV × List AV) := match st with
  | .inl b :: .inl a :: st' => (f a b).bind (fun r => pushI r ls st')
  | _ => none
def twoL (f : Int → Int → Option Int) (ls st : List AV) : Option (List AV × List AV) := match st with
  | .inr (.inr (.inl b)) :: .inr (.inr (.inl a)) :: st' => (f a b).bind (fun r => pushL r ls st')
  | _ => none
def divA (a b : Int) : Option Int := if 0 ≤ a ∧ 0 < b then some (a / b) else none
def remA (a b : Int) : Option Int := if 0 ≤ a ∧ 0 < b then some (a % b) else none
def shlA (a b : Int) : Option Int := if 0 ≤ a ∧ 0 ≤ b ∧ b ≤ 30 then some (a * 2 ^ b.toNat) else none
def pstep (oc : Nat) (i : Instr) (ls st : List AV) : Option (List AV × List AV) := match i with
  | .iconst c => pushI c ls st
  | .bipush c => if -128 ≤ c ∧ c ≤ 127 then some (ls, .inl c :: st) else none
  | .sipush c => if -32768 ≤ c ∧ c ≤ 32767 then some (ls, .inl c :: st) else none
  | .lconst c => some (ls, .inr (.inr (.inl ((c : Nat) : Int))) :: st)
  | .ldc x => (lk tK oc x).bind (fun c => pushI c ls st)
  | .ldc2_w x => (lk tKL oc x).bind (fun c => pushL c ls st)
  | .iload j => ldI ls j st
  | .iload_n j => ldI ls j st
  | .aload j => ldR ls j st
  | .aload_n j => ldR ls j st
  | .lload j => ldL ls j st
  | .lload_n j => ldL ls j st
  | .istore j => stI ls j st
  | .istore_n j => stI ls j st
  | .astore j => stR ls j st
  | .astore_n j => stR ls j st
  | .lstore j => stL ls j st
  | .lstore_n j => stL ls j st
  | .iinc j c => match ls[j]? with
    | some (.inl x) => if inI (x + c) then (stI ls j (.inl (x + c) :: st)) else none
    | _ => none
  | .iadd => two (fun a b => some (a + b)) ls st
  | .isub => two (fun a b => some (a - b)) ls st
  | .imul => two (fun a b => some (a * b)) ls st
  | .idiv => two divA ls st
  | .irem => two remA ls st
  | .ishl => two shlA ls st
  | .iand => two (fun a b => some (bitA (· &&& ·) a b)) ls st
  | .ior => two (fun a b => some (bitA (· ||| ·) a b)) ls st
  | .ixor => two (fun a b => some (bitA (· ^^^ ·) a b)) ls st
  | .ineg => match st with
    | .inl a :: st' => pushI (-a) ls st'
    | _ => none
  | .lmul => twoL (fun a b => some (a * b)) ls st
  | .lrem => twoL remA ls st
  | .lcmp => match st with
    | .inr (.inr (.inl b)) :: .inr (.inr (.inl a)) :: st' => some (ls, .inl (cmpL a b) :: st')
    | _ => none
  | .i2l => match st with
    | .inl a :: st' => some (ls, .inr (.inr (.inl a)) :: st')
    | _ => none
  | .l2i => match st with
    | .inr (.inr (.inl a)) :: st' => pushI a ls st'
    | _ => none
  | .dup => match st with
    | .inl a :: st' => some (ls, .inl a :: .inl a :: st')
    | .inr (.inl a) :: st' => some (ls, .inr (.inl a) :: .inr (.inl a) :: st')
    | _ => none
  | .pop => match st with
    | .inl _ :: st' => some (ls, st')
    | .inr (.inl _) :: st' => some (ls, st')
    | _ => none
  | _ => none
def cmpA (c : ClassFile.Cond) (a b : Int) : Bool := match c with
  | .eq => a == b
  | .ne => !(a == b)
  | .lt => decide (a < b)
  | .ge => decide (b ≤ a)
  | .gt => decide (b < a)
  | .le => decide (a ≤ b)
def jump (pc : Nat) (off : Int) (st : List AV) : Option (Nat × List AV) := if 0 ≤ (pc : Int) + off then some (((pc : Int) + off).toNat, st) else none
def bstep (i : Instr) (pc len : Nat) (st : List AV) : Option (Nat × List AV) := match i with
  | .goto off => if len = 3 then jump pc off st else none
  | .ifCond c off => match st with
    | .inl x :: st' => if len = 3 ∧ 0 ≤ (pc : Int) + off then (if cmpA c x 0 = true then some (((pc : Int) + off).toNat, st') else some (pc + 3, st')) else none
    | _ => none
  | .if_icmp c off => match st with
    | .inl y :: .inl x :: st' => if len = 3 ∧ 0 ≤ (pc : Int) + off then (if cmpA c x y = true then some (((pc : Int) + off).toNat, st') else some (pc + 3, st')) else none
    | _ => none
  | .tableswitch d lo hi offs => match st with
    | .inl x :: st' => if x < lo ∨ hi < x then jump pc d st' else (offs[(x - lo).toNat]?).bind (fun off => jump pc off st')
    | _ => none
  | .lookupswitch d ps => match st with
    | .inl x :: st' => if (ps.toList.zip (ps.toList.drop 1)).all (fun (a, next) => a.1 < next.1) = true then jump pc (Op.lookupswitch.offset ps.toList d x) st' else none
    | _ => none
  | _ => none
def aup (σ : aSg) (a j : Nat) (v : Int) : aSg := fun b i => if b = a ∧ i = j then v else σ b i
def aupA (σ : aSg) (a : Nat) (f : Nat → Int) : aSg := fun b i => if b = a then f i else σ b i
def fkd (ci j : Nat) : Nat := ((fK[ci]?).getD []).getD j 9
def fdf (ci j : Nat) : Int := if fkd ci j = 2 then -1 else 0
def aFin (ci j : Nat) : Bool := match acls[ci]? with
  | some r => (r.2.1 j).2.2.2
  | none => true
def aN (ci : Nat) : Nat := ((fK[ci]?).getD []).length
def isIni (me : aMe) : Bool := decide (me.2.1.name = "<init>")
def putA (σ : aSg) (a j kd : Nat) (v : AV) : Option aSg := match v with
  | .inl x => if kd = 0 ∨ (kd = 1 ∧ (x = 0 ∨ x = 1)) then some (aup σ a j x) else none
  | .inr (.inl b) => if kd = 2 then some (aup σ a j (b : Int)) else none
  | _ => none
def stcat (st : List AV) : Nat := (st.map acat).sum
def mstep (me : aMe) (i : Instr) (st : List AV) (sh : aSh) (σ : aSg) : Option (List AV × aSh × aSg) := match i with
  | .getfield x => match lk tF me.1 x, st with
    | some (ci, j), .inr (.inl a) :: st' => if sh[a]? = some (ci, aN ci) then (if fkd ci j = 2 then (if 0 ≤ σ a j then some (.inr (.inl (σ a j).toNat) :: st', sh, σ) else none) else some (.inl (σ a j) :: st', sh, σ)) else none
    | _, _ => none
  | .putfield x => match lk tF me.1 x, st with
    | some (ci, j), v :: .inr (.inl a) :: st' => if sh[a]? = some (ci, aN ci) ∧ (aFin ci j = false ∨ (isIni me = true ∧ ci = me.1)) then (putA σ a j (fkd ci j) v).map (fun σ' => (st', sh, σ')) else none
    | _, _ => none
  | .iaload => match st with
    | .inl i :: .inr (.inl a) :: st' => match sh[a]? with
      | some (20, n) => if 0 ≤ i ∧ i < n then some (.inl (σ a i.toNat) :: st', sh, σ) else none
      | _ => none
    | _ => none
  | .baload => match st with
    | .inl i :: .inr (.inl a) :: st' => match sh[a]? with
      | some (21, n) => if 0 ≤ i ∧ i < n then some (.inl (σ a i.toNat) :: st', sh, σ) else none
      | _ => none
    | _ => none
  | .aaload => match st with
    | .inl i :: .inr (.inl a) :: st' => match sh[a]? with
      | some (22, n) => if 0 ≤ i ∧ i < n ∧ 0 ≤ σ a i.toNat then some (.inr (.inl (σ a i.toNat).toNat) :: st', sh, σ) else none
      | _ => none
    | _ => none
  | .iastore => match st with
    | .inl v :: .inl i :: .inr (.inl a) :: st' => match sh[a]? with
      | some (20, n) => if 0 ≤ i ∧ i < n then some (st', sh, aup σ a i.toNat v) else none
      | _ => none
    | _ => none
  | .bastore => match st with
    | .inl v :: .inl i :: .inr (.inl a) :: st' => match sh[a]? with
      | some (21, n) => if 0 ≤ i ∧ i < n ∧ (v = 0 ∨ v = 1) then some (st', sh, aup σ a i.toNat v) else none
      | _ => none
    | _ => none
  | .aastore => match st with
    | .inr (.inl v) :: .inl i :: .inr (.inl a) :: st' => match sh[a]?, sh[v]? with
      | some (22, n), some (3, _) => if 0 ≤ i ∧ i < n then some (st', sh, aup σ a i.toNat (v : Int)) else none
      | _, _ => none
    | _ => none
  | .arraylength => match st with
    | .inr (.inl a) :: st' => match sh[a]? with
      | some (kd, n) => if kd = 20 ∨ kd = 21 ∨ kd = 22 then some (.inl (n : Int) :: st', sh, σ) else none
      | none => none
    | _ => none
  | .new x => match lk tC me.1 x with
    | some ci => if sh.length < 1000 then some (.inr (.inl sh.length) :: st, sh ++ [(ci, aN ci)], aupA σ sh.length (fdf ci)) else none
    | none => none
  | .newarray ty => match ty, st with
    | .int, .inl n :: st' => if 0 ≤ n ∧ n ≤ 100000 ∧ sh.length < 1000 then some (.inr (.inl sh.length) :: st', sh ++ [(20, n.toNat)], aupA σ sh.length (fun _ => 0)) else none
    | .boolean, .inl n :: st' => if 0 ≤ n ∧ n ≤ 100000 ∧ sh.length < 1000 then some (.inr (.inl sh.length) :: st', sh ++ [(21, n.toNat)], aupA σ sh.length (fun _ => 0)) else none
    | _, _ => none
  | .anewarray x => match lk tC me.1 x, st with
    | some 3, .inl n :: st' => if 0 ≤ n ∧ n ≤ 100000 ∧ sh.length < 1000 then some (.inr (.inl sh.length) :: st', sh ++ [(22, n.toNat)], aupA σ sh.length (fun _ => -1)) else none
    | _, _ => none
  | .invokespecial x => match lk tO me.1 x, st with
    | some _, .inr (.inl _) :: st' => if stcat st' ≤ 8 ∧ 1 ≤ me.2.2.2.2.2.1 then some (st', sh, σ) else none
    | _, _ => none
  | .invokestatic x => match lk tPr me.1 x, st with
    | some 1, .inl b :: .inl a :: st' => if stcat st' ≤ 8 ∧ 1 ≤ me.2.2.2.2.2.1 then some (.inl (max a b) :: st', sh, σ) else none
    | some 2, .inl b :: .inl a :: st' => if stcat st' ≤ 8 ∧ 1 ≤ me.2.2.2.2.2.1 then some (.inl (min a b) :: st', sh, σ) else none
    | some 3, .inl n :: .inl dp :: .inr (.inl a1) :: .inl sp :: .inr (.inl a0) :: st' => match sh[a0]?, sh[a1]? with
      | some (20, n0), some (20, n1) => if stcat st' ≤ 8 ∧ 1 ≤ me.2.2.2.2.2.1 ∧ 0 ≤ sp ∧ 0 ≤ dp ∧ 0 ≤ n ∧ sp + n ≤ n0 ∧ dp + n ≤ n1 then some (st', sh, aupA σ a1 (va_cpy (σ a0) (σ a1) sp.toNat dp.toNat n.toNat)) else none
      | _, _ => none
    | _, _ => none
  | _ => none
/-- a call: the method, its arguments in order, what is left; rows of the tables tell which -/
def popA (n : Nat) (st : List AV) : Option (List AV × List AV) := if n ≤ st.length then some ((st.take n).reverse, st.drop n) else none
def cfind (me : aMe) (i : Instr) : Option (Nat × Nat) := match i with
  | .invokevirtual x => (lk tV me.1 x).map (fun k => (k, 0))
  | .invokestatic x => match lk tS me.1 x with
    | some k => some (k, 1)
    | none => (lk tSN me.1 x).map (fun k => (k, 2))
  | .invokespecial x => match lk tI me.1 x with
    | some k => some (k, 3)
    | none => (lk tIN me.1 x).map (fun k => (k, 4))
  | _ => none
/-- of a receiver: its kind is the method's own class -/
def rcvOk (sh : aSh) (c : Nat) (args : List AV) : Bool := match args with
  | .inr (.inl a) :: _ => decide (sh[a]? = some (c, aN c))
  | _ => false
def flA (args : List AV) : List AV := args.flatMap (fun v => if isL v = true then [v, vU] else [v])
def cstep (me : aMe) (i : Instr) (st : List AV) (sh : aSh) : Option (Nat × aMe × List AV × List AV) :=
  match cfind me i with
  | some (k, md) => match mtab[k]? with
    | some me' => match popA (me'.2.2.2.2.2.2.1 + (if me'.2.2.2.2.2.2.2 = true then 0 else 1)) st with
      | some (args, rest) => if stcat rest ≤ 8 ∧ me'.2.2.2.2.2.1 < me.2.2.2.2.2.1 ∧ (me'.2.2.2.2.2.2.2 = true ∨ rcvOk sh me'.1 args = true) ∧ (flA args).length ≤ me'.2.2.2.1 then some (k, me', args, rest) else none
      | none => none
    | none => none
  | none => none
def initL (maxL : Nat) (args : List AV) : List AV := flA args ++ List.replicate (maxL - (flA args).length) vU
def rstep (me : aMe) (i : Instr) (st : List AV) : Option (List AV) := match i, st with
  | .return_, [] => if me.2.2.2.2.1 = none then some [] else none
  | .ireturn, [.inl x] => if me.2.2.2.2.1 = some .int ∨ (me.2.2.2.2.1 = some .boolean ∧ (x = 0 ∨ x = 1)) then some [.inl x] else none
  | .lreturn, [.inr (.inr (.inl x))] => if me.2.2.2.2.1 = some .long then some [.inr (.inr (.inl x))] else none
  | .areturn, [.inr (.inl x)] => match me.2.2.2.2.1 with
    | some (.object _) => some [.inr (.inl x)]
    | some (.array _) => some [.inr (.inl x)]
    | _ => none
  | _, _ => none
def signF (x : Int) : Int := if x = 0 then 73 else if x = 1 then 75 else if x = 2 then 83 else if x = 3 then 66 else if x = 4 then 67 else -1
/-- how long an instruction is; 0: it isn't used, or it has no length of its own -/
def ilen : Instr → Nat
  | .iconst _ | .lconst _ | .iload_n _ | .aload_n _ | .lload_n _ | .istore_n _ | .astore_n _ | .lstore_n _ => 1
  | .iadd | .isub | .imul | .idiv | .irem | .ishl | .iand | .ior | .ixor | .ineg | .lmul | .lrem | .lcmp | .i2l | .l2i | .dup | .pop => 1
  | .iaload | .baload | .aaload | .iastore | .bastore | .aastore | .arraylength => 1
  | .return_ | .ireturn | .lreturn | .areturn => 1
  | .bipush _ | .ldc _ | .iload _ | .aload _ | .lload _ | .istore _ | .astore _ | .lstore _ | .newarray _ => 2
  | .sipush _ | .ldc2_w _ | .iinc _ _ | .goto _ | .ifCond _ _ | .if_icmp _ _ | .getfield _ | .putfield _ | .new _ | .anewarray _ => 3
  | .invokevirtual _ | .invokestatic _ | .invokespecial _ => 3
  | _ => 0
def adec (me : aMe) (pc : Nat) : Option (Instr × Nat) := match decode me.2.2.1 pc with
  | .ok r => if ilen r.1 = r.2 ∨ ilen r.1 = 0 then some r else none
  | _ => none
abbrev aR : Type := List AV × aSh × aSg
/-- the machine: fuel, method (its number and row), place, locals, stack, memory -/
def run : Nat → aMe → Nat → List AV → List AV → aSh → aSg → Option aR
  | 0, _, _, _, _, _, _ => none
  | n + 1, me, pc, ls, st, sh, σ =>
    match adec me pc with
    | none => none
    | some (i, len) =>
      match pstep me.1 i ls st with
      | some (ls', st') => run n me (pc + len) ls' st' sh σ
      | none => match bstep i pc len st with
        | some (pc', st') => run n me pc' ls st' sh σ
        | none => match mstep me i st sh σ with
          | some (st', sh', σ') => run n me (pc + len) ls st' sh' σ'
          | none => match cstep me i st sh with
            | some (k, me', args, rest) =>
              if k = kSign then (match args with
                | [.inl x] => run n me (pc + len) ls (.inl (signF x) :: rest) sh σ
                | _ => none)
              else match run n me' 0 (initL me'.2.2.2.1 args) [] sh σ with
                | some (v, sh', σ') => run n me (pc + len) ls (v ++ rest) sh' σ'
                | none => none
            | none => match rstep me i st with
              | some v => some (v, sh, σ)
              | none => none
