
/-! a method's text: (pc, operation, number, integer, target) -/
abbrev Ent : Type := Nat × Nat × Nat × Int × Nat
/-- a switch: least, targets, default's target, length -/
abbrev Swt : Type := Int × List Nat × Nat × Nat
def dec (sw : List Swt) (q : Ent) : Instr × Nat := match q with
  | (pc, op, a, b, tg) => match op with
    | 0 => (.iconst b, 1)
    | 1 => (.bipush b, 2)
    | 2 => (.sipush b, 3)
    | 3 => (.iload_n (Fin.ofNat 4 a), 1)
    | 4 => (.iload a, 2)
    | 5 => (.aload_n (Fin.ofNat 4 a), 1)
    | 6 => (.aload a, 2)
    | 7 => (.istore_n (Fin.ofNat 4 a), 1)
    | 8 => (.istore a, 2)
    | 9 => (.astore_n (Fin.ofNat 4 a), 1)
    | 10 => (.astore a, 2)
    | 11 => (.iinc a b, 3)
    | 12 => (.iadd, 1)
    | 13 => (.isub, 1)
    | 14 => (.imul, 1)
    | 15 => (.ineg, 1)
    | 16 => (.idiv, 1)
    | 17 => (.irem, 1)
    | 18 => (.iand, 1)
    | 19 => (.ior, 1)
    | 20 => (.ixor, 1)
    | 21 => (.ishl, 1)
    | 22 => (.ishr, 1)
    | 23 => (.dup, 1)
    | 24 => (.pop, 1)
    | 25 => (.dup2, 1)
    | 26 => (.ifCond .eq ((tg : Int) - pc), 3)
    | 27 => (.ifCond .ne ((tg : Int) - pc), 3)
    | 28 => (.ifCond .lt ((tg : Int) - pc), 3)
    | 29 => (.ifCond .ge ((tg : Int) - pc), 3)
    | 30 => (.ifCond .gt ((tg : Int) - pc), 3)
    | 31 => (.ifCond .le ((tg : Int) - pc), 3)
    | 32 => (.if_icmp .eq ((tg : Int) - pc), 3)
    | 33 => (.if_icmp .ne ((tg : Int) - pc), 3)
    | 34 => (.if_icmp .lt ((tg : Int) - pc), 3)
    | 35 => (.if_icmp .ge ((tg : Int) - pc), 3)
    | 36 => (.if_icmp .gt ((tg : Int) - pc), 3)
    | 37 => (.if_icmp .le ((tg : Int) - pc), 3)
    | 38 => (.goto ((tg : Int) - pc), 3)
    | 39 => (.getfield a, 3)
    | 40 => (.putfield a, 3)
    | 41 => (.iaload, 1)
    | 42 => (.iastore, 1)
    | 43 => (.aaload, 1)
    | 44 => (.arraylength, 1)
    | 45 => (.getstatic a, 3)
    | 46 => (.invokevirtual a, 3)
    | 47 => (.invokestatic a, 3)
    | 48 => (.ireturn, 1)
    | 49 => (.return_, 1)
    | 50 => (.areturn, 1)
    | 51 => match sw[a]? with
      | some (lo, ts, df, len) => (.tableswitch ((df : Int) - pc) lo (lo + ts.length - 1) (ts.map (fun (t : Nat) => (t : Int) - pc)).toArray, len)
      | none => (.nop, 1)
    | 52 => (.invokestatic a, 3)
    | 53 => (.invokestatic a, 3)
    | 54 => (.invokestatic a, 3)
    | 55 => (.new a, 3)
    | _ => (.nop, 1)
/-- what a call does: from its arguments and the state, what must hold for an answer with a state, or a throw with a state -/
abbrev CSp : Type := List AV → Sg → (Option AV → Sg → Prop) → (String → Sg → Prop) → Prop
/-- a method's tables: fields (place of the class, slot, 0 int 1 boolean 2 a reference), statics (kind), calls (number of arguments, class of the receiver, what it does, cells, slots), switches, the kind of its answer (0 int 1 boolean 2 none 3 a reference), its room of cells and slots -/
abbrev Tb : Type := (Nat → Option (Nat × Nat × Nat)) × (Nat → Option Nat) × (Nat → Option (Nat × Nat × CSp × Nat × Nat)) × List Swt × Nat × Nat × Nat
abbrev KK : Type := Nat → List (Option AV) → List AV → Sg → Nat → Nat → Prop
def takeK (K : List AV → List AV → Prop) : Nat → List AV → List AV → Prop
  | 0, st, acc => K acc st
  | _ + 1, [], _ => False
  | n + 1, v :: st, acc => takeK K n st (v :: acc)
def pso (r : Option AV) (st : List AV) : List AV := match r with
  | none => st
  | some v => v :: st
def lnthK {α : Type} (K : α → Prop) : List α → Nat → Prop
  | [], _ => False
  | x :: _, 0 => K x
  | _ :: r, n + 1 => lnthK K r n
def swc (x : Int) (K : Nat → Prop) : List Nat → Int → Prop
  | [], _ => True
  | t :: r, z => (x = z → K t) ∧ swc x K r (z + 1)
def b2p (b : Bool) (P : Prop) : Prop := match b with
  | true => P
  | false => False
def exn (k : Nat) : String := match k with
  | 1 => "java/lang/IllegalArgumentException"
  | 2 => "java/util/NoSuchElementException"
  | 3 => "java/lang/UnsupportedOperationException"
  | _ => "java/lang/IllegalStateException"
def stp (tb : Tb) (Φ : Option AV → Sg → Prop) (Ψ : String → Sg → Prop) (K : KK) (q : Ent) (L : List (Option AV)) (st : List AV) (σ : Sg) (nc ns : Nat) : Prop := match q with
  | (pc, op, a, b, tg) => match op with
    | 0 => K (pc + 1) L (.inl b :: st) σ nc ns
    | 1 => K (pc + 2) L (.inl b :: st) σ nc ns
    | 2 => K (pc + 3) L (.inl b :: st) σ nc ns
    | 3 => lgetK (fun v => match v with
      | .inl x => K (pc + 1) L (.inl x :: st) σ nc ns
      | .inr _ => False) L a
    | 4 => lgetK (fun v => match v with
      | .inl x => K (pc + 2) L (.inl x :: st) σ nc ns
      | .inr _ => False) L a
    | 5 => lgetK (fun v => match v with
      | .inl _ => False
      | .inr x => K (pc + 1) L (.inr x :: st) σ nc ns) L a
    | 6 => lgetK (fun v => match v with
      | .inl _ => False
      | .inr x => K (pc + 2) L (.inr x :: st) σ nc ns) L a
    | 7 => match st with
      | .inl x :: st => lsetK L a (.inl x) (fun L => K (pc + 1) L st σ nc ns)
      | _ => False
    | 8 => match st with
      | .inl x :: st => lsetK L a (.inl x) (fun L => K (pc + 2) L st σ nc ns)
      | _ => False
    | 9 => match st with
      | .inr x :: st => lsetK L a (.inr x) (fun L => K (pc + 1) L st σ nc ns)
      | _ => False
    | 10 => match st with
      | .inr x :: st => lsetK L a (.inr x) (fun L => K (pc + 2) L st σ nc ns)
      | _ => False
    | 11 => lgetK (fun v => match v with
      | .inl x => lsetK L a (.inl (x + b)) (fun L => K (pc + 3) L st σ nc ns)
      | .inr _ => False) L a
    | 12 => match st with
      | .inl y :: .inl x :: st => K (pc + 1) L (.inl (x + y) :: st) σ nc ns
      | _ => False
    | 13 => match st with
      | .inl y :: .inl x :: st => K (pc + 1) L (.inl (x - y) :: st) σ nc ns
      | _ => False
    | 14 => match st with
      | .inl y :: .inl x :: st => K (pc + 1) L (.inl (x * y) :: st) σ nc ns
      | _ => False
    | 15 => match st with
      | .inl x :: st => K (pc + 1) L (.inl (-x) :: st) σ nc ns
      | _ => False
    | 16 => match st with
      | .inl y :: .inl x :: st => (0 ≤ nrm x ∧ 0 < y ∧ y ≤ 2147483647) ∧ K (pc + 1) L (.inl (nrm x / y) :: st) σ nc ns
      | _ => False
    | 17 => match st with
      | .inl y :: .inl x :: st => (0 ≤ nrm x ∧ 0 < y ∧ y ≤ 2147483647) ∧ K (pc + 1) L (.inl (nrm x % y) :: st) σ nc ns
      | _ => False
    | 18 => match st with
      | .inl y :: .inl x :: st => K (pc + 1) L (.inl (ian x y) :: st) σ nc ns
      | _ => False
    | 19 => match st with
      | .inl y :: .inl x :: st => K (pc + 1) L (.inl (ior x y) :: st) σ nc ns
      | _ => False
    | 20 => match st with
      | .inl y :: .inl x :: st => K (pc + 1) L (.inl (ixr x y) :: st) σ nc ns
      | _ => False
    | 21 => match st with
      | .inl y :: .inl x :: st => K (pc + 1) L (.inl (isl x y) :: st) σ nc ns
      | _ => False
    | 22 => match st with
      | .inl y :: .inl x :: st => K (pc + 1) L (.inl (isr x y) :: st) σ nc ns
      | _ => False
    | 23 => match st with
      | v :: st => K (pc + 1) L (v :: v :: st) σ nc ns
      | _ => False
    | 24 => match st with
      | _ :: st => K (pc + 1) L st σ nc ns
      | _ => False
    | 25 => match st with
      | v :: w :: st => K (pc + 1) L (v :: w :: v :: w :: st) σ nc ns
      | _ => False
    | 26 => match st with
      | .inl x :: st => (nrm x = 0 → K tg L st σ nc ns) ∧ (¬ nrm x = 0 → K (pc + 3) L st σ nc ns)
      | _ => False
    | 27 => match st with
      | .inl x :: st => (¬ nrm x = 0 → K tg L st σ nc ns) ∧ (nrm x = 0 → K (pc + 3) L st σ nc ns)
      | _ => False
    | 28 => match st with
      | .inl x :: st => (nrm x < 0 → K tg L st σ nc ns) ∧ (0 ≤ nrm x → K (pc + 3) L st σ nc ns)
      | _ => False
    | 29 => match st with
      | .inl x :: st => (0 ≤ nrm x → K tg L st σ nc ns) ∧ (nrm x < 0 → K (pc + 3) L st σ nc ns)
      | _ => False
    | 30 => match st with
      | .inl x :: st => (0 < nrm x → K tg L st σ nc ns) ∧ (nrm x ≤ 0 → K (pc + 3) L st σ nc ns)
      | _ => False
    | 31 => match st with
      | .inl x :: st => (nrm x ≤ 0 → K tg L st σ nc ns) ∧ (0 < nrm x → K (pc + 3) L st σ nc ns)
      | _ => False
    | 32 => match st with
      | .inl y :: .inl x :: st => (nrm x = nrm y → K tg L st σ nc ns) ∧ (¬ nrm x = nrm y → K (pc + 3) L st σ nc ns)
      | _ => False
    | 33 => match st with
      | .inl y :: .inl x :: st => (¬ nrm x = nrm y → K tg L st σ nc ns) ∧ (nrm x = nrm y → K (pc + 3) L st σ nc ns)
      | _ => False
    | 34 => match st with
      | .inl y :: .inl x :: st => (nrm x < nrm y → K tg L st σ nc ns) ∧ (nrm y ≤ nrm x → K (pc + 3) L st σ nc ns)
      | _ => False
    | 35 => match st with
      | .inl y :: .inl x :: st => (nrm y ≤ nrm x → K tg L st σ nc ns) ∧ (nrm x < nrm y → K (pc + 3) L st σ nc ns)
      | _ => False
    | 36 => match st with
      | .inl y :: .inl x :: st => (nrm y < nrm x → K tg L st σ nc ns) ∧ (nrm x ≤ nrm y → K (pc + 3) L st σ nc ns)
      | _ => False
    | 37 => match st with
      | .inl y :: .inl x :: st => (nrm x ≤ nrm y → K tg L st σ nc ns) ∧ (nrm y < nrm x → K (pc + 3) L st σ nc ns)
      | _ => False
    | 38 => K tg L st σ nc ns
    | 39 => match tb.1 a with
      | some (ci, j, ty) => match st with
        | .inr (k, e, i) :: st => match SH k with
          | .inl (ci', sl) => b2p (Nat.beq ci ci') (lnthK (fun o => match o with
            | none => b2p (!Nat.beq ty 2) (K (pc + 3) L (.inl (σ k e i j) :: st) σ nc ns)
            | some t => b2p (Nat.beq ty 2) (K (pc + 3) L (.inr (tgt t e i j) :: st) σ nc ns)) sl j)
          | .inr _ => False
        | _ => False
      | none => False
    | 40 => match tb.1 a with
      | some (ci, j, ty) => match st with
        | .inl x :: .inr (k, e, i) :: st => match SH k with
          | .inl (ci', sl) => b2p (Nat.beq ci ci') (lnthK (fun o => match o with
            | none => match ty with
              | 0 => K (pc + 3) L st (upd4 σ k e i j x) nc ns
              | 1 => (x = 0 ∨ x = 1) ∧ K (pc + 3) L st (upd4 σ k e i j x) nc ns
              | _ => False
            | some _ => False) sl j)
          | .inr _ => False
        | _ => False
      | none => False
    | 41 => match st with
      | .inl x :: .inr (k, e, i) :: st => match SH k with
        | .inl _ => False
        | .inr (0, n, _) => (0 ≤ nrm x ∧ nrm x < n) ∧ K (pc + 1) L (.inl (σ k e i (nrm x).toNat) :: st) σ nc ns
        | .inr (9, n, _) => (0 ≤ nrm x ∧ nrm x < n) ∧ K (pc + 1) L (.inl (sv k (nrm x).toNat) :: st) σ nc ns
        | _ => False
      | _ => False
    | 42 => match st with
      | .inl v :: .inl x :: .inr (k, e, i) :: st => match SH k with
        | .inl _ => False
        | .inr (0, n, _) => (0 ≤ nrm x ∧ nrm x < n) ∧ K (pc + 1) L st (upd4 σ k e i (nrm x).toNat v) nc ns
        | _ => False
      | _ => False
    | 43 => match st with
      | .inl x :: .inr (k, e, i) :: st => match SH k with
        | .inl _ => False
        | .inr (t + 2, n, r) => b2p (Nat.ble t 6) ((0 ≤ nrm x ∧ nrm x < n) ∧ K (pc + 1) L (.inr (tgt r e i (nrm x).toNat) :: st) σ nc ns)
        | _ => False
      | _ => False
    | 44 => match st with
      | .inr (k, _, _) :: st => match SH k with
        | .inl _ => False
        | .inr (_, n, _) => K (pc + 1) L (.inl n :: st) σ nc ns
      | _ => False
    | 45 => match tb.2.1 a with
      | some k => b2p (Nat.ble k 299) (K (pc + 3) L (.inr (k, 0, 0) :: st) σ nc ns)
      | none => False
    | 46 => match tb.2.2.1 a with
      | some (n, ci, Sp, mc, ms) => takeK (fun av st => b2p (Nat.ble st.length 8 && (Nat.ble (nc + mc) tb.2.2.2.2.2.1 && Nat.ble (ns + ms) tb.2.2.2.2.2.2)) (match av with
        | .inr (k, _, _) :: _ => match SH k with
          | .inl (ci', _) => b2p (Nat.beq ci ci') (Sp av σ (fun r σ => K (pc + 3) L (pso r st) σ (nc + mc) (ns + ms)) Ψ)
          | .inr _ => False
        | _ => False)) n st []
      | none => False
    | 47 => match tb.2.2.1 a with
      | some (n, ci, Sp, mc, ms) => takeK (fun av st => b2p (Nat.beq ci 1000 && (Nat.ble st.length 8 && (Nat.ble (nc + mc) tb.2.2.2.2.2.1 && Nat.ble (ns + ms) tb.2.2.2.2.2.2))) (Sp av σ (fun r σ => K (pc + 3) L (pso r st) σ (nc + mc) (ns + ms)) Ψ)) n st []
      | none => False
    | 48 => match st with
      | [.inl x] => b2p (Nat.ble nc tb.2.2.2.2.2.1 && Nat.ble ns tb.2.2.2.2.2.2) (match tb.2.2.2.2.1 with
        | 0 => Φ (some (.inl x)) σ
        | 1 => (x = 0 ∨ x = 1) ∧ Φ (some (.inl x)) σ
        | _ => False)
      | _ => False
    | 49 => match st with
      | [] => b2p (Nat.beq tb.2.2.2.2.1 2 && (Nat.ble nc tb.2.2.2.2.2.1 && Nat.ble ns tb.2.2.2.2.2.2)) (Φ none σ)
      | _ => False
    | 50 => match st with
      | [.inr x] => b2p (Nat.beq tb.2.2.2.2.1 3 && (Nat.ble nc tb.2.2.2.2.2.1 && Nat.ble ns tb.2.2.2.2.2.2)) (Φ (some (.inr x)) σ)
      | _ => False
    | 51 => match tb.2.2.2.1[a]? with
      | some (lo, ts, df, _) => match st with
        | .inl x :: st => swc (nrm x) (fun t => K t L st σ nc ns) ts lo ∧ (nrm x < lo ∨ lo + ts.length - 1 < nrm x → K df L st σ nc ns)
        | _ => False
      | none => False
    | 52 => match tb.2.1 a with
      | some 301 => match st with
        | .inl y :: .inl x :: st => b2p (Nat.ble st.length 8 && (Nat.ble nc tb.2.2.2.2.2.1 && Nat.ble ns tb.2.2.2.2.2.2)) (K (pc + 3) L (.inl (if nrm y < nrm x then y else x) :: st) σ nc ns)
        | _ => False
      | _ => False
    | 53 => match tb.2.1 a with
      | some 302 => match st with
        | .inl y :: .inl x :: st => b2p (Nat.ble st.length 8 && (Nat.ble nc tb.2.2.2.2.2.1 && Nat.ble ns tb.2.2.2.2.2.2)) (K (pc + 3) L (.inl (if nrm x < nrm y then y else x) :: st) σ nc ns)
        | _ => False
      | _ => False
    | 54 => match tb.2.1 a with
      | some 303 => match st with
        | .inl n :: .inl dp :: .inr (kd, ed, id) :: .inl sp :: .inr (ks, es, is) :: st => match SH ks, SH kd with
          | .inr (0, n0, _), .inr (0, n1, _) => b2p (Nat.ble st.length 8) ((0 ≤ nrm sp ∧ 0 ≤ nrm dp ∧ 0 ≤ nrm n ∧ nrm sp + nrm n ≤ n0 ∧ nrm dp + nrm n ≤ n1) ∧ K (pc + 3) L st (cpy4 σ ks es is (nrm sp).toNat kd ed id (nrm dp).toNat (nrm n).toNat) nc ns)
          | _, _ => False
        | _ => False
      | _ => False
    | 55 => b2p (Nat.ble st.length 8 && (Nat.ble (nc + 1) tb.2.2.2.2.2.1 && Nat.ble (ns + 6) tb.2.2.2.2.2.2)) (Ψ (exn tg) σ)
    | _ => False
def lkK (K : Ent → Prop) : List Ent → Nat → Prop
  | [], _ => False
  | q :: r, pc => match Nat.beq q.1 pc with
    | true => K q
    | false => lkK K r pc
def elemN : List Nat → Nat → Bool
  | [], _ => false
  | x :: r, n => match Nat.beq x n with
    | true => true
    | false => elemN r n
/-- the run from pc on, to the ends or to the stops -/
def wp (tb : Tb) (Φ : Option AV → Sg → Prop) (Ψ : String → Sg → Prop) (pr : List Ent) (stops : List Nat) (Z : KK) : Nat → KK
  | 0, _, _, _, _, _, _ => False
  | f + 1, pc, L, st, σ, nc, ns => lkK (fun q => stp tb Φ Ψ (fun pc L st σ nc ns => match elemN stops pc with
    | true => Z pc L st σ nc ns
    | false => wp tb Φ Ψ pr stops Z f pc L st σ nc ns) q L st σ nc ns) pr pc
