/-! A small machine over the object graph as it stands behind the constructors: cells by number, their ints as one function. -/
abbrev Sg : Type := Nat → Nat → Int32
abbrev MD : Type := MethodName × ByteArray × Nat × Option FieldType × Nat × Nat
abbrev Oc : Type := Option (Option Value × Sg)
abbrev Act : Type := Oc ⊕ ((Nat × List Value × List Value × Sg) ⊕ (MD × List Value × Nat × List Value × List Value))
abbrev uu : Value := .retAddr 0
def up (σ : Sg) (k j : Nat) (v : Int32) : Sg := fun a b => if a = k ∧ b = j then v else σ a b
def cpA (σ : Sg) (k0 k1 sp dp n : Nat) : Sg := fun a => if a = k1 then va_cpy (σ k0) (σ k1) sp dp n else σ a
abbrev go (pc : Nat) (L S : List Value) (σ : Sg) : Act := .inr (.inl (pc, L, S, σ))
abbrev bad : Act := .inl none
abbrev dn (r : Option Value) (σ : Sg) : Act := .inl (some (r, σ))
abbrev cl (m : MD) (as : List Value) (pc : Nat) (L S : List Value) : Act := .inr (.inr (m, as, pc, L, S))
def lkup {β : Type} (l : List (Nat × Nat × β)) (o i : Nat) : Option β := match l with
  | [] => none
  | (a, b, x) :: t => if a = o ∧ b = i then some x else lkup t o i
theorem lkup_mem {β : Type} : ∀ {l : List (Nat × Nat × β)} {o i : Nat} {x : β}, lkup l o i = some x → (o, i, x) ∈ l
  | [], _, _, _, h => by simp [lkup] at h
  | (a, b, y) :: t, o, i, x, h => by
    unfold lkup at h
    split at h
    · rename_i hc
      obtain ⟨rfl, rfl⟩ := hc
      cases h
      exact List.mem_cons_self
    · exact List.mem_cons_of_mem _ (lkup_mem h)
def inb (i : Int32) (n : Nat) : Bool := decide (¬ (i < 0 ∨ n ≤ i.toNatClampNeg))
theorem inb_vp {i : Int32} {n : Nat} : inb i n = true ↔ vp_in i n := by unfold inb vp_in; exact decide_eq_true_iff
def gd (len k : Nat) (a : Act) : Act := if len = k then a else bad
def kil (L : List Value) (i : Nat) : List Value := match i with
  | 0 => L
  | j + 1 => match L[j]? with
    | some w => if w.category = 2 then L.set j uu else L
    | none => L
def stL1 (L : List Value) (i : Nat) (v : Value) : List Value := (kil L i).set i v
def stL2 (L : List Value) (i : Nat) (v : Value) : List Value := ((kil L i).set i v).set (i + 1) uu
def ldI (L : List Value) (i : Nat) (k : Int32 → Act) : Act := match L[i]? with
  | some (.int x) => k x
  | _ => bad
def ldJ (L : List Value) (i : Nat) (k : Int64 → Act) : Act := match L[i]? with
  | some (.long x) => k x
  | _ => bad
def ldA (L : List Value) (i : Nat) (k : Nat → Act) : Act := match L[i]? with
  | some (.ref x) => k x
  | _ => bad
def s1I (S : List Value) (k : Int32 → List Value → Act) : Act := match S with
  | .int x :: S' => k x S'
  | _ => bad
def s2I (S : List Value) (k : Int32 → Int32 → List Value → Act) : Act := match S with
  | .int y :: .int x :: S' => k x y S'
  | _ => bad
def s1J (S : List Value) (k : Int64 → List Value → Act) : Act := match S with
  | .long x :: S' => k x S'
  | _ => bad
def s2J (S : List Value) (k : Int64 → Int64 → List Value → Act) : Act := match S with
  | .long y :: .long x :: S' => k x y S'
  | _ => bad
def s1R (S : List Value) (k : Nat → List Value → Act) : Act := match S with
  | .ref x :: S' => k x S'
  | _ => bad
def sIR (S : List Value) (k : Int32 → Nat → List Value → Act) : Act := match S with
  | .int y :: .ref x :: S' => k y x S'
  | _ => bad
def sIIR (S : List Value) (k : Int32 → Int32 → Nat → List Value → Act) : Act := match S with
  | .int z :: .int y :: .ref x :: S' => k z y x S'
  | _ => bad
def s1V (S : List Value) (k : Value → List Value → Act) : Act := match S with
  | v :: S' => if v.category = 1 then k v S' else bad
  | _ => bad
def s2V (S : List Value) (k : Value → Value → List Value → Act) : Act := match S with
  | v :: w :: S' => if v.category = 1 ∧ w.category = 1 then k v w S' else bad
  | _ => bad
def icb (c : ClassFile.Cond) (x y : Int32) : Bool := match c with
  | .eq => decide (x = y)
  | .ne => decide (¬ x = y)
  | .lt => decide (x < y)
  | .ge => decide (y ≤ x)
  | .gt => decide (y < x)
  | .le => decide (x ≤ y)
def jmp (t : Int) (L S : List Value) (σ : Sg) : Act := if 0 ≤ t then go t.toNat L S σ else bad
def bjm (b : Bool) (t : Int) (f : Nat) (L S : List Value) (σ : Sg) : Act := if 0 ≤ t then go (if b = true then t.toNat else f) L S σ else bad
def tsw (x : Int32) (pc : Nat) (dflt lo hi : Int) (offs : Array Int) (L S : List Value) (σ : Sg) : Act :=
  if x.toInt < lo ∨ hi < x.toInt then jmp ((pc : Int) + dflt) L S σ else match offs[(x.toInt - lo).toNat]? with
    | some off => jmp ((pc : Int) + off) L S σ
    | none => bad
def lsw (x : Int32) (pc : Nat) (dflt : Int) (ps : Array (Int × Int)) (L S : List Value) (σ : Sg) : Act :=
  if (ps.toList.zip (ps.toList.drop 1)).all (fun (a, next) => a.1 < next.1) = true then jmp ((pc : Int) + Op.lookupswitch.offset ps.toList dflt x.toInt) L S σ else bad
def b01 (v : Int32) : Bool := decide (v = 0 ∨ v = 1)
def rtI (ret : Option FieldType) (v : Int32) : Bool := match ret with
  | some .int => true
  | some .boolean => b01 v
  | _ => false
def isO (ret : Option FieldType) : Bool := match ret with
  | some (.object _) => true
  | _ => false
def csm (S : List Value) : Nat := (S.map fun v => v.category).sum
def rv0 (as : List Value) : Option Nat := match as with
  | .ref k :: _ => some k
  | _ => none
