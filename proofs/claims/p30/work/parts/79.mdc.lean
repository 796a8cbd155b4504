/-- a row of shares, told anew -/
def gzM (O : Nat → Int32) : Nat → Int32 := fun j => if j < 64 then 0 else O j
def g1M (R O : Nat → Int32) (p : Nat) (i : Int32) (l : Nat) (t : Nat) : (Nat → Int32) × Bool := it t (gzM O, false) fun k q => if R (64 * l + k) = -1 then q else if R (64 * p + k) = i then (up q.1 (R (64 * l + k)).toNatClampNeg (q.1 (R (64 * l + k)).toNatClampNeg + 1), true) else q
def mxM (B : Nat → Int32) (t : Nat) : Nat := it t 0 fun t f => if B (t + 1) ≤ B f then f else t + 1
def goO (R O : Nat → Int32) (p : Nat) (i : Int32) (l c : Nat) : Option Nat := if (g1M R O p i l c).2 = true then some (mxM (g1M R O p i l c).1 63) else none
def coM (o : Option Nat) : Int32 := match o with
  | none => -1
  | some f => nI f
def nxO (R O : Nat → Int32) (P c p k : Nat) : Option (Nat × Nat) :=
  if p + 1 < P then match goO R O p (nI k) (p + 1) c with
    | some f => some (p + 1, f)
    | none => if p + 2 < P then match goO R O p (nI k) (p + 2) c with
      | some f => some (p + 2, f)
      | none => none else none else none
section
variable {g : hf_G} {I : hf_I} {J : hf_J} {a b c k l m n s p q cl P : Nat} {u v w : Int64} {i j x y : Int32} {F H K : Nat → Int32} {cn : Nat → Nat}
end
