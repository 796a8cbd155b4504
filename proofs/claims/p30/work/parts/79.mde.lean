abbrev Q4 : Type := (Nat → Int32) × (Nat → Int32) × (Nat → Int32) × (Nat → Int32)
section
variable {I : hf_I} {S B F A C D E : Nat → Int32} {Q : Q4} {a k : Nat} {v : Int32}
end
def ck4 (co fo wi a c d e : Int32) : Int32 × Int32 × Int32 × Int32 :=
  let x := co * a / 1000
  let y := fo * (c + x) / 1000
  let c2 := c + x - y
  let z := if c2 ≤ wi * y / 1000 then c2 else wi * y / 1000
  (a - x, c2 - z, d + y, e + z)
def ckQ (co fo wi : Int32) (k : Nat) (Q : Q4) : Q4 :=
  let r := ck4 co fo wi (Q.1 k) (Q.2.1 k) (Q.2.2.1 k) (Q.2.2.2 k)
  (up Q.1 k r.1, up Q.2.1 k r.2.1, up Q.2.2.1 k r.2.2.1, up Q.2.2.2 k r.2.2.2)
def goQ (a b : Nat) (Q : Q4) : Q4 := (up Q.1 b (Q.1 b + Q.1 a), up Q.2.1 b (Q.2.1 b + Q.2.1 a), up Q.2.2.1 b (Q.2.2.1 b + Q.2.2.1 a), up Q.2.2.2 b (Q.2.2.2 b + Q.2.2.2 a))
def smQ (k : Nat) (Q : Q4) : Int32 := Q.1 k + Q.2.1 k + Q.2.2.1 k + Q.2.2.2 k
/-- new grains bring gas -/
def n1Q (R : Nat → Int32) (p : Nat) (q : (Nat → Int32) × Q4) (t : Nat) : (Nat → Int32) × Q4 := it t q fun k q => if R (64 * p + k) = -1 then q else if q.1 k = 0 then (up q.1 k 1, (up q.2.1 (64 * p + (R (64 * p + k)).toNatClampNeg) (q.2.1 (64 * p + (R (64 * p + k)).toNatClampNeg) + 100), q.2.2)) else q
/-- one galaxy cooks and goes on -/
def n2S (nx : Nat → Nat → Option (Nat × Nat)) (co fo wi : Int32) (p h : Nat) (q : Int32 × Q4) : Int32 × Q4 :=
  match nx p h with
  | none => (q.1 + smQ (64 * p + h) (ckQ co fo wi (64 * p + h) q.2), ckQ co fo wi (64 * p + h) q.2)
  | some (j, x) => (q.1, goQ (64 * p + h) (64 * j + x) (ckQ co fo wi (64 * p + h) q.2))
def n2Q (nx : Nat → Nat → Option (Nat × Nat)) (co fo wi : Int32) (p : Nat) (q : Int32 × Q4) (t : Nat) : Int32 × Q4 := it t q fun h q => n2S nx co fo wi p h q
def n3Q (R : Nat → Int32) (cn : Nat → Nat) (nx : Nat → Nat → Option (Nat × Nat)) (co fo wi : Int32) (c : Nat) (q : Int32 × (Nat → Int32) × Q4) (t : Nat) : Int32 × (Nat → Int32) × Q4 :=
  it t q fun p q => ((n2Q nx co fo wi p (q.1, (n1Q R p q.2 c).2) (cn p)).1, (n1Q R p q.2 c).1, (n2Q nx co fo wi p (q.1, (n1Q R p q.2 c).2) (cn p)).2)
section
variable {g : hf_G} {I : hf_I} {J : hf_J} {a b c k l m n s p q cl P : Nat} {u v w : Int64} {i j x y : Int32} {S B F H K : Nat → Int32} {cn : Nat → Nat} {Q : Q4}
end
