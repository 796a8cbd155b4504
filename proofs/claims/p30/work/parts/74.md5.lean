section
variable {g : hf_G} {I : hf_I} {J : hf_J} {a b c k m n s p q : Nat} {u v w : Int64} {i j x y kx ky am ph : Int32}
def wbI (k : Int32) : Int32 := if k ≤ 8 then k else 16 - k
def wsI (b : Int32) : Int32 := if b ≤ 4 then b else 8 - b
def whI (i : Int32) : Int32 := if i = 0 then 64 else if i = 1 then 59 else if i = 2 then 45 else if i = 3 then 24 else 0
def wvI (k : Int32) : Int32 := if wbI k ≤ 4 then whI (wsI (wbI k)) else -whI (wsI (wbI k))
def rpI (n : Nat) (kx ky ph : Int32) (k : Nat) : Int32 :=
  wvI ((ph + (dwL (16 * kx * ltI (nI (k / n)) (nI n) + 16 * ky * ltI (nI (k % n)) (nI n)).toInt64 4096).toInt32).toInt64 - dwL (ph + (dwL (16 * kx * ltI (nI (k / n)) (nI n) + 16 * ky * ltI (nI (k % n)) (nI n)).toInt64 4096).toInt32).toInt64 16 * 16).toInt32
def moI (n : Nat) (kx ky am ph : Int32) (k : Nat) (z : Int32) : Int32 := rpI n kx ky ph k * am * z / 64
end
