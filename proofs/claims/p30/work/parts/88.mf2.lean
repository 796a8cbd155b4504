section
variable {g : hf_G} {I I2 : hf_I} {J J2 : hf_J} {S a b c d k m n s p q P t cl : Nat} {u v w q64 : Int64} {i j x y kx ky am ph pw : Int32} {cn : Nat → Nat}
/-- one ripple that is drawn -/
def mdA (pw kx ky : Int32) (z : Int64) : Int32 := if (z / 65536).toInt32 - (z / 65536).toInt32 / 2 * 2 = 1 then -(pw / sqI kx ky) else pw / sqI kx ky
def mdH (z : Int64) : Int32 := (z / 65536).toInt32 / 2 - (z / 65536).toInt32 / 2 / 16 * 16
end
