section
variable {g : hf_G} {I : hf_I} {J : hf_J} {a b c k l m n s p q cl : Nat} {u v w : Int64} {i j x y : Int32} {M : Nat → Nat} {O F H K : Nat → Int32}
def nm2 (c : Nat) (F : Nat → Int32) (l v : Int32) (H : Nat → Int32) : Nat → Int32 := fun j => if 768 ≤ j ∧ j < 768 + c ∧ F (j - 768) = l then v else H j
/-- halos of one size, of all sizes -/
def hsM (c : Nat) (F B : Nat → Int32) (z : Int32) (p : Nat × (Nat → Int32)) (t : Nat) : Nat × (Nat → Int32) := it t p fun k p => if B k = z then (p.1 + 1, nm2 c F (nI k) (nI p.1) p.2) else p
def hzM (c : Nat) (F B : Nat → Int32) (H : Nat → Int32) (t : Nat) : Nat × (Nat → Int32) := it t (0, H) fun t p => hsM c F B (nI (c - t)) p c
end
