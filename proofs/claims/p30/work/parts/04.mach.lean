/-! THE PURE MACHINE: a small interpreter over relative addresses, that answers what the machine does (part 06 says so) -/
abbrev hf_G : Type := Nat × Bool × (Nat → Nat × Nat) × (Nat → Nat → Option Nat) × Nat × Nat
def hf_n (g : hf_G) : Nat := g.1
def hf_e (g : hf_G) : Bool := g.2.1
def hf_k (g : hf_G) : Nat → Nat × Nat := g.2.2.1
def hf_r (g : hf_G) : Nat → Nat → Option Nat := g.2.2.2.1
def hf_c (g : hf_G) : Nat := g.2.2.2.2.1
def hf_s (g : hf_G) : Nat := g.2.2.2.2.2
abbrev hf_I : Type := Nat → Nat → Int32
abbrev hf_J : Type := Nat → Nat → Int64
/-- one place of one row is told anew -/
def hf_u {α : Type} (f : Nat → Nat → α) (a i : Nat) (v : α) : Nat → Nat → α := fun b j => if b = a ∧ j = i then v else f b j
/-- a whole row is told anew -/
def hf_w {α : Type} (f : Nat → Nat → α) (a : Nat) (r : Nat → α) : Nat → Nat → α := fun b j => if b = a then r j else f b j
/-- something of ns slots and the kind kd is made -/
def hf_mk (g : hf_G) (kd : Nat × Nat) (ns : Nat) : hf_G := (hf_n g + 1, hf_e g, fun a => if a = hf_n g then kd else hf_k g a, hf_w (hf_r g) (hf_n g) (fun _ => none), hf_c g + 1, hf_s g + ns)
def hf_sr (g : hf_G) (a i : Nat) (v : Option Nat) : hf_G := (hf_n g, hf_e g, hf_k g, hf_u (hf_r g) a i v, hf_c g, hf_s g)
/-- an exception was made -/
def hf_th (g : hf_G) : hf_G := (if hf_n g < 1000000 then hf_n g + 1 else hf_n g, hf_e g && decide (hf_n g < 1000000), hf_k g, hf_r g, hf_c g + 1, hf_s g + 6)
abbrev hf_Lo : Type := List (Option Value)
abbrev hf_Q : Type := Nat × hf_Lo × List Value × hf_G × hf_I × hf_J
abbrev hf_V : Type := Option Value ⊕ Nat
abbrev hf_R : Type := hf_V × hf_G × hf_I × hf_J
abbrev hf_O : Type := hf_Q ⊕ ((Nat × List Value × List Value) ⊕ hf_R)
def hf_nx (pc : Nat) (L : hf_Lo) (st : List Value) (g : hf_G) (I : hf_I) (J : hf_J) : Option hf_O := some (.inl (pc, L, st, g, I, J))
def hf_tg (pc : Nat) (off : Int) : Nat := ((pc : Int) + off).toNat
def hf_go (pc : Nat) (off : Int) (L : hf_Lo) (st : List Value) (g : hf_G) (I : hf_I) (J : hf_J) : Option hf_O :=
  if 0 ≤ (pc : Int) + off then hf_nx (hf_tg pc off) L st g I J else none
def hf_br (x : Bool) (pc : Nat) (off : Int) (L : hf_Lo) (st : List Value) (g : hf_G) (I : hf_I) (J : hf_J) : Option hf_O :=
  if 0 ≤ (pc : Int) + off then (if x = true then hf_nx (hf_tg pc off) L st g I J else hf_nx (pc + 3) L st g I J) else none
def hf_gl (L : hf_Lo) (i : Nat) : Option Value := match L[i]? with
  | some (some v) => some v
  | _ => none
def hf_iv (v : Option Value) : Option Value := match v with
  | some (.long _) => none
  | some (.double _) => none
  | x => x
def hf_s1 : hf_Lo → Nat → Value → hf_Lo
  | [], _, _ => []
  | _ :: l, 0, v => some v :: l
  | a :: l, 1, v => hf_iv a :: hf_s1 l 0 v
  | a :: l, n + 2, v => a :: hf_s1 l (n + 1) v
def hf_s2 : hf_Lo → Nat → Value → hf_Lo
  | [], _, _ => []
  | [_], 0, _ => []
  | _ :: _ :: l, 0, v => some v :: none :: l
  | a :: l, 1, v => hf_iv a :: hf_s2 l 0 v
  | a :: l, n + 2, v => a :: hf_s2 l (n + 1) v
def hf_in (i : Int32) (n : Nat) : Bool := decide (¬ (i < 0 ∨ n ≤ i.toNatClampNeg))
/-- the arguments as locals -/
def hf_la : List Value → hf_Lo
  | [] => []
  | v :: l => if v.category = 2 then some v :: none :: hf_la l else some v :: hf_la l
def hf_ent (n : Nat) (as : List Value) : hf_Lo := hf_la as ++ List.replicate (n - (hf_la as).length) none
