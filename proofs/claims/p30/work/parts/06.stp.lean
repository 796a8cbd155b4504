/-! THE PURE MACHINE: one step, runs by fuel, and what a run answers -/
def hf_cs (st : List Value) : Nat := (st.map fun v => v.category).sum
/-- a call: (callee, number of arguments, kind) -/
def hf_rmk (mi y : Nat) : Bool := decide (hf_fr y + 1 ≤ hf_fr mi) && decide (8 + (hf_nL y + 11) + hf_lo y ≤ hf_lo mi)
def hf_call (mi : Nat) (q : Option (Nat × Nat × Nat)) (ks : List Nat) (st : List Value) (g : hf_G) : Option hf_O := match q with
  | none => none
  | some (y, n, kd) =>
    if kd ∈ ks ∧ hf_rmk mi y = true then
      match kd with
      | 1 | 4 => match st.drop n with
        | .ref b :: rest => if hf_cs rest ≤ 8 ∧ n ≤ st.length ∧ (hf_k g b).1 = 0 ∧ hf_cn (hf_k g b).2 = (hf_y y).cls ∧ (hf_la (.ref b :: (st.take n).reverse)).length ≤ hf_nL y then some (.inr (.inl (y, .ref b :: (st.take n).reverse, rest))) else none
        | _ => none
      | 2 | 5 => match st.drop n with
        | .ref b :: rest => if hf_cs rest ≤ 8 ∧ n ≤ st.length ∧ (hf_la (.ref b :: (st.take n).reverse)).length ≤ hf_nL y then some (.inr (.inl (y, .ref b :: (st.take n).reverse, rest))) else none
        | _ => none
      | _ => if hf_cs (st.drop n) ≤ 8 ∧ n ≤ st.length ∧ (hf_la (st.take n).reverse).length ≤ hf_nL y then some (.inr (.inl (y, (st.take n).reverse, st.drop n))) else none
    else none
def hf_gf (q : Option (Nat × Nat × Nat)) (pc : Nat) (L : hf_Lo) (st : List Value) (g : hf_G) (I : hf_I) (J : hf_J) : Option hf_O := match q, st with
  | some (c, k, _), .ref a :: r =>
    if hf_k g a = (0, c) ∧ k < hf_nf c then
      match hf_ft c k with
      | 0 => hf_nx pc L (.int (I a k) :: r) g I J
      | 1 => hf_nx pc L (.long (J a k) :: r) g I J
      | _ => match hf_r g a k with
        | some x => hf_nx pc L (.ref x :: r) g I J
        | none => none
    else none
  | _, _ => none
def hf_fin (c k : Nat) : Bool := (hf_ct c k).2.2.2
def hf_pf (mi : Nat) (q : Option (Nat × Nat × Nat)) (pc : Nat) (L : hf_Lo) (st : List Value) (g : hf_G) (I : hf_I) (J : hf_J) : Option hf_O := match q, st with
  | some (c, k, kd), v :: .ref a :: r =>
    if hf_k g a = (0, c) ∧ k < hf_nf c ∧ (hf_fin c k = true → (hf_y mi).name = "<init>" ∧ (hf_ct c k).1 = hf_on (hf_oc mi) ∧ kd = 0) then
      match hf_ft c k, v with
      | 0, .int x => if (hf_ct c k).2.2.1 = "I" then hf_nx pc L r g (hf_u I a k x) J else none
      | 1, .long x => hf_nx pc L r g I (hf_u J a k x)
      | 2, .ref x => hf_nx pc L r (hf_sr g a k (some x)) I J
      | _, _ => none
    else none
  | _, _ => none
/-- reading a row: kinds 2 (ints), 6 (ints that lie elsewhere), 4 (booleans) -/
def hf_ia (t : Nat) (pc : Nat) (L : hf_Lo) (st : List Value) (g : hf_G) (I : hf_I) (J : hf_J) : Option hf_O := match st with
  | .int i :: .ref a :: r => if ((hf_k g a).1 = t ∨ t = 2 ∧ (hf_k g a).1 = 6) ∧ hf_in i (hf_k g a).2 = true then hf_nx pc L (.int (I a i.toNatClampNeg) :: r) g I J else none
  | _ => none
def hf_la1 (pc : Nat) (L : hf_Lo) (st : List Value) (g : hf_G) (I : hf_I) (J : hf_J) : Option hf_O := match st with
  | .int i :: .ref a :: r => if (hf_k g a).1 = 3 ∧ hf_in i (hf_k g a).2 = true then hf_nx pc L (.long (J a i.toNatClampNeg) :: r) g I J else none
  | _ => none
def hf_aa (pc : Nat) (L : hf_Lo) (st : List Value) (g : hf_G) (I : hf_I) (J : hf_J) : Option hf_O := match st with
  | .int i :: .ref a :: r => if (hf_k g a).1 = 5 ∧ hf_in i (hf_k g a).2 = true then (match hf_r g a i.toNatClampNeg with
      | some x => hf_nx pc L (.ref x :: r) g I J
      | none => none) else none
  | _ => none
def hf_is (pc : Nat) (L : hf_Lo) (st : List Value) (g : hf_G) (I : hf_I) (J : hf_J) : Option hf_O := match st with
  | .int x :: .int i :: .ref a :: r => if (hf_k g a).1 = 2 ∧ hf_in i (hf_k g a).2 = true then hf_nx pc L r g (hf_u I a i.toNatClampNeg x) J else none
  | _ => none
def hf_bs (pc : Nat) (L : hf_Lo) (st : List Value) (g : hf_G) (I : hf_I) (J : hf_J) : Option hf_O := match st with
  | .int x :: .int i :: .ref a :: r => if (hf_k g a).1 = 4 ∧ hf_in i (hf_k g a).2 = true ∧ (x = 0 ∨ x = 1) then hf_nx pc L r g (hf_u I a i.toNatClampNeg x) J else none
  | _ => none
def hf_ls (pc : Nat) (L : hf_Lo) (st : List Value) (g : hf_G) (I : hf_I) (J : hf_J) : Option hf_O := match st with
  | .long x :: .int i :: .ref a :: r => if (hf_k g a).1 = 3 ∧ hf_in i (hf_k g a).2 = true then hf_nx pc L r g I (hf_u J a i.toNatClampNeg x) else none
  | _ => none
def hf_as (pc : Nat) (L : hf_Lo) (st : List Value) (g : hf_G) (I : hf_I) (J : hf_J) : Option hf_O := match st with
  | .ref x :: .int i :: .ref a :: r => if (hf_k g a).1 = 5 ∧ hf_in i (hf_k g a).2 = true ∧ hf_k g x = (0, 3) then hf_nx pc L r (hf_sr g a i.toNatClampNeg (some x)) I J else none
  | _ => none
def hf_al (pc : Nat) (L : hf_Lo) (st : List Value) (g : hf_G) (I : hf_I) (J : hf_J) : Option hf_O := match st with
  | .ref a :: r => if (2 ≤ (hf_k g a).1 ∧ (hf_k g a).1 ≤ 6) ∧ (hf_k g a).2 < 2147483648 then hf_nx pc L (.int (Int32.ofNat (hf_k g a).2) :: r) g I J else none
  | _ => none
def hf_at0 (t : ArrayType) : Nat := match t with
  | .int => 2
  | .long => 3
  | _ => 9
/-- a new row of the kind t -/
def hf_na (t : Nat) (pc : Nat) (L : hf_Lo) (st : List Value) (g : hf_G) (I : hf_I) (J : hf_J) : Option hf_O := match st with
  | .int i :: r => if ¬ i < 0 ∧ i.toNatClampNeg ≤ 100000 ∧ hf_e g = true ∧ hf_n g < 1000000 ∧ 2 ≤ t ∧ t ≤ 5 then hf_nx pc L (.ref (hf_n g) :: r) (hf_mk g (t, i.toNatClampNeg) i.toNatClampNeg) (hf_w I (hf_n g) (fun _ => 0)) (hf_w J (hf_n g) (fun _ => 0)) else none
  | _ => none
/-- new: an object of a class of one's own, or a whole throw: new, dup, ldc, invokespecial, athrow -/
def hf_ne (mi ix pc : Nat) (L : hf_Lo) (st : List Value) (g : hf_G) (I : hf_I) (J : hf_J) : Option hf_O := match hf_cl (hf_oc mi) ix with
  | none => none
  | some c =>
    if c < 100 then (if hf_e g = true ∧ hf_n g < 1000000 then hf_nx (pc + 3) L (.ref (hf_n g) :: st) (hf_mk g (0, c) (hf_nf c)) (hf_w I (hf_n g) (fun _ => 0)) (hf_w J (hf_n g) (fun _ => 0)) else none)
    else if st = [] ∧ hf_hh mi = [] ∧ 6 ≤ hf_fr mi ∧ 90 ≤ hf_lo mi then
      match decode (hf_cd mi) (pc + 3), decode (hf_cd mi) (pc + 4) with
      | .ok (.dup, 1), .ok (.ldc is, 2) => match decode (hf_cd mi) (pc + 6), decode (hf_cd mi) (pc + 9) with
        | .ok (.invokespecial ic, 3), .ok (.athrow, 1) => match hf_tt.lookup (hf_oc mi, ix, is, ic) with
          | some (x, false, _) => if x = c - 100 then some (.inr (.inr (.inr x, hf_th g, I, J))) else none
          | _ => none
        | _, _ => none
      | .ok (.dup, 1), .ok (.ldc_w is, 3) => match decode (hf_cd mi) (pc + 7), decode (hf_cd mi) (pc + 10) with
        | .ok (.invokespecial ic, 3), .ok (.athrow, 1) => match hf_tt.lookup (hf_oc mi, ix, is, ic) with
          | some (x, true, _) => if x = c - 100 then some (.inr (.inr (.inr x, hf_th g, I, J))) else none
          | _ => none
        | _, _ => none
      | _, _ => none
    else none
def hf_cmp (op : ClassFile.Cond) (x y : Int32) : Bool := match op with
  | .eq => decide (x = y)
  | .ne => decide (¬ x = y)
  | .lt => decide (x < y)
  | .ge => decide (y ≤ x)
  | .gt => decide (y < x)
  | .le => decide (x ≤ y)
def hf_ld0 (v : Option Value) (pc : Nat) (L : hf_Lo) (st : List Value) (g : hf_G) (I : hf_I) (J : hf_J) : Option hf_O := match v with
  | some (.int x) => hf_nx pc L (.int x :: st) g I J
  | _ => none
def hf_ld1 (v : Option Value) (pc : Nat) (L : hf_Lo) (st : List Value) (g : hf_G) (I : hf_I) (J : hf_J) : Option hf_O := match v with
  | some (.long x) => hf_nx pc L (.long x :: st) g I J
  | _ => none
def hf_ld2 (v : Option Value) (pc : Nat) (L : hf_Lo) (st : List Value) (g : hf_G) (I : hf_I) (J : hf_J) : Option hf_O := match v with
  | some (.ref x) => hf_nx pc L (.ref x :: st) g I J
  | _ => none
def hf_st0 (i : Nat) (pc : Nat) (L : hf_Lo) (st : List Value) (g : hf_G) (I : hf_I) (J : hf_J) : Option hf_O := match st with
  | .int x :: r => if i < L.length then hf_nx pc (hf_s1 L i (.int x)) r g I J else none
  | _ => none
def hf_st1 (i : Nat) (pc : Nat) (L : hf_Lo) (st : List Value) (g : hf_G) (I : hf_I) (J : hf_J) : Option hf_O := match st with
  | .long x :: r => if i + 1 < L.length then hf_nx pc (hf_s2 L i (.long x)) r g I J else none
  | _ => none
def hf_st2 (i : Nat) (pc : Nat) (L : hf_Lo) (st : List Value) (g : hf_G) (I : hf_I) (J : hf_J) : Option hf_O := match st with
  | .ref x :: r => if i < L.length then hf_nx pc (hf_s1 L i (.ref x)) r g I J else none
  | _ => none
def hf_i2 (f : Int32 → Int32 → Int32) (pc : Nat) (L : hf_Lo) (st : List Value) (g : hf_G) (I : hf_I) (J : hf_J) : Option hf_O := match st with
  | .int y :: .int x :: r => hf_nx (pc + 1) L (.int (f x y) :: r) g I J
  | _ => none
def hf_l2 (f : Int64 → Int64 → Int64) (pc : Nat) (L : hf_Lo) (st : List Value) (g : hf_G) (I : hf_I) (J : hf_J) : Option hf_O := match st with
  | .long y :: .long x :: r => hf_nx (pc + 1) L (.long (f x y) :: r) g I J
  | _ => none
def hf_ret0 (mi : Nat) (st : List Value) (g : hf_G) (I : hf_I) (J : hf_J) : Option hf_O := match st with
  | [.int x] => if hf_rt mi = some .int ∨ hf_rt mi = some .boolean ∧ (x = 0 ∨ x = 1) then some (.inr (.inr (.inl (some (.int x)), g, I, J))) else none
  | _ => none
def hf_ret1 (mi : Nat) (st : List Value) (g : hf_G) (I : hf_I) (J : hf_J) : Option hf_O := match st with
  | [.long x] => if hf_rt mi = some .long then some (.inr (.inr (.inl (some (.long x)), g, I, J))) else none
  | _ => none
def hf_isO (t : Option FieldType) : Bool := match t with
  | some (.object _) => true
  | _ => false
def hf_ret2 (mi : Nat) (st : List Value) (g : hf_G) (I : hf_I) (J : hf_J) : Option hf_O := match st with
  | [.ref x] => if hf_isO (hf_rt mi) = true then some (.inr (.inr (.inl (some (.ref x)), g, I, J))) else none
  | _ => none
def hf_ret3 (mi : Nat) (st : List Value) (g : hf_G) (I : hf_I) (J : hf_J) : Option hf_O := match st with
  | [] => if hf_rt mi = none then some (.inr (.inr (.inl none, g, I, J))) else none
  | _ => none
def hf_oi (mi : Nat) (pc : Nat) (L : hf_Lo) (st : List Value) (g : hf_G) (I : hf_I) (J : hf_J) : Option hf_O := match st with
  | .ref _ :: r => if hf_cs r ≤ 8 ∧ 1 ≤ hf_fr mi ∧ 20 ≤ hf_lo mi then hf_nx pc L r g I J else none
  | _ => none
def hf_do (i : Instr) (mi pc : Nat) (L : hf_Lo) (st : List Value) (g : hf_G) (I : hf_I) (J : hf_J) : Option hf_O :=
  match i with
  | .iconst n => hf_nx (pc + 1) L (.int (Int32.ofInt n) :: st) g I J
  | .bipush n => hf_nx (pc + 2) L (.int (Int8.ofInt n).toInt32 :: st) g I J
  | .sipush n => hf_nx (pc + 3) L (.int (Int16.ofInt n).toInt32 :: st) g I J
  | .lconst n => hf_nx (pc + 1) L (.long (Int64.ofNat (n : Nat)) :: st) g I J
  | .iload_n k => hf_ld0 (hf_gl L k) (pc + 1) L st g I J
  | .iload k => hf_ld0 (hf_gl L k) (pc + 2) L st g I J
  | .lload_n k => hf_ld1 (hf_gl L k) (pc + 1) L st g I J
  | .lload k => hf_ld1 (hf_gl L k) (pc + 2) L st g I J
  | .aload_n k => hf_ld2 (hf_gl L k) (pc + 1) L st g I J
  | .aload k => hf_ld2 (hf_gl L k) (pc + 2) L st g I J
  | .istore_n k => hf_st0 k (pc + 1) L st g I J
  | .istore k => hf_st0 k (pc + 2) L st g I J
  | .lstore_n k => hf_st1 k (pc + 1) L st g I J
  | .lstore k => hf_st1 k (pc + 2) L st g I J
  | .astore_n k => hf_st2 k (pc + 1) L st g I J
  | .astore k => hf_st2 k (pc + 2) L st g I J
  | .iinc k n => match hf_gl L k with
    | some (.int x) => if k < L.length then hf_nx (pc + 3) (hf_s1 L k (.int (x + Int32.ofInt n))) st g I J else none
    | _ => none
  | .iadd => hf_i2 (· + ·) pc L st g I J
  | .isub => hf_i2 (· - ·) pc L st g I J
  | .imul => hf_i2 (· * ·) pc L st g I J
  | .iand => hf_i2 (· &&& ·) pc L st g I J
  | .ishr => hf_i2 (fun x y => x >>> (y &&& 31)) pc L st g I J
  | .idiv => match st with
    | .int y :: .int x :: r => if y = 0 then none else hf_nx (pc + 1) L (.int (x / y) :: r) g I J
    | _ => none
  | .irem => match st with
    | .int y :: .int x :: r => if y = 0 then none else hf_nx (pc + 1) L (.int (x - x / y * y) :: r) g I J
    | _ => none
  | .ineg => match st with
    | .int x :: r => hf_nx (pc + 1) L (.int (-x) :: r) g I J
    | _ => none
  | .ladd => hf_l2 (· + ·) pc L st g I J
  | .lsub => hf_l2 (· - ·) pc L st g I J
  | .lmul => hf_l2 (· * ·) pc L st g I J
  | .land => hf_l2 (· &&& ·) pc L st g I J
  | .lor => hf_l2 (· ||| ·) pc L st g I J
  | .lxor => hf_l2 (· ^^^ ·) pc L st g I J
  | .ldiv => match st with
    | .long y :: .long x :: r => if y = 0 then none else hf_nx (pc + 1) L (.long (x / y) :: r) g I J
    | _ => none
  | .lrem => match st with
    | .long y :: .long x :: r => if y = 0 then none else hf_nx (pc + 1) L (.long (x - x / y * y) :: r) g I J
    | _ => none
  | .lneg => match st with
    | .long x :: r => hf_nx (pc + 1) L (.long (-x) :: r) g I J
    | _ => none
  | .lshl => match st with
    | .int y :: .long x :: r => hf_nx (pc + 1) L (.long (x <<< (y.toInt64 &&& 63)) :: r) g I J
    | _ => none
  | .lushr => match st with
    | .int y :: .long x :: r => hf_nx (pc + 1) L (.long (x.toUInt64 >>> (y.toInt64.toUInt64 &&& Int64.toUInt64 63)).toInt64 :: r) g I J
    | _ => none
  | .lcmp => match st with
    | .long y :: .long x :: r => hf_nx (pc + 1) L (.int (lg_cmp x y) :: r) g I J
    | _ => none
  | .i2l => match st with
    | .int x :: r => hf_nx (pc + 1) L (.long x.toInt64 :: r) g I J
    | _ => none
  | .l2i => match st with
    | .long x :: r => hf_nx (pc + 1) L (.int x.toInt32 :: r) g I J
    | _ => none
  | .dup => match st with
    | v :: r => if v.category = 1 then hf_nx (pc + 1) L (v :: v :: r) g I J else none
    | _ => none
  | .dup2 => match st with
    | .int y :: .ref x :: r => hf_nx (pc + 1) L (.int y :: .ref x :: .int y :: .ref x :: r) g I J
    | .long y :: r => hf_nx (pc + 1) L (.long y :: .long y :: r) g I J
    | _ => none
  | .pop => match st with
    | v :: r => if v.category = 1 then hf_nx (pc + 1) L r g I J else none
    | _ => none
  | .ifCond op off => match st with
    | .int x :: r => hf_br (hf_cmp op x 0) pc off L r g I J
    | _ => none
  | .if_icmp op off => match st with
    | .int y :: .int x :: r => hf_br (hf_cmp op x y) pc off L r g I J
    | _ => none
  | .ifnonnull off => match st with
    | .ref _ :: r => hf_go pc off L r g I J
    | _ => none
  | .goto off => hf_go pc off L st g I J
  | .tableswitch d lo hi offs => match st with
    | .int x :: r => if x.toInt < lo ∨ hi < x.toInt then hf_go pc d L r g I J else
      match offs[(x.toInt - lo).toNat]? with
      | some off => hf_go pc off L r g I J
      | none => none
    | _ => none
  | .ldc2_w ix => match hf_ll (hf_oc mi) ix with
    | some v => hf_nx (pc + 3) L (.long v :: st) g I J
    | none => none
  | .ldc ix => match hf_il (hf_oc mi) ix with
    | some v => hf_nx (pc + 2) L (.int v :: st) g I J
    | none => none
  | .getfield ix => hf_gf (hf_fl (hf_oc mi) ix) (pc + 3) L st g I J
  | .putfield ix => hf_pf mi (hf_fl (hf_oc mi) ix) (pc + 3) L st g I J
  | .getstatic ix => if hf_oc mi = 1 ∧ ix = 94 then hf_nx (pc + 3) L (.ref 1000002 :: st) g I J else none
  | .iaload => hf_ia 2 (pc + 1) L st g I J
  | .laload => hf_la1 (pc + 1) L st g I J
  | .aaload => hf_aa (pc + 1) L st g I J
  | .iastore => hf_is (pc + 1) L st g I J
  | .lastore => hf_ls (pc + 1) L st g I J
  | .aastore => hf_as (pc + 1) L st g I J
  | .arraylength => hf_al (pc + 1) L st g I J
  | .newarray t => hf_na (hf_at0 t) (pc + 2) L st g I J
  | .anewarray ix => if hf_cl (hf_oc mi) ix = some 3 ∧ hf_oc mi = 0 then hf_na 5 (pc + 3) L st g I J else none
  | .new ix => hf_ne mi ix pc L st g I J
  | .invokespecial ix => if hf_ml (hf_oc mi) ix = some (999, 0, 9) then hf_oi mi (pc + 3) L st g I J else hf_call mi (hf_ml (hf_oc mi) ix) [2, 5] st g
  | .invokevirtual ix => hf_call mi (hf_ml (hf_oc mi) ix) [1, 4] st g
  | .invokestatic ix => hf_call mi (hf_ml (hf_oc mi) ix) [0, 3, 6] st g
  | .ireturn => hf_ret0 mi st g I J
  | .lreturn => hf_ret1 mi st g I J
  | .areturn => hf_ret2 mi st g I J
  | .return_ => hf_ret3 mi st g I J
  | _ => none
def hf_len (i : Instr) (len : Nat) : Nat := match i with
  | .bipush _ | .iload _ | .lload _ | .aload _ | .istore _ | .lstore _ | .astore _ | .newarray _ | .ldc _ => 2
  | .sipush _ | .iinc _ _ | .ifCond _ _ | .if_icmp _ _ | .ifnonnull _ | .goto _ | .ldc2_w _ | .getfield _ | .putfield _ | .getstatic _ | .anewarray _ | .new _ | .invokespecial _ | .invokevirtual _ | .invokestatic _ => 3
  | .tableswitch _ _ _ _ => len
  | _ => 1
def hf_stp (mi pc : Nat) (L : hf_Lo) (st : List Value) (g : hf_G) (I : hf_I) (J : hf_J) : Option hf_O :=
  match decode (hf_cd mi) pc with
  | .ok (i, len) => if len = hf_len i len then hf_do i mi pc L st g I J else none
  | _ => none
/-- where an exception is caught: the handler's place behind its store, the local that it takes -/
def hf_hd (mi pc : Nat) (x : Nat) : Option (Nat × Nat) :=
  match (hf_hh mi).find? (fun h => decide (h.1 ≤ pc ∧ pc < h.2.1) && decide (hf_cl (hf_oc mi) h.2.2.2 = some (100 + x))) with
  | some h => match decode (hf_cd mi) h.2.2.1 with
    | .ok (.astore k, 2) => some (h.2.2.1 + 2, k)
    | .ok (.astore_n k, 1) => some (h.2.2.1 + 1, k)
    | _ => none
  | none => none
def hf_kl (L : hf_Lo) (k : Nat) : hf_Lo := (hf_s1 L k (.int 0)).set k none
def hf_ex : Nat → Nat → Nat → hf_Lo → List Value → hf_G → hf_I → hf_J → Option hf_R
  | 0, _, _, _, _, _, _, _ => none
  | n + 1, mi, pc, L, st, g, I, J => match hf_stp mi pc L st g I J with
    | none => none
    | some (.inl (pc1, L1, st1, g1, I1, J1)) => hf_ex n mi pc1 L1 st1 g1 I1 J1
    | some (.inr (.inl (y, as, rest))) => match hf_ex n y 0 (hf_ent (hf_nL y) as) [] g I J with
      | none => none
      | some (.inl v, g1, I1, J1) => hf_ex n mi (pc + 3) L (v.toList ++ rest) g1 I1 J1
      | some (.inr x, g1, I1, J1) => if hf_hh mi = [] then some (.inr x, g1, I1, J1) else match hf_hd mi pc x with
        | none => none
        | some (pc1, k) => if k < L.length then hf_ex n mi pc1 (hf_kl L k) [] g1 I1 J1 else none
    | some (.inr (.inr r)) => some r
theorem hf_ex_more : ∀ (n mi pc : Nat) (L : hf_Lo) (st : List Value) (g : hf_G) (I : hf_I) (J : hf_J) (r : hf_R), hf_ex n mi pc L st g I J = some r → hf_ex (n + 1) mi pc L st g I J = some r
  | 0, _, _, _, _, _, _, _, _, h => by simp [hf_ex] at h
  | n + 1, mi, pc, L, st, g, I, J, r, h => by
    rw [hf_ex] at h ⊢
    cases e : hf_stp mi pc L st g I J with
    | none => rw [e] at h; exact h
    | some o =>
      rw [e] at h
      match o, h with
      | .inl (pc1, L1, st1, g1, I1, J1), h => exact hf_ex_more n _ _ _ _ _ _ _ _ h
      | .inr (.inr r1), h => exact h
      | .inr (.inl (y, as, rest)), h =>
        dsimp only at h ⊢
        cases e2 : hf_ex n y 0 (hf_ent (hf_nL y) as) [] g I J with
        | none => rw [e2] at h; simp at h
        | some q =>
          rw [hf_ex_more n _ _ _ _ _ _ _ _ e2]
          rw [e2] at h
          match q, h with
          | (.inl v, g1, I1, J1), h => exact hf_ex_more n _ _ _ _ _ _ _ _ h
          | (.inr x, g1, I1, J1), h =>
            dsimp only at h ⊢
            by_cases c : hf_hh mi = []
            · rw [if_pos c] at h ⊢; exact h
            · rw [if_neg c] at h ⊢
              cases e3 : hf_hd mi pc x with
              | none => rw [e3] at h; simp at h
              | some q3 =>
                rw [e3] at h
                obtain ⟨p3, k3⟩ := q3
                dsimp only at h ⊢
                by_cases c2 : k3 < L.length
                · rw [if_pos c2] at h ⊢; exact hf_ex_more n _ _ _ _ _ _ _ _ h
                · rw [if_neg c2] at h; simp at h
theorem hf_ex_le {n n2 mi pc : Nat} {L : hf_Lo} {st : List Value} {g : hf_G} {I : hf_I} {J : hf_J} {r : hf_R} (h : hf_ex n mi pc L st g I J = some r) (hn : n ≤ n2) : hf_ex n2 mi pc L st g I J = some r := by
  obtain ⟨k, rfl⟩ := Nat.le.dest hn
  induction k with
  | zero => exact h
  | succ k ih => exact hf_ex_more _ _ _ _ _ _ _ _ _ (ih (Nat.le_add_right _ _))
/-- what a run answers, however long it is -/
noncomputable def hf_rn (mi pc : Nat) (L : hf_Lo) (st : List Value) (g : hf_G) (I : hf_I) (J : hf_J) : Option hf_R :=
  @dite _ (∃ n r, hf_ex n mi pc L st g I J = some r) (Classical.propDecidable _) (fun h => some h.choose_spec.choose) (fun _ => none)
theorem hf_rn_of {n mi pc : Nat} {L : hf_Lo} {st : List Value} {g : hf_G} {I : hf_I} {J : hf_J} {r : hf_R} (h : hf_ex n mi pc L st g I J = some r) : hf_rn mi pc L st g I J = some r := by
  have hh : ∃ n r, hf_ex n mi pc L st g I J = some r := ⟨n, r, h⟩
  rw [hf_rn, dif_pos hh]
  have h2 := hh.choose_spec.choose_spec
  have h3 := hf_ex_le h2 (Nat.le_max_left hh.choose n)
  have h4 := hf_ex_le h (Nat.le_max_right hh.choose n)
  rw [h3] at h4
  exact h4
theorem hf_rn_ex {mi pc : Nat} {L : hf_Lo} {st : List Value} {g : hf_G} {I : hf_I} {J : hf_J} {r : hf_R} (h : hf_rn mi pc L st g I J = some r) : ∃ n, hf_ex n mi pc L st g I J = some r := by
  rw [hf_rn] at h
  split at h
  · rename_i hh
    cases h
    exact ⟨_, hh.choose_spec.choose_spec⟩
  · cases h
theorem hf_rn_none {mi pc : Nat} {L : hf_Lo} {st : List Value} {g : hf_G} {I : hf_I} {J : hf_J} (h : ∀ n r, ¬ hf_ex n mi pc L st g I J = some r) : hf_rn mi pc L st g I J = none := by
  rw [hf_rn, dif_neg]
  rintro ⟨n, r, q⟩
  exact h n r q
