/-! THE TABLES' CHECKS, by the kernel; each word by its place (laid by program) -/
def hf_ch (k : Nat) : List Jvm.Cond := match k with
  | 0 => k2_sels lw_privs
  | 1 => tables_1_1
  | 2 => tables_1_2
  | 3 => tables_1_3
  | 4 => tables_1_4
  | 5 => tables_1_5
  | 6 => tables_1_6
  | 7 => tables_1_7
  | _ => []
theorem hf_ch_mem {k i : Nat} {q : Jvm.Cond} (h : (hf_ch k)[i]? = some q) : q ∈ lw_tbl := by
  have h1 := List.mem_of_getElem? h
  unfold hf_ch at h1
  split at h1
  · exact List.mem_append_left _ h1
  · refine List.mem_append_right _ ?_
    simp only [tables_1, List.mem_append]
    simp [h1]
  · refine List.mem_append_right _ ?_
    simp only [tables_1, List.mem_append]
    simp [h1]
  · refine List.mem_append_right _ ?_
    simp only [tables_1, List.mem_append]
    simp [h1]
  · refine List.mem_append_right _ ?_
    simp only [tables_1, List.mem_append]
    simp [h1]
  · refine List.mem_append_right _ ?_
    simp only [tables_1, List.mem_append]
    simp [h1]
  · refine List.mem_append_right _ ?_
    simp only [tables_1, List.mem_append]
    simp [h1]
  · refine List.mem_append_right _ ?_
    simp only [tables_1, List.mem_append]
    simp [h1]
  · cases h1
def hf_has (h : Nat × Nat) (q : Jvm.Cond) : Bool := decide ((hf_ch h.1)[h.2]? = some q) && goodWord q
def hf_hasN (h : Nat × Nat) (q : Jvm.Cond) : Bool := decide ((hf_ch h.1)[h.2]? = some q) && hf_isN q
theorem hf_has_ts {h : Nat × Nat} {q : Jvm.Cond} (e : hf_has h q = true) : q ∈ hf_ts := by
  simp only [hf_has, Bool.and_eq_true, decide_eq_true_eq] at e
  exact List.mem_filter.mpr ⟨hf_ch_mem e.1, e.2⟩
theorem hf_hasN_nw {h : Nat × Nat} {q : Jvm.Cond} (e : hf_hasN h q = true) : q ∈ hf_nw := by
  simp only [hf_hasN, Bool.and_eq_true, decide_eq_true_eq] at e
  exact List.mem_filter.mpr ⟨hf_ch_mem e.1, e.2⟩
def hf_tyk (c k : Nat) : FieldType := (parseFieldDescriptor (hf_ct c k).2.2.1).getD .int
def hf_fok (c k : Nat) : Bool := decide ((hf_ct c k).1 = hf_cn c) && decide (parseFieldDescriptor (hf_ct c k).2.2.1 = some (hf_tyk c k)) &&
  (match hf_ft c k, hf_tyk c k with
  | 0, .int => decide ((hf_ct c k).2.2.1 = "I")
  | 0, .boolean => true
  | 1, .long => true
  | 2, .object _ => true
  | 2, .array _ => true
  | _, _ => false)
def hf_cH (c : Nat) : List (Nat × Nat) := match c with
  | 0 => [(1, 157), (1, 159), (1, 161), (1, 163), (1, 165), (1, 167), (1, 169)]
  | 1 => [(1, 76), (1, 78), (1, 80), (1, 82), (1, 84), (1, 86)]
  | 2 => [(1, 213), (1, 215)]
  | 3 => [(1, 139), (1, 141), (1, 143)]
  | 4 => [(1, 188), (1, 190), (1, 192), (1, 194), (1, 196), (1, 198), (1, 200)]
  | 5 => [(1, 52)]
  | 6 => [(1, 104), (1, 106), (1, 108), (1, 110), (1, 112)]
  | 7 => [(2, 11), (2, 13), (2, 15), (2, 17), (2, 19), (2, 21), (2, 23), (2, 25), (2, 27), (2, 29), (2, 31), (2, 33)]
  | 8 => [(1, 227)]
  | 9 => [(2, 175), (2, 177), (2, 179), (2, 181), (2, 183), (2, 185), (2, 187), (2, 189), (2, 191)]
  | 10 => [(5, 234), (5, 236), (5, 238), (6, 0), (6, 2), (6, 4), (6, 6), (6, 8), (6, 10), (6, 12), (6, 14), (6, 16), (6, 18), (6, 20), (6, 22), (6, 24), (6, 26), (6, 28), (6, 30), (6, 32), (6, 34), (6, 36), (6, 38), (6, 40), (6, 42), (6, 44), (6, 46), (6, 48), (6, 50), (6, 52), (6, 54), (6, 56), (6, 58), (6, 60), (6, 62), (6, 64), (6, 66), (6, 68), (6, 70)]
  | _ => []
def hf_cI (c : Nat) : Nat × Nat := match c with
  | 0 => (1, 6)
  | 1 => (1, 3)
  | 2 => (1, 9)
  | 3 => (1, 7)
  | 4 => (1, 8)
  | 5 => (1, 4)
  | 6 => (1, 2)
  | 7 => (1, 11)
  | 8 => (1, 10)
  | 9 => (1, 1)
  | 10 => (1, 14)
  | _ => (0, 0)
def hf_cok (c : Nat) : Bool := ((List.range (hf_nf c)).all fun k => hf_fok c k) && ((List.range (hf_nf c)).all fun a => (List.range (hf_nf c)).all fun b => decide (a = b) || decide ((hf_ct c a).2.1 ≠ (hf_ct c b).2.1)) &&
  decide ((hf_cH c).length = (u_ws (hf_cn c) (hf_ct c) (hf_nf c)).length) && ((hf_cH c).zip (u_ws (hf_cn c) (hf_ct c) (hf_nf c))).all (fun z => hf_has z.1 z.2) && hf_has (hf_cI c) (.initialized (hf_cn c))
theorem hf_cok_all : (List.range 11).all hf_cok = true := by decide +kernel
def hf_flH (o : Nat) : List (Nat × Nat) := match o with
  | 0 => [(1, 148), (1, 149), (1, 150), (1, 151), (1, 134), (1, 99), (1, 137), (1, 154), (1, 155), (1, 156)]
  | 1 => [(1, 56), (1, 59), (1, 62), (1, 65), (1, 68), (1, 70)]
  | 2 => [(1, 211), (1, 212), (1, 92), (1, 69), (1, 103)]
  | 3 => [(1, 132), (1, 136), (1, 138), (1, 93), (1, 98)]
  | 4 => [(1, 183), (1, 184), (1, 185), (1, 186), (1, 187), (1, 180), (1, 182), (1, 75), (1, 58), (1, 61)]
  | 6 => [(1, 51)]
  | 7 => [(1, 91), (1, 95), (1, 101), (1, 102), (1, 96), (1, 72), (1, 67), (1, 64)]
  | 8 => [(1, 238), (1, 239), (2, 0), (2, 1), (2, 2), (2, 3), (2, 6), (2, 7), (2, 8), (2, 9), (2, 10), (2, 4), (1, 152), (1, 133), (1, 97)]
  | 9 => [(1, 226), (1, 74), (1, 63), (1, 66)]
  | 10 => [(1, 73), (1, 57), (1, 60)]
  | 11 => [(2, 166), (2, 167), (2, 168), (2, 169), (2, 170), (2, 171), (2, 173), (2, 174), (1, 94), (1, 71), (2, 172), (1, 100), (1, 181), (1, 153), (2, 5), (1, 135)]
  | 12 => [(5, 211), (5, 212), (5, 213), (5, 214), (5, 215), (5, 216), (5, 217), (5, 218), (5, 219), (5, 220), (5, 221), (5, 222), (5, 223), (5, 224), (5, 225), (5, 226), (5, 228), (5, 229), (5, 230), (5, 231), (5, 232), (5, 199), (5, 200), (5, 201), (5, 207), (5, 233), (5, 195), (5, 196), (5, 197), (5, 210), (5, 198), (5, 202), (5, 203), (5, 204), (5, 205), (5, 206), (5, 208), (5, 209), (5, 227)]
  | _ => []
def hf_flok (h : Nat × Nat) (o ix c k kd : Nat) : Bool := decide (c < 11) && decide (k < hf_nf c) && (if kd = 0 then hf_has h (.fieldLink (hf_on o) ix (hf_cn c) (hf_ct c k).2.1 (hf_ct c k).2.2.1) else hf_hasN h (.fieldLinkNest (hf_on o) ix (hf_cn c) (hf_ct c k).2.1 (hf_ct c k).2.2.1 "Halofinder"))
theorem hf_fl_all : ((List.range 16).all fun o => decide ((hf_flH o).length = (hf_flT o).length) && ((hf_flH o).zip (hf_flT o)).all fun e => hf_flok e.1 o e.2.1 e.2.2.1 e.2.2.2.1 e.2.2.2.2) = true := by decide +kernel
def hf_llH (o : Nat) : List (Nat × Nat) := match o with
  | 0 => [(5, 59)]
  | 1 => [(2, 58), (2, 59), (3, 203), (3, 204), (3, 212)]
  | 3 => [(2, 111), (2, 102), (2, 140)]
  | 4 => [(4, 66), (4, 67), (4, 69)]
  | 5 => [(3, 18), (3, 17), (3, 41)]
  | 7 => [(4, 159)]
  | 8 => [(3, 61), (5, 160)]
  | 9 => [(5, 19), (5, 2), (5, 17)]
  | 10 => [(3, 77), (3, 74), (3, 75), (3, 85), (3, 86), (3, 87), (3, 88)]
  | 11 => [(2, 80), (3, 238), (3, 239), (4, 0), (4, 1), (4, 3), (4, 4)]
  | 12 => [(6, 105), (6, 83), (6, 84), (6, 109), (6, 96), (6, 97), (6, 98), (6, 99), (6, 100), (6, 120), (6, 121), (6, 122), (6, 123), (6, 143), (6, 144), (6, 187), (6, 200), (6, 201), (7, 3), (7, 75), (7, 100), (7, 101), (7, 106), (7, 134)]
  | 15 => [(2, 115), (2, 116), (2, 117)]
  | _ => []
def hf_llok (h : Nat × Nat) (o ix : Nat) (v : Int64) : Bool := hf_has h (.constantLong (hf_on o) ix v)
theorem hf_ll_all : ((List.range 16).all fun o => decide ((hf_llH o).length = (hf_llT o).length) && ((hf_llH o).zip (hf_llT o)).all fun e => hf_llok e.1 o e.2.1 e.2.2) = true := by decide +kernel
def hf_clH (o : Nat) : List (Nat × Nat) := match o with
  | 0 => [(1, 121), (1, 146)]
  | 1 => [(1, 42)]
  | 2 => [(1, 209)]
  | 3 => [(1, 128), (1, 130)]
  | 4 => [(1, 178)]
  | 7 => [(1, 36), (1, 89)]
  | 8 => [(1, 236)]
  | 9 => [(1, 224)]
  | 11 => [(1, 30), (1, 115), (1, 172), (1, 203), (1, 218), (1, 230), (3, 102), (4, 18), (3, 183)]
  | 13 => [(1, 22), (3, 94), (3, 173), (4, 8), (5, 182)]
  | _ => []
def hf_clG (o : Nat) : List (Nat × Nat) := match o with
  | 0 => [(1, 123), (1, 43)]
  | 1 => [(1, 43)]
  | 2 => [(1, 43)]
  | 3 => [(1, 31), (1, 43)]
  | 4 => [(1, 43)]
  | 7 => [(1, 37), (1, 43)]
  | 8 => [(1, 43)]
  | 9 => [(1, 43)]
  | 11 => [(1, 31), (1, 116), (1, 173), (1, 204), (1, 219), (1, 231), (0, 0), (0, 0), (0, 0)]
  | 13 => [(1, 23), (0, 0), (0, 0), (0, 0), (5, 183)]
  | _ => []
def hf_clok (h i : Nat × Nat) (o ix c : Nat) : Bool := if c < 100 then decide (c < 11) && hf_has h (.classLink (hf_on o) ix (hf_cn c)) && hf_has i (.instantiable (hf_cn c) (hf_nf c)) else decide (1 ≤ c - 100) && decide (c - 100 ≤ 3) && hf_has h (.classLink (hf_on o) ix (hf_en (c - 100)))
theorem hf_cl_all : ((List.range 16).all fun o => decide ((hf_clH o).length = (hf_clT o).length) && decide ((hf_clG o).length = (hf_clT o).length) && ((hf_clH o).zip ((hf_clG o).zip (hf_clT o))).all fun e => hf_clok e.1 e.2.1 o e.2.2.1 e.2.2.2) = true := by decide +kernel
def hf_mI (y : Nat) : Nat × Nat := (((match y / 16 with
  | 0 => [(1, 6), (1, 6), (1, 6), (1, 6), (1, 6), (1, 6), (1, 6), (1, 6), (1, 6), (1, 6), (1, 6), (1, 6), (1, 6), (1, 6), (1, 6), (1, 6)]
  | 1 => [(1, 3), (1, 3), (1, 3), (1, 3), (1, 3), (1, 3), (1, 3), (1, 3), (1, 3), (1, 3), (1, 3), (1, 3), (1, 3), (1, 3), (1, 3), (1, 3)]
  | 2 => [(1, 3), (1, 3), (1, 3), (1, 3), (1, 3), (1, 3), (1, 9), (1, 9), (1, 9), (1, 9), (1, 7), (1, 7), (1, 7), (1, 7), (1, 7), (1, 7)]
  | 3 => [(1, 7), (1, 7), (1, 8), (1, 8), (1, 8), (1, 8), (1, 8), (1, 8), (1, 8), (1, 8), (1, 8), (1, 8), (1, 8), (1, 8), (1, 12), (1, 12)]
  | 4 => [(1, 12), (1, 12), (1, 12), (1, 12), (1, 12), (1, 12), (1, 4), (1, 4), (1, 4), (1, 4), (1, 4), (1, 4), (1, 2), (1, 2), (1, 2), (1, 2)]
  | 5 => [(1, 2), (1, 2), (1, 2), (1, 2), (1, 2), (1, 2), (1, 2), (1, 2), (1, 2), (1, 11), (1, 11), (1, 11), (1, 11), (1, 11), (1, 11), (1, 11)]
  | 6 => [(1, 11), (1, 11), (1, 11), (1, 10), (1, 10), (1, 10), (1, 10), (1, 10), (1, 10), (1, 21), (1, 21), (1, 21), (1, 21), (1, 1), (1, 1), (1, 1)]
  | 7 => [(1, 1), (1, 1), (1, 1), (1, 1), (1, 1), (1, 1), (1, 1), (1, 1), (1, 1), (1, 1), (1, 1), (1, 1), (1, 1), (1, 1), (1, 1), (1, 1)]
  | 8 => [(1, 1), (1, 1), (1, 1), (1, 1), (1, 1), (1, 1), (1, 1), (1, 1), (1, 1), (1, 1), (1, 1), (1, 1), (1, 1), (1, 1), (1, 1), (1, 1)]
  | 9 => [(1, 1), (1, 1), (1, 1), (1, 14), (1, 14), (1, 14), (1, 14), (1, 14), (1, 14), (1, 14), (1, 14), (1, 14), (1, 14), (1, 14), (1, 14), (1, 14)]
  | 10 => [(1, 14), (1, 14), (1, 14), (1, 14), (1, 14), (1, 14), (1, 14), (1, 14), (1, 14), (1, 14), (1, 14), (1, 14), (1, 14), (1, 14), (1, 14), (1, 14)]
  | 11 => [(1, 14), (1, 14), (1, 14), (1, 14), (1, 14), (1, 14), (1, 14), (1, 14), (1, 14), (1, 14), (1, 14), (1, 14), (1, 14), (1, 14), (1, 14), (1, 14)]
  | 12 => [(1, 14), (1, 14), (1, 14), (1, 14), (1, 14), (1, 14), (1, 14), (1, 14), (1, 14), (1, 14), (1, 14), (1, 14), (1, 14), (1, 14), (1, 14), (1, 14)]
  | 13 => [(1, 14), (1, 14), (1, 14), (1, 14), (1, 14), (1, 14), (1, 14), (1, 14), (1, 14), (1, 14), (1, 14), (1, 14), (1, 14), (1, 14), (1, 14), (1, 14)]
  | 14 => [(1, 13), (1, 5), (1, 5), (1, 5), (1, 5), (1, 5), (1, 5), (1, 0), (1, 0), (1, 0), (1, 0), (1, 0), (1, 0), (1, 0), (1, 0), (1, 0)]
  | 15 => [(1, 0), (1, 0), (1, 0), (1, 0), (1, 0), (1, 0), (1, 0), (1, 0), (1, 0), (1, 0), (1, 0), (1, 0), (1, 0), (1, 0), (1, 0)]
  | _ => []) : List (Nat × Nat))).getD (y % 16) (0, 0)
def hf_npar (y : MethodName) : Option Nat := (parseMethodDescriptor y.desc).map (fun d => d.parameters.length)
def hf_mok (y : Nat) : Bool := plainFor (hf_y y) && decide ((hf_y y).cls ≠ "java/lang/invoke/MethodHandle") && decide ((hf_y y).cls ≠ "java/lang/invoke/VarHandle") && hf_has (hf_mI y) (.initialized (hf_y y).cls) && decide (hf_on (hf_oc y) = (hf_y y).cls)
theorem hf_mok_all : (List.range 255).all hf_mok = true := by decide +kernel
set_option maxRecDepth 100000 in
theorem hf_cw_0 : (hf_ch 1)[119]? = some (hf_cw 0) := rfl
set_option maxRecDepth 100000 in
theorem hf_cw_1 : (hf_ch 2)[75]? = some (hf_cw 1) := rfl
set_option maxRecDepth 100000 in
theorem hf_cw_2 : (hf_ch 2)[96]? = some (hf_cw 2) := rfl
set_option maxRecDepth 100000 in
theorem hf_cw_3 : (hf_ch 2)[92]? = some (hf_cw 3) := rfl
set_option maxRecDepth 100000 in
theorem hf_cw_4 : (hf_ch 5)[35]? = some (hf_cw 4) := rfl
set_option maxRecDepth 100000 in
theorem hf_cw_5 : (hf_ch 2)[227]? = some (hf_cw 5) := rfl
set_option maxRecDepth 100000 in
theorem hf_cw_6 : (hf_ch 5)[53]? = some (hf_cw 6) := rfl
set_option maxRecDepth 100000 in
theorem hf_cw_7 : (hf_ch 5)[84]? = some (hf_cw 7) := rfl
set_option maxRecDepth 100000 in
theorem hf_cw_8 : (hf_ch 5)[96]? = some (hf_cw 8) := rfl
set_option maxRecDepth 100000 in
theorem hf_cw_9 : (hf_ch 5)[101]? = some (hf_cw 9) := rfl
set_option maxRecDepth 100000 in
theorem hf_cw_10 : (hf_ch 5)[105]? = some (hf_cw 10) := rfl
set_option maxRecDepth 100000 in
theorem hf_cw_11 : (hf_ch 5)[111]? = some (hf_cw 11) := rfl
set_option maxRecDepth 100000 in
theorem hf_cw_12 : (hf_ch 2)[84]? = some (hf_cw 12) := rfl
set_option maxRecDepth 100000 in
theorem hf_cw_13 : (hf_ch 2)[88]? = some (hf_cw 13) := rfl
set_option maxRecDepth 100000 in
theorem hf_cw_14 : (hf_ch 2)[151]? = some (hf_cw 14) := rfl
set_option maxRecDepth 100000 in
theorem hf_cw_15 : (hf_ch 2)[214]? = some (hf_cw 15) := rfl
set_option maxRecDepth 100000 in
theorem hf_cw_16 : (hf_ch 1)[40]? = some (hf_cw 16) := rfl
set_option maxRecDepth 100000 in
theorem hf_cw_17 : (hf_ch 2)[43]? = some (hf_cw 17) := rfl
set_option maxRecDepth 100000 in
theorem hf_cw_18 : (hf_ch 5)[43]? = some (hf_cw 18) := rfl
set_option maxRecDepth 100000 in
theorem hf_cw_19 : (hf_ch 2)[50]? = some (hf_cw 19) := rfl
set_option maxRecDepth 100000 in
theorem hf_cw_20 : (hf_ch 2)[67]? = some (hf_cw 20) := rfl
set_option maxRecDepth 100000 in
theorem hf_cw_21 : (hf_ch 2)[57]? = some (hf_cw 21) := rfl
set_option maxRecDepth 100000 in
theorem hf_cw_22 : (hf_ch 3)[202]? = some (hf_cw 22) := rfl
set_option maxRecDepth 100000 in
theorem hf_cw_23 : (hf_ch 3)[208]? = some (hf_cw 23) := rfl
set_option maxRecDepth 100000 in
theorem hf_cw_24 : (hf_ch 3)[216]? = some (hf_cw 24) := rfl
set_option maxRecDepth 100000 in
theorem hf_cw_25 : (hf_ch 3)[220]? = some (hf_cw 25) := rfl
set_option maxRecDepth 100000 in
theorem hf_cw_26 : (hf_ch 4)[118]? = some (hf_cw 26) := rfl
set_option maxRecDepth 100000 in
theorem hf_cw_27 : (hf_ch 4)[122]? = some (hf_cw 27) := rfl
set_option maxRecDepth 100000 in
theorem hf_cw_28 : (hf_ch 3)[13]? = some (hf_cw 28) := rfl
set_option maxRecDepth 100000 in
theorem hf_cw_29 : (hf_ch 2)[205]? = some (hf_cw 29) := rfl
set_option maxRecDepth 100000 in
theorem hf_cw_30 : (hf_ch 4)[39]? = some (hf_cw 30) := rfl
set_option maxRecDepth 100000 in
theorem hf_cw_31 : (hf_ch 3)[9]? = some (hf_cw 31) := rfl
set_option maxRecDepth 100000 in
theorem hf_cw_32 : (hf_ch 4)[153]? = some (hf_cw 32) := rfl
set_option maxRecDepth 100000 in
theorem hf_cw_33 : (hf_ch 4)[157]? = some (hf_cw 33) := rfl
set_option maxRecDepth 100000 in
theorem hf_cw_34 : (hf_ch 5)[6]? = some (hf_cw 34) := rfl
set_option maxRecDepth 100000 in
theorem hf_cw_35 : (hf_ch 2)[201]? = some (hf_cw 35) := rfl
set_option maxRecDepth 100000 in
theorem hf_cw_36 : (hf_ch 3)[56]? = some (hf_cw 36) := rfl
set_option maxRecDepth 100000 in
theorem hf_cw_37 : (hf_ch 5)[180]? = some (hf_cw 37) := rfl
set_option maxRecDepth 100000 in
theorem hf_cw_38 : (hf_ch 1)[207]? = some (hf_cw 38) := rfl
set_option maxRecDepth 100000 in
theorem hf_cw_39 : (hf_ch 4)[175]? = some (hf_cw 39) := rfl
set_option maxRecDepth 100000 in
theorem hf_cw_40 : (hf_ch 4)[186]? = some (hf_cw 40) := rfl
set_option maxRecDepth 100000 in
theorem hf_cw_41 : (hf_ch 4)[190]? = some (hf_cw 41) := rfl
set_option maxRecDepth 100000 in
theorem hf_cw_42 : (hf_ch 1)[126]? = some (hf_cw 42) := rfl
set_option maxRecDepth 100000 in
theorem hf_cw_43 : (hf_ch 5)[39]? = some (hf_cw 43) := rfl
set_option maxRecDepth 100000 in
theorem hf_cw_44 : (hf_ch 2)[155]? = some (hf_cw 44) := rfl
set_option maxRecDepth 100000 in
theorem hf_cw_45 : (hf_ch 2)[138]? = some (hf_cw 45) := rfl
set_option maxRecDepth 100000 in
theorem hf_cw_46 : (hf_ch 2)[121]? = some (hf_cw 46) := rfl
set_option maxRecDepth 100000 in
theorem hf_cw_47 : (hf_ch 2)[100]? = some (hf_cw 47) := rfl
set_option maxRecDepth 100000 in
theorem hf_cw_48 : (hf_ch 2)[134]? = some (hf_cw 48) := rfl
set_option maxRecDepth 100000 in
theorem hf_cw_49 : (hf_ch 2)[144]? = some (hf_cw 49) := rfl
set_option maxRecDepth 100000 in
theorem hf_cw_50 : (hf_ch 1)[176]? = some (hf_cw 50) := rfl
set_option maxRecDepth 100000 in
theorem hf_cw_51 : (hf_ch 2)[79]? = some (hf_cw 51) := rfl
set_option maxRecDepth 100000 in
theorem hf_cw_52 : (hf_ch 4)[101]? = some (hf_cw 52) := rfl
set_option maxRecDepth 100000 in
theorem hf_cw_53 : (hf_ch 4)[93]? = some (hf_cw 53) := rfl
set_option maxRecDepth 100000 in
theorem hf_cw_54 : (hf_ch 4)[97]? = some (hf_cw 54) := rfl
set_option maxRecDepth 100000 in
theorem hf_cw_55 : (hf_ch 4)[78]? = some (hf_cw 55) := rfl
set_option maxRecDepth 100000 in
theorem hf_cw_56 : (hf_ch 4)[74]? = some (hf_cw 56) := rfl
set_option maxRecDepth 100000 in
theorem hf_cw_57 : (hf_ch 4)[57]? = some (hf_cw 57) := rfl
set_option maxRecDepth 100000 in
theorem hf_cw_58 : (hf_ch 4)[61]? = some (hf_cw 58) := rfl
set_option maxRecDepth 100000 in
theorem hf_cw_59 : (hf_ch 4)[65]? = some (hf_cw 59) := rfl
set_option maxRecDepth 100000 in
theorem hf_cw_60 : (hf_ch 4)[83]? = some (hf_cw 60) := rfl
set_option maxRecDepth 100000 in
theorem hf_cw_61 : (hf_ch 4)[88]? = some (hf_cw 61) := rfl
set_option maxRecDepth 100000 in
theorem hf_cw_62 : (hf_ch 3)[36]? = some (hf_cw 62) := rfl
set_option maxRecDepth 100000 in
theorem hf_cw_63 : (hf_ch 3)[16]? = some (hf_cw 63) := rfl
set_option maxRecDepth 100000 in
theorem hf_cw_64 : (hf_ch 3)[40]? = some (hf_cw 64) := rfl
set_option maxRecDepth 100000 in
theorem hf_cw_65 : (hf_ch 2)[53]? = some (hf_cw 65) := rfl
set_option maxRecDepth 100000 in
theorem hf_cw_66 : (hf_ch 3)[30]? = some (hf_cw 66) := rfl
set_option maxRecDepth 100000 in
theorem hf_cw_67 : (hf_ch 3)[4]? = some (hf_cw 67) := rfl
set_option maxRecDepth 100000 in
theorem hf_cw_68 : (hf_ch 3)[1]? = some (hf_cw 68) := rfl
set_option maxRecDepth 100000 in
theorem hf_cw_69 : (hf_ch 2)[238]? = some (hf_cw 69) := rfl
set_option maxRecDepth 100000 in
theorem hf_cw_70 : (hf_ch 1)[46]? = some (hf_cw 70) := rfl
set_option maxRecDepth 100000 in
theorem hf_cw_71 : (hf_ch 2)[110]? = some (hf_cw 71) := rfl
set_option maxRecDepth 100000 in
theorem hf_cw_72 : (hf_ch 2)[63]? = some (hf_cw 72) := rfl
set_option maxRecDepth 100000 in
theorem hf_cw_73 : (hf_ch 2)[125]? = some (hf_cw 73) := rfl
set_option maxRecDepth 100000 in
theorem hf_cw_74 : (hf_ch 2)[71]? = some (hf_cw 74) := rfl
set_option maxRecDepth 100000 in
theorem hf_cw_75 : (hf_ch 5)[47]? = some (hf_cw 75) := rfl
set_option maxRecDepth 100000 in
theorem hf_cw_76 : (hf_ch 1)[34]? = some (hf_cw 76) := rfl
set_option maxRecDepth 100000 in
theorem hf_cw_77 : (hf_ch 4)[144]? = some (hf_cw 77) := rfl
set_option maxRecDepth 100000 in
theorem hf_cw_78 : (hf_ch 4)[180]? = some (hf_cw 78) := rfl
set_option maxRecDepth 100000 in
theorem hf_cw_79 : (hf_ch 4)[148]? = some (hf_cw 79) := rfl
set_option maxRecDepth 100000 in
theorem hf_cw_80 : (hf_ch 4)[163]? = some (hf_cw 80) := rfl
set_option maxRecDepth 100000 in
theorem hf_cw_81 : (hf_ch 2)[106]? = some (hf_cw 81) := rfl
set_option maxRecDepth 100000 in
theorem hf_cw_82 : (hf_ch 3)[26]? = some (hf_cw 82) := rfl
set_option maxRecDepth 100000 in
theorem hf_cw_83 : (hf_ch 2)[129]? = some (hf_cw 83) := rfl
set_option maxRecDepth 100000 in
theorem hf_cw_84 : (hf_ch 5)[58]? = some (hf_cw 84) := rfl
set_option maxRecDepth 100000 in
theorem hf_cw_85 : (hf_ch 4)[215]? = some (hf_cw 85) := rfl
set_option maxRecDepth 100000 in
theorem hf_cw_86 : (hf_ch 2)[235]? = some (hf_cw 86) := rfl
set_option maxRecDepth 100000 in
theorem hf_cw_87 : (hf_ch 3)[52]? = some (hf_cw 87) := rfl
set_option maxRecDepth 100000 in
theorem hf_cw_88 : (hf_ch 4)[221]? = some (hf_cw 88) := rfl
set_option maxRecDepth 100000 in
theorem hf_cw_89 : (hf_ch 1)[234]? = some (hf_cw 89) := rfl
set_option maxRecDepth 100000 in
theorem hf_cw_90 : (hf_ch 2)[161]? = some (hf_cw 90) := rfl
set_option maxRecDepth 100000 in
theorem hf_cw_91 : (hf_ch 2)[165]? = some (hf_cw 91) := rfl
set_option maxRecDepth 100000 in
theorem hf_cw_92 : (hf_ch 2)[222]? = some (hf_cw 92) := rfl
set_option maxRecDepth 100000 in
theorem hf_cw_93 : (hf_ch 2)[231]? = some (hf_cw 93) := rfl
set_option maxRecDepth 100000 in
theorem hf_cw_94 : (hf_ch 3)[44]? = some (hf_cw 94) := rfl
set_option maxRecDepth 100000 in
theorem hf_cw_95 : (hf_ch 5)[154]? = some (hf_cw 95) := rfl
set_option maxRecDepth 100000 in
theorem hf_cw_96 : (hf_ch 5)[159]? = some (hf_cw 96) := rfl
set_option maxRecDepth 100000 in
theorem hf_cw_97 : (hf_ch 5)[165]? = some (hf_cw 97) := rfl
set_option maxRecDepth 100000 in
theorem hf_cw_98 : (hf_ch 5)[169]? = some (hf_cw 98) := rfl
set_option maxRecDepth 100000 in
theorem hf_cw_99 : (hf_ch 1)[222]? = some (hf_cw 99) := rfl
set_option maxRecDepth 100000 in
theorem hf_cw_100 : (hf_ch 4)[232]? = some (hf_cw 100) := rfl
set_option maxRecDepth 100000 in
theorem hf_cw_101 : (hf_ch 5)[1]? = some (hf_cw 101) := rfl
set_option maxRecDepth 100000 in
theorem hf_cw_102 : (hf_ch 4)[236]? = some (hf_cw 102) := rfl
set_option maxRecDepth 100000 in
theorem hf_cw_103 : (hf_ch 5)[23]? = some (hf_cw 103) := rfl
set_option maxRecDepth 100000 in
theorem hf_cw_104 : (hf_ch 5)[14]? = some (hf_cw 104) := rfl
set_option maxRecDepth 100000 in
theorem hf_cw_105 : (hf_ch 3)[69]? = some (hf_cw 105) := rfl
set_option maxRecDepth 100000 in
theorem hf_cw_106 : (hf_ch 3)[72]? = some (hf_cw 106) := rfl
set_option maxRecDepth 100000 in
theorem hf_cw_107 : (hf_ch 3)[81]? = some (hf_cw 107) := rfl
set_option maxRecDepth 100000 in
theorem hf_cw_108 : (hf_ch 3)[84]? = some (hf_cw 108) := rfl
set_option maxRecDepth 100000 in
theorem hf_cw_109 : (hf_ch 1)[26]? = some (hf_cw 109) := rfl
set_option maxRecDepth 100000 in
theorem hf_cw_110 : (hf_ch 3)[98]? = some (hf_cw 110) := rfl
set_option maxRecDepth 100000 in
theorem hf_cw_111 : (hf_ch 3)[177]? = some (hf_cw 111) := rfl
set_option maxRecDepth 100000 in
theorem hf_cw_112 : (hf_ch 3)[229]? = some (hf_cw 112) := rfl
set_option maxRecDepth 100000 in
theorem hf_cw_113 : (hf_ch 4)[12]? = some (hf_cw 113) := rfl
set_option maxRecDepth 100000 in
theorem hf_cw_114 : (hf_ch 4)[46]? = some (hf_cw 114) := rfl
set_option maxRecDepth 100000 in
theorem hf_cw_115 : (hf_ch 4)[53]? = some (hf_cw 115) := rfl
set_option maxRecDepth 100000 in
theorem hf_cw_116 : (hf_ch 4)[109]? = some (hf_cw 116) := rfl
set_option maxRecDepth 100000 in
theorem hf_cw_117 : (hf_ch 2)[197]? = some (hf_cw 117) := rfl
set_option maxRecDepth 100000 in
theorem hf_cw_118 : (hf_ch 4)[129]? = some (hf_cw 118) := rfl
set_option maxRecDepth 100000 in
theorem hf_cw_119 : (hf_ch 4)[136]? = some (hf_cw 119) := rfl
set_option maxRecDepth 100000 in
theorem hf_cw_120 : (hf_ch 4)[171]? = some (hf_cw 120) := rfl
set_option maxRecDepth 100000 in
theorem hf_cw_121 : (hf_ch 4)[199]? = some (hf_cw 121) := rfl
set_option maxRecDepth 100000 in
theorem hf_cw_122 : (hf_ch 4)[211]? = some (hf_cw 122) := rfl
set_option maxRecDepth 100000 in
theorem hf_cw_123 : (hf_ch 4)[228]? = some (hf_cw 123) := rfl
set_option maxRecDepth 100000 in
theorem hf_cw_124 : (hf_ch 5)[30]? = some (hf_cw 124) := rfl
set_option maxRecDepth 100000 in
theorem hf_cw_125 : (hf_ch 5)[68]? = some (hf_cw 125) := rfl
set_option maxRecDepth 100000 in
theorem hf_cw_126 : (hf_ch 5)[80]? = some (hf_cw 126) := rfl
set_option maxRecDepth 100000 in
theorem hf_cw_127 : (hf_ch 5)[92]? = some (hf_cw 127) := rfl
set_option maxRecDepth 100000 in
theorem hf_cw_128 : (hf_ch 5)[120]? = some (hf_cw 128) := rfl
set_option maxRecDepth 100000 in
theorem hf_cw_129 : (hf_ch 5)[127]? = some (hf_cw 129) := rfl
set_option maxRecDepth 100000 in
theorem hf_cw_130 : (hf_ch 2)[210]? = some (hf_cw 130) := rfl
set_option maxRecDepth 100000 in
theorem hf_cw_131 : (hf_ch 5)[135]? = some (hf_cw 131) := rfl
set_option maxRecDepth 100000 in
theorem hf_cw_132 : (hf_ch 5)[142]? = some (hf_cw 132) := rfl
set_option maxRecDepth 100000 in
theorem hf_cw_133 : (hf_ch 2)[218]? = some (hf_cw 133) := rfl
set_option maxRecDepth 100000 in
theorem hf_cw_134 : (hf_ch 5)[149]? = some (hf_cw 134) := rfl
set_option maxRecDepth 100000 in
theorem hf_cw_135 : (hf_ch 5)[176]? = some (hf_cw 135) := rfl
set_option maxRecDepth 100000 in
theorem hf_cw_136 : (hf_ch 3)[66]? = some (hf_cw 136) := rfl
set_option maxRecDepth 100000 in
theorem hf_cw_137 : (hf_ch 2)[39]? = some (hf_cw 137) := rfl
set_option maxRecDepth 100000 in
theorem hf_cw_138 : (hf_ch 3)[237]? = some (hf_cw 138) := rfl
set_option maxRecDepth 100000 in
theorem hf_cw_139 : (hf_ch 4)[114]? = some (hf_cw 139) := rfl
set_option maxRecDepth 100000 in
theorem hf_cw_140 : (hf_ch 4)[16]? = some (hf_cw 140) := rfl
set_option maxRecDepth 100000 in
theorem hf_cw_141 : (hf_ch 4)[140]? = some (hf_cw 141) := rfl
set_option maxRecDepth 100000 in
theorem hf_cw_142 : (hf_ch 4)[202]? = some (hf_cw 142) := rfl
set_option maxRecDepth 100000 in
theorem hf_cw_143 : (hf_ch 5)[72]? = some (hf_cw 143) := rfl
set_option maxRecDepth 100000 in
theorem hf_cw_144 : (hf_ch 3)[182]? = some (hf_cw 144) := rfl
set_option maxRecDepth 100000 in
theorem hf_cw_145 : (hf_ch 3)[101]? = some (hf_cw 145) := rfl
set_option maxRecDepth 100000 in
theorem hf_cw_146 : (hf_ch 3)[232]? = some (hf_cw 146) := rfl
set_option maxRecDepth 100000 in
theorem hf_cw_147 : (hf_ch 5)[186]? = some (hf_cw 147) := rfl
set_option maxRecDepth 100000 in
theorem hf_cw_148 : (hf_ch 6)[78]? = some (hf_cw 148) := rfl
set_option maxRecDepth 100000 in
theorem hf_cw_149 : (hf_ch 6)[87]? = some (hf_cw 149) := rfl
set_option maxRecDepth 100000 in
theorem hf_cw_150 : (hf_ch 6)[91]? = some (hf_cw 150) := rfl
set_option maxRecDepth 100000 in
theorem hf_cw_151 : (hf_ch 6)[108]? = some (hf_cw 151) := rfl
set_option maxRecDepth 100000 in
theorem hf_cw_152 : (hf_ch 6)[115]? = some (hf_cw 152) := rfl
set_option maxRecDepth 100000 in
theorem hf_cw_153 : (hf_ch 6)[159]? = some (hf_cw 153) := rfl
set_option maxRecDepth 100000 in
theorem hf_cw_154 : (hf_ch 6)[126]? = some (hf_cw 154) := rfl
set_option maxRecDepth 100000 in
theorem hf_cw_155 : (hf_ch 7)[26]? = some (hf_cw 155) := rfl
set_option maxRecDepth 100000 in
theorem hf_cw_156 : (hf_ch 6)[156]? = some (hf_cw 156) := rfl
set_option maxRecDepth 100000 in
theorem hf_cw_157 : (hf_ch 6)[163]? = some (hf_cw 157) := rfl
set_option maxRecDepth 100000 in
theorem hf_cw_158 : (hf_ch 6)[221]? = some (hf_cw 158) := rfl
set_option maxRecDepth 100000 in
theorem hf_cw_159 : (hf_ch 5)[194]? = some (hf_cw 159) := rfl
set_option maxRecDepth 100000 in
theorem hf_cw_160 : (hf_ch 5)[191]? = some (hf_cw 160) := rfl
set_option maxRecDepth 100000 in
theorem hf_cw_161 : (hf_ch 6)[82]? = some (hf_cw 161) := rfl
set_option maxRecDepth 100000 in
theorem hf_cw_162 : (hf_ch 6)[112]? = some (hf_cw 162) := rfl
set_option maxRecDepth 100000 in
theorem hf_cw_163 : (hf_ch 6)[104]? = some (hf_cw 163) := rfl
set_option maxRecDepth 100000 in
theorem hf_cw_164 : (hf_ch 6)[95]? = some (hf_cw 164) := rfl
set_option maxRecDepth 100000 in
theorem hf_cw_165 : (hf_ch 6)[119]? = some (hf_cw 165) := rfl
set_option maxRecDepth 100000 in
theorem hf_cw_166 : (hf_ch 6)[138]? = some (hf_cw 166) := rfl
set_option maxRecDepth 100000 in
theorem hf_cw_167 : (hf_ch 6)[134]? = some (hf_cw 167) := rfl
set_option maxRecDepth 100000 in
theorem hf_cw_168 : (hf_ch 6)[209]? = some (hf_cw 168) := rfl
set_option maxRecDepth 100000 in
theorem hf_cw_169 : (hf_ch 6)[130]? = some (hf_cw 169) := rfl
set_option maxRecDepth 100000 in
theorem hf_cw_170 : (hf_ch 6)[142]? = some (hf_cw 170) := rfl
set_option maxRecDepth 100000 in
theorem hf_cw_171 : (hf_ch 6)[167]? = some (hf_cw 171) := rfl
set_option maxRecDepth 100000 in
theorem hf_cw_172 : (hf_ch 6)[152]? = some (hf_cw 172) := rfl
set_option maxRecDepth 100000 in
theorem hf_cw_173 : (hf_ch 6)[175]? = some (hf_cw 173) := rfl
set_option maxRecDepth 100000 in
theorem hf_cw_174 : (hf_ch 6)[178]? = some (hf_cw 174) := rfl
set_option maxRecDepth 100000 in
theorem hf_cw_175 : (hf_ch 6)[171]? = some (hf_cw 175) := rfl
set_option maxRecDepth 100000 in
theorem hf_cw_176 : (hf_ch 6)[182]? = some (hf_cw 176) := rfl
set_option maxRecDepth 100000 in
theorem hf_cw_177 : (hf_ch 6)[148]? = some (hf_cw 177) := rfl
set_option maxRecDepth 100000 in
theorem hf_cw_178 : (hf_ch 6)[191]? = some (hf_cw 178) := rfl
set_option maxRecDepth 100000 in
theorem hf_cw_179 : (hf_ch 6)[186]? = some (hf_cw 179) := rfl
set_option maxRecDepth 100000 in
theorem hf_cw_180 : (hf_ch 6)[195]? = some (hf_cw 180) := rfl
set_option maxRecDepth 100000 in
theorem hf_cw_181 : (hf_ch 6)[199]? = some (hf_cw 181) := rfl
set_option maxRecDepth 100000 in
theorem hf_cw_182 : (hf_ch 6)[217]? = some (hf_cw 182) := rfl
set_option maxRecDepth 100000 in
theorem hf_cw_183 : (hf_ch 6)[213]? = some (hf_cw 183) := rfl
set_option maxRecDepth 100000 in
theorem hf_cw_184 : (hf_ch 6)[225]? = some (hf_cw 184) := rfl
set_option maxRecDepth 100000 in
theorem hf_cw_185 : (hf_ch 6)[205]? = some (hf_cw 185) := rfl
set_option maxRecDepth 100000 in
theorem hf_cw_186 : (hf_ch 6)[229]? = some (hf_cw 186) := rfl
set_option maxRecDepth 100000 in
theorem hf_cw_187 : (hf_ch 6)[238]? = some (hf_cw 187) := rfl
set_option maxRecDepth 100000 in
theorem hf_cw_188 : (hf_ch 7)[38]? = some (hf_cw 188) := rfl
set_option maxRecDepth 100000 in
theorem hf_cw_189 : (hf_ch 6)[234]? = some (hf_cw 189) := rfl
set_option maxRecDepth 100000 in
theorem hf_cw_190 : (hf_ch 7)[11]? = some (hf_cw 190) := rfl
set_option maxRecDepth 100000 in
theorem hf_cw_191 : (hf_ch 7)[7]? = some (hf_cw 191) := rfl
set_option maxRecDepth 100000 in
theorem hf_cw_192 : (hf_ch 7)[2]? = some (hf_cw 192) := rfl
set_option maxRecDepth 100000 in
theorem hf_cw_193 : (hf_ch 7)[23]? = some (hf_cw 193) := rfl
set_option maxRecDepth 100000 in
theorem hf_cw_194 : (hf_ch 7)[19]? = some (hf_cw 194) := rfl
set_option maxRecDepth 100000 in
theorem hf_cw_195 : (hf_ch 7)[15]? = some (hf_cw 195) := rfl
set_option maxRecDepth 100000 in
theorem hf_cw_196 : (hf_ch 7)[30]? = some (hf_cw 196) := rfl
set_option maxRecDepth 100000 in
theorem hf_cw_197 : (hf_ch 7)[46]? = some (hf_cw 197) := rfl
set_option maxRecDepth 100000 in
theorem hf_cw_198 : (hf_ch 7)[42]? = some (hf_cw 198) := rfl
set_option maxRecDepth 100000 in
theorem hf_cw_199 : (hf_ch 7)[34]? = some (hf_cw 199) := rfl
set_option maxRecDepth 100000 in
theorem hf_cw_200 : (hf_ch 7)[58]? = some (hf_cw 200) := rfl
set_option maxRecDepth 100000 in
theorem hf_cw_201 : (hf_ch 7)[54]? = some (hf_cw 201) := rfl
set_option maxRecDepth 100000 in
theorem hf_cw_202 : (hf_ch 7)[50]? = some (hf_cw 202) := rfl
set_option maxRecDepth 100000 in
theorem hf_cw_203 : (hf_ch 7)[66]? = some (hf_cw 203) := rfl
set_option maxRecDepth 100000 in
theorem hf_cw_204 : (hf_ch 7)[70]? = some (hf_cw 204) := rfl
set_option maxRecDepth 100000 in
theorem hf_cw_205 : (hf_ch 7)[62]? = some (hf_cw 205) := rfl
set_option maxRecDepth 100000 in
theorem hf_cw_206 : (hf_ch 7)[74]? = some (hf_cw 206) := rfl
set_option maxRecDepth 100000 in
theorem hf_cw_207 : (hf_ch 7)[87]? = some (hf_cw 207) := rfl
set_option maxRecDepth 100000 in
theorem hf_cw_208 : (hf_ch 7)[91]? = some (hf_cw 208) := rfl
set_option maxRecDepth 100000 in
theorem hf_cw_209 : (hf_ch 7)[83]? = some (hf_cw 209) := rfl
set_option maxRecDepth 100000 in
theorem hf_cw_210 : (hf_ch 7)[79]? = some (hf_cw 210) := rfl
set_option maxRecDepth 100000 in
theorem hf_cw_211 : (hf_ch 7)[95]? = some (hf_cw 211) := rfl
set_option maxRecDepth 100000 in
theorem hf_cw_212 : (hf_ch 7)[99]? = some (hf_cw 212) := rfl
set_option maxRecDepth 100000 in
theorem hf_cw_213 : (hf_ch 7)[105]? = some (hf_cw 213) := rfl
set_option maxRecDepth 100000 in
theorem hf_cw_214 : (hf_ch 7)[121]? = some (hf_cw 214) := rfl
set_option maxRecDepth 100000 in
theorem hf_cw_215 : (hf_ch 7)[118]? = some (hf_cw 215) := rfl
set_option maxRecDepth 100000 in
theorem hf_cw_216 : (hf_ch 7)[125]? = some (hf_cw 216) := rfl
set_option maxRecDepth 100000 in
theorem hf_cw_217 : (hf_ch 7)[129]? = some (hf_cw 217) := rfl
set_option maxRecDepth 100000 in
theorem hf_cw_218 : (hf_ch 7)[114]? = some (hf_cw 218) := rfl
set_option maxRecDepth 100000 in
theorem hf_cw_219 : (hf_ch 7)[110]? = some (hf_cw 219) := rfl
set_option maxRecDepth 100000 in
theorem hf_cw_220 : (hf_ch 7)[133]? = some (hf_cw 220) := rfl
set_option maxRecDepth 100000 in
theorem hf_cw_221 : (hf_ch 7)[138]? = some (hf_cw 221) := rfl
set_option maxRecDepth 100000 in
theorem hf_cw_222 : (hf_ch 7)[145]? = some (hf_cw 222) := rfl
set_option maxRecDepth 100000 in
theorem hf_cw_223 : (hf_ch 7)[142]? = some (hf_cw 223) := rfl
set_option maxRecDepth 100000 in
theorem hf_cw_224 : (hf_ch 2)[114]? = some (hf_cw 224) := rfl
set_option maxRecDepth 100000 in
theorem hf_cw_225 : (hf_ch 3)[33]? = some (hf_cw 225) := rfl
set_option maxRecDepth 100000 in
theorem hf_cw_226 : (hf_ch 3)[21]? = some (hf_cw 226) := rfl
set_option maxRecDepth 100000 in
theorem hf_cw_227 : (hf_ch 3)[47]? = some (hf_cw 227) := rfl
set_option maxRecDepth 100000 in
theorem hf_cw_228 : (hf_ch 1)[50]? = some (hf_cw 228) := rfl
set_option maxRecDepth 100000 in
theorem hf_cw_229 : (hf_ch 2)[46]? = some (hf_cw 229) := rfl
set_option maxRecDepth 100000 in
theorem hf_cw_230 : (hf_ch 2)[147]? = some (hf_cw 230) := rfl
set_option maxRecDepth 100000 in
theorem hf_cw_231 : (hf_ch 3)[93]? = some (hf_cw 231) := rfl
set_option maxRecDepth 100000 in
theorem hf_cw_232 : (hf_ch 3)[172]? = some (hf_cw 232) := rfl
set_option maxRecDepth 100000 in
theorem hf_cw_233 : (hf_ch 3)[225]? = some (hf_cw 233) := rfl
set_option maxRecDepth 100000 in
theorem hf_cw_234 : (hf_ch 4)[7]? = some (hf_cw 234) := rfl
set_option maxRecDepth 100000 in
theorem hf_cw_235 : (hf_ch 4)[42]? = some (hf_cw 235) := rfl
set_option maxRecDepth 100000 in
theorem hf_cw_236 : (hf_ch 4)[49]? = some (hf_cw 236) := rfl
set_option maxRecDepth 100000 in
theorem hf_cw_237 : (hf_ch 4)[105]? = some (hf_cw 237) := rfl
set_option maxRecDepth 100000 in
theorem hf_cw_238 : (hf_ch 4)[125]? = some (hf_cw 238) := rfl
set_option maxRecDepth 100000 in
theorem hf_cw_239 : (hf_ch 4)[132]? = some (hf_cw 239) := rfl
set_option maxRecDepth 100000 in
theorem hf_cw_240 : (hf_ch 4)[167]? = some (hf_cw 240) := rfl
set_option maxRecDepth 100000 in
theorem hf_cw_241 : (hf_ch 4)[195]? = some (hf_cw 241) := rfl
set_option maxRecDepth 100000 in
theorem hf_cw_242 : (hf_ch 4)[207]? = some (hf_cw 242) := rfl
set_option maxRecDepth 100000 in
theorem hf_cw_243 : (hf_ch 4)[224]? = some (hf_cw 243) := rfl
set_option maxRecDepth 100000 in
theorem hf_cw_244 : (hf_ch 5)[26]? = some (hf_cw 244) := rfl
set_option maxRecDepth 100000 in
theorem hf_cw_245 : (hf_ch 5)[64]? = some (hf_cw 245) := rfl
set_option maxRecDepth 100000 in
theorem hf_cw_246 : (hf_ch 5)[76]? = some (hf_cw 246) := rfl
set_option maxRecDepth 100000 in
theorem hf_cw_247 : (hf_ch 5)[88]? = some (hf_cw 247) := rfl
set_option maxRecDepth 100000 in
theorem hf_cw_248 : (hf_ch 5)[116]? = some (hf_cw 248) := rfl
set_option maxRecDepth 100000 in
theorem hf_cw_249 : (hf_ch 5)[123]? = some (hf_cw 249) := rfl
set_option maxRecDepth 100000 in
theorem hf_cw_250 : (hf_ch 5)[131]? = some (hf_cw 250) := rfl
set_option maxRecDepth 100000 in
theorem hf_cw_251 : (hf_ch 5)[138]? = some (hf_cw 251) := rfl
set_option maxRecDepth 100000 in
theorem hf_cw_252 : (hf_ch 5)[145]? = some (hf_cw 252) := rfl
set_option maxRecDepth 100000 in
theorem hf_cw_253 : (hf_ch 5)[172]? = some (hf_cw 253) := rfl
theorem hf_cwb_0 : ∀ j : Nat, j < 16 → 16 * 0 + j ≠ 254 → hf_cw (16 * 0 + j) ∈ lw_tbl := fun j h1 h2 => match j, h1, h2 with
  | 0, _, h2 => hf_ch_mem hf_cw_0
  | 1, _, h2 => hf_ch_mem hf_cw_1
  | 2, _, h2 => hf_ch_mem hf_cw_2
  | 3, _, h2 => hf_ch_mem hf_cw_3
  | 4, _, h2 => hf_ch_mem hf_cw_4
  | 5, _, h2 => hf_ch_mem hf_cw_5
  | 6, _, h2 => hf_ch_mem hf_cw_6
  | 7, _, h2 => hf_ch_mem hf_cw_7
  | 8, _, h2 => hf_ch_mem hf_cw_8
  | 9, _, h2 => hf_ch_mem hf_cw_9
  | 10, _, h2 => hf_ch_mem hf_cw_10
  | 11, _, h2 => hf_ch_mem hf_cw_11
  | 12, _, h2 => hf_ch_mem hf_cw_12
  | 13, _, h2 => hf_ch_mem hf_cw_13
  | 14, _, h2 => hf_ch_mem hf_cw_14
  | 15, _, h2 => hf_ch_mem hf_cw_15
  | n + 16, h1, _ => absurd h1 (by omega)
theorem hf_cwb_1 : ∀ j : Nat, j < 16 → 16 * 1 + j ≠ 254 → hf_cw (16 * 1 + j) ∈ lw_tbl := fun j h1 h2 => match j, h1, h2 with
  | 0, _, h2 => hf_ch_mem hf_cw_16
  | 1, _, h2 => hf_ch_mem hf_cw_17
  | 2, _, h2 => hf_ch_mem hf_cw_18
  | 3, _, h2 => hf_ch_mem hf_cw_19
  | 4, _, h2 => hf_ch_mem hf_cw_20
  | 5, _, h2 => hf_ch_mem hf_cw_21
  | 6, _, h2 => hf_ch_mem hf_cw_22
  | 7, _, h2 => hf_ch_mem hf_cw_23
  | 8, _, h2 => hf_ch_mem hf_cw_24
  | 9, _, h2 => hf_ch_mem hf_cw_25
  | 10, _, h2 => hf_ch_mem hf_cw_26
  | 11, _, h2 => hf_ch_mem hf_cw_27
  | 12, _, h2 => hf_ch_mem hf_cw_28
  | 13, _, h2 => hf_ch_mem hf_cw_29
  | 14, _, h2 => hf_ch_mem hf_cw_30
  | 15, _, h2 => hf_ch_mem hf_cw_31
  | n + 16, h1, _ => absurd h1 (by omega)
theorem hf_cwb_2 : ∀ j : Nat, j < 16 → 16 * 2 + j ≠ 254 → hf_cw (16 * 2 + j) ∈ lw_tbl := fun j h1 h2 => match j, h1, h2 with
  | 0, _, h2 => hf_ch_mem hf_cw_32
  | 1, _, h2 => hf_ch_mem hf_cw_33
  | 2, _, h2 => hf_ch_mem hf_cw_34
  | 3, _, h2 => hf_ch_mem hf_cw_35
  | 4, _, h2 => hf_ch_mem hf_cw_36
  | 5, _, h2 => hf_ch_mem hf_cw_37
  | 6, _, h2 => hf_ch_mem hf_cw_38
  | 7, _, h2 => hf_ch_mem hf_cw_39
  | 8, _, h2 => hf_ch_mem hf_cw_40
  | 9, _, h2 => hf_ch_mem hf_cw_41
  | 10, _, h2 => hf_ch_mem hf_cw_42
  | 11, _, h2 => hf_ch_mem hf_cw_43
  | 12, _, h2 => hf_ch_mem hf_cw_44
  | 13, _, h2 => hf_ch_mem hf_cw_45
  | 14, _, h2 => hf_ch_mem hf_cw_46
  | 15, _, h2 => hf_ch_mem hf_cw_47
  | n + 16, h1, _ => absurd h1 (by omega)
theorem hf_cwb_3 : ∀ j : Nat, j < 16 → 16 * 3 + j ≠ 254 → hf_cw (16 * 3 + j) ∈ lw_tbl := fun j h1 h2 => match j, h1, h2 with
  | 0, _, h2 => hf_ch_mem hf_cw_48
  | 1, _, h2 => hf_ch_mem hf_cw_49
  | 2, _, h2 => hf_ch_mem hf_cw_50
  | 3, _, h2 => hf_ch_mem hf_cw_51
  | 4, _, h2 => hf_ch_mem hf_cw_52
  | 5, _, h2 => hf_ch_mem hf_cw_53
  | 6, _, h2 => hf_ch_mem hf_cw_54
  | 7, _, h2 => hf_ch_mem hf_cw_55
  | 8, _, h2 => hf_ch_mem hf_cw_56
  | 9, _, h2 => hf_ch_mem hf_cw_57
  | 10, _, h2 => hf_ch_mem hf_cw_58
  | 11, _, h2 => hf_ch_mem hf_cw_59
  | 12, _, h2 => hf_ch_mem hf_cw_60
  | 13, _, h2 => hf_ch_mem hf_cw_61
  | 14, _, h2 => hf_ch_mem hf_cw_62
  | 15, _, h2 => hf_ch_mem hf_cw_63
  | n + 16, h1, _ => absurd h1 (by omega)
theorem hf_cwb_4 : ∀ j : Nat, j < 16 → 16 * 4 + j ≠ 254 → hf_cw (16 * 4 + j) ∈ lw_tbl := fun j h1 h2 => match j, h1, h2 with
  | 0, _, h2 => hf_ch_mem hf_cw_64
  | 1, _, h2 => hf_ch_mem hf_cw_65
  | 2, _, h2 => hf_ch_mem hf_cw_66
  | 3, _, h2 => hf_ch_mem hf_cw_67
  | 4, _, h2 => hf_ch_mem hf_cw_68
  | 5, _, h2 => hf_ch_mem hf_cw_69
  | 6, _, h2 => hf_ch_mem hf_cw_70
  | 7, _, h2 => hf_ch_mem hf_cw_71
  | 8, _, h2 => hf_ch_mem hf_cw_72
  | 9, _, h2 => hf_ch_mem hf_cw_73
  | 10, _, h2 => hf_ch_mem hf_cw_74
  | 11, _, h2 => hf_ch_mem hf_cw_75
  | 12, _, h2 => hf_ch_mem hf_cw_76
  | 13, _, h2 => hf_ch_mem hf_cw_77
  | 14, _, h2 => hf_ch_mem hf_cw_78
  | 15, _, h2 => hf_ch_mem hf_cw_79
  | n + 16, h1, _ => absurd h1 (by omega)
theorem hf_cwb_5 : ∀ j : Nat, j < 16 → 16 * 5 + j ≠ 254 → hf_cw (16 * 5 + j) ∈ lw_tbl := fun j h1 h2 => match j, h1, h2 with
  | 0, _, h2 => hf_ch_mem hf_cw_80
  | 1, _, h2 => hf_ch_mem hf_cw_81
  | 2, _, h2 => hf_ch_mem hf_cw_82
  | 3, _, h2 => hf_ch_mem hf_cw_83
  | 4, _, h2 => hf_ch_mem hf_cw_84
  | 5, _, h2 => hf_ch_mem hf_cw_85
  | 6, _, h2 => hf_ch_mem hf_cw_86
  | 7, _, h2 => hf_ch_mem hf_cw_87
  | 8, _, h2 => hf_ch_mem hf_cw_88
  | 9, _, h2 => hf_ch_mem hf_cw_89
  | 10, _, h2 => hf_ch_mem hf_cw_90
  | 11, _, h2 => hf_ch_mem hf_cw_91
  | 12, _, h2 => hf_ch_mem hf_cw_92
  | 13, _, h2 => hf_ch_mem hf_cw_93
  | 14, _, h2 => hf_ch_mem hf_cw_94
  | 15, _, h2 => hf_ch_mem hf_cw_95
  | n + 16, h1, _ => absurd h1 (by omega)
theorem hf_cwb_6 : ∀ j : Nat, j < 16 → 16 * 6 + j ≠ 254 → hf_cw (16 * 6 + j) ∈ lw_tbl := fun j h1 h2 => match j, h1, h2 with
  | 0, _, h2 => hf_ch_mem hf_cw_96
  | 1, _, h2 => hf_ch_mem hf_cw_97
  | 2, _, h2 => hf_ch_mem hf_cw_98
  | 3, _, h2 => hf_ch_mem hf_cw_99
  | 4, _, h2 => hf_ch_mem hf_cw_100
  | 5, _, h2 => hf_ch_mem hf_cw_101
  | 6, _, h2 => hf_ch_mem hf_cw_102
  | 7, _, h2 => hf_ch_mem hf_cw_103
  | 8, _, h2 => hf_ch_mem hf_cw_104
  | 9, _, h2 => hf_ch_mem hf_cw_105
  | 10, _, h2 => hf_ch_mem hf_cw_106
  | 11, _, h2 => hf_ch_mem hf_cw_107
  | 12, _, h2 => hf_ch_mem hf_cw_108
  | 13, _, h2 => hf_ch_mem hf_cw_109
  | 14, _, h2 => hf_ch_mem hf_cw_110
  | 15, _, h2 => hf_ch_mem hf_cw_111
  | n + 16, h1, _ => absurd h1 (by omega)
theorem hf_cwb_7 : ∀ j : Nat, j < 16 → 16 * 7 + j ≠ 254 → hf_cw (16 * 7 + j) ∈ lw_tbl := fun j h1 h2 => match j, h1, h2 with
  | 0, _, h2 => hf_ch_mem hf_cw_112
  | 1, _, h2 => hf_ch_mem hf_cw_113
  | 2, _, h2 => hf_ch_mem hf_cw_114
  | 3, _, h2 => hf_ch_mem hf_cw_115
  | 4, _, h2 => hf_ch_mem hf_cw_116
  | 5, _, h2 => hf_ch_mem hf_cw_117
  | 6, _, h2 => hf_ch_mem hf_cw_118
  | 7, _, h2 => hf_ch_mem hf_cw_119
  | 8, _, h2 => hf_ch_mem hf_cw_120
  | 9, _, h2 => hf_ch_mem hf_cw_121
  | 10, _, h2 => hf_ch_mem hf_cw_122
  | 11, _, h2 => hf_ch_mem hf_cw_123
  | 12, _, h2 => hf_ch_mem hf_cw_124
  | 13, _, h2 => hf_ch_mem hf_cw_125
  | 14, _, h2 => hf_ch_mem hf_cw_126
  | 15, _, h2 => hf_ch_mem hf_cw_127
  | n + 16, h1, _ => absurd h1 (by omega)
theorem hf_cwb_8 : ∀ j : Nat, j < 16 → 16 * 8 + j ≠ 254 → hf_cw (16 * 8 + j) ∈ lw_tbl := fun j h1 h2 => match j, h1, h2 with
  | 0, _, h2 => hf_ch_mem hf_cw_128
  | 1, _, h2 => hf_ch_mem hf_cw_129
  | 2, _, h2 => hf_ch_mem hf_cw_130
  | 3, _, h2 => hf_ch_mem hf_cw_131
  | 4, _, h2 => hf_ch_mem hf_cw_132
  | 5, _, h2 => hf_ch_mem hf_cw_133
  | 6, _, h2 => hf_ch_mem hf_cw_134
  | 7, _, h2 => hf_ch_mem hf_cw_135
  | 8, _, h2 => hf_ch_mem hf_cw_136
  | 9, _, h2 => hf_ch_mem hf_cw_137
  | 10, _, h2 => hf_ch_mem hf_cw_138
  | 11, _, h2 => hf_ch_mem hf_cw_139
  | 12, _, h2 => hf_ch_mem hf_cw_140
  | 13, _, h2 => hf_ch_mem hf_cw_141
  | 14, _, h2 => hf_ch_mem hf_cw_142
  | 15, _, h2 => hf_ch_mem hf_cw_143
  | n + 16, h1, _ => absurd h1 (by omega)
theorem hf_cwb_9 : ∀ j : Nat, j < 16 → 16 * 9 + j ≠ 254 → hf_cw (16 * 9 + j) ∈ lw_tbl := fun j h1 h2 => match j, h1, h2 with
  | 0, _, h2 => hf_ch_mem hf_cw_144
  | 1, _, h2 => hf_ch_mem hf_cw_145
  | 2, _, h2 => hf_ch_mem hf_cw_146
  | 3, _, h2 => hf_ch_mem hf_cw_147
  | 4, _, h2 => hf_ch_mem hf_cw_148
  | 5, _, h2 => hf_ch_mem hf_cw_149
  | 6, _, h2 => hf_ch_mem hf_cw_150
  | 7, _, h2 => hf_ch_mem hf_cw_151
  | 8, _, h2 => hf_ch_mem hf_cw_152
  | 9, _, h2 => hf_ch_mem hf_cw_153
  | 10, _, h2 => hf_ch_mem hf_cw_154
  | 11, _, h2 => hf_ch_mem hf_cw_155
  | 12, _, h2 => hf_ch_mem hf_cw_156
  | 13, _, h2 => hf_ch_mem hf_cw_157
  | 14, _, h2 => hf_ch_mem hf_cw_158
  | 15, _, h2 => hf_ch_mem hf_cw_159
  | n + 16, h1, _ => absurd h1 (by omega)
theorem hf_cwb_10 : ∀ j : Nat, j < 16 → 16 * 10 + j ≠ 254 → hf_cw (16 * 10 + j) ∈ lw_tbl := fun j h1 h2 => match j, h1, h2 with
  | 0, _, h2 => hf_ch_mem hf_cw_160
  | 1, _, h2 => hf_ch_mem hf_cw_161
  | 2, _, h2 => hf_ch_mem hf_cw_162
  | 3, _, h2 => hf_ch_mem hf_cw_163
  | 4, _, h2 => hf_ch_mem hf_cw_164
  | 5, _, h2 => hf_ch_mem hf_cw_165
  | 6, _, h2 => hf_ch_mem hf_cw_166
  | 7, _, h2 => hf_ch_mem hf_cw_167
  | 8, _, h2 => hf_ch_mem hf_cw_168
  | 9, _, h2 => hf_ch_mem hf_cw_169
  | 10, _, h2 => hf_ch_mem hf_cw_170
  | 11, _, h2 => hf_ch_mem hf_cw_171
  | 12, _, h2 => hf_ch_mem hf_cw_172
  | 13, _, h2 => hf_ch_mem hf_cw_173
  | 14, _, h2 => hf_ch_mem hf_cw_174
  | 15, _, h2 => hf_ch_mem hf_cw_175
  | n + 16, h1, _ => absurd h1 (by omega)
theorem hf_cwb_11 : ∀ j : Nat, j < 16 → 16 * 11 + j ≠ 254 → hf_cw (16 * 11 + j) ∈ lw_tbl := fun j h1 h2 => match j, h1, h2 with
  | 0, _, h2 => hf_ch_mem hf_cw_176
  | 1, _, h2 => hf_ch_mem hf_cw_177
  | 2, _, h2 => hf_ch_mem hf_cw_178
  | 3, _, h2 => hf_ch_mem hf_cw_179
  | 4, _, h2 => hf_ch_mem hf_cw_180
  | 5, _, h2 => hf_ch_mem hf_cw_181
  | 6, _, h2 => hf_ch_mem hf_cw_182
  | 7, _, h2 => hf_ch_mem hf_cw_183
  | 8, _, h2 => hf_ch_mem hf_cw_184
  | 9, _, h2 => hf_ch_mem hf_cw_185
  | 10, _, h2 => hf_ch_mem hf_cw_186
  | 11, _, h2 => hf_ch_mem hf_cw_187
  | 12, _, h2 => hf_ch_mem hf_cw_188
  | 13, _, h2 => hf_ch_mem hf_cw_189
  | 14, _, h2 => hf_ch_mem hf_cw_190
  | 15, _, h2 => hf_ch_mem hf_cw_191
  | n + 16, h1, _ => absurd h1 (by omega)
theorem hf_cwb_12 : ∀ j : Nat, j < 16 → 16 * 12 + j ≠ 254 → hf_cw (16 * 12 + j) ∈ lw_tbl := fun j h1 h2 => match j, h1, h2 with
  | 0, _, h2 => hf_ch_mem hf_cw_192
  | 1, _, h2 => hf_ch_mem hf_cw_193
  | 2, _, h2 => hf_ch_mem hf_cw_194
  | 3, _, h2 => hf_ch_mem hf_cw_195
  | 4, _, h2 => hf_ch_mem hf_cw_196
  | 5, _, h2 => hf_ch_mem hf_cw_197
  | 6, _, h2 => hf_ch_mem hf_cw_198
  | 7, _, h2 => hf_ch_mem hf_cw_199
  | 8, _, h2 => hf_ch_mem hf_cw_200
  | 9, _, h2 => hf_ch_mem hf_cw_201
  | 10, _, h2 => hf_ch_mem hf_cw_202
  | 11, _, h2 => hf_ch_mem hf_cw_203
  | 12, _, h2 => hf_ch_mem hf_cw_204
  | 13, _, h2 => hf_ch_mem hf_cw_205
  | 14, _, h2 => hf_ch_mem hf_cw_206
  | 15, _, h2 => hf_ch_mem hf_cw_207
  | n + 16, h1, _ => absurd h1 (by omega)
theorem hf_cwb_13 : ∀ j : Nat, j < 16 → 16 * 13 + j ≠ 254 → hf_cw (16 * 13 + j) ∈ lw_tbl := fun j h1 h2 => match j, h1, h2 with
  | 0, _, h2 => hf_ch_mem hf_cw_208
  | 1, _, h2 => hf_ch_mem hf_cw_209
  | 2, _, h2 => hf_ch_mem hf_cw_210
  | 3, _, h2 => hf_ch_mem hf_cw_211
  | 4, _, h2 => hf_ch_mem hf_cw_212
  | 5, _, h2 => hf_ch_mem hf_cw_213
  | 6, _, h2 => hf_ch_mem hf_cw_214
  | 7, _, h2 => hf_ch_mem hf_cw_215
  | 8, _, h2 => hf_ch_mem hf_cw_216
  | 9, _, h2 => hf_ch_mem hf_cw_217
  | 10, _, h2 => hf_ch_mem hf_cw_218
  | 11, _, h2 => hf_ch_mem hf_cw_219
  | 12, _, h2 => hf_ch_mem hf_cw_220
  | 13, _, h2 => hf_ch_mem hf_cw_221
  | 14, _, h2 => hf_ch_mem hf_cw_222
  | 15, _, h2 => hf_ch_mem hf_cw_223
  | n + 16, h1, _ => absurd h1 (by omega)
theorem hf_cwb_14 : ∀ j : Nat, j < 16 → 16 * 14 + j ≠ 254 → hf_cw (16 * 14 + j) ∈ lw_tbl := fun j h1 h2 => match j, h1, h2 with
  | 0, _, h2 => hf_ch_mem hf_cw_224
  | 1, _, h2 => hf_ch_mem hf_cw_225
  | 2, _, h2 => hf_ch_mem hf_cw_226
  | 3, _, h2 => hf_ch_mem hf_cw_227
  | 4, _, h2 => hf_ch_mem hf_cw_228
  | 5, _, h2 => hf_ch_mem hf_cw_229
  | 6, _, h2 => hf_ch_mem hf_cw_230
  | 7, _, h2 => hf_ch_mem hf_cw_231
  | 8, _, h2 => hf_ch_mem hf_cw_232
  | 9, _, h2 => hf_ch_mem hf_cw_233
  | 10, _, h2 => hf_ch_mem hf_cw_234
  | 11, _, h2 => hf_ch_mem hf_cw_235
  | 12, _, h2 => hf_ch_mem hf_cw_236
  | 13, _, h2 => hf_ch_mem hf_cw_237
  | 14, _, h2 => hf_ch_mem hf_cw_238
  | 15, _, h2 => hf_ch_mem hf_cw_239
  | n + 16, h1, _ => absurd h1 (by omega)
theorem hf_cwb_15 : ∀ j : Nat, j < 15 → 16 * 15 + j ≠ 254 → hf_cw (16 * 15 + j) ∈ lw_tbl := fun j h1 h2 => match j, h1, h2 with
  | 0, _, h2 => hf_ch_mem hf_cw_240
  | 1, _, h2 => hf_ch_mem hf_cw_241
  | 2, _, h2 => hf_ch_mem hf_cw_242
  | 3, _, h2 => hf_ch_mem hf_cw_243
  | 4, _, h2 => hf_ch_mem hf_cw_244
  | 5, _, h2 => hf_ch_mem hf_cw_245
  | 6, _, h2 => hf_ch_mem hf_cw_246
  | 7, _, h2 => hf_ch_mem hf_cw_247
  | 8, _, h2 => hf_ch_mem hf_cw_248
  | 9, _, h2 => hf_ch_mem hf_cw_249
  | 10, _, h2 => hf_ch_mem hf_cw_250
  | 11, _, h2 => hf_ch_mem hf_cw_251
  | 12, _, h2 => hf_ch_mem hf_cw_252
  | 13, _, h2 => hf_ch_mem hf_cw_253
  | 14, _, h2 => absurd rfl h2
  | n + 15, h1, _ => absurd h1 (by omega)
theorem hf_cw_mem {y : Nat} (h : y < 255) (hl : y ≠ 254) : hf_cw y ∈ lw_tbl := by
  have e : y = 16 * (y / 16) + y % 16 := (Nat.div_add_mod y 16).symm
  have h1 : y % 16 < 16 := Nat.mod_lt _ (by decide)
  generalize y / 16 = a at e
  generalize y % 16 = b at e h1
  subst e
  have ha : a < 16 := by omega
  match a, ha with
  | 0, _ => exact hf_cwb_0 b (by omega) hl
  | 1, _ => exact hf_cwb_1 b (by omega) hl
  | 2, _ => exact hf_cwb_2 b (by omega) hl
  | 3, _ => exact hf_cwb_3 b (by omega) hl
  | 4, _ => exact hf_cwb_4 b (by omega) hl
  | 5, _ => exact hf_cwb_5 b (by omega) hl
  | 6, _ => exact hf_cwb_6 b (by omega) hl
  | 7, _ => exact hf_cwb_7 b (by omega) hl
  | 8, _ => exact hf_cwb_8 b (by omega) hl
  | 9, _ => exact hf_cwb_9 b (by omega) hl
  | 10, _ => exact hf_cwb_10 b (by omega) hl
  | 11, _ => exact hf_cwb_11 b (by omega) hl
  | 12, _ => exact hf_cwb_12 b (by omega) hl
  | 13, _ => exact hf_cwb_13 b (by omega) hl
  | 14, _ => exact hf_cwb_14 b (by omega) hl
  | 15, _ => exact hf_cwb_15 b (by omega) hl
  | n + 16, h => exact absurd h (by omega)
theorem hf_cw_good (y : Nat) : goodWord (hf_cw y) = true := by
  unfold hf_cw
  split <;> rfl
def hf_mlH (o : Nat) : List (List (Nat × Nat)) := match o with
  | 0 => [[(1, 120)], [(1, 124), (1, 125), (0, 0)], [(1, 147), (1, 45), (0, 0)], [(2, 93), (2, 94), (2, 95)], [(2, 89), (2, 90), (2, 91)], [(5, 36), (5, 37), (5, 38)], [(5, 49), (4, 142), (4, 143)], [(5, 50), (5, 52), (0, 29)], [(2, 85), (2, 87), (0, 4)], [(2, 152), (2, 153), (2, 154)], [(5, 54), (2, 104), (2, 105)], [(5, 55), (5, 56), (5, 57)], [(5, 60), (2, 226), (0, 0)], [(5, 61), (2, 61), (2, 62)], [(5, 85), (2, 113), (0, 0)], [(5, 97), (5, 82), (5, 83)], [(5, 106), (2, 69), (2, 70)], [(5, 107), (3, 3), (0, 0)], [(5, 108), (5, 110), (0, 31)], [(5, 112), (2, 108), (2, 109)], [(5, 113), (3, 0), (0, 0)], [(2, 97), (2, 98), (2, 99)], [(2, 126), (2, 127), (2, 128)], [(2, 131), (2, 132), (2, 133)], [(2, 148), (2, 150), (0, 6)], [(2, 156), (2, 136), (2, 137)], [(2, 157), (2, 119), (2, 120)]]
  | 1 => [[(1, 41)], [(1, 44), (1, 45), (0, 0)], [(2, 44), (2, 45), (0, 0)], [(2, 47), (2, 49), (0, 1)], [(2, 60), (2, 61), (2, 62)], [(2, 64), (2, 66), (0, 3)], [(2, 68), (2, 69), (2, 70)], [(5, 44), (5, 45), (5, 46)], [(2, 51), (2, 52), (0, 0)], [(2, 54), (2, 56), (0, 2)], [(3, 205), (3, 32), (0, 0)], [(3, 206), (3, 207), (0, 0)], [(3, 213), (3, 215), (0, 10)], [(3, 209), (3, 20), (0, 0)], [(3, 217), (3, 219), (0, 11)], [(3, 222), (2, 123), (2, 124)], [(2, 206), (2, 108), (2, 109)], [(3, 221), (3, 35), (0, 0)], [(3, 10), (3, 11), (3, 12)], [(2, 202), (2, 203), (2, 204)], [(3, 14), (3, 15), (0, 0)], [(4, 154), (4, 155), (4, 156)], [(4, 158), (3, 3), (0, 0)], [(5, 7), (3, 7), (3, 8)], [(5, 8), (3, 39), (0, 0)], [(3, 57), (3, 0), (0, 0)], [(3, 58), (2, 113), (0, 0)], [(3, 59), (3, 29), (0, 0)], [(5, 181), (5, 4), (5, 5)]]
  | 2 => [[(1, 208)], [(1, 210), (1, 45), (0, 0)], [(4, 176), (2, 61), (2, 62)], [(4, 177), (4, 178), (4, 179)], [(4, 182), (2, 108), (2, 109)], [(4, 183), (4, 185), (0, 23)], [(4, 187), (4, 189), (0, 24)], [(4, 191), (2, 69), (2, 70)], [(4, 192), (2, 123), (2, 124)]]
  | 3 => [[(1, 127)], [(1, 129), (1, 33), (0, 0)], [(1, 131), (1, 45), (0, 0)], [(5, 40), (5, 41), (5, 42)], [(2, 101), (2, 69), (2, 70)], [(2, 139), (2, 108), (2, 109)], [(2, 122), (2, 123), (2, 124)], [(2, 103), (2, 104), (2, 105)], [(2, 112), (2, 113), (0, 0)], [(2, 118), (2, 119), (2, 120)], [(2, 135), (2, 136), (2, 137)], [(2, 141), (2, 143), (0, 5)], [(2, 145), (2, 146), (0, 0)]]
  | 4 => [[(1, 177)], [(1, 179), (1, 45), (0, 0)], [(4, 58), (2, 69), (2, 70)], [(4, 94), (4, 96), (0, 18)], [(4, 62), (2, 108), (2, 109)], [(4, 89), (3, 15), (0, 0)], [(4, 75), (4, 77), (0, 15)], [(4, 79), (2, 52), (0, 0)], [(4, 84), (2, 123), (2, 124)], [(4, 59), (4, 60), (0, 0)], [(4, 70), (3, 7), (3, 8)], [(4, 71), (4, 73), (0, 14)], [(4, 80), (4, 82), (0, 16)], [(4, 85), (4, 87), (0, 17)], [(4, 63), (4, 64), (0, 0)], [(4, 68), (3, 20), (0, 0)]]
  | 5 => [[(3, 19), (3, 20), (0, 0)], [(3, 31), (3, 32), (0, 0)], [(3, 2), (3, 3), (0, 0)], [(2, 239), (3, 0), (0, 0)]]
  | 6 => [[(1, 47)], [(1, 48), (1, 49), (0, 0)], [(5, 48), (2, 108), (2, 109)]]
  | 7 => [[(1, 35)], [(1, 38), (1, 39), (0, 0)], [(1, 90), (1, 45), (0, 0)], [(3, 5), (3, 0), (0, 0)], [(4, 145), (4, 147), (0, 21)], [(3, 27), (2, 113), (0, 0)], [(4, 160), (4, 162), (0, 22)], [(4, 181), (4, 155), (4, 156)], [(4, 149), (3, 3), (0, 0)], [(2, 236), (2, 237), (0, 0)], [(4, 150), (4, 151), (4, 152)], [(3, 23), (3, 24), (3, 25)], [(2, 107), (2, 108), (2, 109)], [(4, 164), (2, 61), (2, 62)], [(2, 130), (2, 104), (2, 105)], [(4, 216), (2, 233), (2, 234)], [(4, 217), (3, 50), (3, 51)], [(4, 218), (4, 220), (0, 25)], [(3, 6), (3, 7), (3, 8)], [(3, 22), (3, 11), (3, 12)], [(3, 28), (3, 29), (0, 0)], [(3, 34), (3, 35), (0, 0)], [(3, 53), (3, 54), (3, 55)]]
  | 8 => [[(1, 235)], [(1, 237), (1, 45), (0, 0)], [(2, 223), (2, 90), (2, 91)], [(2, 224), (2, 136), (2, 137)], [(2, 225), (2, 226), (0, 0)], [(2, 228), (2, 230), (0, 7)], [(2, 232), (2, 233), (2, 234)], [(3, 37), (3, 15), (0, 0)], [(3, 38), (3, 39), (0, 0)], [(3, 42), (3, 43), (0, 0)], [(3, 48), (3, 0), (0, 0)], [(3, 49), (3, 50), (3, 51)], [(3, 60), (2, 61), (2, 62)], [(3, 62), (3, 29), (0, 0)], [(3, 45), (3, 46), (0, 0)], [(5, 155), (2, 108), (2, 109)], [(5, 156), (5, 158), (0, 32)], [(5, 161), (2, 69), (2, 70)], [(5, 162), (5, 164), (0, 33)], [(5, 166), (5, 168), (0, 34)]]
  | 9 => [[(1, 223)], [(1, 225), (1, 45), (0, 0)], [(4, 233), (4, 235), (0, 26)], [(5, 11), (5, 13), (0, 27)], [(5, 18), (3, 3), (0, 0)], [(5, 20), (5, 22), (0, 28)], [(5, 3), (5, 4), (5, 5)], [(5, 9), (2, 52), (0, 0)], [(4, 237), (2, 69), (2, 70)], [(4, 238), (3, 0), (0, 0)], [(4, 239), (5, 0), (0, 0)], [(5, 10), (2, 123), (2, 124)], [(5, 15), (3, 54), (3, 55)], [(5, 16), (2, 108), (2, 109)]]
  | 10 => [[(3, 70), (3, 71), (0, 0)], [(3, 78), (3, 0), (0, 0)], [(3, 76), (3, 3), (0, 0)], [(3, 79), (3, 80), (0, 0)], [(3, 89), (2, 113), (0, 0)], [(3, 90), (1, 49), (0, 0)], [(3, 73), (2, 108), (2, 109)], [(3, 82), (3, 83), (0, 0)]]
  | 11 => [[(1, 27)], [(1, 32), (1, 33), (0, 0)], [(1, 117), (1, 118), (0, 0)], [(1, 174), (1, 175), (0, 0)], [(1, 205), (1, 206), (0, 0)], [(1, 220), (1, 221), (0, 0)], [(1, 232), (1, 233), (0, 0)], [(2, 36), (2, 38), (0, 0)], [(2, 76), (2, 77), (2, 78)], [(2, 81), (2, 82), (2, 83)], [(2, 158), (2, 159), (2, 160)], [(2, 162), (2, 163), (2, 164)], [(3, 99), (3, 100), (0, 0)], [(3, 179), (3, 181), (0, 9)], [(3, 199), (3, 200), (3, 201)], [(3, 230), (3, 231), (0, 0)], [(3, 234), (3, 236), (0, 12)], [(4, 13), (4, 15), (0, 13)], [(4, 36), (4, 37), (4, 38)], [(4, 54), (4, 55), (4, 56)], [(4, 90), (4, 91), (4, 92)], [(4, 98), (4, 99), (4, 100)], [(4, 102), (2, 108), (2, 109)], [(4, 111), (4, 113), (0, 19)], [(2, 198), (2, 199), (2, 200)], [(4, 137), (4, 139), (0, 20)], [(4, 172), (4, 173), (4, 174)], [(4, 200), (4, 201), (0, 0)], [(4, 204), (2, 104), (2, 105)], [(4, 212), (4, 213), (4, 214)], [(4, 229), (4, 230), (4, 231)], [(5, 32), (5, 33), (5, 34)], [(5, 69), (5, 71), (0, 30)], [(4, 34), (2, 90), (2, 91)], [(5, 73), (2, 153), (2, 154)], [(5, 81), (5, 82), (5, 83)], [(5, 93), (5, 94), (5, 95)], [(5, 98), (5, 99), (5, 100)], [(5, 102), (5, 103), (5, 104)], [(5, 128), (2, 136), (2, 137)], [(2, 211), (2, 212), (2, 213)], [(2, 219), (2, 220), (2, 221)], [(5, 151), (5, 152), (5, 153)], [(5, 177), (5, 178), (5, 179)], [(3, 67), (3, 68), (0, 0)], [(2, 40), (2, 41), (2, 42)], [(2, 72), (2, 73), (2, 74)], [(4, 2), (2, 52), (0, 0)], [(4, 115), (4, 116), (4, 117)], [(4, 119), (4, 120), (4, 121)], [(4, 17), (2, 94), (2, 95)], [(4, 141), (4, 142), (4, 143)]]
  | 12 => [[(5, 187)], [(5, 188), (5, 190), (0, 35)], [(6, 106), (6, 107), (0, 0)], [(6, 113), (6, 114), (0, 0)], [(6, 157), (6, 158), (0, 0)], [(6, 153), (6, 155), (0, 41)], [(6, 160), (6, 162), (0, 42)], [(6, 124), (6, 125), (0, 0)], [(5, 192), (5, 193), (0, 0)], [(6, 85), (6, 86), (0, 0)], [(6, 88), (6, 90), (0, 36)], [(6, 110), (6, 111), (0, 0)], [(6, 101), (6, 103), (0, 37)], [(6, 135), (6, 137), (0, 39)], [(6, 210), (6, 212), (0, 49)], [(6, 131), (6, 133), (0, 38)], [(6, 164), (6, 166), (0, 43)], [(6, 172), (6, 174), (0, 45)], [(6, 176), (6, 177), (0, 0)], [(6, 149), (6, 151), (0, 40)], [(6, 168), (6, 170), (0, 44)], [(6, 179), (6, 181), (0, 46)], [(6, 188), (6, 190), (0, 47)], [(6, 218), (6, 220), (0, 51)], [(6, 214), (6, 216), (0, 50)], [(6, 222), (6, 224), (0, 52)], [(6, 206), (6, 208), (0, 48)], [(6, 230), (6, 203), (6, 204)], [(6, 235), (6, 237), (0, 53)], [(7, 8), (7, 10), (0, 55)], [(7, 4), (7, 6), (0, 54)], [(7, 24), (7, 25), (0, 0)], [(7, 20), (7, 22), (0, 57)], [(7, 16), (7, 18), (0, 56)], [(7, 43), (7, 45), (0, 60)], [(7, 35), (7, 37), (0, 58)], [(7, 39), (7, 41), (0, 59)], [(7, 55), (7, 57), (0, 62)], [(7, 51), (7, 53), (0, 61)], [(7, 63), (7, 65), (0, 63)], [(7, 67), (7, 69), (0, 64)], [(7, 84), (7, 86), (0, 66)], [(7, 88), (7, 90), (0, 67)], [(7, 80), (7, 82), (0, 65)], [(7, 119), (7, 120), (0, 0)], [(7, 115), (7, 117), (0, 69)], [(7, 122), (7, 124), (0, 70)], [(7, 126), (7, 128), (0, 71)], [(7, 111), (7, 113), (0, 68)], [(7, 143), (7, 144), (0, 0)]]
  | 13 => [[(3, 95), (3, 96), (3, 97)], [(3, 174), (3, 175), (3, 176)], [(3, 226), (3, 227), (3, 228)], [(4, 9), (4, 10), (4, 11)], [(4, 43), (4, 44), (4, 45)], [(4, 50), (4, 51), (4, 52)], [(4, 106), (4, 107), (4, 108)], [(4, 126), (4, 127), (4, 128)], [(4, 133), (4, 134), (4, 135)], [(4, 168), (4, 169), (4, 170)], [(4, 196), (4, 197), (4, 198)], [(4, 208), (4, 209), (4, 210)], [(4, 225), (4, 226), (4, 227)], [(5, 27), (5, 28), (5, 29)], [(5, 65), (5, 66), (5, 67)], [(5, 77), (5, 78), (5, 79)], [(5, 89), (5, 90), (5, 91)], [(5, 117), (5, 118), (5, 119)], [(5, 124), (5, 125), (5, 126)], [(5, 132), (5, 133), (5, 134)], [(5, 139), (5, 140), (5, 141)], [(5, 146), (5, 147), (5, 148)], [(5, 173), (5, 174), (5, 175)], [(1, 24), (1, 25), (0, 0)], [(5, 184), (5, 185), (0, 0)], [(3, 91), (3, 92), (0, 0)], [(6, 79), (6, 80), (6, 81)], [(6, 75), (6, 76), (6, 77)], [(3, 170), (3, 171), (0, 0)], [(6, 92), (6, 93), (6, 94)], [(3, 223), (3, 224), (0, 0)], [(6, 116), (6, 117), (6, 118)], [(4, 5), (4, 6), (0, 0)], [(6, 127), (6, 128), (6, 129)], [(4, 40), (4, 41), (0, 0)], [(6, 139), (6, 140), (6, 141)], [(4, 47), (4, 48), (0, 0)], [(6, 145), (6, 146), (6, 147)], [(4, 103), (4, 104), (0, 0)], [(6, 183), (6, 184), (6, 185)], [(2, 194), (2, 195), (2, 196)], [(6, 192), (6, 193), (6, 194)], [(4, 123), (4, 124), (0, 0)], [(6, 196), (6, 197), (6, 198)], [(4, 130), (4, 131), (0, 0)], [(6, 202), (6, 203), (6, 204)], [(4, 165), (4, 166), (0, 0)], [(6, 226), (6, 227), (6, 228)], [(4, 193), (4, 194), (0, 0)], [(6, 231), (6, 232), (6, 233)], [(4, 205), (4, 206), (0, 0)], [(6, 239), (7, 0), (7, 1)], [(4, 222), (4, 223), (0, 0)], [(7, 12), (7, 13), (7, 14)], [(5, 24), (5, 25), (0, 0)], [(7, 27), (7, 28), (7, 29)], [(5, 62), (5, 63), (0, 0)], [(7, 31), (7, 32), (7, 33)], [(5, 74), (5, 75), (0, 0)], [(7, 47), (7, 48), (7, 49)], [(5, 86), (5, 87), (0, 0)], [(7, 59), (7, 60), (7, 61)], [(5, 114), (5, 115), (0, 0)], [(7, 71), (7, 72), (7, 73)], [(5, 121), (5, 122), (0, 0)], [(7, 76), (7, 77), (7, 78)], [(2, 207), (2, 208), (2, 209)], [(7, 92), (7, 93), (7, 94)], [(5, 129), (5, 130), (0, 0)], [(7, 96), (7, 97), (7, 98)], [(5, 136), (5, 137), (0, 0)], [(7, 102), (7, 103), (7, 104)], [(2, 215), (2, 216), (2, 217)], [(7, 107), (7, 108), (7, 109)], [(5, 143), (5, 144), (0, 0)], [(7, 130), (7, 131), (7, 132)], [(5, 170), (5, 171), (0, 0)], [(7, 135), (7, 136), (7, 137)], [(3, 63), (3, 64), (3, 65)], [(7, 139), (7, 140), (7, 141)]]
  | _ => []
def hf_mlok (hs : List (Nat × Nat)) (o ix y n kd : Nat) : Bool := if y = 999 then decide (n = 0) && decide (kd = 9) && hf_has (hs.getD 0 (0, 0)) (.methodLink (hf_on o) ix Lib.objectInit) else
  decide (y < 255) && decide (y ≠ 254) && decide (hf_npar (hf_y y) = some n) &&
  (match kd with
  | 0 => hf_has (hs.getD 0 (0, 0)) (.methodLink (hf_on o) ix (hf_y y)) && hf_has (hs.getD 1 (0, 0)) (.static (hf_y y)) && decide (hf_hh y = [])
  | 1 => hf_has (hs.getD 0 (0, 0)) (.methodLink (hf_on o) ix (hf_y y)) && hf_has (hs.getD 1 (0, 0)) (.instanceMethod (hf_y y)) && hf_has (hs.getD 2 (0, 0)) (.selects (hf_y y).cls (hf_y y) (hf_y y)) && decide (hf_hh y = [])
  | 2 => hf_has (hs.getD 0 (0, 0)) (.methodLink (hf_on o) ix (hf_y y)) && hf_has (hs.getD 1 (0, 0)) (.instanceMethod (hf_y y)) && decide ((hf_y y).name = "<init>") && decide (hf_hh y = []) && decide (hf_rt y = none)
  | 3 => hf_hasN (hs.getD 0 (0, 0)) (.methodLinkNest (hf_on o) ix (hf_y y) "Halofinder") && hf_has (hs.getD 1 (0, 0)) (.static (hf_y y)) && decide (hf_hh y = [])
  | 4 => hf_hasN (hs.getD 0 (0, 0)) (.methodLinkNest (hf_on o) ix (hf_y y) "Halofinder") && hf_has (hs.getD 1 (0, 0)) (.instanceMethod (hf_y y)) && hf_has (hs.getD 2 (0, 0)) (.selects (hf_y y).cls (hf_y y) (hf_y y)) && decide (hf_hh y = [])
  | 5 => hf_hasN (hs.getD 0 (0, 0)) (.methodLinkNest (hf_on o) ix (hf_y y) "Halofinder") && hf_has (hs.getD 1 (0, 0)) (.instanceMethod (hf_y y)) && decide ((hf_y y).name = "<init>") && decide (hf_hh y = []) && decide (hf_rt y = none)
  | 6 => hf_has (hs.getD 0 (0, 0)) (.methodLink (hf_on o) ix (hf_y y)) && hf_has (hs.getD 1 (0, 0)) (.static (hf_y y)) && decide (hf_hh y ≠ [])
  | _ => false)
def hf_mlokO (o : Nat) : Bool := decide ((hf_mlH o).length = (hf_mlT o).length) && ((hf_mlH o).zip (hf_mlT o)).all fun e => hf_mlok e.1 o e.2.1 e.2.2.1 e.2.2.2.1 e.2.2.2.2
theorem hf_ml_0 : hf_mlokO 0 = true := by decide +kernel
theorem hf_ml_1 : hf_mlokO 1 = true := by decide +kernel
theorem hf_ml_2 : hf_mlokO 2 = true := by decide +kernel
theorem hf_ml_3 : hf_mlokO 3 = true := by decide +kernel
theorem hf_ml_4 : hf_mlokO 4 = true := by decide +kernel
theorem hf_ml_5 : hf_mlokO 5 = true := by decide +kernel
theorem hf_ml_6 : hf_mlokO 6 = true := by decide +kernel
theorem hf_ml_7 : hf_mlokO 7 = true := by decide +kernel
theorem hf_ml_8 : hf_mlokO 8 = true := by decide +kernel
theorem hf_ml_9 : hf_mlokO 9 = true := by decide +kernel
theorem hf_ml_10 : hf_mlokO 10 = true := by decide +kernel
theorem hf_ml_11 : hf_mlokO 11 = true := by decide +kernel
theorem hf_ml_12 : hf_mlokO 12 = true := by decide +kernel
theorem hf_ml_13 : hf_mlokO 13 = true := by decide +kernel
theorem hf_ml_14 : hf_mlokO 14 = true := by decide +kernel
theorem hf_ml_15 : hf_mlokO 15 = true := by decide +kernel
theorem hf_oi1 : hf_has (1, 28) (.instanceMethod Lib.objectInit) = true := by decide +kernel
theorem hf_oi2 : hf_has (1, 29) (.code Lib.objectInit ⟨#[0xb1]⟩ 1 none) = true := by decide +kernel
theorem hf_ar2 : hf_has (6, 73) (.arrayClass .int) = true := by decide +kernel
theorem hf_ar3 : hf_has (1, 55) (.arrayClass .long) = true := by decide +kernel
theorem hf_ar4 : hf_has (6, 74) (.arrayClass .boolean) = true := by decide +kernel
theorem hf_ar5 : (hf_ch 1)[122]? = some (.arrayOver (.object "Halofinder$Picture")) := rfl
theorem hf_wv1 : hf_has (3, 210) (.fieldLink (hf_on 1) 94 "Halofinder$Grains" "WAVE" "[I") = true := by decide +kernel
