/-! THE TABLES' CHECKS, by the kernel; each word by its place (laid by program) -/
def hf_ch (k : Nat) : List Jvm.Cond := match k with
  | 0 => k2_sels lw_privs
  | 1 => tables_1_1
  | 2 => tables_1_2
  | 3 => tables_1_3
  | 4 => tables_1_4
  | 5 => tables_1_5
  | _ => []
theorem hf_ch_mem {k i : Nat} {q : Jvm.Cond} (h : (hf_ch k)[i]? = some q) : q ∈ lw_tbl := by
  have h1 := List.mem_of_getElem? h
  unfold hf_ch at h1
  split at h1
  · exact List.mem_append_left _ h1
  · refine List.mem_append_right _ ?_
    simp only [tables_1, List.mem_append]
    simp [h1]
  · refine List.mem_append_right _ ?_
    simp only [tables_1, List.mem_append]
    simp [h1]
  · refine List.mem_append_right _ ?_
    simp only [tables_1, List.mem_append]
    simp [h1]
  · refine List.mem_append_right _ ?_
    simp only [tables_1, List.mem_append]
    simp [h1]
  · refine List.mem_append_right _ ?_
    simp only [tables_1, List.mem_append]
    simp [h1]
  · cases h1
def hf_has (h : Nat × Nat) (q : Jvm.Cond) : Bool := decide ((hf_ch h.1)[h.2]? = some q) && goodWord q
def hf_hasN (h : Nat × Nat) (q : Jvm.Cond) : Bool := decide ((hf_ch h.1)[h.2]? = some q) && hf_isN q
theorem hf_has_ts {h : Nat × Nat} {q : Jvm.Cond} (e : hf_has h q = true) : q ∈ hf_ts := by
  simp only [hf_has, Bool.and_eq_true, decide_eq_true_eq] at e
  exact List.mem_filter.mpr ⟨hf_ch_mem e.1, e.2⟩
theorem hf_hasN_nw {h : Nat × Nat} {q : Jvm.Cond} (e : hf_hasN h q = true) : q ∈ hf_nw := by
  simp only [hf_hasN, Bool.and_eq_true, decide_eq_true_eq] at e
  exact List.mem_filter.mpr ⟨hf_ch_mem e.1, e.2⟩
def hf_tyk (c k : Nat) : FieldType := (parseFieldDescriptor (hf_ct c k).2.2.1).getD .int
def hf_fok (c k : Nat) : Bool := decide ((hf_ct c k).1 = hf_cn c) && decide (parseFieldDescriptor (hf_ct c k).2.2.1 = some (hf_tyk c k)) &&
  (match hf_ft c k, hf_tyk c k with
  | 0, .int => decide ((hf_ct c k).2.2.1 = "I")
  | 0, .boolean => true
  | 1, .long => true
  | 2, .object _ => true
  | 2, .array _ => true
  | _, _ => false)
def hf_cH (c : Nat) : List (Nat × Nat) := match c with
  | 0 => [(1, 156), (1, 158), (1, 160), (1, 162), (1, 164), (1, 166), (1, 168)]
  | 1 => [(1, 75), (1, 77), (1, 79), (1, 81), (1, 83), (1, 85)]
  | 2 => [(1, 212), (1, 214)]
  | 3 => [(1, 138), (1, 140), (1, 142)]
  | 4 => [(1, 187), (1, 189), (1, 191), (1, 193), (1, 195), (1, 197), (1, 199)]
  | 5 => [(1, 51)]
  | 6 => [(1, 103), (1, 105), (1, 107), (1, 109), (1, 111)]
  | 7 => [(2, 10), (2, 12), (2, 14), (2, 16), (2, 18), (2, 20), (2, 22), (2, 24), (2, 26), (2, 28), (2, 30), (2, 32)]
  | 8 => [(1, 226)]
  | 9 => [(2, 174), (2, 176), (2, 178), (2, 180), (2, 182), (2, 184), (2, 186), (2, 188), (2, 190)]
  | _ => []
def hf_cI (c : Nat) : Nat × Nat := match c with
  | 0 => (1, 6)
  | 1 => (1, 3)
  | 2 => (1, 9)
  | 3 => (1, 7)
  | 4 => (1, 8)
  | 5 => (1, 4)
  | 6 => (1, 2)
  | 7 => (1, 11)
  | 8 => (1, 10)
  | 9 => (1, 1)
  | _ => (0, 0)
def hf_cok (c : Nat) : Bool := ((List.range (hf_nf c)).all fun k => hf_fok c k) && ((List.range (hf_nf c)).all fun a => (List.range (hf_nf c)).all fun b => decide (a = b) || decide ((hf_ct c a).2.1 ≠ (hf_ct c b).2.1)) &&
  decide ((hf_cH c).length = (u_ws (hf_cn c) (hf_ct c) (hf_nf c)).length) && ((hf_cH c).zip (u_ws (hf_cn c) (hf_ct c) (hf_nf c))).all (fun z => hf_has z.1 z.2) && hf_has (hf_cI c) (.initialized (hf_cn c))
theorem hf_cok_all : (List.range 10).all hf_cok = true := by decide +kernel
def hf_flH (o : Nat) : List (Nat × Nat) := match o with
  | 0 => [(1, 147), (1, 148), (1, 149), (1, 150), (1, 133), (1, 98), (1, 136), (1, 153), (1, 154), (1, 155)]
  | 1 => [(1, 55), (1, 58), (1, 61), (1, 64), (1, 67), (1, 69)]
  | 2 => [(1, 210), (1, 211), (1, 91), (1, 68), (1, 102)]
  | 3 => [(1, 131), (1, 135), (1, 137), (1, 92), (1, 97)]
  | 4 => [(1, 182), (1, 183), (1, 184), (1, 185), (1, 186), (1, 179), (1, 181), (1, 74), (1, 57), (1, 60)]
  | 6 => [(1, 50)]
  | 7 => [(1, 90), (1, 94), (1, 100), (1, 101), (1, 95), (1, 71), (1, 66), (1, 63)]
  | 8 => [(1, 237), (1, 238), (1, 239), (2, 0), (2, 1), (2, 2), (2, 5), (2, 6), (2, 7), (2, 8), (2, 9), (2, 3), (1, 151), (1, 132), (1, 96)]
  | 9 => [(1, 225), (1, 73), (1, 62), (1, 65)]
  | 10 => [(1, 72), (1, 56), (1, 59)]
  | 11 => [(2, 165), (2, 166), (2, 167), (2, 168), (2, 169), (2, 170), (2, 172), (2, 173), (1, 93), (1, 70), (2, 171), (1, 99), (1, 180), (1, 152), (2, 4), (1, 134)]
  | _ => []
def hf_flok (h : Nat × Nat) (o ix c k kd : Nat) : Bool := decide (c < 10) && decide (k < hf_nf c) && (if kd = 0 then hf_has h (.fieldLink (hf_on o) ix (hf_cn c) (hf_ct c k).2.1 (hf_ct c k).2.2.1) else hf_hasN h (.fieldLinkNest (hf_on o) ix (hf_cn c) (hf_ct c k).2.1 (hf_ct c k).2.2.1 "Halofinder"))
theorem hf_fl_all : ((List.range 16).all fun o => decide ((hf_flH o).length = (hf_flT o).length) && ((hf_flH o).zip (hf_flT o)).all fun e => hf_flok e.1 o e.2.1 e.2.2.1 e.2.2.2.1 e.2.2.2.2) = true := by decide +kernel
def hf_llH (o : Nat) : List (Nat × Nat) := match o with
  | 0 => [(5, 187)]
  | 1 => [(2, 57), (2, 58), (5, 11), (5, 12), (5, 20)]
  | 3 => [(2, 110), (2, 101), (2, 139)]
  | 4 => [(5, 81), (5, 82), (5, 84)]
  | 5 => [(3, 79), (3, 78), (3, 239)]
  | 7 => [(3, 84)]
  | 8 => [(4, 124), (4, 143)]
  | 9 => [(4, 10), (3, 230), (4, 8)]
  | 10 => [(4, 175), (4, 172), (4, 173), (4, 183), (4, 184), (4, 185), (4, 186)]
  | 11 => [(2, 79), (5, 0), (5, 1), (5, 2), (5, 3), (5, 5), (5, 6)]
  | 13 => [(3, 136), (3, 209), (4, 15), (4, 16)]
  | 15 => [(2, 114), (2, 115), (2, 116)]
  | _ => []
def hf_llok (h : Nat × Nat) (o ix : Nat) (v : Int64) : Bool := hf_has h (.constantLong (hf_on o) ix v)
theorem hf_ll_all : ((List.range 16).all fun o => decide ((hf_llH o).length = (hf_llT o).length) && ((hf_llH o).zip (hf_llT o)).all fun e => hf_llok e.1 o e.2.1 e.2.2) = true := by decide +kernel
def hf_ilH (o : Nat) : List (Nat × Nat) := match o with
  | 13 => [(2, 196), (2, 197), (4, 160), (4, 69), (5, 31), (3, 95)]
  | _ => []
def hf_ilok (h : Nat × Nat) (o ix : Nat) (v : Int32) : Bool := hf_has h (.constant (hf_on o) ix v)
theorem hf_il_all : ((List.range 16).all fun o => decide ((hf_ilH o).length = (hf_ilT o).length) && ((hf_ilH o).zip (hf_ilT o)).all fun e => hf_ilok e.1 o e.2.1 e.2.2) = true := by decide +kernel
def hf_clH (o : Nat) : List (Nat × Nat) := match o with
  | 0 => [(1, 120), (1, 145)]
  | 1 => [(1, 41)]
  | 2 => [(1, 208)]
  | 3 => [(1, 127), (1, 129)]
  | 4 => [(1, 177)]
  | 7 => [(1, 35), (1, 88)]
  | 8 => [(1, 235)]
  | 9 => [(1, 223)]
  | 11 => [(1, 29), (1, 114), (1, 171), (1, 202), (1, 217), (1, 229), (3, 148), (2, 218), (4, 220)]
  | 13 => [(1, 21), (3, 140), (4, 211), (2, 204)]
  | _ => []
def hf_clG (o : Nat) : List (Nat × Nat) := match o with
  | 0 => [(1, 122), (1, 42)]
  | 1 => [(1, 42)]
  | 2 => [(1, 42)]
  | 3 => [(1, 30), (1, 42)]
  | 4 => [(1, 42)]
  | 7 => [(1, 36), (1, 42)]
  | 8 => [(1, 42)]
  | 9 => [(1, 42)]
  | 11 => [(1, 30), (1, 115), (1, 172), (1, 203), (1, 218), (1, 230), (0, 0), (0, 0), (0, 0)]
  | 13 => [(1, 22), (0, 0), (0, 0), (0, 0)]
  | _ => []
def hf_clok (h i : Nat × Nat) (o ix c : Nat) : Bool := if c < 100 then decide (c < 10) && hf_has h (.classLink (hf_on o) ix (hf_cn c)) && hf_has i (.instantiable (hf_cn c) (hf_nf c)) else decide (1 ≤ c - 100) && decide (c - 100 ≤ 3) && hf_has h (.classLink (hf_on o) ix (hf_en (c - 100)))
theorem hf_cl_all : ((List.range 16).all fun o => decide ((hf_clH o).length = (hf_clT o).length) && decide ((hf_clG o).length = (hf_clT o).length) && ((hf_clH o).zip ((hf_clG o).zip (hf_clT o))).all fun e => hf_clok e.1 e.2.1 o e.2.2.1 e.2.2.2) = true := by decide +kernel
def hf_mI (y : Nat) : Nat × Nat := (((match y / 16 with
  | 0 => [(1, 6), (1, 6), (1, 6), (1, 6), (1, 6), (1, 6), (1, 6), (1, 6), (1, 6), (1, 6), (1, 6), (1, 6), (1, 6), (1, 6), (1, 6), (1, 6)]
  | 1 => [(1, 3), (1, 3), (1, 3), (1, 3), (1, 3), (1, 3), (1, 3), (1, 3), (1, 3), (1, 3), (1, 3), (1, 3), (1, 3), (1, 3), (1, 3), (1, 3)]
  | 2 => [(1, 3), (1, 3), (1, 3), (1, 3), (1, 3), (1, 9), (1, 9), (1, 9), (1, 9), (1, 7), (1, 7), (1, 7), (1, 7), (1, 7), (1, 7), (1, 7)]
  | 3 => [(1, 7), (1, 8), (1, 8), (1, 8), (1, 8), (1, 8), (1, 8), (1, 8), (1, 8), (1, 8), (1, 8), (1, 8), (1, 8), (1, 12), (1, 12), (1, 12)]
  | 4 => [(1, 12), (1, 12), (1, 12), (1, 12), (1, 12), (1, 4), (1, 4), (1, 4), (1, 4), (1, 4), (1, 4), (1, 2), (1, 2), (1, 2), (1, 2), (1, 2)]
  | 5 => [(1, 2), (1, 2), (1, 2), (1, 2), (1, 2), (1, 2), (1, 2), (1, 2), (1, 11), (1, 11), (1, 11), (1, 11), (1, 11), (1, 11), (1, 11), (1, 11)]
  | 6 => [(1, 11), (1, 11), (1, 10), (1, 10), (1, 10), (1, 10), (1, 10), (1, 10), (1, 20), (1, 20), (1, 20), (1, 20), (1, 1), (1, 1), (1, 1), (1, 1)]
  | 7 => [(1, 1), (1, 1), (1, 1), (1, 1), (1, 1), (1, 1), (1, 1), (1, 1), (1, 1), (1, 1), (1, 1), (1, 1), (1, 1), (1, 1), (1, 1), (1, 1)]
  | 8 => [(1, 1), (1, 1), (1, 1), (1, 1), (1, 1), (1, 1), (1, 1), (1, 1), (1, 1), (1, 1), (1, 1), (1, 1), (1, 1), (1, 1), (1, 1), (1, 1)]
  | 9 => [(1, 1), (1, 13), (1, 5), (1, 5), (1, 5), (1, 5), (1, 5), (1, 5), (1, 0), (1, 0), (1, 0), (1, 0), (1, 0), (1, 0), (1, 0), (1, 0)]
  | 10 => [(1, 0), (1, 0), (1, 0), (1, 0), (1, 0), (1, 0), (1, 0), (1, 0), (1, 0), (1, 0), (1, 0), (1, 0), (1, 0), (1, 0), (1, 0), (1, 0)]
  | 11 => [(1, 0), (1, 0), (1, 0), (1, 0), (1, 0), (1, 0), (1, 0), (1, 0)]
  | _ => []) : List (Nat × Nat))).getD (y % 16) (0, 0)
def hf_npar (y : MethodName) : Option Nat := (parseMethodDescriptor y.desc).map (fun d => d.parameters.length)
def hf_mok (y : Nat) : Bool := plainFor (hf_y y) && decide ((hf_y y).cls ≠ "java/lang/invoke/MethodHandle") && decide ((hf_y y).cls ≠ "java/lang/invoke/VarHandle") && hf_has (hf_mI y) (.initialized (hf_y y).cls) && decide (hf_on (hf_oc y) = (hf_y y).cls)
theorem hf_mok_all : (List.range 184).all hf_mok = true := by decide +kernel
set_option maxRecDepth 100000 in
theorem hf_cw_0 : (hf_ch 1)[118]? = some (hf_cw 0) := rfl
set_option maxRecDepth 100000 in
theorem hf_cw_1 : (hf_ch 2)[74]? = some (hf_cw 1) := rfl
set_option maxRecDepth 100000 in
theorem hf_cw_2 : (hf_ch 2)[95]? = some (hf_cw 2) := rfl
set_option maxRecDepth 100000 in
theorem hf_cw_3 : (hf_ch 2)[91]? = some (hf_cw 3) := rfl
set_option maxRecDepth 100000 in
theorem hf_cw_4 : (hf_ch 5)[164]? = some (hf_cw 4) := rfl
set_option maxRecDepth 100000 in
theorem hf_cw_5 : (hf_ch 4)[45]? = some (hf_cw 5) := rfl
set_option maxRecDepth 100000 in
theorem hf_cw_6 : (hf_ch 5)[182]? = some (hf_cw 6) := rfl
set_option maxRecDepth 100000 in
theorem hf_cw_7 : (hf_ch 4)[49]? = some (hf_cw 7) := rfl
set_option maxRecDepth 100000 in
theorem hf_cw_8 : (hf_ch 4)[42]? = some (hf_cw 8) := rfl
set_option maxRecDepth 100000 in
theorem hf_cw_9 : (hf_ch 4)[55]? = some (hf_cw 9) := rfl
set_option maxRecDepth 100000 in
theorem hf_cw_10 : (hf_ch 4)[59]? = some (hf_cw 10) := rfl
set_option maxRecDepth 100000 in
theorem hf_cw_11 : (hf_ch 4)[66]? = some (hf_cw 11) := rfl
set_option maxRecDepth 100000 in
theorem hf_cw_12 : (hf_ch 2)[83]? = some (hf_cw 12) := rfl
set_option maxRecDepth 100000 in
theorem hf_cw_13 : (hf_ch 2)[87]? = some (hf_cw 13) := rfl
set_option maxRecDepth 100000 in
theorem hf_cw_14 : (hf_ch 2)[150]? = some (hf_cw 14) := rfl
set_option maxRecDepth 100000 in
theorem hf_cw_15 : (hf_ch 4)[93]? = some (hf_cw 15) := rfl
set_option maxRecDepth 100000 in
theorem hf_cw_16 : (hf_ch 1)[39]? = some (hf_cw 16) := rfl
set_option maxRecDepth 100000 in
theorem hf_cw_17 : (hf_ch 2)[42]? = some (hf_cw 17) := rfl
set_option maxRecDepth 100000 in
theorem hf_cw_18 : (hf_ch 5)[172]? = some (hf_cw 18) := rfl
set_option maxRecDepth 100000 in
theorem hf_cw_19 : (hf_ch 2)[49]? = some (hf_cw 19) := rfl
set_option maxRecDepth 100000 in
theorem hf_cw_20 : (hf_ch 2)[66]? = some (hf_cw 20) := rfl
set_option maxRecDepth 100000 in
theorem hf_cw_21 : (hf_ch 2)[56]? = some (hf_cw 21) := rfl
set_option maxRecDepth 100000 in
theorem hf_cw_22 : (hf_ch 5)[10]? = some (hf_cw 22) := rfl
set_option maxRecDepth 100000 in
theorem hf_cw_23 : (hf_ch 5)[16]? = some (hf_cw 23) := rfl
set_option maxRecDepth 100000 in
theorem hf_cw_24 : (hf_ch 5)[24]? = some (hf_cw 24) := rfl
set_option maxRecDepth 100000 in
theorem hf_cw_25 : (hf_ch 5)[28]? = some (hf_cw 25) := rfl
set_option maxRecDepth 100000 in
theorem hf_cw_26 : (hf_ch 5)[203]? = some (hf_cw 26) := rfl
set_option maxRecDepth 100000 in
theorem hf_cw_27 : (hf_ch 5)[207]? = some (hf_cw 27) := rfl
set_option maxRecDepth 100000 in
theorem hf_cw_28 : (hf_ch 3)[179]? = some (hf_cw 28) := rfl
set_option maxRecDepth 100000 in
theorem hf_cw_29 : (hf_ch 3)[201]? = some (hf_cw 29) := rfl
set_option maxRecDepth 100000 in
theorem hf_cw_30 : (hf_ch 3)[175]? = some (hf_cw 30) := rfl
set_option maxRecDepth 100000 in
theorem hf_cw_31 : (hf_ch 3)[69]? = some (hf_cw 31) := rfl
set_option maxRecDepth 100000 in
theorem hf_cw_32 : (hf_ch 3)[73]? = some (hf_cw 32) := rfl
set_option maxRecDepth 100000 in
theorem hf_cw_33 : (hf_ch 3)[234]? = some (hf_cw 33) := rfl
set_option maxRecDepth 100000 in
theorem hf_cw_34 : (hf_ch 5)[39]? = some (hf_cw 34) := rfl
set_option maxRecDepth 100000 in
theorem hf_cw_35 : (hf_ch 3)[197]? = some (hf_cw 35) := rfl
set_option maxRecDepth 100000 in
theorem hf_cw_36 : (hf_ch 4)[203]? = some (hf_cw 36) := rfl
set_option maxRecDepth 100000 in
theorem hf_cw_37 : (hf_ch 1)[206]? = some (hf_cw 37) := rfl
set_option maxRecDepth 100000 in
theorem hf_cw_38 : (hf_ch 3)[106]? = some (hf_cw 38) := rfl
set_option maxRecDepth 100000 in
theorem hf_cw_39 : (hf_ch 3)[117]? = some (hf_cw 39) := rfl
set_option maxRecDepth 100000 in
theorem hf_cw_40 : (hf_ch 3)[121]? = some (hf_cw 40) := rfl
set_option maxRecDepth 100000 in
theorem hf_cw_41 : (hf_ch 1)[125]? = some (hf_cw 41) := rfl
set_option maxRecDepth 100000 in
theorem hf_cw_42 : (hf_ch 5)[168]? = some (hf_cw 42) := rfl
set_option maxRecDepth 100000 in
theorem hf_cw_43 : (hf_ch 2)[154]? = some (hf_cw 43) := rfl
set_option maxRecDepth 100000 in
theorem hf_cw_44 : (hf_ch 2)[137]? = some (hf_cw 44) := rfl
set_option maxRecDepth 100000 in
theorem hf_cw_45 : (hf_ch 2)[120]? = some (hf_cw 45) := rfl
set_option maxRecDepth 100000 in
theorem hf_cw_46 : (hf_ch 2)[99]? = some (hf_cw 46) := rfl
set_option maxRecDepth 100000 in
theorem hf_cw_47 : (hf_ch 2)[133]? = some (hf_cw 47) := rfl
set_option maxRecDepth 100000 in
theorem hf_cw_48 : (hf_ch 2)[143]? = some (hf_cw 48) := rfl
set_option maxRecDepth 100000 in
theorem hf_cw_49 : (hf_ch 1)[175]? = some (hf_cw 49) := rfl
set_option maxRecDepth 100000 in
theorem hf_cw_50 : (hf_ch 2)[78]? = some (hf_cw 50) := rfl
set_option maxRecDepth 100000 in
theorem hf_cw_51 : (hf_ch 5)[116]? = some (hf_cw 51) := rfl
set_option maxRecDepth 100000 in
theorem hf_cw_52 : (hf_ch 5)[108]? = some (hf_cw 52) := rfl
set_option maxRecDepth 100000 in
theorem hf_cw_53 : (hf_ch 5)[112]? = some (hf_cw 53) := rfl
set_option maxRecDepth 100000 in
theorem hf_cw_54 : (hf_ch 5)[93]? = some (hf_cw 54) := rfl
set_option maxRecDepth 100000 in
theorem hf_cw_55 : (hf_ch 5)[89]? = some (hf_cw 55) := rfl
set_option maxRecDepth 100000 in
theorem hf_cw_56 : (hf_ch 5)[72]? = some (hf_cw 56) := rfl
set_option maxRecDepth 100000 in
theorem hf_cw_57 : (hf_ch 5)[76]? = some (hf_cw 57) := rfl
set_option maxRecDepth 100000 in
theorem hf_cw_58 : (hf_ch 5)[80]? = some (hf_cw 58) := rfl
set_option maxRecDepth 100000 in
theorem hf_cw_59 : (hf_ch 5)[98]? = some (hf_cw 59) := rfl
set_option maxRecDepth 100000 in
theorem hf_cw_60 : (hf_ch 5)[103]? = some (hf_cw 60) := rfl
set_option maxRecDepth 100000 in
theorem hf_cw_61 : (hf_ch 3)[189]? = some (hf_cw 61) := rfl
set_option maxRecDepth 100000 in
theorem hf_cw_62 : (hf_ch 3)[77]? = some (hf_cw 62) := rfl
set_option maxRecDepth 100000 in
theorem hf_cw_63 : (hf_ch 3)[238]? = some (hf_cw 63) := rfl
set_option maxRecDepth 100000 in
theorem hf_cw_64 : (hf_ch 2)[52]? = some (hf_cw 64) := rfl
set_option maxRecDepth 100000 in
theorem hf_cw_65 : (hf_ch 3)[183]? = some (hf_cw 65) := rfl
set_option maxRecDepth 100000 in
theorem hf_cw_66 : (hf_ch 3)[56]? = some (hf_cw 66) := rfl
set_option maxRecDepth 100000 in
theorem hf_cw_67 : (hf_ch 3)[53]? = some (hf_cw 67) := rfl
set_option maxRecDepth 100000 in
theorem hf_cw_68 : (hf_ch 3)[64]? = some (hf_cw 68) := rfl
set_option maxRecDepth 100000 in
theorem hf_cw_69 : (hf_ch 1)[45]? = some (hf_cw 69) := rfl
set_option maxRecDepth 100000 in
theorem hf_cw_70 : (hf_ch 2)[109]? = some (hf_cw 70) := rfl
set_option maxRecDepth 100000 in
theorem hf_cw_71 : (hf_ch 2)[62]? = some (hf_cw 71) := rfl
set_option maxRecDepth 100000 in
theorem hf_cw_72 : (hf_ch 2)[124]? = some (hf_cw 72) := rfl
set_option maxRecDepth 100000 in
theorem hf_cw_73 : (hf_ch 2)[70]? = some (hf_cw 73) := rfl
set_option maxRecDepth 100000 in
theorem hf_cw_74 : (hf_ch 5)[176]? = some (hf_cw 74) := rfl
set_option maxRecDepth 100000 in
theorem hf_cw_75 : (hf_ch 1)[33]? = some (hf_cw 75) := rfl
set_option maxRecDepth 100000 in
theorem hf_cw_76 : (hf_ch 3)[50]? = some (hf_cw 76) := rfl
set_option maxRecDepth 100000 in
theorem hf_cw_77 : (hf_ch 3)[111]? = some (hf_cw 77) := rfl
set_option maxRecDepth 100000 in
theorem hf_cw_78 : (hf_ch 3)[60]? = some (hf_cw 78) := rfl
set_option maxRecDepth 100000 in
theorem hf_cw_79 : (hf_ch 3)[89]? = some (hf_cw 79) := rfl
set_option maxRecDepth 100000 in
theorem hf_cw_80 : (hf_ch 2)[105]? = some (hf_cw 80) := rfl
set_option maxRecDepth 100000 in
theorem hf_cw_81 : (hf_ch 3)[93]? = some (hf_cw 81) := rfl
set_option maxRecDepth 100000 in
theorem hf_cw_82 : (hf_ch 2)[128]? = some (hf_cw 82) := rfl
set_option maxRecDepth 100000 in
theorem hf_cw_83 : (hf_ch 5)[186]? = some (hf_cw 83) := rfl
set_option maxRecDepth 100000 in
theorem hf_cw_84 : (hf_ch 3)[167]? = some (hf_cw 84) := rfl
set_option maxRecDepth 100000 in
theorem hf_cw_85 : (hf_ch 3)[171]? = some (hf_cw 85) := rfl
set_option maxRecDepth 100000 in
theorem hf_cw_86 : (hf_ch 3)[193]? = some (hf_cw 86) := rfl
set_option maxRecDepth 100000 in
theorem hf_cw_87 : (hf_ch 3)[208]? = some (hf_cw 87) := rfl
set_option maxRecDepth 100000 in
theorem hf_cw_88 : (hf_ch 1)[233]? = some (hf_cw 88) := rfl
set_option maxRecDepth 100000 in
theorem hf_cw_89 : (hf_ch 2)[160]? = some (hf_cw 89) := rfl
set_option maxRecDepth 100000 in
theorem hf_cw_90 : (hf_ch 2)[164]? = some (hf_cw 90) := rfl
set_option maxRecDepth 100000 in
theorem hf_cw_91 : (hf_ch 4)[104]? = some (hf_cw 91) := rfl
set_option maxRecDepth 100000 in
theorem hf_cw_92 : (hf_ch 4)[111]? = some (hf_cw 92) := rfl
set_option maxRecDepth 100000 in
theorem hf_cw_93 : (hf_ch 4)[117]? = some (hf_cw 93) := rfl
set_option maxRecDepth 100000 in
theorem hf_cw_94 : (hf_ch 4)[137]? = some (hf_cw 94) := rfl
set_option maxRecDepth 100000 in
theorem hf_cw_95 : (hf_ch 4)[142]? = some (hf_cw 95) := rfl
set_option maxRecDepth 100000 in
theorem hf_cw_96 : (hf_ch 4)[148]? = some (hf_cw 96) := rfl
set_option maxRecDepth 100000 in
theorem hf_cw_97 : (hf_ch 4)[152]? = some (hf_cw 97) := rfl
set_option maxRecDepth 100000 in
theorem hf_cw_98 : (hf_ch 1)[221]? = some (hf_cw 98) := rfl
set_option maxRecDepth 100000 in
theorem hf_cw_99 : (hf_ch 3)[220]? = some (hf_cw 99) := rfl
set_option maxRecDepth 100000 in
theorem hf_cw_100 : (hf_ch 3)[229]? = some (hf_cw 100) := rfl
set_option maxRecDepth 100000 in
theorem hf_cw_101 : (hf_ch 3)[224]? = some (hf_cw 101) := rfl
set_option maxRecDepth 100000 in
theorem hf_cw_102 : (hf_ch 4)[14]? = some (hf_cw 102) := rfl
set_option maxRecDepth 100000 in
theorem hf_cw_103 : (hf_ch 4)[5]? = some (hf_cw 103) := rfl
set_option maxRecDepth 100000 in
theorem hf_cw_104 : (hf_ch 4)[167]? = some (hf_cw 104) := rfl
set_option maxRecDepth 100000 in
theorem hf_cw_105 : (hf_ch 4)[170]? = some (hf_cw 105) := rfl
set_option maxRecDepth 100000 in
theorem hf_cw_106 : (hf_ch 4)[179]? = some (hf_cw 106) := rfl
set_option maxRecDepth 100000 in
theorem hf_cw_107 : (hf_ch 4)[182]? = some (hf_cw 107) := rfl
set_option maxRecDepth 100000 in
theorem hf_cw_108 : (hf_ch 1)[25]? = some (hf_cw 108) := rfl
set_option maxRecDepth 100000 in
theorem hf_cw_109 : (hf_ch 5)[152]? = some (hf_cw 109) := rfl
set_option maxRecDepth 100000 in
theorem hf_cw_110 : (hf_ch 5)[46]? = some (hf_cw 110) := rfl
set_option maxRecDepth 100000 in
theorem hf_cw_111 : (hf_ch 4)[215]? = some (hf_cw 111) := rfl
set_option maxRecDepth 100000 in
theorem hf_cw_112 : (hf_ch 5)[57]? = some (hf_cw 112) := rfl
set_option maxRecDepth 100000 in
theorem hf_cw_113 : (hf_ch 5)[67]? = some (hf_cw 113) := rfl
set_option maxRecDepth 100000 in
theorem hf_cw_114 : (hf_ch 5)[194]? = some (hf_cw 114) := rfl
set_option maxRecDepth 100000 in
theorem hf_cw_115 : (hf_ch 5)[35]? = some (hf_cw 115) := rfl
set_option maxRecDepth 100000 in
theorem hf_cw_116 : (hf_ch 5)[124]? = some (hf_cw 116) := rfl
set_option maxRecDepth 100000 in
theorem hf_cw_117 : (hf_ch 2)[208]? = some (hf_cw 117) := rfl
set_option maxRecDepth 100000 in
theorem hf_cw_118 : (hf_ch 3)[102]? = some (hf_cw 118) := rfl
set_option maxRecDepth 100000 in
theorem hf_cw_119 : (hf_ch 3)[130]? = some (hf_cw 119) := rfl
set_option maxRecDepth 100000 in
theorem hf_cw_120 : (hf_ch 3)[144]? = some (hf_cw 120) := rfl
set_option maxRecDepth 100000 in
theorem hf_cw_121 : (hf_ch 3)[216]? = some (hf_cw 121) := rfl
set_option maxRecDepth 100000 in
theorem hf_cw_122 : (hf_ch 5)[159]? = some (hf_cw 122) := rfl
set_option maxRecDepth 100000 in
theorem hf_cw_123 : (hf_ch 4)[26]? = some (hf_cw 123) := rfl
set_option maxRecDepth 100000 in
theorem hf_cw_124 : (hf_ch 4)[76]? = some (hf_cw 124) := rfl
set_option maxRecDepth 100000 in
theorem hf_cw_125 : (hf_ch 4)[38]? = some (hf_cw 125) := rfl
set_option maxRecDepth 100000 in
theorem hf_cw_126 : (hf_ch 5)[131]? = some (hf_cw 126) := rfl
set_option maxRecDepth 100000 in
theorem hf_cw_127 : (hf_ch 4)[84]? = some (hf_cw 127) := rfl
set_option maxRecDepth 100000 in
theorem hf_cw_128 : (hf_ch 4)[89]? = some (hf_cw 128) := rfl
set_option maxRecDepth 100000 in
theorem hf_cw_129 : (hf_ch 5)[145]? = some (hf_cw 129) := rfl
set_option maxRecDepth 100000 in
theorem hf_cw_130 : (hf_ch 5)[138]? = some (hf_cw 130) := rfl
set_option maxRecDepth 100000 in
theorem hf_cw_131 : (hf_ch 4)[100]? = some (hf_cw 131) := rfl
set_option maxRecDepth 100000 in
theorem hf_cw_132 : (hf_ch 4)[132]? = some (hf_cw 132) := rfl
set_option maxRecDepth 100000 in
theorem hf_cw_133 : (hf_ch 4)[195]? = some (hf_cw 133) := rfl
set_option maxRecDepth 100000 in
theorem hf_cw_134 : (hf_ch 4)[164]? = some (hf_cw 134) := rfl
set_option maxRecDepth 100000 in
theorem hf_cw_135 : (hf_ch 2)[38]? = some (hf_cw 135) := rfl
set_option maxRecDepth 100000 in
theorem hf_cw_136 : (hf_ch 4)[239]? = some (hf_cw 136) := rfl
set_option maxRecDepth 100000 in
theorem hf_cw_137 : (hf_ch 5)[199]? = some (hf_cw 137) := rfl
set_option maxRecDepth 100000 in
theorem hf_cw_138 : (hf_ch 2)[216]? = some (hf_cw 138) := rfl
set_option maxRecDepth 100000 in
theorem hf_cw_139 : (hf_ch 2)[212]? = some (hf_cw 139) := rfl
set_option maxRecDepth 100000 in
theorem hf_cw_140 : (hf_ch 3)[133]? = some (hf_cw 140) := rfl
set_option maxRecDepth 100000 in
theorem hf_cw_141 : (hf_ch 4)[30]? = some (hf_cw 141) := rfl
set_option maxRecDepth 100000 in
theorem hf_cw_142 : (hf_ch 4)[219]? = some (hf_cw 142) := rfl
set_option maxRecDepth 100000 in
theorem hf_cw_143 : (hf_ch 3)[147]? = some (hf_cw 143) := rfl
set_option maxRecDepth 100000 in
theorem hf_cw_144 : (hf_ch 4)[198]? = some (hf_cw 144) := rfl
set_option maxRecDepth 100000 in
theorem hf_cw_145 : (hf_ch 2)[113]? = some (hf_cw 145) := rfl
set_option maxRecDepth 100000 in
theorem hf_cw_146 : (hf_ch 3)[186]? = some (hf_cw 146) := rfl
set_option maxRecDepth 100000 in
theorem hf_cw_147 : (hf_ch 3)[82]? = some (hf_cw 147) := rfl
set_option maxRecDepth 100000 in
theorem hf_cw_148 : (hf_ch 4)[120]? = some (hf_cw 148) := rfl
set_option maxRecDepth 100000 in
theorem hf_cw_149 : (hf_ch 1)[49]? = some (hf_cw 149) := rfl
set_option maxRecDepth 100000 in
theorem hf_cw_150 : (hf_ch 2)[45]? = some (hf_cw 150) := rfl
set_option maxRecDepth 100000 in
theorem hf_cw_151 : (hf_ch 2)[146]? = some (hf_cw 151) := rfl
set_option maxRecDepth 100000 in
theorem hf_cw_152 : (hf_ch 2)[195]? = some (hf_cw 152) := rfl
set_option maxRecDepth 100000 in
theorem hf_cw_153 : (hf_ch 4)[159]? = some (hf_cw 153) := rfl
set_option maxRecDepth 100000 in
theorem hf_cw_154 : (hf_ch 5)[148]? = some (hf_cw 154) := rfl
set_option maxRecDepth 100000 in
theorem hf_cw_155 : (hf_ch 5)[42]? = some (hf_cw 155) := rfl
set_option maxRecDepth 100000 in
theorem hf_cw_156 : (hf_ch 4)[210]? = some (hf_cw 156) := rfl
set_option maxRecDepth 100000 in
theorem hf_cw_157 : (hf_ch 5)[53]? = some (hf_cw 157) := rfl
set_option maxRecDepth 100000 in
theorem hf_cw_158 : (hf_ch 5)[63]? = some (hf_cw 158) := rfl
set_option maxRecDepth 100000 in
theorem hf_cw_159 : (hf_ch 5)[190]? = some (hf_cw 159) := rfl
set_option maxRecDepth 100000 in
theorem hf_cw_160 : (hf_ch 5)[120]? = some (hf_cw 160) := rfl
set_option maxRecDepth 100000 in
theorem hf_cw_161 : (hf_ch 2)[203]? = some (hf_cw 161) := rfl
set_option maxRecDepth 100000 in
theorem hf_cw_162 : (hf_ch 3)[98]? = some (hf_cw 162) := rfl
set_option maxRecDepth 100000 in
theorem hf_cw_163 : (hf_ch 3)[126]? = some (hf_cw 163) := rfl
set_option maxRecDepth 100000 in
theorem hf_cw_164 : (hf_ch 3)[139]? = some (hf_cw 164) := rfl
set_option maxRecDepth 100000 in
theorem hf_cw_165 : (hf_ch 3)[212]? = some (hf_cw 165) := rfl
set_option maxRecDepth 100000 in
theorem hf_cw_166 : (hf_ch 5)[155]? = some (hf_cw 166) := rfl
set_option maxRecDepth 100000 in
theorem hf_cw_167 : (hf_ch 4)[22]? = some (hf_cw 167) := rfl
set_option maxRecDepth 100000 in
theorem hf_cw_168 : (hf_ch 4)[72]? = some (hf_cw 168) := rfl
set_option maxRecDepth 100000 in
theorem hf_cw_169 : (hf_ch 4)[34]? = some (hf_cw 169) := rfl
set_option maxRecDepth 100000 in
theorem hf_cw_170 : (hf_ch 5)[127]? = some (hf_cw 170) := rfl
set_option maxRecDepth 100000 in
theorem hf_cw_171 : (hf_ch 4)[80]? = some (hf_cw 171) := rfl
set_option maxRecDepth 100000 in
theorem hf_cw_172 : (hf_ch 5)[141]? = some (hf_cw 172) := rfl
set_option maxRecDepth 100000 in
theorem hf_cw_173 : (hf_ch 5)[134]? = some (hf_cw 173) := rfl
set_option maxRecDepth 100000 in
theorem hf_cw_174 : (hf_ch 4)[128]? = some (hf_cw 174) := rfl
set_option maxRecDepth 100000 in
theorem hf_cw_175 : (hf_ch 4)[191]? = some (hf_cw 175) := rfl
set_option maxRecDepth 100000 in
theorem hf_cw_176 : (hf_ch 2)[200]? = some (hf_cw 176) := rfl
set_option maxRecDepth 100000 in
theorem hf_cw_177 : (hf_ch 4)[19]? = some (hf_cw 177) := rfl
set_option maxRecDepth 100000 in
theorem hf_cw_178 : (hf_ch 4)[96]? = some (hf_cw 178) := rfl
set_option maxRecDepth 100000 in
theorem hf_cw_179 : (hf_ch 5)[60]? = some (hf_cw 179) := rfl
set_option maxRecDepth 100000 in
theorem hf_cw_180 : (hf_ch 4)[156]? = some (hf_cw 180) := rfl
set_option maxRecDepth 100000 in
theorem hf_cw_181 : (hf_ch 4)[207]? = some (hf_cw 181) := rfl
set_option maxRecDepth 100000 in
theorem hf_cw_182 : (hf_ch 5)[50]? = some (hf_cw 182) := rfl
theorem hf_cwb_0 : ∀ j : Nat, j < 16 → 16 * 0 + j ≠ 183 → hf_cw (16 * 0 + j) ∈ lw_tbl := fun j h1 h2 => match j, h1, h2 with
  | 0, _, h2 => hf_ch_mem hf_cw_0
  | 1, _, h2 => hf_ch_mem hf_cw_1
  | 2, _, h2 => hf_ch_mem hf_cw_2
  | 3, _, h2 => hf_ch_mem hf_cw_3
  | 4, _, h2 => hf_ch_mem hf_cw_4
  | 5, _, h2 => hf_ch_mem hf_cw_5
  | 6, _, h2 => hf_ch_mem hf_cw_6
  | 7, _, h2 => hf_ch_mem hf_cw_7
  | 8, _, h2 => hf_ch_mem hf_cw_8
  | 9, _, h2 => hf_ch_mem hf_cw_9
  | 10, _, h2 => hf_ch_mem hf_cw_10
  | 11, _, h2 => hf_ch_mem hf_cw_11
  | 12, _, h2 => hf_ch_mem hf_cw_12
  | 13, _, h2 => hf_ch_mem hf_cw_13
  | 14, _, h2 => hf_ch_mem hf_cw_14
  | 15, _, h2 => hf_ch_mem hf_cw_15
  | n + 16, h1, _ => absurd h1 (by omega)
theorem hf_cwb_1 : ∀ j : Nat, j < 16 → 16 * 1 + j ≠ 183 → hf_cw (16 * 1 + j) ∈ lw_tbl := fun j h1 h2 => match j, h1, h2 with
  | 0, _, h2 => hf_ch_mem hf_cw_16
  | 1, _, h2 => hf_ch_mem hf_cw_17
  | 2, _, h2 => hf_ch_mem hf_cw_18
  | 3, _, h2 => hf_ch_mem hf_cw_19
  | 4, _, h2 => hf_ch_mem hf_cw_20
  | 5, _, h2 => hf_ch_mem hf_cw_21
  | 6, _, h2 => hf_ch_mem hf_cw_22
  | 7, _, h2 => hf_ch_mem hf_cw_23
  | 8, _, h2 => hf_ch_mem hf_cw_24
  | 9, _, h2 => hf_ch_mem hf_cw_25
  | 10, _, h2 => hf_ch_mem hf_cw_26
  | 11, _, h2 => hf_ch_mem hf_cw_27
  | 12, _, h2 => hf_ch_mem hf_cw_28
  | 13, _, h2 => hf_ch_mem hf_cw_29
  | 14, _, h2 => hf_ch_mem hf_cw_30
  | 15, _, h2 => hf_ch_mem hf_cw_31
  | n + 16, h1, _ => absurd h1 (by omega)
theorem hf_cwb_2 : ∀ j : Nat, j < 16 → 16 * 2 + j ≠ 183 → hf_cw (16 * 2 + j) ∈ lw_tbl := fun j h1 h2 => match j, h1, h2 with
  | 0, _, h2 => hf_ch_mem hf_cw_32
  | 1, _, h2 => hf_ch_mem hf_cw_33
  | 2, _, h2 => hf_ch_mem hf_cw_34
  | 3, _, h2 => hf_ch_mem hf_cw_35
  | 4, _, h2 => hf_ch_mem hf_cw_36
  | 5, _, h2 => hf_ch_mem hf_cw_37
  | 6, _, h2 => hf_ch_mem hf_cw_38
  | 7, _, h2 => hf_ch_mem hf_cw_39
  | 8, _, h2 => hf_ch_mem hf_cw_40
  | 9, _, h2 => hf_ch_mem hf_cw_41
  | 10, _, h2 => hf_ch_mem hf_cw_42
  | 11, _, h2 => hf_ch_mem hf_cw_43
  | 12, _, h2 => hf_ch_mem hf_cw_44
  | 13, _, h2 => hf_ch_mem hf_cw_45
  | 14, _, h2 => hf_ch_mem hf_cw_46
  | 15, _, h2 => hf_ch_mem hf_cw_47
  | n + 16, h1, _ => absurd h1 (by omega)
theorem hf_cwb_3 : ∀ j : Nat, j < 16 → 16 * 3 + j ≠ 183 → hf_cw (16 * 3 + j) ∈ lw_tbl := fun j h1 h2 => match j, h1, h2 with
  | 0, _, h2 => hf_ch_mem hf_cw_48
  | 1, _, h2 => hf_ch_mem hf_cw_49
  | 2, _, h2 => hf_ch_mem hf_cw_50
  | 3, _, h2 => hf_ch_mem hf_cw_51
  | 4, _, h2 => hf_ch_mem hf_cw_52
  | 5, _, h2 => hf_ch_mem hf_cw_53
  | 6, _, h2 => hf_ch_mem hf_cw_54
  | 7, _, h2 => hf_ch_mem hf_cw_55
  | 8, _, h2 => hf_ch_mem hf_cw_56
  | 9, _, h2 => hf_ch_mem hf_cw_57
  | 10, _, h2 => hf_ch_mem hf_cw_58
  | 11, _, h2 => hf_ch_mem hf_cw_59
  | 12, _, h2 => hf_ch_mem hf_cw_60
  | 13, _, h2 => hf_ch_mem hf_cw_61
  | 14, _, h2 => hf_ch_mem hf_cw_62
  | 15, _, h2 => hf_ch_mem hf_cw_63
  | n + 16, h1, _ => absurd h1 (by omega)
theorem hf_cwb_4 : ∀ j : Nat, j < 16 → 16 * 4 + j ≠ 183 → hf_cw (16 * 4 + j) ∈ lw_tbl := fun j h1 h2 => match j, h1, h2 with
  | 0, _, h2 => hf_ch_mem hf_cw_64
  | 1, _, h2 => hf_ch_mem hf_cw_65
  | 2, _, h2 => hf_ch_mem hf_cw_66
  | 3, _, h2 => hf_ch_mem hf_cw_67
  | 4, _, h2 => hf_ch_mem hf_cw_68
  | 5, _, h2 => hf_ch_mem hf_cw_69
  | 6, _, h2 => hf_ch_mem hf_cw_70
  | 7, _, h2 => hf_ch_mem hf_cw_71
  | 8, _, h2 => hf_ch_mem hf_cw_72
  | 9, _, h2 => hf_ch_mem hf_cw_73
  | 10, _, h2 => hf_ch_mem hf_cw_74
  | 11, _, h2 => hf_ch_mem hf_cw_75
  | 12, _, h2 => hf_ch_mem hf_cw_76
  | 13, _, h2 => hf_ch_mem hf_cw_77
  | 14, _, h2 => hf_ch_mem hf_cw_78
  | 15, _, h2 => hf_ch_mem hf_cw_79
  | n + 16, h1, _ => absurd h1 (by omega)
theorem hf_cwb_5 : ∀ j : Nat, j < 16 → 16 * 5 + j ≠ 183 → hf_cw (16 * 5 + j) ∈ lw_tbl := fun j h1 h2 => match j, h1, h2 with
  | 0, _, h2 => hf_ch_mem hf_cw_80
  | 1, _, h2 => hf_ch_mem hf_cw_81
  | 2, _, h2 => hf_ch_mem hf_cw_82
  | 3, _, h2 => hf_ch_mem hf_cw_83
  | 4, _, h2 => hf_ch_mem hf_cw_84
  | 5, _, h2 => hf_ch_mem hf_cw_85
  | 6, _, h2 => hf_ch_mem hf_cw_86
  | 7, _, h2 => hf_ch_mem hf_cw_87
  | 8, _, h2 => hf_ch_mem hf_cw_88
  | 9, _, h2 => hf_ch_mem hf_cw_89
  | 10, _, h2 => hf_ch_mem hf_cw_90
  | 11, _, h2 => hf_ch_mem hf_cw_91
  | 12, _, h2 => hf_ch_mem hf_cw_92
  | 13, _, h2 => hf_ch_mem hf_cw_93
  | 14, _, h2 => hf_ch_mem hf_cw_94
  | 15, _, h2 => hf_ch_mem hf_cw_95
  | n + 16, h1, _ => absurd h1 (by omega)
theorem hf_cwb_6 : ∀ j : Nat, j < 16 → 16 * 6 + j ≠ 183 → hf_cw (16 * 6 + j) ∈ lw_tbl := fun j h1 h2 => match j, h1, h2 with
  | 0, _, h2 => hf_ch_mem hf_cw_96
  | 1, _, h2 => hf_ch_mem hf_cw_97
  | 2, _, h2 => hf_ch_mem hf_cw_98
  | 3, _, h2 => hf_ch_mem hf_cw_99
  | 4, _, h2 => hf_ch_mem hf_cw_100
  | 5, _, h2 => hf_ch_mem hf_cw_101
  | 6, _, h2 => hf_ch_mem hf_cw_102
  | 7, _, h2 => hf_ch_mem hf_cw_103
  | 8, _, h2 => hf_ch_mem hf_cw_104
  | 9, _, h2 => hf_ch_mem hf_cw_105
  | 10, _, h2 => hf_ch_mem hf_cw_106
  | 11, _, h2 => hf_ch_mem hf_cw_107
  | 12, _, h2 => hf_ch_mem hf_cw_108
  | 13, _, h2 => hf_ch_mem hf_cw_109
  | 14, _, h2 => hf_ch_mem hf_cw_110
  | 15, _, h2 => hf_ch_mem hf_cw_111
  | n + 16, h1, _ => absurd h1 (by omega)
theorem hf_cwb_7 : ∀ j : Nat, j < 16 → 16 * 7 + j ≠ 183 → hf_cw (16 * 7 + j) ∈ lw_tbl := fun j h1 h2 => match j, h1, h2 with
  | 0, _, h2 => hf_ch_mem hf_cw_112
  | 1, _, h2 => hf_ch_mem hf_cw_113
  | 2, _, h2 => hf_ch_mem hf_cw_114
  | 3, _, h2 => hf_ch_mem hf_cw_115
  | 4, _, h2 => hf_ch_mem hf_cw_116
  | 5, _, h2 => hf_ch_mem hf_cw_117
  | 6, _, h2 => hf_ch_mem hf_cw_118
  | 7, _, h2 => hf_ch_mem hf_cw_119
  | 8, _, h2 => hf_ch_mem hf_cw_120
  | 9, _, h2 => hf_ch_mem hf_cw_121
  | 10, _, h2 => hf_ch_mem hf_cw_122
  | 11, _, h2 => hf_ch_mem hf_cw_123
  | 12, _, h2 => hf_ch_mem hf_cw_124
  | 13, _, h2 => hf_ch_mem hf_cw_125
  | 14, _, h2 => hf_ch_mem hf_cw_126
  | 15, _, h2 => hf_ch_mem hf_cw_127
  | n + 16, h1, _ => absurd h1 (by omega)
theorem hf_cwb_8 : ∀ j : Nat, j < 16 → 16 * 8 + j ≠ 183 → hf_cw (16 * 8 + j) ∈ lw_tbl := fun j h1 h2 => match j, h1, h2 with
  | 0, _, h2 => hf_ch_mem hf_cw_128
  | 1, _, h2 => hf_ch_mem hf_cw_129
  | 2, _, h2 => hf_ch_mem hf_cw_130
  | 3, _, h2 => hf_ch_mem hf_cw_131
  | 4, _, h2 => hf_ch_mem hf_cw_132
  | 5, _, h2 => hf_ch_mem hf_cw_133
  | 6, _, h2 => hf_ch_mem hf_cw_134
  | 7, _, h2 => hf_ch_mem hf_cw_135
  | 8, _, h2 => hf_ch_mem hf_cw_136
  | 9, _, h2 => hf_ch_mem hf_cw_137
  | 10, _, h2 => hf_ch_mem hf_cw_138
  | 11, _, h2 => hf_ch_mem hf_cw_139
  | 12, _, h2 => hf_ch_mem hf_cw_140
  | 13, _, h2 => hf_ch_mem hf_cw_141
  | 14, _, h2 => hf_ch_mem hf_cw_142
  | 15, _, h2 => hf_ch_mem hf_cw_143
  | n + 16, h1, _ => absurd h1 (by omega)
theorem hf_cwb_9 : ∀ j : Nat, j < 16 → 16 * 9 + j ≠ 183 → hf_cw (16 * 9 + j) ∈ lw_tbl := fun j h1 h2 => match j, h1, h2 with
  | 0, _, h2 => hf_ch_mem hf_cw_144
  | 1, _, h2 => hf_ch_mem hf_cw_145
  | 2, _, h2 => hf_ch_mem hf_cw_146
  | 3, _, h2 => hf_ch_mem hf_cw_147
  | 4, _, h2 => hf_ch_mem hf_cw_148
  | 5, _, h2 => hf_ch_mem hf_cw_149
  | 6, _, h2 => hf_ch_mem hf_cw_150
  | 7, _, h2 => hf_ch_mem hf_cw_151
  | 8, _, h2 => hf_ch_mem hf_cw_152
  | 9, _, h2 => hf_ch_mem hf_cw_153
  | 10, _, h2 => hf_ch_mem hf_cw_154
  | 11, _, h2 => hf_ch_mem hf_cw_155
  | 12, _, h2 => hf_ch_mem hf_cw_156
  | 13, _, h2 => hf_ch_mem hf_cw_157
  | 14, _, h2 => hf_ch_mem hf_cw_158
  | 15, _, h2 => hf_ch_mem hf_cw_159
  | n + 16, h1, _ => absurd h1 (by omega)
theorem hf_cwb_10 : ∀ j : Nat, j < 16 → 16 * 10 + j ≠ 183 → hf_cw (16 * 10 + j) ∈ lw_tbl := fun j h1 h2 => match j, h1, h2 with
  | 0, _, h2 => hf_ch_mem hf_cw_160
  | 1, _, h2 => hf_ch_mem hf_cw_161
  | 2, _, h2 => hf_ch_mem hf_cw_162
  | 3, _, h2 => hf_ch_mem hf_cw_163
  | 4, _, h2 => hf_ch_mem hf_cw_164
  | 5, _, h2 => hf_ch_mem hf_cw_165
  | 6, _, h2 => hf_ch_mem hf_cw_166
  | 7, _, h2 => hf_ch_mem hf_cw_167
  | 8, _, h2 => hf_ch_mem hf_cw_168
  | 9, _, h2 => hf_ch_mem hf_cw_169
  | 10, _, h2 => hf_ch_mem hf_cw_170
  | 11, _, h2 => hf_ch_mem hf_cw_171
  | 12, _, h2 => hf_ch_mem hf_cw_172
  | 13, _, h2 => hf_ch_mem hf_cw_173
  | 14, _, h2 => hf_ch_mem hf_cw_174
  | 15, _, h2 => hf_ch_mem hf_cw_175
  | n + 16, h1, _ => absurd h1 (by omega)
theorem hf_cwb_11 : ∀ j : Nat, j < 8 → 16 * 11 + j ≠ 183 → hf_cw (16 * 11 + j) ∈ lw_tbl := fun j h1 h2 => match j, h1, h2 with
  | 0, _, h2 => hf_ch_mem hf_cw_176
  | 1, _, h2 => hf_ch_mem hf_cw_177
  | 2, _, h2 => hf_ch_mem hf_cw_178
  | 3, _, h2 => hf_ch_mem hf_cw_179
  | 4, _, h2 => hf_ch_mem hf_cw_180
  | 5, _, h2 => hf_ch_mem hf_cw_181
  | 6, _, h2 => hf_ch_mem hf_cw_182
  | 7, _, h2 => absurd rfl h2
  | n + 8, h1, _ => absurd h1 (by omega)
theorem hf_cw_mem {y : Nat} (h : y < 184) (hl : y ≠ 183) : hf_cw y ∈ lw_tbl := by
  have e : y = 16 * (y / 16) + y % 16 := (Nat.div_add_mod y 16).symm
  have h1 : y % 16 < 16 := Nat.mod_lt _ (by decide)
  generalize y / 16 = a at e
  generalize y % 16 = b at e h1
  subst e
  have ha : a < 12 := by omega
  match a, ha with
  | 0, _ => exact hf_cwb_0 b (by omega) hl
  | 1, _ => exact hf_cwb_1 b (by omega) hl
  | 2, _ => exact hf_cwb_2 b (by omega) hl
  | 3, _ => exact hf_cwb_3 b (by omega) hl
  | 4, _ => exact hf_cwb_4 b (by omega) hl
  | 5, _ => exact hf_cwb_5 b (by omega) hl
  | 6, _ => exact hf_cwb_6 b (by omega) hl
  | 7, _ => exact hf_cwb_7 b (by omega) hl
  | 8, _ => exact hf_cwb_8 b (by omega) hl
  | 9, _ => exact hf_cwb_9 b (by omega) hl
  | 10, _ => exact hf_cwb_10 b (by omega) hl
  | 11, _ => exact hf_cwb_11 b (by omega) hl
  | n + 12, h => exact absurd h (by omega)
theorem hf_cw_good (y : Nat) : goodWord (hf_cw y) = true := by
  unfold hf_cw
  split <;> rfl
def hf_mlH (o : Nat) : List (List (Nat × Nat)) := match o with
  | 0 => [[(1, 119)], [(1, 123), (1, 124), (0, 0)], [(1, 146), (1, 44), (0, 0)], [(2, 92), (2, 93), (2, 94)], [(2, 88), (2, 89), (2, 90)], [(5, 165), (5, 166), (5, 167)], [(5, 178), (3, 48), (3, 49)], [(5, 179), (5, 181), (0, 33)], [(2, 84), (2, 86), (0, 4)], [(2, 151), (2, 152), (2, 153)], [(4, 50), (2, 103), (2, 104)], [(5, 183), (5, 184), (5, 185)], [(4, 43), (4, 44), (0, 0)], [(4, 62), (2, 60), (2, 61)], [(4, 51), (2, 112), (0, 0)], [(4, 46), (4, 47), (4, 48)], [(4, 60), (2, 68), (2, 69)], [(4, 61), (3, 55), (0, 0)], [(4, 63), (4, 65), (0, 19)], [(4, 67), (2, 107), (2, 108)], [(4, 68), (3, 52), (0, 0)], [(2, 96), (2, 97), (2, 98)], [(2, 125), (2, 126), (2, 127)], [(2, 130), (2, 131), (2, 132)], [(2, 147), (2, 149), (0, 6)], [(2, 155), (2, 135), (2, 136)], [(2, 156), (2, 118), (2, 119)]]
  | 1 => [[(1, 40)], [(1, 43), (1, 44), (0, 0)], [(2, 43), (2, 44), (0, 0)], [(2, 46), (2, 48), (0, 1)], [(2, 59), (2, 60), (2, 61)], [(2, 63), (2, 65), (0, 3)], [(2, 67), (2, 68), (2, 69)], [(5, 173), (5, 174), (5, 175)], [(2, 50), (2, 51), (0, 0)], [(2, 53), (2, 55), (0, 2)], [(5, 13), (3, 185), (0, 0)], [(5, 14), (5, 15), (0, 0)], [(5, 21), (5, 23), (0, 26)], [(5, 17), (3, 81), (0, 0)], [(5, 25), (5, 27), (0, 27)], [(5, 30), (2, 122), (2, 123)], [(3, 74), (2, 107), (2, 108)], [(5, 29), (3, 188), (0, 0)], [(3, 176), (3, 177), (3, 178)], [(3, 198), (3, 199), (3, 200)], [(3, 75), (3, 76), (0, 0)], [(3, 70), (3, 71), (3, 72)], [(3, 83), (3, 55), (0, 0)], [(3, 235), (3, 173), (3, 174)], [(3, 236), (3, 237), (0, 0)], [(3, 202), (3, 52), (0, 0)], [(3, 203), (2, 112), (0, 0)], [(3, 204), (3, 182), (0, 0)], [(4, 204), (3, 232), (3, 233)]]
  | 2 => [[(1, 207)], [(1, 209), (1, 44), (0, 0)], [(3, 107), (2, 60), (2, 61)], [(3, 108), (3, 109), (3, 110)], [(3, 113), (2, 107), (2, 108)], [(3, 114), (3, 116), (0, 12)], [(3, 118), (3, 120), (0, 13)], [(3, 122), (2, 68), (2, 69)], [(3, 123), (2, 122), (2, 123)]]
  | 3 => [[(1, 126)], [(1, 128), (1, 32), (0, 0)], [(1, 130), (1, 44), (0, 0)], [(5, 169), (5, 170), (5, 171)], [(2, 100), (2, 68), (2, 69)], [(2, 138), (2, 107), (2, 108)], [(2, 121), (2, 122), (2, 123)], [(2, 102), (2, 103), (2, 104)], [(2, 111), (2, 112), (0, 0)], [(2, 117), (2, 118), (2, 119)], [(2, 134), (2, 135), (2, 136)], [(2, 140), (2, 142), (0, 5)], [(2, 144), (2, 145), (0, 0)]]
  | 4 => [[(1, 176)], [(1, 178), (1, 44), (0, 0)], [(5, 73), (2, 68), (2, 69)], [(5, 109), (5, 111), (0, 32)], [(5, 77), (2, 107), (2, 108)], [(5, 104), (3, 76), (0, 0)], [(5, 90), (5, 92), (0, 29)], [(5, 94), (2, 51), (0, 0)], [(5, 99), (2, 122), (2, 123)], [(5, 74), (5, 75), (0, 0)], [(5, 85), (3, 173), (3, 174)], [(5, 86), (5, 88), (0, 28)], [(5, 95), (5, 97), (0, 30)], [(5, 100), (5, 102), (0, 31)], [(5, 78), (5, 79), (0, 0)], [(5, 83), (3, 81), (0, 0)]]
  | 5 => [[(3, 80), (3, 81), (0, 0)], [(3, 184), (3, 185), (0, 0)], [(3, 54), (3, 55), (0, 0)], [(3, 65), (3, 52), (0, 0)]]
  | 6 => [[(1, 46)], [(1, 47), (1, 48), (0, 0)], [(5, 177), (2, 107), (2, 108)]]
  | 7 => [[(1, 34)], [(1, 37), (1, 38), (0, 0)], [(1, 89), (1, 44), (0, 0)], [(3, 51), (3, 52), (0, 0)], [(3, 57), (3, 59), (0, 10)], [(3, 85), (2, 112), (0, 0)], [(3, 86), (3, 88), (0, 11)], [(3, 112), (3, 71), (3, 72)], [(3, 61), (3, 55), (0, 0)], [(3, 62), (3, 63), (0, 0)], [(3, 66), (3, 67), (3, 68)], [(3, 90), (3, 91), (3, 92)], [(2, 106), (2, 107), (2, 108)], [(3, 94), (2, 60), (2, 61)], [(2, 129), (2, 103), (2, 104)], [(3, 168), (3, 169), (3, 170)], [(3, 190), (3, 191), (3, 192)], [(3, 205), (3, 207), (0, 14)], [(3, 172), (3, 173), (3, 174)], [(3, 180), (3, 177), (3, 178)], [(3, 181), (3, 182), (0, 0)], [(3, 187), (3, 188), (0, 0)], [(3, 194), (3, 195), (3, 196)]]
  | 8 => [[(1, 234)], [(1, 236), (1, 44), (0, 0)], [(4, 105), (2, 89), (2, 90)], [(4, 106), (2, 135), (2, 136)], [(4, 107), (4, 44), (0, 0)], [(4, 108), (4, 110), (0, 20)], [(4, 112), (3, 169), (3, 170)], [(4, 113), (3, 76), (0, 0)], [(4, 114), (3, 237), (0, 0)], [(4, 115), (4, 116), (0, 0)], [(4, 121), (3, 52), (0, 0)], [(4, 122), (3, 191), (3, 192)], [(4, 123), (2, 60), (2, 61)], [(4, 125), (3, 182), (0, 0)], [(4, 118), (4, 119), (0, 0)], [(4, 138), (2, 107), (2, 108)], [(4, 139), (4, 141), (0, 21)], [(4, 144), (2, 68), (2, 69)], [(4, 145), (4, 147), (0, 22)], [(4, 149), (4, 151), (0, 23)]]
  | 9 => [[(1, 222)], [(1, 224), (1, 44), (0, 0)], [(3, 221), (3, 223), (0, 15)], [(4, 2), (4, 4), (0, 16)], [(4, 9), (3, 55), (0, 0)], [(4, 11), (4, 13), (0, 17)], [(3, 231), (3, 232), (3, 233)], [(4, 0), (2, 51), (0, 0)], [(3, 225), (2, 68), (2, 69)], [(3, 226), (3, 52), (0, 0)], [(3, 227), (3, 228), (0, 0)], [(4, 1), (2, 122), (2, 123)], [(4, 6), (3, 195), (3, 196)], [(4, 7), (2, 107), (2, 108)]]
  | 10 => [[(4, 168), (4, 169), (0, 0)], [(4, 176), (3, 52), (0, 0)], [(4, 174), (3, 55), (0, 0)], [(4, 177), (4, 178), (0, 0)], [(4, 187), (2, 112), (0, 0)], [(4, 188), (1, 48), (0, 0)], [(4, 171), (2, 107), (2, 108)], [(4, 180), (4, 181), (0, 0)]]
  | 11 => [[(1, 26)], [(1, 31), (1, 32), (0, 0)], [(1, 116), (1, 117), (0, 0)], [(1, 173), (1, 174), (0, 0)], [(1, 204), (1, 205), (0, 0)], [(1, 219), (1, 220), (0, 0)], [(1, 231), (1, 232), (0, 0)], [(2, 35), (2, 37), (0, 0)], [(2, 75), (2, 76), (2, 77)], [(2, 80), (2, 81), (2, 82)], [(2, 157), (2, 158), (2, 159)], [(2, 161), (2, 162), (2, 163)], [(3, 145), (3, 146), (0, 0)], [(4, 216), (4, 218), (0, 24)], [(5, 7), (5, 8), (5, 9)], [(4, 196), (4, 197), (0, 0)], [(4, 236), (4, 238), (0, 25)], [(2, 213), (2, 215), (0, 8)], [(5, 69), (5, 70), (5, 71)], [(5, 105), (5, 106), (5, 107)], [(5, 113), (5, 114), (5, 115)], [(5, 117), (2, 107), (2, 108)], [(5, 196), (5, 198), (0, 34)], [(5, 36), (5, 37), (5, 38)], [(2, 209), (2, 211), (0, 7)], [(3, 103), (3, 104), (3, 105)], [(3, 131), (3, 132), (0, 0)], [(3, 135), (2, 103), (2, 104)], [(3, 164), (3, 165), (3, 166)], [(3, 217), (3, 218), (3, 219)], [(5, 161), (5, 162), (5, 163)], [(4, 27), (4, 29), (0, 18)], [(3, 46), (2, 89), (2, 90)], [(4, 31), (2, 152), (2, 153)], [(4, 77), (4, 47), (4, 48)], [(4, 39), (4, 40), (4, 41)], [(4, 52), (4, 53), (4, 54)], [(4, 56), (4, 57), (4, 58)], [(4, 85), (2, 135), (2, 136)], [(4, 90), (4, 91), (4, 92)], [(4, 101), (4, 102), (4, 103)], [(4, 134), (4, 135), (4, 136)], [(4, 200), (4, 201), (4, 202)], [(4, 165), (4, 166), (0, 0)], [(2, 39), (2, 40), (2, 41)], [(2, 71), (2, 72), (2, 73)], [(5, 4), (2, 51), (0, 0)], [(5, 200), (5, 201), (5, 202)], [(5, 204), (5, 205), (5, 206)], [(2, 217), (2, 93), (2, 94)], [(3, 47), (3, 48), (3, 49)]]
  | 13 => [[(5, 149), (5, 150), (5, 151)], [(5, 43), (5, 44), (5, 45)], [(4, 212), (4, 213), (4, 214)], [(5, 54), (5, 55), (5, 56)], [(5, 64), (5, 65), (5, 66)], [(5, 191), (5, 192), (5, 193)], [(5, 121), (5, 122), (5, 123)], [(2, 205), (2, 206), (2, 207)], [(3, 99), (3, 100), (3, 101)], [(3, 127), (3, 128), (3, 129)], [(3, 141), (3, 142), (3, 143)], [(3, 213), (3, 214), (3, 215)], [(5, 156), (5, 157), (5, 158)], [(4, 23), (4, 24), (4, 25)], [(4, 73), (4, 74), (4, 75)], [(4, 35), (4, 36), (4, 37)], [(5, 128), (5, 129), (5, 130)], [(4, 81), (4, 82), (4, 83)], [(5, 142), (5, 143), (5, 144)], [(5, 135), (5, 136), (5, 137)], [(4, 129), (4, 130), (4, 131)], [(4, 192), (4, 193), (4, 194)], [(2, 201), (2, 202), (0, 0)], [(3, 96), (3, 97), (0, 0)], [(3, 124), (3, 125), (0, 0)], [(3, 137), (3, 138), (0, 0)], [(3, 210), (3, 211), (0, 0)], [(4, 20), (4, 21), (0, 0)], [(4, 32), (4, 33), (0, 0)], [(4, 70), (4, 71), (0, 0)], [(4, 78), (4, 79), (0, 0)], [(4, 86), (4, 87), (4, 88)], [(4, 97), (4, 98), (4, 99)], [(4, 126), (4, 127), (0, 0)], [(5, 61), (5, 62), (0, 0)], [(4, 157), (4, 158), (0, 0)], [(4, 161), (4, 162), (4, 163)], [(4, 189), (4, 190), (0, 0)], [(4, 208), (4, 209), (0, 0)], [(5, 32), (5, 33), (5, 34)], [(5, 40), (5, 41), (0, 0)], [(4, 205), (4, 206), (0, 0)], [(5, 51), (5, 52), (0, 0)], [(5, 58), (5, 59), (0, 0)], [(5, 118), (5, 119), (0, 0)], [(5, 125), (5, 126), (0, 0)], [(5, 132), (5, 133), (0, 0)], [(5, 139), (5, 140), (0, 0)], [(5, 146), (5, 147), (0, 0)], [(5, 153), (5, 154), (0, 0)], [(2, 198), (2, 199), (0, 0)], [(4, 154), (4, 155), (0, 0)], [(4, 17), (4, 18), (0, 0)], [(4, 94), (4, 95), (0, 0)], [(5, 188), (5, 189), (0, 0)], [(1, 23), (1, 24), (0, 0)], [(2, 193), (2, 194), (0, 0)], [(5, 48), (5, 49), (0, 0)]]
  | _ => []
def hf_mlok (hs : List (Nat × Nat)) (o ix y n kd : Nat) : Bool := if y = 999 then decide (n = 0) && decide (kd = 9) && hf_has (hs.getD 0 (0, 0)) (.methodLink (hf_on o) ix Lib.objectInit) else
  decide (y < 184) && decide (y ≠ 183) && decide (hf_npar (hf_y y) = some n) &&
  (match kd with
  | 0 => hf_has (hs.getD 0 (0, 0)) (.methodLink (hf_on o) ix (hf_y y)) && hf_has (hs.getD 1 (0, 0)) (.static (hf_y y)) && decide (hf_hh y = [])
  | 1 => hf_has (hs.getD 0 (0, 0)) (.methodLink (hf_on o) ix (hf_y y)) && hf_has (hs.getD 1 (0, 0)) (.instanceMethod (hf_y y)) && hf_has (hs.getD 2 (0, 0)) (.selects (hf_y y).cls (hf_y y) (hf_y y)) && decide (hf_hh y = [])
  | 2 => hf_has (hs.getD 0 (0, 0)) (.methodLink (hf_on o) ix (hf_y y)) && hf_has (hs.getD 1 (0, 0)) (.instanceMethod (hf_y y)) && decide ((hf_y y).name = "<init>") && decide (hf_hh y = []) && decide (hf_rt y = none)
  | 3 => hf_hasN (hs.getD 0 (0, 0)) (.methodLinkNest (hf_on o) ix (hf_y y) "Halofinder") && hf_has (hs.getD 1 (0, 0)) (.static (hf_y y)) && decide (hf_hh y = [])
  | 4 => hf_hasN (hs.getD 0 (0, 0)) (.methodLinkNest (hf_on o) ix (hf_y y) "Halofinder") && hf_has (hs.getD 1 (0, 0)) (.instanceMethod (hf_y y)) && hf_has (hs.getD 2 (0, 0)) (.selects (hf_y y).cls (hf_y y) (hf_y y)) && decide (hf_hh y = [])
  | 5 => hf_hasN (hs.getD 0 (0, 0)) (.methodLinkNest (hf_on o) ix (hf_y y) "Halofinder") && hf_has (hs.getD 1 (0, 0)) (.instanceMethod (hf_y y)) && decide ((hf_y y).name = "<init>") && decide (hf_hh y = []) && decide (hf_rt y = none)
  | 6 => hf_has (hs.getD 0 (0, 0)) (.methodLink (hf_on o) ix (hf_y y)) && hf_has (hs.getD 1 (0, 0)) (.static (hf_y y)) && decide (hf_hh y ≠ [])
  | _ => false)
def hf_mlokO (o : Nat) : Bool := decide ((hf_mlH o).length = (hf_mlT o).length) && ((hf_mlH o).zip (hf_mlT o)).all fun e => hf_mlok e.1 o e.2.1 e.2.2.1 e.2.2.2.1 e.2.2.2.2
theorem hf_ml_0 : hf_mlokO 0 = true := by decide +kernel
theorem hf_ml_1 : hf_mlokO 1 = true := by decide +kernel
theorem hf_ml_2 : hf_mlokO 2 = true := by decide +kernel
theorem hf_ml_3 : hf_mlokO 3 = true := by decide +kernel
theorem hf_ml_4 : hf_mlokO 4 = true := by decide +kernel
theorem hf_ml_5 : hf_mlokO 5 = true := by decide +kernel
theorem hf_ml_6 : hf_mlokO 6 = true := by decide +kernel
theorem hf_ml_7 : hf_mlokO 7 = true := by decide +kernel
theorem hf_ml_8 : hf_mlokO 8 = true := by decide +kernel
theorem hf_ml_9 : hf_mlokO 9 = true := by decide +kernel
theorem hf_ml_10 : hf_mlokO 10 = true := by decide +kernel
theorem hf_ml_11 : hf_mlokO 11 = true := by decide +kernel
theorem hf_ml_12 : hf_mlokO 12 = true := by decide +kernel
theorem hf_ml_13 : hf_mlokO 13 = true := by decide +kernel
theorem hf_ml_14 : hf_mlokO 14 = true := by decide +kernel
theorem hf_ml_15 : hf_mlokO 15 = true := by decide +kernel
theorem hf_oi1 : hf_has (1, 27) (.instanceMethod Lib.objectInit) = true := by decide +kernel
theorem hf_oi2 : hf_has (1, 28) (.code Lib.objectInit ⟨#[0xb1]⟩ 1 none) = true := by decide +kernel
theorem hf_ar2 : hf_has (4, 153) (.arrayClass .int) = true := by decide +kernel
theorem hf_ar3 : hf_has (1, 54) (.arrayClass .long) = true := by decide +kernel
theorem hf_ar4 : hf_has (3, 45) (.arrayClass .byte) = true := by decide +kernel
theorem hf_ar5 : (hf_ch 1)[121]? = some (.arrayOver (.object "Halofinder$Picture")) := rfl
theorem hf_wv1 : hf_has (5, 18) (.fieldLink (hf_on 1) 94 "Halofinder$Grains" "WAVE" "[I") = true := by decide +kernel
