/-! LAYOUT: where all lies after the constructors -/
def Gr (g : hf_G) (G : Nat) : Prop := hf_k g G = (0, 1) ∧ hf_r g G 0 = some (G + 1) ∧ hf_r g G 1 = some (G + 3) ∧ hf_r g G 2 = some (G + 5) ∧ hf_r g G 3 = some (G + 7) ∧ Rw g (G + 1) 64 ∧ Rw g (G + 3) 64 ∧ Rw g (G + 5) 64 ∧ Rw g (G + 7) 64
theorem gr_k {g : hf_G} {G : Nat} (h : Gr g G) : hf_k g G = (0, 1) := h.1
theorem gr_r0 {g : hf_G} {G : Nat} (h : Gr g G) : hf_r g G 0 = some (G + 1) := h.2.1
theorem gr_r1 {g : hf_G} {G : Nat} (h : Gr g G) : hf_r g G 1 = some (G + 3) := h.2.2.1
theorem gr_r2 {g : hf_G} {G : Nat} (h : Gr g G) : hf_r g G 2 = some (G + 5) := h.2.2.2.1
theorem gr_r3 {g : hf_G} {G : Nat} (h : Gr g G) : hf_r g G 3 = some (G + 7) := h.2.2.2.2.1
theorem gr_rw1 {g : hf_G} {G : Nat} (h : Gr g G) : Rw g (G + 1) 64 := h.2.2.2.2.2.1
theorem gr_rw3 {g : hf_G} {G : Nat} (h : Gr g G) : Rw g (G + 3) 64 := h.2.2.2.2.2.2.1
theorem gr_rw5 {g : hf_G} {G : Nat} (h : Gr g G) : Rw g (G + 5) 64 := h.2.2.2.2.2.2.2.1
theorem gr_rw7 {g : hf_G} {G : Nat} (h : Gr g G) : Rw g (G + 7) 64 := h.2.2.2.2.2.2.2.2
def Sc (g : hf_G) (S : Nat) : Prop := hf_k g S = (0, 6) ∧ hf_r g S 0 = some (S + 1) ∧ hf_r g S 1 = some (S + 10) ∧ Gr g (S + 1) ∧ Rw g (S + 10) 64
theorem sc_k {g : hf_G} {S : Nat} (h : Sc g S) : hf_k g S = (0, 6) := h.1
theorem sc_r0 {g : hf_G} {S : Nat} (h : Sc g S) : hf_r g S 0 = some (S + 1) := h.2.1
theorem sc_r1 {g : hf_G} {S : Nat} (h : Sc g S) : hf_r g S 1 = some (S + 10) := h.2.2.1
theorem sc_gr1 {g : hf_G} {S : Nat} (h : Sc g S) : Gr g (S + 1) := h.2.2.2.1
theorem sc_rw10 {g : hf_G} {S : Nat} (h : Sc g S) : Rw g (S + 10) 64 := h.2.2.2.2
def Pc (g : hf_G) (P : Nat) : Prop := hf_k g P = (0, 3) ∧ hf_r g P 0 = some (P + 1) ∧ hf_r g P 1 = some (P + 13) ∧ hf_r g P 2 = some (P + 15) ∧ Sc g (P + 1) ∧ Rw g (P + 13) 64 ∧ Rw g (P + 15) 256
theorem pc_k {g : hf_G} {P : Nat} (h : Pc g P) : hf_k g P = (0, 3) := h.1
theorem pc_r0 {g : hf_G} {P : Nat} (h : Pc g P) : hf_r g P 0 = some (P + 1) := h.2.1
theorem pc_r1 {g : hf_G} {P : Nat} (h : Pc g P) : hf_r g P 1 = some (P + 13) := h.2.2.1
theorem pc_r2 {g : hf_G} {P : Nat} (h : Pc g P) : hf_r g P 2 = some (P + 15) := h.2.2.2.1
theorem pc_sc1 {g : hf_G} {P : Nat} (h : Pc g P) : Sc g (P + 1) := h.2.2.2.2.1
theorem pc_rw13 {g : hf_G} {P : Nat} (h : Pc g P) : Rw g (P + 13) 64 := h.2.2.2.2.2.1
theorem pc_rw15 {g : hf_G} {P : Nat} (h : Pc g P) : Rw g (P + 15) 256 := h.2.2.2.2.2.2
def Pu (g : hf_G) : Prop := hf_k g 238 = (0, 4) ∧ hf_r g 238 2 = some 239 ∧ hf_r g 238 3 = some 241 ∧ hf_r g 238 4 = some 243 ∧ hf_r g 238 5 = some 245 ∧ hf_r g 238 6 = some 247 ∧ Rw g 239 64 ∧ Rw g 241 64 ∧ Rw g 243 16 ∧ Rw g 245 16 ∧ Rw g 247 16
theorem pu_k {g : hf_G} (h : Pu g) : hf_k g 238 = (0, 4) := h.1
theorem pu_r2 {g : hf_G} (h : Pu g) : hf_r g 238 2 = some 239 := h.2.1
theorem pu_r3 {g : hf_G} (h : Pu g) : hf_r g 238 3 = some 241 := h.2.2.1
theorem pu_r4 {g : hf_G} (h : Pu g) : hf_r g 238 4 = some 243 := h.2.2.2.1
theorem pu_r5 {g : hf_G} (h : Pu g) : hf_r g 238 5 = some 245 := h.2.2.2.2.1
theorem pu_r6 {g : hf_G} (h : Pu g) : hf_r g 238 6 = some 247 := h.2.2.2.2.2.1
theorem pu_rw239 {g : hf_G} (h : Pu g) : Rw g 239 64 := h.2.2.2.2.2.2.1
theorem pu_rw241 {g : hf_G} (h : Pu g) : Rw g 241 64 := h.2.2.2.2.2.2.2.1
theorem pu_rw243 {g : hf_G} (h : Pu g) : Rw g 243 16 := h.2.2.2.2.2.2.2.2.1
theorem pu_rw245 {g : hf_G} (h : Pu g) : Rw g 245 16 := h.2.2.2.2.2.2.2.2.2.1
theorem pu_rw247 {g : hf_G} (h : Pu g) : Rw g 247 16 := h.2.2.2.2.2.2.2.2.2.2
def Jo (g : hf_G) : Prop := hf_k g 249 = (0, 2) ∧ hf_r g 249 0 = some 250 ∧ hf_r g 249 1 = some 252 ∧ Rw g 250 64 ∧ Rw g 252 64
theorem jo_k {g : hf_G} (h : Jo g) : hf_k g 249 = (0, 2) := h.1
theorem jo_r0 {g : hf_G} (h : Jo g) : hf_r g 249 0 = some 250 := h.2.1
theorem jo_r1 {g : hf_G} (h : Jo g) : hf_r g 249 1 = some 252 := h.2.2.1
theorem jo_rw250 {g : hf_G} (h : Jo g) : Rw g 250 64 := h.2.2.2.1
theorem jo_rw252 {g : hf_G} (h : Jo g) : Rw g 252 64 := h.2.2.2.2
def Un (g : hf_G) : Prop := hf_k g 254 = (0, 8) ∧ hf_r g 254 0 = some 255 ∧ Rw g 255 64
theorem un_k {g : hf_G} (h : Un g) : hf_k g 254 = (0, 8) := h.1
theorem un_r0 {g : hf_G} (h : Un g) : hf_r g 254 0 = some 255 := h.2.1
theorem un_rw255 {g : hf_G} (h : Un g) : Rw g 255 64 := h.2.2
def Sk (g : hf_G) : Prop := hf_k g 257 = (0, 7) ∧ hf_r g 257 0 = some 258 ∧ hf_r g 257 1 = some 260 ∧ hf_r g 257 2 = some 262 ∧ hf_r g 257 3 = some 264 ∧ hf_r g 257 4 = some 266 ∧ hf_r g 257 5 = some 268 ∧ Rw g 258 768 ∧ Rw g 260 768 ∧ Rw g 262 768 ∧ Rw g 264 768 ∧ Rw g 266 768 ∧ Rw g 268 768
theorem sk_k {g : hf_G} (h : Sk g) : hf_k g 257 = (0, 7) := h.1
theorem sk_r0 {g : hf_G} (h : Sk g) : hf_r g 257 0 = some 258 := h.2.1
theorem sk_r1 {g : hf_G} (h : Sk g) : hf_r g 257 1 = some 260 := h.2.2.1
theorem sk_r2 {g : hf_G} (h : Sk g) : hf_r g 257 2 = some 262 := h.2.2.2.1
theorem sk_r3 {g : hf_G} (h : Sk g) : hf_r g 257 3 = some 264 := h.2.2.2.2.1
theorem sk_r4 {g : hf_G} (h : Sk g) : hf_r g 257 4 = some 266 := h.2.2.2.2.2.1
theorem sk_r5 {g : hf_G} (h : Sk g) : hf_r g 257 5 = some 268 := h.2.2.2.2.2.2.1
theorem sk_rw258 {g : hf_G} (h : Sk g) : Rw g 258 768 := h.2.2.2.2.2.2.2.1
theorem sk_rw260 {g : hf_G} (h : Sk g) : Rw g 260 768 := h.2.2.2.2.2.2.2.2.1
theorem sk_rw262 {g : hf_G} (h : Sk g) : Rw g 262 768 := h.2.2.2.2.2.2.2.2.2.1
theorem sk_rw264 {g : hf_G} (h : Sk g) : Rw g 264 768 := h.2.2.2.2.2.2.2.2.2.2.1
theorem sk_rw266 {g : hf_G} (h : Sk g) : Rw g 266 768 := h.2.2.2.2.2.2.2.2.2.2.2.1
theorem sk_rw268 {g : hf_G} (h : Sk g) : Rw g 268 768 := h.2.2.2.2.2.2.2.2.2.2.2.2
def Al (g : hf_G) : Prop := hf_k g 13 = (0, 0) ∧ hf_r g 13 0 = some 14 ∧ hf_r g 13 1 = some 15 ∧ hf_r g 13 2 = some 32 ∧ Pc g 15 ∧ Rw g 32 12 ∧ hf_k g 14 = (5, 12) ∧ (∀ i, i < 12 → hf_r g 14 i = some (34 + 17 * i)) ∧ (∀ i, i < 12 → Pc g (34 + 17 * i))
theorem al_k {g : hf_G} (h : Al g) : hf_k g 13 = (0, 0) := h.1
theorem al_r0 {g : hf_G} (h : Al g) : hf_r g 13 0 = some 14 := h.2.1
theorem al_r1 {g : hf_G} (h : Al g) : hf_r g 13 1 = some 15 := h.2.2.1
theorem al_r2 {g : hf_G} (h : Al g) : hf_r g 13 2 = some 32 := h.2.2.2.1
theorem al_pc15 {g : hf_G} (h : Al g) : Pc g 15 := h.2.2.2.2.1
theorem al_rw32 {g : hf_G} (h : Al g) : Rw g 32 12 := h.2.2.2.2.2.1
theorem al_k14 {g : hf_G} (h : Al g) : hf_k g 14 = (5, 12) := h.2.2.2.2.2.2.1
theorem al_ps {g : hf_G} (h : Al g) : (∀ i, i < 12 → hf_r g 14 i = some (34 + 17 * i)) := h.2.2.2.2.2.2.2.1
theorem al_pc {g : hf_G} (h : Al g) : (∀ i, i < 12 → Pc g (34 + 17 * i)) := h.2.2.2.2.2.2.2.2
def Hx (g : hf_G) : Prop := hf_k g 0 = (0, 9) ∧ hf_r g 0 0 = some 1 ∧ hf_r g 0 1 = some 13 ∧ hf_r g 0 2 = some 238 ∧ hf_r g 0 3 = some 249 ∧ hf_r g 0 4 = some 254 ∧ hf_r g 0 5 = some 257 ∧ Sc g 1
theorem hx_k {g : hf_G} (h : Hx g) : hf_k g 0 = (0, 9) := h.1
theorem hx_r0 {g : hf_G} (h : Hx g) : hf_r g 0 0 = some 1 := h.2.1
theorem hx_r1 {g : hf_G} (h : Hx g) : hf_r g 0 1 = some 13 := h.2.2.1
theorem hx_r2 {g : hf_G} (h : Hx g) : hf_r g 0 2 = some 238 := h.2.2.2.1
theorem hx_r3 {g : hf_G} (h : Hx g) : hf_r g 0 3 = some 249 := h.2.2.2.2.1
theorem hx_r4 {g : hf_G} (h : Hx g) : hf_r g 0 4 = some 254 := h.2.2.2.2.2.1
theorem hx_r5 {g : hf_G} (h : Hx g) : hf_r g 0 5 = some 257 := h.2.2.2.2.2.2.1
theorem hx_sc1 {g : hf_G} (h : Hx g) : Sc g 1 := h.2.2.2.2.2.2.2
def All (g : hf_G) : Prop := Pu g ∧ Jo g ∧ Un g ∧ Sk g ∧ Al g ∧ Hx g
theorem all_pu {g : hf_G} (h : All g) : Pu g := h.1
theorem all_jo {g : hf_G} (h : All g) : Jo g := h.2.1
theorem all_un {g : hf_G} (h : All g) : Un g := h.2.2.1
theorem all_sk {g : hf_G} (h : All g) : Sk g := h.2.2.2.1
theorem all_al {g : hf_G} (h : All g) : Al g := h.2.2.2.2.1
theorem all_hx {g : hf_G} (h : All g) : Hx g := h.2.2.2.2.2
theorem All.th {g : hf_G} (h : All g) : All (hf_th g) := h
