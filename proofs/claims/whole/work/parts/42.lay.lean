/-! LAYOUT: where all lies after the constructors -/
def Gr (g : hf_G) (G : Nat) : Prop := hf_k g G = (0, 1) ∧ hf_r g G 0 = some (G + 1) ∧ hf_r g G 1 = some (G + 3) ∧ hf_r g G 2 = some (G + 5) ∧ hf_r g G 3 = some (G + 7) ∧ Rw g (G + 1) 64 ∧ Rw g (G + 3) 64 ∧ Rw g (G + 5) 64 ∧ Rw g (G + 7) 64
theorem gr_k {g : hf_G} {G : Nat} (h : Gr g G) : hf_k g G = (0, 1) := h.1
theorem gr_r0 {g : hf_G} {G : Nat} (h : Gr g G) : hf_r g G 0 = some (G + 1) := h.2.1
theorem gr_r1 {g : hf_G} {G : Nat} (h : Gr g G) : hf_r g G 1 = some (G + 3) := h.2.2.1
theorem gr_r2 {g : hf_G} {G : Nat} (h : Gr g G) : hf_r g G 2 = some (G + 5) := h.2.2.2.1
theorem gr_r3 {g : hf_G} {G : Nat} (h : Gr g G) : hf_r g G 3 = some (G + 7) := h.2.2.2.2.1
theorem gr_rw1 {g : hf_G} {G : Nat} (h : Gr g G) : Rw g (G + 1) 64 := h.2.2.2.2.2.1
theorem gr_rw3 {g : hf_G} {G : Nat} (h : Gr g G) : Rw g (G + 3) 64 := h.2.2.2.2.2.2.1
theorem gr_rw5 {g : hf_G} {G : Nat} (h : Gr g G) : Rw g (G + 5) 64 := h.2.2.2.2.2.2.2.1
theorem gr_rw7 {g : hf_G} {G : Nat} (h : Gr g G) : Rw g (G + 7) 64 := h.2.2.2.2.2.2.2.2
def Sc (g : hf_G) (S : Nat) : Prop := hf_k g S = (0, 6) ∧ hf_r g S 0 = some (S + 1) ∧ hf_r g S 1 = some (S + 10) ∧ Gr g (S + 1) ∧ Rw g (S + 10) 64
theorem sc_k {g : hf_G} {S : Nat} (h : Sc g S) : hf_k g S = (0, 6) := h.1
theorem sc_r0 {g : hf_G} {S : Nat} (h : Sc g S) : hf_r g S 0 = some (S + 1) := h.2.1
theorem sc_r1 {g : hf_G} {S : Nat} (h : Sc g S) : hf_r g S 1 = some (S + 10) := h.2.2.1
theorem sc_gr1 {g : hf_G} {S : Nat} (h : Sc g S) : Gr g (S + 1) := h.2.2.2.1
theorem sc_rw10 {g : hf_G} {S : Nat} (h : Sc g S) : Rw g (S + 10) 64 := h.2.2.2.2
def Pc (g : hf_G) (P : Nat) : Prop := hf_k g P = (0, 3) ∧ hf_r g P 0 = some (P + 1) ∧ hf_r g P 1 = some (P + 13) ∧ hf_r g P 2 = some (P + 15) ∧ Sc g (P + 1) ∧ Rw g (P + 13) 64 ∧ Rw g (P + 15) 256
theorem pc_k {g : hf_G} {P : Nat} (h : Pc g P) : hf_k g P = (0, 3) := h.1
theorem pc_r0 {g : hf_G} {P : Nat} (h : Pc g P) : hf_r g P 0 = some (P + 1) := h.2.1
theorem pc_r1 {g : hf_G} {P : Nat} (h : Pc g P) : hf_r g P 1 = some (P + 13) := h.2.2.1
theorem pc_r2 {g : hf_G} {P : Nat} (h : Pc g P) : hf_r g P 2 = some (P + 15) := h.2.2.2.1
theorem pc_sc1 {g : hf_G} {P : Nat} (h : Pc g P) : Sc g (P + 1) := h.2.2.2.2.1
theorem pc_rw13 {g : hf_G} {P : Nat} (h : Pc g P) : Rw g (P + 13) 64 := h.2.2.2.2.2.1
theorem pc_rw15 {g : hf_G} {P : Nat} (h : Pc g P) : Rw g (P + 15) 256 := h.2.2.2.2.2.2
def Pu (g : hf_G) : Prop := hf_k g 238 = (0, 4) ∧ hf_r g 238 2 = some 239 ∧ hf_r g 238 3 = some 241 ∧ hf_r g 238 4 = some 243 ∧ hf_r g 238 5 = some 245 ∧ hf_r g 238 6 = some 247 ∧ Rw g 239 64 ∧ Rw g 241 64 ∧ Rw g 243 16 ∧ Rw g 245 16 ∧ Rw g 247 16
theorem pu_k {g : hf_G} (h : Pu g) : hf_k g 238 = (0, 4) := h.1
theorem pu_r2 {g : hf_G} (h : Pu g) : hf_r g 238 2 = some 239 := h.2.1
theorem pu_r3 {g : hf_G} (h : Pu g) : hf_r g 238 3 = some 241 := h.2.2.1
theorem pu_r4 {g : hf_G} (h : Pu g) : hf_r g 238 4 = some 243 := h.2.2.2.1
theorem pu_r5 {g : hf_G} (h : Pu g) : hf_r g 238 5 = some 245 := h.2.2.2.2.1
theorem pu_r6 {g : hf_G} (h : Pu g) : hf_r g 238 6 = some 247 := h.2.2.2.2.2.1
theorem pu_rw239 {g : hf_G} (h : Pu g) : Rw g 239 64 := h.2.2.2.2.2.2.1
theorem pu_rw241 {g : hf_G} (h : Pu g) : Rw g 241 64 := h.2.2.2.2.2.2.2.1
theorem pu_rw243 {g : hf_G} (h : Pu g) : Rw g 243 16 := h.2.2.2.2.2.2.2.2.1
theorem pu_rw245 {g : hf_G} (h : Pu g) : Rw g 245 16 := h.2.2.2.2.2.2.2.2.2.1
theorem pu_rw247 {g : hf_G} (h : Pu g) : Rw g 247 16 := h.2.2.2.2.2.2.2.2.2.2
def Jo (g : hf_G) : Prop := hf_k g 249 = (0, 2) ∧ hf_r g 249 0 = some 250 ∧ hf_r g 249 1 = some 252 ∧ Rw g 250 64 ∧ Rw g 252 64
theorem jo_k {g : hf_G} (h : Jo g) : hf_k g 249 = (0, 2) := h.1
theorem jo_r0 {g : hf_G} (h : Jo g) : hf_r g 249 0 = some 250 := h.2.1
theorem jo_r1 {g : hf_G} (h : Jo g) : hf_r g 249 1 = some 252 := h.2.2.1
theorem jo_rw250 {g : hf_G} (h : Jo g) : Rw g 250 64 := h.2.2.2.1
theorem jo_rw252 {g : hf_G} (h : Jo g) : Rw g 252 64 := h.2.2.2.2
def Un (g : hf_G) : Prop := hf_k g 254 = (0, 8) ∧ hf_r g 254 0 = some 255 ∧ Rw g 255 64
theorem un_k {g : hf_G} (h : Un g) : hf_k g 254 = (0, 8) := h.1
theorem un_r0 {g : hf_G} (h : Un g) : hf_r g 254 0 = some 255 := h.2.1
theorem un_rw255 {g : hf_G} (h : Un g) : Rw g 255 64 := h.2.2
def Sk (g : hf_G) : Prop := hf_k g 257 = (0, 7) ∧ hf_r g 257 0 = some 258 ∧ hf_r g 257 1 = some 260 ∧ hf_r g 257 2 = some 262 ∧ hf_r g 257 3 = some 264 ∧ hf_r g 257 4 = some 266 ∧ hf_r g 257 5 = some 268 ∧ Rw g 258 768 ∧ Rw g 260 768 ∧ Rw g 262 768 ∧ Rw g 264 768 ∧ Rw g 266 768 ∧ Rw g 268 768
theorem sk_k {g : hf_G} (h : Sk g) : hf_k g 257 = (0, 7) := h.1
theorem sk_r0 {g : hf_G} (h : Sk g) : hf_r g 257 0 = some 258 := h.2.1
theorem sk_r1 {g : hf_G} (h : Sk g) : hf_r g 257 1 = some 260 := h.2.2.1
theorem sk_r2 {g : hf_G} (h : Sk g) : hf_r g 257 2 = some 262 := h.2.2.2.1
theorem sk_r3 {g : hf_G} (h : Sk g) : hf_r g 257 3 = some 264 := h.2.2.2.2.1
theorem sk_r4 {g : hf_G} (h : Sk g) : hf_r g 257 4 = some 266 := h.2.2.2.2.2.1
theorem sk_r5 {g : hf_G} (h : Sk g) : hf_r g 257 5 = some 268 := h.2.2.2.2.2.2.1
theorem sk_rw258 {g : hf_G} (h : Sk g) : Rw g 258 768 := h.2.2.2.2.2.2.2.1
theorem sk_rw260 {g : hf_G} (h : Sk g) : Rw g 260 768 := h.2.2.2.2.2.2.2.2.1
theorem sk_rw262 {g : hf_G} (h : Sk g) : Rw g 262 768 := h.2.2.2.2.2.2.2.2.2.1
theorem sk_rw264 {g : hf_G} (h : Sk g) : Rw g 264 768 := h.2.2.2.2.2.2.2.2.2.2.1
theorem sk_rw266 {g : hf_G} (h : Sk g) : Rw g 266 768 := h.2.2.2.2.2.2.2.2.2.2.2.1
theorem sk_rw268 {g : hf_G} (h : Sk g) : Rw g 268 768 := h.2.2.2.2.2.2.2.2.2.2.2.2
def Al (g : hf_G) : Prop := hf_k g 13 = (0, 0) ∧ hf_r g 13 0 = some 14 ∧ hf_r g 13 1 = some 15 ∧ hf_r g 13 2 = some 32 ∧ Pc g 15 ∧ Rw g 32 12 ∧ hf_k g 14 = (5, 12) ∧ (∀ i, i < 12 → hf_r g 14 i = some (34 + 17 * i)) ∧ (∀ i, i < 12 → Pc g (34 + 17 * i))
theorem al_k {g : hf_G} (h : Al g) : hf_k g 13 = (0, 0) := h.1
theorem al_r0 {g : hf_G} (h : Al g) : hf_r g 13 0 = some 14 := h.2.1
theorem al_r1 {g : hf_G} (h : Al g) : hf_r g 13 1 = some 15 := h.2.2.1
theorem al_r2 {g : hf_G} (h : Al g) : hf_r g 13 2 = some 32 := h.2.2.2.1
theorem al_pc15 {g : hf_G} (h : Al g) : Pc g 15 := h.2.2.2.2.1
theorem al_rw32 {g : hf_G} (h : Al g) : Rw g 32 12 := h.2.2.2.2.2.1
theorem al_k14 {g : hf_G} (h : Al g) : hf_k g 14 = (5, 12) := h.2.2.2.2.2.2.1
theorem al_ps {g : hf_G} (h : Al g) : (∀ i, i < 12 → hf_r g 14 i = some (34 + 17 * i)) := h.2.2.2.2.2.2.2.1
theorem al_pc {g : hf_G} (h : Al g) : (∀ i, i < 12 → Pc g (34 + 17 * i)) := h.2.2.2.2.2.2.2.2
def Hx (g : hf_G) : Prop := hf_k g 0 = (0, 9) ∧ hf_r g 0 0 = some 1 ∧ hf_r g 0 1 = some 13 ∧ hf_r g 0 2 = some 238 ∧ hf_r g 0 3 = some 249 ∧ hf_r g 0 4 = some 254 ∧ hf_r g 0 5 = some 257 ∧ Sc g 1
theorem hx_k {g : hf_G} (h : Hx g) : hf_k g 0 = (0, 9) := h.1
theorem hx_r0 {g : hf_G} (h : Hx g) : hf_r g 0 0 = some 1 := h.2.1
theorem hx_r1 {g : hf_G} (h : Hx g) : hf_r g 0 1 = some 13 := h.2.2.1
theorem hx_r2 {g : hf_G} (h : Hx g) : hf_r g 0 2 = some 238 := h.2.2.2.1
theorem hx_r3 {g : hf_G} (h : Hx g) : hf_r g 0 3 = some 249 := h.2.2.2.2.1
theorem hx_r4 {g : hf_G} (h : Hx g) : hf_r g 0 4 = some 254 := h.2.2.2.2.2.1
theorem hx_r5 {g : hf_G} (h : Hx g) : hf_r g 0 5 = some 257 := h.2.2.2.2.2.2.1
theorem hx_sc1 {g : hf_G} (h : Hx g) : Sc g 1 := h.2.2.2.2.2.2.2
def Md (g : hf_G) : Prop := hf_k g 270 = (0, 10) ∧ hf_r g 270 16 = some 271 ∧ hf_k g 271 = (2, 832) ∧ hf_r g 270 17 = some 272 ∧ hf_k g 272 = (2, 832) ∧ hf_r g 270 18 = some 273 ∧ hf_k g 273 = (3, 832) ∧ hf_r g 270 19 = some 274 ∧ hf_k g 274 = (3, 832) ∧ hf_r g 270 20 = some 275 ∧ hf_k g 275 = (2, 832) ∧ hf_r g 270 21 = some 276 ∧ hf_k g 276 = (2, 13) ∧ hf_r g 270 22 = some 277 ∧ hf_k g 277 = (3, 64) ∧ hf_r g 270 23 = some 278 ∧ hf_k g 278 = (3, 64) ∧ hf_r g 270 24 = some 279 ∧ hf_k g 279 = (2, 64) ∧ hf_r g 270 25 = some 280 ∧ hf_k g 280 = (2, 64) ∧ hf_r g 270 26 = some 281 ∧ hf_k g 281 = (4, 64) ∧ hf_r g 270 27 = some 282 ∧ hf_k g 282 = (4, 768) ∧ hf_r g 270 28 = some 283 ∧ hf_k g 283 = (2, 768) ∧ hf_r g 270 29 = some 284 ∧ hf_k g 284 = (2, 768) ∧ hf_r g 270 30 = some 285 ∧ hf_k g 285 = (2, 768) ∧ hf_r g 270 31 = some 286 ∧ hf_k g 286 = (2, 768) ∧ hf_r g 270 33 = some 287 ∧ hf_k g 287 = (2, 768) ∧ hf_r g 270 34 = some 288 ∧ hf_k g 288 = (2, 768) ∧ hf_r g 270 35 = some 289 ∧ hf_k g 289 = (2, 768) ∧ hf_r g 270 36 = some 290 ∧ hf_k g 290 = (2, 768) ∧ hf_r g 270 37 = some 291 ∧ hf_k g 291 = (4, 768)
theorem md_k {g : hf_G} (h : Md g) : hf_k g 270 = (0, 10) := h.1
theorem md_r16 {g : hf_G} (h : Md g) : hf_r g 270 16 = some 271 := h.2.1
theorem md_k271 {g : hf_G} (h : Md g) : hf_k g 271 = (2, 832) := h.2.2.1
theorem md_r17 {g : hf_G} (h : Md g) : hf_r g 270 17 = some 272 := h.2.2.2.1
theorem md_k272 {g : hf_G} (h : Md g) : hf_k g 272 = (2, 832) := h.2.2.2.2.1
theorem md_r18 {g : hf_G} (h : Md g) : hf_r g 270 18 = some 273 := h.2.2.2.2.2.1
theorem md_k273 {g : hf_G} (h : Md g) : hf_k g 273 = (3, 832) := h.2.2.2.2.2.2.1
theorem md_r19 {g : hf_G} (h : Md g) : hf_r g 270 19 = some 274 := h.2.2.2.2.2.2.2.1
theorem md_k274 {g : hf_G} (h : Md g) : hf_k g 274 = (3, 832) := h.2.2.2.2.2.2.2.2.1
theorem md_r20 {g : hf_G} (h : Md g) : hf_r g 270 20 = some 275 := h.2.2.2.2.2.2.2.2.2.1
theorem md_k275 {g : hf_G} (h : Md g) : hf_k g 275 = (2, 832) := h.2.2.2.2.2.2.2.2.2.2.1
theorem md_r21 {g : hf_G} (h : Md g) : hf_r g 270 21 = some 276 := h.2.2.2.2.2.2.2.2.2.2.2.1
theorem md_k276 {g : hf_G} (h : Md g) : hf_k g 276 = (2, 13) := h.2.2.2.2.2.2.2.2.2.2.2.2.1
theorem md_r22 {g : hf_G} (h : Md g) : hf_r g 270 22 = some 277 := h.2.2.2.2.2.2.2.2.2.2.2.2.2.1
theorem md_k277 {g : hf_G} (h : Md g) : hf_k g 277 = (3, 64) := h.2.2.2.2.2.2.2.2.2.2.2.2.2.2.1
theorem md_r23 {g : hf_G} (h : Md g) : hf_r g 270 23 = some 278 := h.2.2.2.2.2.2.2.2.2.2.2.2.2.2.2.1
theorem md_k278 {g : hf_G} (h : Md g) : hf_k g 278 = (3, 64) := h.2.2.2.2.2.2.2.2.2.2.2.2.2.2.2.2.1
theorem md_r24 {g : hf_G} (h : Md g) : hf_r g 270 24 = some 279 := h.2.2.2.2.2.2.2.2.2.2.2.2.2.2.2.2.2.1
theorem md_k279 {g : hf_G} (h : Md g) : hf_k g 279 = (2, 64) := h.2.2.2.2.2.2.2.2.2.2.2.2.2.2.2.2.2.2.1
theorem md_r25 {g : hf_G} (h : Md g) : hf_r g 270 25 = some 280 := h.2.2.2.2.2.2.2.2.2.2.2.2.2.2.2.2.2.2.2.1
theorem md_k280 {g : hf_G} (h : Md g) : hf_k g 280 = (2, 64) := h.2.2.2.2.2.2.2.2.2.2.2.2.2.2.2.2.2.2.2.2.1
theorem md_r26 {g : hf_G} (h : Md g) : hf_r g 270 26 = some 281 := h.2.2.2.2.2.2.2.2.2.2.2.2.2.2.2.2.2.2.2.2.2.1
theorem md_k281 {g : hf_G} (h : Md g) : hf_k g 281 = (4, 64) := h.2.2.2.2.2.2.2.2.2.2.2.2.2.2.2.2.2.2.2.2.2.2.1
theorem md_r27 {g : hf_G} (h : Md g) : hf_r g 270 27 = some 282 := h.2.2.2.2.2.2.2.2.2.2.2.2.2.2.2.2.2.2.2.2.2.2.2.1
theorem md_k282 {g : hf_G} (h : Md g) : hf_k g 282 = (4, 768) := h.2.2.2.2.2.2.2.2.2.2.2.2.2.2.2.2.2.2.2.2.2.2.2.2.1
theorem md_r28 {g : hf_G} (h : Md g) : hf_r g 270 28 = some 283 := h.2.2.2.2.2.2.2.2.2.2.2.2.2.2.2.2.2.2.2.2.2.2.2.2.2.1
theorem md_k283 {g : hf_G} (h : Md g) : hf_k g 283 = (2, 768) := h.2.2.2.2.2.2.2.2.2.2.2.2.2.2.2.2.2.2.2.2.2.2.2.2.2.2.1
theorem md_r29 {g : hf_G} (h : Md g) : hf_r g 270 29 = some 284 := h.2.2.2.2.2.2.2.2.2.2.2.2.2.2.2.2.2.2.2.2.2.2.2.2.2.2.2.1
theorem md_k284 {g : hf_G} (h : Md g) : hf_k g 284 = (2, 768) := h.2.2.2.2.2.2.2.2.2.2.2.2.2.2.2.2.2.2.2.2.2.2.2.2.2.2.2.2.1
theorem md_r30 {g : hf_G} (h : Md g) : hf_r g 270 30 = some 285 := h.2.2.2.2.2.2.2.2.2.2.2.2.2.2.2.2.2.2.2.2.2.2.2.2.2.2.2.2.2.1
theorem md_k285 {g : hf_G} (h : Md g) : hf_k g 285 = (2, 768) := h.2.2.2.2.2.2.2.2.2.2.2.2.2.2.2.2.2.2.2.2.2.2.2.2.2.2.2.2.2.2.1
theorem md_r31 {g : hf_G} (h : Md g) : hf_r g 270 31 = some 286 := h.2.2.2.2.2.2.2.2.2.2.2.2.2.2.2.2.2.2.2.2.2.2.2.2.2.2.2.2.2.2.2.1
theorem md_k286 {g : hf_G} (h : Md g) : hf_k g 286 = (2, 768) := h.2.2.2.2.2.2.2.2.2.2.2.2.2.2.2.2.2.2.2.2.2.2.2.2.2.2.2.2.2.2.2.2.1
theorem md_r33 {g : hf_G} (h : Md g) : hf_r g 270 33 = some 287 := h.2.2.2.2.2.2.2.2.2.2.2.2.2.2.2.2.2.2.2.2.2.2.2.2.2.2.2.2.2.2.2.2.2.1
theorem md_k287 {g : hf_G} (h : Md g) : hf_k g 287 = (2, 768) := h.2.2.2.2.2.2.2.2.2.2.2.2.2.2.2.2.2.2.2.2.2.2.2.2.2.2.2.2.2.2.2.2.2.2.1
theorem md_r34 {g : hf_G} (h : Md g) : hf_r g 270 34 = some 288 := h.2.2.2.2.2.2.2.2.2.2.2.2.2.2.2.2.2.2.2.2.2.2.2.2.2.2.2.2.2.2.2.2.2.2.2.1
theorem md_k288 {g : hf_G} (h : Md g) : hf_k g 288 = (2, 768) := h.2.2.2.2.2.2.2.2.2.2.2.2.2.2.2.2.2.2.2.2.2.2.2.2.2.2.2.2.2.2.2.2.2.2.2.2.1
theorem md_r35 {g : hf_G} (h : Md g) : hf_r g 270 35 = some 289 := h.2.2.2.2.2.2.2.2.2.2.2.2.2.2.2.2.2.2.2.2.2.2.2.2.2.2.2.2.2.2.2.2.2.2.2.2.2.1
theorem md_k289 {g : hf_G} (h : Md g) : hf_k g 289 = (2, 768) := h.2.2.2.2.2.2.2.2.2.2.2.2.2.2.2.2.2.2.2.2.2.2.2.2.2.2.2.2.2.2.2.2.2.2.2.2.2.2.1
theorem md_r36 {g : hf_G} (h : Md g) : hf_r g 270 36 = some 290 := h.2.2.2.2.2.2.2.2.2.2.2.2.2.2.2.2.2.2.2.2.2.2.2.2.2.2.2.2.2.2.2.2.2.2.2.2.2.2.2.1
theorem md_k290 {g : hf_G} (h : Md g) : hf_k g 290 = (2, 768) := h.2.2.2.2.2.2.2.2.2.2.2.2.2.2.2.2.2.2.2.2.2.2.2.2.2.2.2.2.2.2.2.2.2.2.2.2.2.2.2.2.1
theorem md_r37 {g : hf_G} (h : Md g) : hf_r g 270 37 = some 291 := h.2.2.2.2.2.2.2.2.2.2.2.2.2.2.2.2.2.2.2.2.2.2.2.2.2.2.2.2.2.2.2.2.2.2.2.2.2.2.2.2.2.1
theorem md_k291 {g : hf_G} (h : Md g) : hf_k g 291 = (4, 768) := h.2.2.2.2.2.2.2.2.2.2.2.2.2.2.2.2.2.2.2.2.2.2.2.2.2.2.2.2.2.2.2.2.2.2.2.2.2.2.2.2.2.2
def All (g : hf_G) : Prop := Pu g ∧ Jo g ∧ Un g ∧ Sk g ∧ Al g ∧ Hx g ∧ Md g
theorem all_pu {g : hf_G} (h : All g) : Pu g := h.1
theorem all_jo {g : hf_G} (h : All g) : Jo g := h.2.1
theorem all_un {g : hf_G} (h : All g) : Un g := h.2.2.1
theorem all_sk {g : hf_G} (h : All g) : Sk g := h.2.2.2.1
theorem all_al {g : hf_G} (h : All g) : Al g := h.2.2.2.2.1
theorem all_hx {g : hf_G} (h : All g) : Hx g := h.2.2.2.2.2.1
theorem all_md {g : hf_G} (h : All g) : Md g := h.2.2.2.2.2.2
theorem All.th {g : hf_G} (h : All g) : All (hf_th g) := h
