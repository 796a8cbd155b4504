def amZ (w D q : Int) : Int := if q % 2 = 1 then -(w / D) else w / D
def phZ (q : Int) : Int := q / 2 % 16
def dzS (s : Nat) (w : Int) (p : Int × R4) (k : Int × Int) : Int × R4 := ((1103515245 * p.1 + 12345) % 2147483648, ripS s k.1 k.2 (amZ w (k.1 * k.1 + k.2 * k.2) ((1103515245 * p.1 + 12345) % 2147483648 / 65536)) (phZ ((1103515245 * p.1 + 12345) % 2147483648 / 65536)) p.2)
def dzX : List (Int × Int) := [(0, 1), (0, 2), (1, -2), (1, -1), (1, 0), (1, 1), (1, 2), (2, -2), (2, -1), (2, 0), (2, 1), (2, 2)]
def dzK (k : Int × Int) : Prop := (-3 ≤ k.1 ∧ k.1 ≤ 3) ∧ (-3 ≤ k.2 ∧ k.2 ≤ 3) ∧ 1 ≤ k.1 * k.1 + k.2 * k.2 ∧ k.1 * k.1 + k.2 * k.2 ≤ 8
theorem dzX_k : ∀ k, k ∈ dzX → dzK k := by unfold dzK; decide
theorem dzX_m : drX = dzX.map (fun k => (iZ k.1, iZ k.2)) := by decide +kernel
section
variable {σ : Sg} {f : Nat → Nat} {R : R4} {g : hf_G} {I I2 : hf_I} {J J2 : hf_J} {s k p c n t : Nat} {a b am ph z w D x q : Int} {i j y : Int32} {v : Int64}
theorem drL_z (h : 0 ≤ x ∧ x < 2147483648) : drL (lZ x) = lZ ((1103515245 * x + 12345) % 2147483648) := by
  unfold drL
  rw [show (1103515245 : Int64) = lZ 1103515245 from rfl, show (12345 : Int64) = lZ 12345 from rfl, show (2147483648 : Int64) = lZ 2147483648 from rfl, lZ_mul, lZ_add, lZ_div ⟨by omega, by omega⟩ ⟨by decide, by decide⟩ (by decide), td_pos (by omega), lZ_mul, lZ_sub]
  congr 1
  omega
theorem drQ_z (h : 0 ≤ x ∧ x < 2147483648) : lZ x / 65536 = lZ (x / 65536) := by
  rw [show (65536 : Int64) = lZ 65536 from rfl, lZ_div (lRs (by omega) (by omega)) (lRs (by decide) (by decide)) (by decide), td_pos h.1]
theorem drPh_z (h : 0 ≤ x ∧ x < 2147483648) : drPh (lZ x) = lZ (phZ (x / 65536)) ∧ mdH (lZ x) = iZ (phZ (x / 65536)) ∧ 0 ≤ phZ (x / 65536) ∧ phZ (x / 65536) ≤ 15 := by
  unfold drPh mdH phZ
  rw [drQ_z h]
  have hq : 0 ≤ x / 65536 ∧ x / 65536 < 32768 := by omega
  generalize x / 65536 = q at hq
  rw [lZ_i, show (2 : Int64) = lZ 2 from rfl, show (16 : Int64) = lZ 16 from rfl, show (2 : Int32) = iZ 2 from rfl, show (16 : Int32) = iZ 16 from rfl]
  rw [lZ_div (lRs (by omega) (by omega)) (lRs (by decide) (by decide)) (by decide), td_pos (by omega), lZ_div (lRs (by omega) (by omega)) (lRs (by decide) (by decide)) (by decide), td_pos (by omega), lZ_mul, lZ_sub]
  rw [iZ_div ⟨by omega, by omega⟩ ⟨by decide, by decide⟩ (by decide), td_pos (by omega), iZ_div ⟨by omega, by omega⟩ ⟨by decide, by decide⟩ (by decide), td_pos (by omega), iZ_mul, iZ_sub]
  refine ⟨?_, ?_, by omega, by omega⟩
  · congr 1; omega
  · congr 1; omega
theorem drAm_z (h : 0 ≤ x ∧ x < 2147483648) (hw : 0 ≤ w ∧ w ≤ 1000) (hD : a * a + b * b = D) (hD2 : 1 ≤ D ∧ D ≤ 8) : drAm (iZ w) (iZ a) (iZ b) (lZ x) = lZ (amZ w D (x / 65536)) ∧ mdA (iZ w) (iZ a) (iZ b) (lZ x) = iZ (amZ w D (x / 65536)) ∧ -1000 ≤ amZ w D (x / 65536) ∧ amZ w D (x / 65536) ≤ 1000 := by
  unfold drAm mdA sqI by0 amZ
  rw [drQ_z h, iZ_mul, iZ_mul, iZ_add, hD, iZ_l ⟨by omega, by omega⟩, iZ_l ⟨by omega, by omega⟩]
  have hq : 0 ≤ x / 65536 ∧ x / 65536 < 32768 := by omega
  generalize x / 65536 = q at hq
  rw [lZ_i, show (2 : Int64) = lZ 2 from rfl, show (2 : Int32) = iZ 2 from rfl, show (1 : Int64) = lZ 1 from rfl, show (1 : Int32) = iZ 1 from rfl, show (0 : Int64) = lZ 0 from rfl]
  rw [lZ_div (lRs (by omega) (by omega)) (lRs (by decide) (by decide)) (by decide), td_pos (by omega), lZ_mul, lZ_sub, iZ_div ⟨by omega, by omega⟩ ⟨by decide, by decide⟩ (by decide), td_pos (by omega), iZ_mul, iZ_sub]
  have k1 := lZ_eq (a := q - q / 2 * 2) (b := 1) (lRs (by omega) (by omega)) (lRs (by decide) (by decide))
  have k2 := iZ_eq (a := q - q / 2 * 2) (b := 1) ⟨by omega, by omega⟩ ⟨by decide, by decide⟩
  have k3 := lZ_eq (a := D) (b := 0) (lRs (by omega) (by omega)) (lRs (by decide) (by decide))
  rw [if_neg (fun e => (by omega : ¬ D = 0) (k3.mp e))]
  rw [lZ_div (lRs (by omega) (by omega)) (lRs (by omega) (by omega)) (by omega), td_pos (by omega), iZ_div ⟨by omega, by omega⟩ ⟨by omega, by omega⟩ (by omega), td_pos (by omega), lZ_neg, iZ_neg]
  have hwD : 0 ≤ w / D ∧ w / D ≤ 1000 := ⟨Int.ediv_nonneg (by omega) (by omega), by
    have := Int.ediv_le_self D hw.1
    omega⟩
  by_cases c : q % 2 = 1
  · rw [if_pos c, if_pos (k1.mpr (by omega)), if_pos (k2.mpr (by omega))]
    exact ⟨rfl, rfl, by omega, by omega⟩
  · rw [if_neg c, if_neg (fun e => (by omega : ¬ q - q / 2 * 2 = 1) (k1.mp e)), if_neg (fun e => (by omega : ¬ q - q / 2 * 2 = 1) (k2.mp e))]
    exact ⟨rfl, rfl, by omega, by omega⟩
theorem draw_c (hs : 2 ≤ s ∧ s ≤ 8) (hc : c = s * s) (hw : 0 ≤ w ∧ w ≤ 1000) : ∀ (l : List (Int × Int)), (∀ k, k ∈ l → dzK k) → ∀ (z : Int) (R : R4) (J : hf_J), 0 ≤ z ∧ z < 2147483648 → RWc J c R →
    ((l.map (fun k => (iZ k.1, iZ k.2))).foldl (fun p k => drT c s (iZ w) k.1 k.2 p) (lZ z, J)).1 = lZ (l.foldl (dzS s w) (z, R)).1 ∧ RWc ((l.map (fun k => (iZ k.1, iZ k.2))).foldl (fun p k => drT c s (iZ w) k.1 k.2 p) (lZ z, J)).2 c (l.foldl (dzS s w) (z, R)).2 ∧
    ∀ p, p ≠ 4 ∧ p ≠ 6 ∧ p ≠ 8 ∧ p ≠ 10 → ((l.map (fun k => (iZ k.1, iZ k.2))).foldl (fun p k => drT c s (iZ w) k.1 k.2 p) (lZ z, J)).2 p = J p
  | [], _, z, R, J, hz, h => ⟨rfl, h, fun _ _ => rfl⟩
  | (a, b) :: l, hl, z, R, J, hz, h => by
    obtain ⟨ha, hb, d1, d2⟩ := hl (a, b) List.mem_cons_self
    have hx : 0 ≤ (1103515245 * z + 12345) % 2147483648 ∧ (1103515245 * z + 12345) % 2147483648 < 2147483648 := ⟨Int.emod_nonneg _ (by decide), Int.emod_lt_of_pos _ (by decide)⟩
    obtain ⟨p1, -, p3, p4⟩ := drPh_z hx
    obtain ⟨m1, -, m3, m4⟩ := drAm_z (w := w) hx hw (a := a) (b := b) rfl ⟨d1, d2⟩
    have e : drT c s (iZ w) (iZ a) (iZ b) (lZ z, J) = (lZ ((1103515245 * z + 12345) % 2147483648), rpJ J c s (lZ a) (lZ b) (lZ (amZ w (a * a + b * b) ((1103515245 * z + 12345) % 2147483648 / 65536))) (lZ (phZ ((1103515245 * z + 12345) % 2147483648 / 65536)))) := by
      unfold drT
      dsimp only
      rw [drL_z hz, m1, p1, iZ_l ⟨by have := ha.1; simp only at this; omega, by have := ha.2; simp only at this; omega⟩, iZ_l ⟨by have := hb.1; simp only at this; omega, by have := hb.2; simp only at this; omega⟩]
    have ih := draw_c hs hc hw l (fun k hk => hl k (List.mem_cons_of_mem _ hk)) ((1103515245 * z + 12345) % 2147483648) (ripS s a b (amZ w (a * a + b * b) ((1103515245 * z + 12345) % 2147483648 / 65536)) (phZ ((1103515245 * z + 12345) % 2147483648 / 65536)) R) _ hx (rip_c h hs hc ha hb ⟨m3, m4⟩ ⟨p3, p4⟩)
    rw [List.map_cons, List.foldl_cons, List.foldl_cons]
    show (List.foldl _ (drT c s (iZ w) (iZ a) (iZ b) (lZ z, J)) _).1 = _ ∧ RWc (List.foldl _ (drT c s (iZ w) (iZ a) (iZ b) (lZ z, J)) _).2 c _ ∧ ∀ p, _ → (List.foldl _ (drT c s (iZ w) (iZ a) (iZ b) (lZ z, J)) _).2 p = J p
    rw [e]
    exact ⟨ih.1, ih.2.1, fun p hp => (ih.2.2 p hp).trans (rpJ_n hp)⟩
end
