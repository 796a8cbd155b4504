/-! WHAT THE PURE MACHINE'S HEAP SAYS OF THE MACHINE'S -/
/-- classes, classes of rows, the first address, the script's address, that of the waves, the script, its length -/
abbrev hf_W : Type := va_G × (Nat → ClassId) × Nat × Nat × Nat × (Nat → Int32) × Nat
def hf_D (w : hf_W) : va_G := w.1
def hf_cA (w : hf_W) : Nat → ClassId := w.2.1
def hf_Z (w : hf_W) : Nat := w.2.2.1
def hf_sb (w : hf_W) : Nat := w.2.2.2.1
def hf_wt (w : hf_W) : Nat := w.2.2.2.2.1
def hf_xs (w : hf_W) : Nat → Int32 := w.2.2.2.2.2.1
def hf_xl (w : hf_W) : Nat := w.2.2.2.2.2.2
def hf_A (w : hf_W) : Nat → Prop := fun q => hf_Z w ≤ q
def hf_ad (w : hf_W) (k : Nat) : Nat := if k = 1000001 then hf_sb w else if k = 1000002 then hf_wt w else hf_Z w + k
def hf_tv (w : hf_W) (v : Value) : Value := match v with
  | .ref k => .ref (hf_ad w k)
  | x => x
def hf_wave (j : Nat) : Int32 := ([64, 59, 45, 24, 0, -24, -45, -59, -64, -59, -45, -24, 0, 24, 45, 59] : List Int32).getD j 0
def hf_fv (w : hf_W) (g : hf_G) (I : hf_I) (J : hf_J) (c i k : Nat) : Value := match hf_ft c k with
  | 0 => .int (I i k)
  | 1 => .long (J i k)
  | _ => va_rf ((hf_r g i k).map (hf_ad w))
def hf_pv (w : hf_W) (g : hf_G) (I : hf_I) (J : hf_J) (i : Nat) : va_E := match (hf_k g i).1 with
  | 0 => .inr ((hf_k g i).2, (List.range (hf_nf (hf_k g i).2)).map (hf_fv w g I J (hf_k g i).2 i))
  | 2 => .inl (hf_cA w 2, (hf_k g i).2, .inl (I i))
  | 3 => .inl (hf_cA w 3, (hf_k g i).2, .inr (.inl (J i)))
  | 4 => .inl (hf_cA w 4, (hf_k g i).2, .inl (I i))
  | _ => .inl (hf_cA w 5, (hf_k g i).2, .inr (.inr (.inr (.inr (fun j => (hf_r g i j).map (hf_ad w))))))
/-- which addresses hold something; where such a one stands in the list -/
def hf_p5 (g : hf_G) (i : Nat) : Bool := decide ((hf_k g i).1 ≤ 5)
def hf_ps (g : hf_G) (a : Nat) : Nat := ((List.range a).filter (hf_p5 g)).length
def hf_wl (w : hf_W) (g : hf_G) (I : hf_I) (J : hf_J) : va_W := ((List.range (hf_n g)).filter (hf_p5 g)).map fun i => (hf_Z w + i, hf_pv w g I J i)
def hf_HR (w : hf_W) (g : hf_G) (I : hf_I) (J : hf_J) (H : Heap) : Prop :=
  (hf_n g ≤ 1000000 ∧ hf_Z w + hf_n g ≤ H.size) ∧ (∀ a, (hf_k g a).1 ≤ 5 → a < hf_n g) ∧ (∀ a, (hf_k g a).1 = 6 → a = 1000001 ∨ a = 1000002) ∧ hf_k g 1000001 = (6, hf_xl w) ∧ hf_k g 1000002 = (6, 16) ∧
  (∀ j, I 1000001 j = hf_xs w j) ∧ (∀ j, I 1000002 j = hf_wave j) ∧ va_P (hf_D w) vwCl (hf_wl w g I J) H
theorem hf_ad_lt {w : hf_W} {i : Nat} (h : i < 1000001) : hf_ad w i = hf_Z w + i := by
  rw [hf_ad, if_neg (by omega), if_neg (by omega)]
theorem hf_rf_get {p : Nat → Bool} {a : Nat} (hp : p a = true) : ∀ n : Nat, a < n → ((List.range n).filter p)[((List.range a).filter p).length]? = some a
  | 0, h => absurd h (by omega)
  | n + 1, h => by
    rw [List.range_succ, List.filter_append]
    by_cases e : a = n
    · subst e
      rw [List.getElem?_append_right (Nat.le_refl _), Nat.sub_self, List.filter_cons_of_pos hp]
      rfl
    · have h1 := hf_rf_get hp n (by omega)
      rw [List.getElem?_append_left (List.getElem?_eq_some_iff.mp h1).1]
      exact h1
theorem hf_rf_of {p : Nat → Bool} {j i : Nat} : ∀ n : Nat, ((List.range n).filter p)[j]? = some i → i < n ∧ p i = true ∧ j = ((List.range i).filter p).length
  | 0, h => by simp at h
  | n + 1, h => by
    rw [List.range_succ, List.filter_append] at h
    by_cases hj : j < ((List.range n).filter p).length
    · rw [List.getElem?_append_left hj] at h
      obtain ⟨a, b, c⟩ := hf_rf_of n h
      exact ⟨by omega, b, c⟩
    · rw [List.getElem?_append_right (by omega)] at h
      by_cases hp : p n = true
      · rw [List.filter_cons_of_pos hp] at h
        have h1 := (List.getElem?_eq_some_iff.mp h).1
        rw [List.filter_nil] at h1
        have h2 : j - ((List.range n).filter p).length < 1 := h1
        have h3 : j - ((List.range n).filter p).length = 0 := by omega
        rw [h3] at h
        have h4 : some n = some i := h
        cases h4
        exact ⟨Nat.lt_succ_self _, hp, by omega⟩
      · rw [List.filter_cons_of_neg hp] at h
        simp at h
theorem hf_wl_get {w : hf_W} {g : hf_G} {I : hf_I} {J : hf_J} {i : Nat} (h : i < hf_n g) (h5 : (hf_k g i).1 ≤ 5) : (hf_wl w g I J)[hf_ps g i]? = some (hf_Z w + i, hf_pv w g I J i) := by
  rw [hf_wl, List.getElem?_map, hf_ps, hf_rf_get (decide_eq_true h5) _ h]
  rfl
theorem hf_wl_of {w : hf_W} {g : hf_G} {I : hf_I} {J : hf_J} {j : Nat} {q : Nat × va_E} (h : (hf_wl w g I J)[j]? = some q) : ∃ i, i < hf_n g ∧ (hf_k g i).1 ≤ 5 ∧ j = hf_ps g i ∧ q = (hf_Z w + i, hf_pv w g I J i) := by
  rw [hf_wl, List.getElem?_map] at h
  cases e : ((List.range (hf_n g)).filter (hf_p5 g))[j]? with
  | none => rw [e] at h; cases h
  | some i =>
    rw [e] at h
    obtain ⟨a, b, c⟩ := hf_rf_of _ e
    cases h
    exact ⟨i, a, of_decide_eq_true b, c, rfl⟩
theorem hf_wl_D {w : hf_W} {g : hf_G} {I : hf_I} {J : hf_J} : va_D (hf_A w) (hf_wl w g I J) := by
  refine ⟨fun i j p q hp hq e => ?_, fun k q hq => ?_⟩
  · obtain ⟨a, -, -, ha, rfl⟩ := hf_wl_of hp
    obtain ⟨b, -, -, hb, rfl⟩ := hf_wl_of hq
    have e : hf_Z w + a = hf_Z w + b := e
    have e2 : a = b := by omega
    rw [ha, hb, e2]
  · obtain ⟨i, -, -, -, rfl⟩ := hf_wl_of hq
    exact Nat.le_add_right _ _
theorem hf_map_set {α : Type} {L : List Nat} {k i : Nat} {f f1 : Nat → α} {v : α} (hk : L[k]? = some i) (hu : ∀ j, L[j]? = some i → j = k) (hv : f1 i = v) (ho : ∀ j, j ≠ i → f1 j = f j) : (L.map f).set k v = L.map f1 := by
  apply List.ext_getElem?
  intro j
  by_cases h : j = k
  · subst h
    rw [List.getElem?_set_self (by rw [List.length_map]; exact (List.getElem?_eq_some_iff.mp hk).1), List.getElem?_map, hk, ← hv]
    rfl
  · rw [List.getElem?_set_ne (fun q => h q.symm), List.getElem?_map, List.getElem?_map]
    cases e : L[j]? with
    | none => rfl
    | some x =>
      have hx : x ≠ i := fun q => h (hu j (by rw [e, q]))
      show some (f x) = some (f1 x)
      rw [ho x hx]
theorem hf_wl_set {w : hf_W} {g g1 : hf_G} {I I1 : hf_I} {J J1 : hf_J} {i : Nat} {e : va_E} (hn : hf_n g1 = hf_n g) (hkk : hf_k g1 = hf_k g) (hi : i < hf_n g) (h5 : (hf_k g i).1 ≤ 5) (he : hf_pv w g1 I1 J1 i = e) (ho : ∀ j, j ≠ i → hf_pv w g1 I1 J1 j = hf_pv w g I J j) :
    (hf_wl w g I J).set (hf_ps g i) (hf_Z w + i, e) = hf_wl w g1 I1 J1 := by
  have e5 : hf_p5 g1 = hf_p5 g := by funext j; rw [hf_p5, hf_p5, hkk]
  rw [hf_wl, hf_wl, hn, e5]
  refine hf_map_set (i := i) (hf_rf_get (decide_eq_true h5) _ hi) (fun j hj => (hf_rf_of _ hj).2.2) (by rw [he]) (fun j hj => by rw [ho j hj])
theorem hf_wl_push {w : hf_W} {g g1 : hf_G} {I I1 : hf_I} {J J1 : hf_J} {e : va_E} (hn : hf_n g1 = hf_n g + 1) (hkk : ∀ j, j < hf_n g → hf_k g1 j = hf_k g j) (h5 : (hf_k g1 (hf_n g)).1 ≤ 5) (he : hf_pv w g1 I1 J1 (hf_n g) = e) (ho : ∀ j, j < hf_n g → hf_pv w g1 I1 J1 j = hf_pv w g I J j) :
    hf_wl w g I J ++ [(hf_Z w + hf_n g, e)] = hf_wl w g1 I1 J1 := by
  have e5 : (List.range (hf_n g)).filter (hf_p5 g1) = (List.range (hf_n g)).filter (hf_p5 g) := List.filter_congr fun j hj => by rw [hf_p5, hf_p5, hkk j (List.mem_range.mp hj)]
  rw [hf_wl, hf_wl, hn, List.range_succ, List.filter_append, List.map_append, e5, List.filter_cons_of_pos (show hf_p5 g1 (hf_n g) = true from decide_eq_true h5), List.filter_nil]
  congr 1
  · refine List.map_congr_left fun j hj => ?_
    rw [ho j (List.mem_range.mp (List.mem_filter.mp hj).1)]
  · rw [← he]
    rfl
theorem hf_wl_th {w : hf_W} {g : hf_G} {I : hf_I} {J : hf_J} (h2 : ∀ a, (hf_k g a).1 ≤ 5 → a < hf_n g) : hf_wl w (hf_th g) I J = hf_wl w g I J := by
  have en : hf_n (hf_th g) = if hf_n g < 1000000 then hf_n g + 1 else hf_n g := rfl
  have e0 : hf_wl w (hf_th g) I J = ((List.range (hf_n (hf_th g))).filter (hf_p5 g)).map fun i => (hf_Z w + i, hf_pv w g I J i) := rfl
  rw [e0, en]
  by_cases h : hf_n g < 1000000
  · rw [if_pos h, List.range_succ, List.filter_append, List.filter_cons_of_neg (by
      intro q
      exact Nat.lt_irrefl _ (h2 _ (of_decide_eq_true q))), List.filter_nil, List.append_nil]
    rfl
  · rw [if_neg h]
    rfl
theorem hf_self {w : hf_W} {H0 H : Heap} {locs : List Loc} (h : va_S (hf_A w) H0 H locs) : va_S (hf_A w) H H locs := ⟨Nat.le_refl _, fun _ _ _ => rfl, h.2.2⟩
theorem hf_back {w : hf_W} {H0 H H1 : Heap} {locs locs1 : List Loc} (h : va_S (hf_A w) H0 H locs) (h1 : va_S (hf_A w) H H1 locs1) : va_S (hf_A w) H0 H1 locs1 :=
  ⟨Nat.le_trans h.1 h1.1, fun q hq ha => (h1.2.1 q (Nat.lt_of_lt_of_le hq h.1) ha).trans (h.2.1 q hq ha), h1.2.2⟩
section
variable {w : hf_W} {g : hf_G} {I : hf_I} {J : hf_J} {H H1 : Heap}
theorem hf_pv0 {a c : Nat} (h : hf_k g a = (0, c)) : hf_pv w g I J a = .inr (c, (List.range (hf_nf c)).map (hf_fv w g I J c a)) := by rw [hf_pv, h]; rfl
theorem hf_pv2 {a : Nat} (h : (hf_k g a).1 = 2) : hf_pv w g I J a = .inl (hf_cA w 2, (hf_k g a).2, .inl (I a)) := by rw [hf_pv, h]; rfl
theorem hf_pv3 {a : Nat} (h : (hf_k g a).1 = 3) : hf_pv w g I J a = .inl (hf_cA w 3, (hf_k g a).2, .inr (.inl (J a))) := by rw [hf_pv, h]; rfl
theorem hf_pv4 {a : Nat} (h : (hf_k g a).1 = 4) : hf_pv w g I J a = .inl (hf_cA w 4, (hf_k g a).2, .inl (I a)) := by rw [hf_pv, h]; rfl
theorem hf_pv5 {a : Nat} (h : (hf_k g a).1 = 5) : hf_pv w g I J a = .inl (hf_cA w 5, (hf_k g a).2, .inr (.inr (.inr (.inr (fun j => (hf_r g a j).map (hf_ad w)))))) := by rw [hf_pv, h]; rfl
theorem hf_u_ne {α : Type} {f : Nat → Nat → α} {a i b : Nat} {x : α} (h : b ≠ a) : hf_u f a i x b = f b := by
  funext j
  simp [hf_u, h]
theorem hf_w_ne {α : Type} {f : Nat → Nat → α} {a b : Nat} {r : Nat → α} (h : b ≠ a) : hf_w f a r b = f b := by
  funext j
  simp [hf_w, h]
theorem hf_w_eq {α : Type} {f : Nat → Nat → α} {a : Nat} {r : Nat → α} : hf_w f a r a = r := by
  funext j
  simp [hf_w]
theorem hf_pv_I {a b i : Nat} {x : Int32} (h : b ≠ a) : hf_pv w g (hf_u I a i x) J b = hf_pv w g I J b := by
  have e : ∀ c k, hf_fv w g (hf_u I a i x) J c b k = hf_fv w g I J c b k := fun c k => by rw [hf_fv, hf_fv, hf_u_ne h]
  rw [hf_pv, hf_pv, hf_u_ne h]
  simp only [show hf_fv w g (hf_u I a i x) J (hf_k g b).2 b = hf_fv w g I J (hf_k g b).2 b from funext fun k => e _ k]
theorem hf_pv_J {a b i : Nat} {x : Int64} (h : b ≠ a) : hf_pv w g I (hf_u J a i x) b = hf_pv w g I J b := by
  have e : ∀ c k, hf_fv w g I (hf_u J a i x) c b k = hf_fv w g I J c b k := fun c k => by rw [hf_fv, hf_fv, hf_u_ne h]
  rw [hf_pv, hf_pv, hf_u_ne h]
  simp only [show hf_fv w g I (hf_u J a i x) (hf_k g b).2 b = hf_fv w g I J (hf_k g b).2 b from funext fun k => e _ k]
theorem hf_pv_R {a b i : Nat} {x : Option Nat} (h : b ≠ a) : hf_pv w (hf_sr g a i x) I J b = hf_pv w g I J b := by
  have e : hf_r (hf_sr g a i x) b = hf_r g b := hf_u_ne h
  have e2 : hf_k (hf_sr g a i x) = hf_k g := rfl
  have e3 : hf_fv w (hf_sr g a i x) I J (hf_k g b).2 b = hf_fv w g I J (hf_k g b).2 b := funext fun k => by rw [hf_fv, hf_fv, e]
  rw [hf_pv, hf_pv, e2, e, e3]
theorem hf_set_map {n k : Nat} {f f1 : Nat → Value} {v : Value} (hv : f1 k = v) (ho : ∀ j, j ≠ k → f1 j = f j) : ((List.range n).map f).set k v = (List.range n).map f1 := by
  apply List.ext_getElem?
  intro j
  by_cases h : j = k
  · subst h
    by_cases hj : j < n
    · rw [List.getElem?_set_self (by simp [hj])]
      simp [hj, hv]
    · rw [List.getElem?_eq_none (by simp; omega), List.getElem?_eq_none (by simp; omega)]
  · rw [List.getElem?_set_ne (fun q => h q.symm)]
    by_cases hj : j < n
    · simp [hj, ho j h]
    · rw [List.getElem?_eq_none (by simp; omega), List.getElem?_eq_none (by simp; omega)]
/-- what a field or a place of a row is told anew leaves true -/
theorem hf_HR.putI (h : hf_HR w g I J H) {a i : Nat} {x : Int32} (ha : (hf_k g a).1 ≤ 5) (hz : H.size ≤ H1.size) (hP : va_P (hf_D w) vwCl (hf_wl w g (hf_u I a i x) J) H1) : hf_HR w g (hf_u I a i x) J H1 := by
  obtain ⟨h1, h2, h3, h4, h5, h6, h7, -⟩ := h
  have n1 : a ≠ 1000001 := fun e => by rw [e, h4] at ha; have ha : 6 ≤ 5 := ha; omega
  have n2 : a ≠ 1000002 := fun e => by rw [e, h5] at ha; have ha : 6 ≤ 5 := ha; omega
  exact ⟨⟨h1.1, Nat.le_trans h1.2 hz⟩, h2, h3, h4, h5, fun j => by rw [hf_u_ne (fun e => n1 e.symm)]; exact h6 j, fun j => by rw [hf_u_ne (fun e => n2 e.symm)]; exact h7 j, hP⟩
theorem hf_HR.putJ (h : hf_HR w g I J H) {J1 : hf_J} (hz : H.size ≤ H1.size) (hP : va_P (hf_D w) vwCl (hf_wl w g I J1) H1) : hf_HR w g I J1 H1 := by
  obtain ⟨h1, h2, h3, h4, h5, h6, h7, -⟩ := h
  exact ⟨⟨h1.1, Nat.le_trans h1.2 hz⟩, h2, h3, h4, h5, h6, h7, hP⟩
theorem hf_HR.putR (h : hf_HR w g I J H) {a i : Nat} {x : Option Nat} (hz : H.size ≤ H1.size) (hP : va_P (hf_D w) vwCl (hf_wl w (hf_sr g a i x) I J) H1) : hf_HR w (hf_sr g a i x) I J H1 := by
  obtain ⟨h1, h2, h3, h4, h5, h6, h7, -⟩ := h
  exact ⟨⟨h1.1, Nat.le_trans h1.2 hz⟩, h2, h3, h4, h5, h6, h7, hP⟩
theorem hf_HR.lt (h : hf_HR w g I J H) {a : Nat} (ha : (hf_k g a).1 ≤ 5) : a < hf_n g := h.2.1 a ha
theorem hf_HR.ad (h : hf_HR w g I J H) {a : Nat} (ha : (hf_k g a).1 ≤ 5) : hf_ad w a = hf_Z w + a := hf_ad_lt (by have := h.lt ha; have := h.1.1; omega)
theorem hf_HR.P (h : hf_HR w g I J H) : va_P (hf_D w) vwCl (hf_wl w g I J) H := h.2.2.2.2.2.2.2
theorem hf_HR.size (h : hf_HR w g I J H) : hf_Z w + hf_n g ≤ H.size := h.1.2
theorem hf_HR.new (h : hf_HR w g I J H) {kd : Nat × Nat} {ns : Nat} (hn : hf_n g < 1000000) (hk : kd.1 ≠ 6) (hz : hf_Z w + hf_n g + 1 ≤ H1.size) (hP : va_P (hf_D w) vwCl (hf_wl w (hf_mk g kd ns) (hf_w I (hf_n g) (fun _ => 0)) (hf_w J (hf_n g) (fun _ => 0))) H1) :
    hf_HR w (hf_mk g kd ns) (hf_w I (hf_n g) (fun _ => 0)) (hf_w J (hf_n g) (fun _ => 0)) H1 := by
  obtain ⟨h1, h2, h3, h4, h5, h6, h7, -⟩ := h
  have ek : ∀ a, hf_k (hf_mk g kd ns) a = if a = hf_n g then kd else hf_k g a := fun a => rfl
  have en : hf_n (hf_mk g kd ns) = hf_n g + 1 := rfl
  have z1 : 1000001 ≠ hf_n g := by omega
  have z2 : 1000002 ≠ hf_n g := by omega
  refine ⟨⟨by rw [en]; omega, by rw [en]; omega⟩, fun a ha => ?_, fun a ha => ?_, by rw [ek, if_neg z1]; exact h4, by rw [ek, if_neg z2]; exact h5, fun j => by rw [hf_w_ne z1]; exact h6 j, fun j => by rw [hf_w_ne z2]; exact h7 j, hP⟩
  · rw [ek] at ha
    rw [en]
    by_cases e : a = hf_n g
    · omega
    · rw [if_neg e] at ha
      have := h2 a ha
      omega
  · rw [ek] at ha
    by_cases e : a = hf_n g
    · rw [if_pos e] at ha
      exact absurd ha hk
    · rw [if_neg e] at ha
      exact h3 a ha
theorem hf_pv_mk {kd : Nat × Nat} {ns b : Nat} (h : b < hf_n g) : hf_pv w (hf_mk g kd ns) (hf_w I (hf_n g) (fun _ => 0)) (hf_w J (hf_n g) (fun _ => 0)) b = hf_pv w g I J b := by
  have hb : b ≠ hf_n g := by omega
  have e : hf_r (hf_mk g kd ns) b = hf_r g b := hf_w_ne hb
  have e2 : hf_k (hf_mk g kd ns) b = hf_k g b := if_neg hb
  have e3 : hf_fv w (hf_mk g kd ns) (hf_w I (hf_n g) (fun _ => 0)) (hf_w J (hf_n g) (fun _ => 0)) (hf_k g b).2 b = hf_fv w g I J (hf_k g b).2 b := funext fun k => by rw [hf_fv, hf_fv, e, hf_w_ne hb, hf_w_ne hb]
  rw [hf_pv, hf_pv, e2, e, e3, hf_w_ne hb, hf_w_ne hb]
theorem hf_HR.th (h : hf_HR w g I J H) (hz : H.size + 1 ≤ H1.size) (hP : ∀ q : Nat, q < H.size → H1[q]? = H[q]?) : hf_HR w (hf_th g) I J H1 := by
  obtain ⟨h1, h2, h3, h4, h5, h6, h7, h8⟩ := h
  have en : hf_n (hf_th g) = if hf_n g < 1000000 then hf_n g + 1 else hf_n g := rfl
  have en2 : hf_n g ≤ hf_n (hf_th g) ∧ hf_n (hf_th g) ≤ hf_n g + 1 ∧ hf_n (hf_th g) ≤ 1000000 := by
    rw [en]
    split <;> omega
  refine ⟨⟨en2.2.2, by omega⟩, fun a ha => Nat.lt_of_lt_of_le (h2 a ha) en2.1, h3, h4, h5, h6, h7, ?_⟩
  rw [hf_wl_th h2]
  exact va_P.kept (ws := hf_wl w g I J) h8 (fun k q hq => hP _ (va_at.lt (h8 k q hq)))
end
