/-! ONE STEP AT THE HEAP -/
theorem hf_cl_get {c : Nat} (h : c < 10) : vwCl[c]? = some (hf_cn c, hf_ct c, hf_nf c) := by
  match c, h with
  | 0, _ => rfl
  | 1, _ => rfl
  | 2, _ => rfl
  | 3, _ => rfl
  | 4, _ => rfl
  | 5, _ => rfl
  | 6, _ => rfl
  | 7, _ => rfl
  | 8, _ => rfl
  | 9, _ => rfl
  | n + 10, h => exact absurd h (by omega)
theorem hf_look {α β : Type} : ∀ {H : List α} {T : List (Nat × β)} {ix : Nat} {q : β}, H.length = T.length → T.lookup ix = some q → ∃ a, (a, (ix, q)) ∈ H.zip T
  | [], [], _, _, _, h => by simp at h
  | [], _ :: _, _, _, hl, _ => by simp at hl
  | _ :: _, [], _, _, hl, _ => by simp at hl
  | a :: H, (j, b) :: T, ix, q, hl, h => by
    rw [List.lookup_cons] at h
    by_cases e : ix = j
    · subst e
      simp at h
      subst h
      exact ⟨a, by simp⟩
    · have e2 : (ix == j) = false := by simp [e]
      rw [e2] at h
      obtain ⟨x, hx⟩ := hf_look (by simpa using hl) h
      exact ⟨x, by simp [hx]⟩
theorem hf_fl_ok {o ix : Nat} {q : Nat × Nat × Nat} (h : hf_fl o ix = some q) : ∃ a, hf_flok a o ix q.1 q.2.1 q.2.2 = true := by
  by_cases ho : o < 16
  · have h1 := List.all_eq_true.mp hf_fl_all o (List.mem_range.mpr ho)
    simp only [Bool.and_eq_true, decide_eq_true_eq] at h1
    obtain ⟨a, ha⟩ := hf_look h1.1 h
    exact ⟨a, List.all_eq_true.mp h1.2 _ ha⟩
  · have e : hf_flT o = [] := by
      unfold hf_flT
      split <;> first | rfl | omega
    rw [hf_fl, e] at h
    simp at h
theorem hf_ll_ok {o ix : Nat} {q : Int64} (h : hf_ll o ix = some q) : ∃ a, hf_llok a o ix q = true := by
  by_cases ho : o < 16
  · have h1 := List.all_eq_true.mp hf_ll_all o (List.mem_range.mpr ho)
    simp only [Bool.and_eq_true, decide_eq_true_eq] at h1
    obtain ⟨a, ha⟩ := hf_look h1.1 h
    exact ⟨a, List.all_eq_true.mp h1.2 _ ha⟩
  · have e : hf_llT o = [] := by
      unfold hf_llT
      split <;> first | rfl | omega
    rw [hf_ll, e] at h
    simp at h
theorem hf_il_ok {o ix : Nat} {q : Int32} (h : hf_il o ix = some q) : ∃ a, hf_ilok a o ix q = true := by
  by_cases ho : o < 16
  · have h1 := List.all_eq_true.mp hf_il_all o (List.mem_range.mpr ho)
    simp only [Bool.and_eq_true, decide_eq_true_eq] at h1
    obtain ⟨a, ha⟩ := hf_look h1.1 h
    exact ⟨a, List.all_eq_true.mp h1.2 _ ha⟩
  · have e : hf_ilT o = [] := by
      unfold hf_ilT
      split <;> first | rfl | omega
    rw [hf_il, e] at h
    simp at h
theorem hf_cl_ok {o ix q : Nat} (h : hf_cl o ix = some q) : ∃ a b, hf_clok a b o ix q = true := by
  by_cases ho : o < 16
  · have h1 := List.all_eq_true.mp hf_cl_all o (List.mem_range.mpr ho)
    simp only [Bool.and_eq_true, decide_eq_true_eq] at h1
    have h2 : ((hf_clG o).zip (hf_clT o)).length = (hf_clT o).length := by rw [List.length_zip, h1.1.2]; simp
    obtain ⟨a, ha⟩ := hf_look h1.1.1 h
    have key : ∀ (H G : List (Nat × Nat)) (T : List (Nat × Nat)) (z : Nat × Nat), H.length = T.length → G.length = T.length → (T.lookup z.1 = some z.2) → ∃ a b, (a, (b, z)) ∈ H.zip (G.zip T) := by
      intro H
      induction H with
      | nil => intro G T z h1 h2 h3; cases T with
        | nil => simp at h3
        | cons t T => simp at h1
      | cons x H ih => intro G T z h1 h2 h3; cases T with
        | nil => simp at h1
        | cons t T => cases G with
          | nil => simp at h2
          | cons y G =>
            obtain ⟨j, b⟩ := t
            obtain ⟨ix, q⟩ := z
            dsimp only at h3
            rw [List.lookup_cons] at h3
            by_cases e : ix = j
            · subst e
              simp at h3
              subst h3
              exact ⟨x, y, by simp⟩
            · have e2 : (ix == j) = false := by simp [e]
              rw [e2] at h3
              obtain ⟨a, b, hab⟩ := ih G T (ix, q) (by simpa using h1) (by simpa using h2) h3
              exact ⟨a, b, by simp [hab]⟩
    obtain ⟨a, b, hab⟩ := key _ _ _ (ix, q) h1.1.1 h1.1.2 h
    exact ⟨a, b, List.all_eq_true.mp h1.2 _ hab⟩
  · have e : hf_clT o = [] := by
      unfold hf_clT
      split <;> first | rfl | omega
    rw [hf_cl, e] at h
    simp at h
theorem hf_cok_of {c : Nat} (h : c < 10) : (∀ k, k < hf_nf c → hf_fok c k = true) ∧ (∀ a, a < hf_nf c → ∀ b, b < hf_nf c → a ≠ b → (hf_ct c a).2.1 ≠ (hf_ct c b).2.1) ∧ (∀ q ∈ u_ws (hf_cn c) (hf_ct c) (hf_nf c), q ∈ hf_ts) ∧ .initialized (hf_cn c) ∈ hf_ts := by
  have h1 := List.all_eq_true.mp hf_cok_all c (List.mem_range.mpr h)
  simp only [hf_cok, Bool.and_eq_true, decide_eq_true_eq] at h1
  obtain ⟨⟨⟨⟨h1, h2⟩, h3⟩, h4⟩, h5⟩ := h1
  refine ⟨fun k hk => List.all_eq_true.mp h1 k (List.mem_range.mpr hk), fun a ha b hb hab => ?_, fun q hq => ?_, hf_has_ts h5⟩
  · have := List.all_eq_true.mp (List.all_eq_true.mp h2 a (List.mem_range.mpr ha)) b (List.mem_range.mpr hb)
    simp only [Bool.or_eq_true, decide_eq_true_eq] at this
    exact this.resolve_left hab
  · obtain ⟨i, hi⟩ := List.getElem?_of_mem hq
    have hlt : i < (u_ws (hf_cn c) (hf_ct c) (hf_nf c)).length := (List.getElem?_eq_some_iff.mp hi).1
    have hlt2 : i < (hf_cH c).length := by rw [h3]; exact hlt
    have hm : ((hf_cH c)[i], q) ∈ (hf_cH c).zip (u_ws (hf_cn c) (hf_ct c) (hf_nf c)) := by
      refine List.mem_of_getElem? (i := i) ?_
      rw [List.getElem?_zip_eq_some]
      exact ⟨List.getElem?_eq_getElem hlt2, hi⟩
    exact hf_has_ts (List.all_eq_true.mp h4 _ hm)
theorem hf_fok_of {c k : Nat} (h : hf_fok c k = true) : (hf_ct c k).1 = hf_cn c ∧ parseFieldDescriptor (hf_ct c k).2.2.1 = some (hf_tyk c k) ∧
    ((hf_ft c k = 0 ∧ hf_tyk c k = .int ∧ (hf_ct c k).2.2.1 = "I") ∨ (hf_ft c k = 0 ∧ hf_tyk c k = .boolean) ∨ (hf_ft c k = 1 ∧ hf_tyk c k = .long) ∨ (hf_ft c k = 2 ∧ ((∃ n, hf_tyk c k = .object n) ∨ ∃ t, hf_tyk c k = .array t))) := by
  simp only [hf_fok, Bool.and_eq_true, decide_eq_true_eq] at h
  obtain ⟨⟨h1, h2⟩, h3⟩ := h
  refine ⟨h1, h2, ?_⟩
  split at h3
  · rename_i e1 e2; exact Or.inl ⟨e1, e2, by simpa using h3⟩
  · rename_i e1 e2; exact Or.inr (Or.inl ⟨e1, e2⟩)
  · rename_i e1 e2; exact Or.inr (Or.inr (Or.inl ⟨e1, e2⟩))
  · rename_i e1 e2; exact Or.inr (Or.inr (Or.inr ⟨e1, Or.inl ⟨_, e2⟩⟩))
  · rename_i e1 e2; exact Or.inr (Or.inr (Or.inr ⟨e1, Or.inr ⟨_, e2⟩⟩))
  · cases h3
section
variable {w : hf_W} {mi : Nat} {p : Program} {l : Launch} {e : Env} {R : Room} {s : State} {m : MethodId} {args : Array Value} {below : List Frame} {meth : Method} {c : Code}
variable {c0 s0 : Nat} {Q : State → Prop} {pc pc1 : Nat} {L L1 : hf_Lo} {st st1 r : List Value} {g g1 : hf_G} {I I1 : hf_I} {J J1 : hf_J} {H : Heap}
theorem hf_wl_obj (hH : hf_HR w g I J H) {a c : Nat} (hk : hf_k g a = (0, c)) : (hf_wl w g I J)[hf_ps g a]? = some (hf_ad w a, .inr (c, (List.range (hf_nf c)).map (hf_fv w g I J c a))) := by
  have h5 : (hf_k g a).1 ≤ 5 := by rw [hk]; exact Nat.zero_le 5
  rw [hf_wl_get (hH.lt h5) h5, hf_pv0 hk, hH.ad h5]
theorem hf_wl_2 (hH : hf_HR w g I J H) {a : Nat} (hk : (hf_k g a).1 = 2) : (hf_wl w g I J)[hf_ps g a]? = some (hf_ad w a, .inl (hf_cA w 2, (hf_k g a).2, .inl (I a))) := by
  have h5 : (hf_k g a).1 ≤ 5 := by rw [hk]; decide
  rw [hf_wl_get (hH.lt h5) h5, hf_pv2 hk, hH.ad h5]
theorem hf_wl_3 (hH : hf_HR w g I J H) {a : Nat} (hk : (hf_k g a).1 = 3) : (hf_wl w g I J)[hf_ps g a]? = some (hf_ad w a, .inl (hf_cA w 3, (hf_k g a).2, .inr (.inl (J a)))) := by
  have h5 : (hf_k g a).1 ≤ 5 := by rw [hk]; decide
  rw [hf_wl_get (hH.lt h5) h5, hf_pv3 hk, hH.ad h5]
theorem hf_wl_4 (hH : hf_HR w g I J H) {a : Nat} (hk : (hf_k g a).1 = 4) : (hf_wl w g I J)[hf_ps g a]? = some (hf_ad w a, .inl (hf_cA w 4, (hf_k g a).2, .inl (I a))) := by
  have h5 : (hf_k g a).1 ≤ 5 := by rw [hk]; decide
  rw [hf_wl_get (hH.lt h5) h5, hf_pv4 hk, hH.ad h5]
theorem hf_wl_5 (hH : hf_HR w g I J H) {a : Nat} (hk : (hf_k g a).1 = 5) : (hf_wl w g I J)[hf_ps g a]? = some (hf_ad w a, .inl (hf_cA w 5, (hf_k g a).2, .inr (.inr (.inr (.inr (fun j => (hf_r g a j).map (hf_ad w))))))) := by
  have h5 : (hf_k g a).1 ≤ 5 := by rw [hk]; decide
  rw [hf_wl_get (hH.lt h5) h5, hf_pv5 hk, hH.ad h5]
theorem hf_vp {i : Int32} {n : Nat} (h : hf_in i n = true) : vp_in i n := by
  unfold hf_in at h
  exact (of_decide_eq_true h : ¬ (i < 0 ∨ n ≤ i.toNatClampNeg))
theorem hl_gf {ix : Nat} (hC : hf_C w mi p l R s m args meth c) (hd : decode (hf_cd mi) pc = .ok (.getfield ix, 3)) (h : hf_gf (hf_fl (hf_oc mi) ix) (pc + 3) L st g I J = hf_nx pc1 L1 st1 g1 I1 J1)
    (k : hf_at w mi p l e R s m args below meth c c0 s0 Q pc1 L1 st1 g1 I1 J1) : hf_at w mi p l e R s m args below meth c c0 s0 Q pc L st g I J := by
  obtain ⟨hx0, hb, hr, hml, hown, hts, hlk, htab, hnm, hfr, hlo, hKW, hst⟩ := hC
  cases hq : hf_fl (hf_oc mi) ix with
  | none => rw [hq] at h; exact (hf_nn h).elim
  | some q =>
    obtain ⟨ci, fk, kd⟩ := q
    obtain ⟨hint, hok⟩ := hf_fl_ok hq
    rw [hq] at h
    unfold hf_gf at h
    split at h
    · rename_i c1 k1 kd1 a r1 e1
      cases e1
      split at h
      · rename_i hk
        obtain ⟨hk1, hk2⟩ := hk
        intro H locs ls cells slots hH hS hL hc hs hx
        simp only [hf_flok, Bool.and_eq_true, decide_eq_true_eq] at hok
        obtain ⟨⟨hc11, -⟩, hlink⟩ := hok
        obtain ⟨f1, f2, f3, f4⟩ := hf_cok_of hc11
        obtain ⟨g1', g2', g3'⟩ := hf_fok_of (f1 _ hk2)
        have he := hf_wl_obj (J := J) hH hk1
        have hv : ((List.range (hf_nf ci)).map (hf_fv w g I J ci a))[fk]? = some (hf_fv w g I J ci a fk) := by simp [hk2]
        have kk : W p l e R s m args below meth c H locs cells slots Q (F0 m (pc + 3) ls (hf_fv w g I J ci a fk :: r1.map (hf_tv w))) := by
          unfold hf_fv
          split at h
          · rename_i e0
            rw [e0]
            exact hf_cast h k H locs ls cells slots hH hS hL hc hs hx
          · rename_i e0
            rw [e0]
            exact hf_cast h k H locs ls cells slots hH hS hL hc hs hx
          · rename_i n0 n1
            split at h
            · rename_i x ex
              split
              · rename_i e0; exact absurd e0 n0
              · rename_i e0; exact absurd e0 n1
              · rw [ex]
                exact hf_cast h k H locs ls cells slots hH hS hL hc hs hx
            · exact (hf_nn h).elim
        by_cases hkd : kd = 0
        · rw [if_pos hkd] at hlink
          exact va_get hx0 hb hts f3 hown hKW.1 hH.P (hf_ps g a) he (hf_cl_get hc11) fk hk2 (hts _ (hf_has_ts hlink)) (fun x hx => by rw [← g1']; exact hx) hv hd kk
        · rw [if_neg hkd] at hlink
          exact va_getN hx0 hb hts f3 hown hKW.1 hH.P (hf_ps g a) he (hf_cl_get hc11) fk hk2 (va_Nw.use rfl (hKW.2.2.2.2.2.2.2.2.1 _ (hf_hasN_nw hlink))) (fun x hx => by rw [← g1']; exact hx) hv hd kk
      · exact (hf_nn h).elim
    · exact (hf_nn h).elim
theorem hl_pf {ix : Nat} (hC : hf_C w mi p l R s m args meth c) (hd : decode (hf_cd mi) pc = .ok (.putfield ix, 3)) (h : hf_pf mi (hf_fl (hf_oc mi) ix) (pc + 3) L st g I J = hf_nx pc1 L1 st1 g1 I1 J1)
    (k : hf_at w mi p l e R s m args below meth c c0 s0 Q pc1 L1 st1 g1 I1 J1) : hf_at w mi p l e R s m args below meth c c0 s0 Q pc L st g I J := by
  obtain ⟨hx0, hb, hr, hml, hown, hts, hlk, htab, hnm, hfr, hlo, hKW, hst⟩ := hC
  cases hq : hf_fl (hf_oc mi) ix with
  | none => rw [hq] at h; exact (hf_nn h).elim
  | some q =>
    obtain ⟨ci, fk, kd⟩ := q
    obtain ⟨hint, hok⟩ := hf_fl_ok hq
    rw [hq] at h
    unfold hf_pf at h
    split at h
    · rename_i c1 k1 kd1 v a r1 e1
      cases e1
      split at h
      · rename_i hk
        obtain ⟨hk1, hk2, hk3⟩ := hk
        intro H locs ls cells slots hH hS hL hc hs hx
        simp only [hf_flok, Bool.and_eq_true, decide_eq_true_eq] at hok
        obtain ⟨⟨hc11, -⟩, hlink⟩ := hok
        obtain ⟨f1, f2, f3, f4⟩ := hf_cok_of hc11
        obtain ⟨g1', g2', g3'⟩ := hf_fok_of (f1 _ hk2)
        have he := hf_wl_obj (J := J) hH hk1
        have ha5 : (hf_k g a).1 ≤ 5 := by rw [hk1]; exact Nat.zero_le 5
        have hln : fk < ((List.range (hf_nf ci)).map (hf_fv w g I J ci a)).length := by simp [hk2]
        have hty : ∀ k, k < hf_nf ci → parseFieldDescriptor (hf_ct ci k).2.2.1 = some (hf_tyk ci k) := fun k hk => (hf_fok_of (f1 k hk)).2.1
        have core : ∀ (x : Value), x = hf_tv w v → narrow (hf_tyk ci fk) x = x → fits (hf_tyk ci fk) x = true →
            (∀ (H1 : Heap) (locs1 : List Loc), va_P (hf_D w) vwCl ((hf_wl w g I J).set (hf_ps g a) (hf_ad w a, .inr (ci, ((List.range (hf_nf ci)).map (hf_fv w g I J ci a)).set fk x))) H1 → va_S (hf_A w) H H1 locs1 →
              W p l e R s m args below meth c H1 locs1 cells slots Q (F0 m (pc + 3) ls (r1.map (hf_tv w)))) → W p l e R s m args below meth c H locs cells slots Q (F0 m pc ls ((v :: .ref a :: r1).map (hf_tv w))) := by
          intro x hxv hn hf kk
          subst hxv
          by_cases hfi : (hf_ct ci fk).2.2.2 = true
          · obtain ⟨i1, i2, i3⟩ := hk3 hfi
            rw [if_pos i3] at hlink
            exact va_putF hx0 hb hts f3 (hf_tyk ci) hty f2 hown hKW.1 hH.P hf_wl_D (hf_self hS) (hf_ps g a) he (hf_cl_get hc11) fk hk2 (hts _ (hf_has_ts hlink)) (fun x hx => by rw [← g1']; exact hx) hfi (by rw [hnm]; exact i1) i2 g2' hn hf hln hd (fun H1 locs1 hP1 _ hS1 => kk H1 locs1 hP1 hS1)
          · have hfi : (hf_ct ci fk).2.2.2 = false := by simpa using hfi
            by_cases hkd : kd = 0
            · rw [if_pos hkd] at hlink
              exact va_put hx0 hb hts f3 (hf_tyk ci) hty f2 hown hKW.1 hH.P hf_wl_D (hf_self hS) (hf_ps g a) he (hf_cl_get hc11) fk hk2 (hts _ (hf_has_ts hlink)) (fun x hx => by rw [← g1']; exact hx) hfi g2' hn hf hln hd (fun H1 locs1 hP1 _ hS1 => kk H1 locs1 hP1 hS1)
            · rw [if_neg hkd] at hlink
              exact va_putN hx0 hb hts f3 (hf_tyk ci) hty f2 hown hKW.1 hH.P hf_wl_D (hf_self hS) (hf_ps g a) he (hf_cl_get hc11) fk hk2 (va_Nw.use rfl (hKW.2.2.2.2.2.2.2.2.1 _ (hf_hasN_nw hlink))) (fun x hx => by rw [← g1']; exact hx) hfi g2' hn hf hln hd (fun H1 locs1 hP1 _ hS1 => kk H1 locs1 hP1 hS1)
        have hada : hf_ad w a = hf_Z w + a := hH.ad ha5
        have hlta : a < hf_n g := hH.lt ha5
        split at h
        · rename_i x e0
          split at h
          · rename_i eI
            have hty0 : hf_tyk ci fk = .int := by
              have : parseFieldDescriptor "I" = some (hf_tyk ci fk) := by rw [← eI]; exact g2'
              have e9 : parseFieldDescriptor "I" = some .int := by decide +kernel
              rw [e9] at this
              exact (Option.some.inj this).symm
            refine core (.int x) rfl (by rw [hty0]; rfl) (by rw [hty0]; rfl) (fun H1 locs1 hP1 hS1 => hf_cast h k H1 locs1 ls cells slots ?_ (hf_back hS hS1) hL hc hs hx)
            refine hH.putI ha5 hS1.1 ?_
            rw [hada] at hP1
            rw [hf_wl_set (g1 := g) (I1 := hf_u I a fk x) (J1 := J) rfl rfl hlta ha5 ?_ (fun j hj => hf_pv_I hj)] at hP1
            · exact hP1
            · rw [hf_pv0 hk1]
              congr 2
              refine (hf_set_map ?_ fun j hj => ?_).symm
              · rw [hf_fv, e0]; simp [hf_u]
              · rw [hf_fv, hf_fv]; simp [hf_u, hj]
          · exact (hf_nn h).elim
        · rename_i x e0
          have hty0 : hf_tyk ci fk = .long := by
            rcases g3' with ⟨z, -⟩ | ⟨z, -⟩ | ⟨-, z⟩ | ⟨z, -⟩
            · rw [e0] at z; cases z
            · rw [e0] at z; cases z
            · exact z
            · rw [e0] at z; cases z
          refine core (.long x) rfl (by rw [hty0]; rfl) (by rw [hty0]; rfl) (fun H1 locs1 hP1 hS1 => hf_cast h k H1 locs1 ls cells slots ?_ (hf_back hS hS1) hL hc hs hx)
          refine hH.putJ hS1.1 ?_
          rw [hada] at hP1
          rw [hf_wl_set (g1 := g) (I1 := I) (J1 := hf_u J a fk x) rfl rfl hlta ha5 ?_ (fun j hj => hf_pv_J hj)] at hP1
          · exact hP1
          · rw [hf_pv0 hk1]
            congr 2
            refine (hf_set_map ?_ fun j hj => ?_).symm
            · rw [hf_fv, e0]; simp [hf_u]
            · rw [hf_fv, hf_fv]; simp [hf_u, hj]
        · rename_i x e0
          have hty0 : (∃ n, hf_tyk ci fk = .object n) ∨ ∃ t, hf_tyk ci fk = .array t := by
            rcases g3' with ⟨z, -⟩ | ⟨z, -⟩ | ⟨z, -⟩ | ⟨-, z⟩
            · rw [e0] at z; cases z
            · rw [e0] at z; cases z
            · rw [e0] at z; cases z
            · exact z
          refine core (.ref (hf_ad w x)) rfl (by rcases hty0 with ⟨n, z⟩ | ⟨n, z⟩ <;> rw [z] <;> rfl) (by rcases hty0 with ⟨n, z⟩ | ⟨n, z⟩ <;> rw [z] <;> rfl) (fun H1 locs1 hP1 hS1 => hf_cast h k H1 locs1 ls cells slots ?_ (hf_back hS hS1) hL hc hs hx)
          refine hH.putR hS1.1 ?_
          rw [hada] at hP1
          rw [hf_wl_set (g := g) (g1 := hf_sr g a fk (some x)) (I1 := I) (J1 := J) rfl rfl hlta ha5 ?_ (fun j hj => hf_pv_R hj)] at hP1
          · exact hP1
          · have hk1' : hf_k (hf_sr g a fk (some x)) a = (0, ci) := hk1
            rw [hf_pv0 hk1']
            congr 2
            refine (hf_set_map ?_ fun j hj => ?_).symm
            · rw [hf_fv, e0]; simp [hf_u, hf_sr, hf_r, va_rf]
            · rw [hf_fv, hf_fv]; simp [hf_u, hf_sr, hf_r, hj]
        · exact (hf_nn h).elim
      · exact (hf_nn h).elim
    · exact (hf_nn h).elim
end
