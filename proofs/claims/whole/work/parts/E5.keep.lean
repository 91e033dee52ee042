/-! ===== the invariant is kept: one place, moves, learning ===== -/
theorem gRf_cg {g g' : Nat → Int64} {f f' : Nat} (e : ∀ k, k < 51 → g' (58 + 51 * f' + k) = g (58 + 51 * f + k)) (e0 : gN g' 0 = gN g 0) (e4 : gN g 4 ≤ gN g' 4) (hk : gN g (58 + 51 * f + 4) ≤ 24) (h : gRf g f) : gRf g' f' := by
  have ei : ∀ k, k < 51 → gf g' f' k = gf g f k := fun k hk => (congrArg Int64.toInt32) (e k hk)
  have E4 : gN g' (58 + 51 * f' + 4) = gN g (58 + 51 * f + 4) := congrArg Int32.toNatClampNeg (ei 4 (by omega))
  have es : ∀ j, j < 12 → gs g' f' j = gs g f j := fun j hj => (congrArg Int64.toInt32) (by have := e (14 + j) (by omega); rw [← Nat.add_assoc, ← Nat.add_assoc] at this; exact this)
  have eu : ∀ j, j < 24 → gu g' f' j = gu g f j := fun j hj => (congrArg Int64.toInt32) (by have := e (26 + j) (by omega); rw [← Nat.add_assoc, ← Nat.add_assoc] at this; exact this)
  obtain ⟨h1, h2, h3, h4, h5, h6⟩ := h
  refine ⟨by rw [ei 0 (by omega)]; exact h1, by rw [ei 2 (by omega)]; exact h2, by rw [ei 3 (by omega)]; exact h3, by rw [E4]; omega, fun j hj => ?_, fun j hj => ?_⟩
  · rw [es j hj, e0]; exact h5 j hj
  · rw [E4] at hj
    rw [eu j (by omega)]
    exact h6 j hj
theorem gRt_cg {g g' : Nat → Int64} {t : Nat} (e : ∀ k, k < 5 → g' (6 + 13 * t + k) = g (6 + 13 * t + k)) (h : gRt g t) : gRt g' t := by
  have ei : ∀ k, k < 5 → gt g' t k = gt g t k := fun k hk => its_eq (e k hk)
  exact ⟨by rw [ei 0 (by omega)]; exact h.1, fun k h1 h5 => by rw [ei k h5]; exact h.2 k h1 h5⟩
theorem gIp_w {g : Nat → Int64} {k : Nat} {v : Int64} (h : gIp g) (hv : isI v) : gIp (zwL g k v) := by
  intro j hj hj2
  show isI (zwL g k v j)
  by_cases q : j = k
  · rw [q, zwL_e]; exact hv
  · rw [zwL_n q]; exact h j hj hj2
theorem gIp_wo {g : Nat → Int64} {k : Nat} {v : Int64} (h : gIp g) (hk : 1378 ≤ k ∨ ∃ f, f < 20 ∧ k = 58 + 51 * f + 50) : gIp (zwL g k v) := by
  intro j hj hj2
  show isI (zwL g k v j)
  rw [zwL_n (by
    rintro rfl
    rcases hk with q | ⟨f, hf, q⟩
    · omega
    · exact hj2 f hf q)]
  exact h j hj hj2
/-- what differs only behind the moves -/
theorem gInv_lo {g g' : Nat → Int64} (h : gInv g) (e : ∀ k, k < 1378 → g' k = g k) : gInv g' := by
  obtain ⟨hb, hi, hT, hF, hr, h0⟩ := h
  have h4 := hb.2.1.2
  have h20 := hb.2.2.1.2
  have eN : ∀ k, k < 1378 → gN g' k = gN g k := fun k hk => gN_eq (e k hk)
  refine ⟨hb.tier (fun k _ hk => e k hk), fun k hk hk2 => ?_, fun t ht => ?_, fun f hf => ?_, ⟨by rw [its_eq (e 1 (by omega))]; exact hr.1, fun t ht => ?_, fun f hf => ?_⟩, by rw [eN 2 (by omega)]; exact h0⟩
  · show isI (g' k)
    rw [e k hk]; exact hi k hk hk2
  · rw [eN 2 (by omega)] at ht
    obtain ⟨m, m0, hm⟩ := hT t ht
    exact ⟨m, m0, gNm_eq (g := g) (fun k hk => e _ (by omega)) hm⟩
  · rw [eN 3 (by omega)] at hf
    obtain ⟨m, hm⟩ := hF f hf
    exact ⟨m, gNm_eq (g := g) (fun k hk => e _ (by omega)) hm⟩
  · rw [eN 2 (by omega)] at ht
    exact gRt_cg (fun k hk => e _ (by omega)) (hr.2.1 t ht)
  · rw [eN 3 (by omega)] at hf
    exact gRf_cg (fun k hk => e _ (by omega)) (eN 0 (by omega)) (by rw [eN 4 (by omega)]; exact Nat.le_refl _) (hb.keL hf) (hr.2.2 f hf)
/-- one place of a file's row -/
theorem gInv_fj {g : Nat → Int64} {f j : Nat} {v : Int32} (h : gInv g) (hf : f < gN g 3) (hj : j = 1 ∨ j = 2 ∨ j = 3) (h1 : j = 1 → ∃ t, t < gN g 2 ∧ v = nI t) (h2 : ¬ j = 1 → nLe v 0 9999) : gInv (zwL g (58 + 51 * f + j) v.toInt64) := by
  obtain ⟨hb, hi, hT, hF, hr, h0⟩ := h
  have h4 := hb.2.1.2
  have h20 := hb.2.2.1.2
  have en : ∀ k, k ≠ 58 + 51 * f + j → zwL g (58 + 51 * f + j) v.toInt64 k = g k := fun k hk => zwL_n hk
  have eN : ∀ k, k < 58 → gN (zwL g (58 + 51 * f + j) v.toInt64) k = gN g k := fun k hk => gN_eq (en k (by omega))
  refine ⟨?_, gIp_w hi (isI_of v), fun t ht => ?_, fun f' hf' => ?_, ⟨by rw [its_eq (en 1 (by omega))]; exact hr.1, fun t ht => ?_, fun f' hf' => ?_⟩, by rw [eN 2 (by omega)]; exact h0⟩
  · by_cases q : j = 1
    · obtain ⟨t, ht, e⟩ := h1 q
      rw [q, e]
      exact hb.home hf ht
    · exact hb.f1 (by omega) (by omega) q (by omega)
  · rw [eN 2 (by omega)] at ht
    obtain ⟨m, m0, hm⟩ := hT t ht
    exact ⟨m, m0, gNm_eq (g := g) (fun k hk => en _ (by omega)) hm⟩
  · rw [eN 3 (by omega)] at hf'
    obtain ⟨m, hm⟩ := hF f' hf'
    exact ⟨m, gNm_eq (g := g) (fun k hk => en _ (by omega)) hm⟩
  · rw [eN 2 (by omega)] at ht
    exact gRt_cg (fun k hk => en _ (by omega)) (hr.2.1 t ht)
  · rw [eN 3 (by omega)] at hf'
    by_cases q : f' = f
    · subst q
      have a := hr.2.2 f' hf'
      have ei : ∀ k, k < 51 → k ≠ j → gf (zwL g (58 + 51 * f' + j) v.toInt64) f' k = gf g f' k := fun k hk hkj => its_eq (en _ (by omega))
      have ej : gf (zwL g (58 + 51 * f' + j) v.toInt64) f' j = v := its_e2.trans (i64 v)
      have E4 : gN (zwL g (58 + 51 * f' + j) v.toInt64) (58 + 51 * f' + 4) = gN g (58 + 51 * f' + 4) := gN_eq (en _ (by omega))
      have es : ∀ i, i < 12 → gs (zwL g (58 + 51 * f' + j) v.toInt64) f' i = gs g f' i := fun i hi9 => its_eq (en _ (by omega))
      have eu : ∀ i, gu (zwL g (58 + 51 * f' + j) v.toInt64) f' i = gu g f' i := fun i => its_eq (en _ (by omega))
      refine ⟨by rw [ei 0 (by omega) (by omega)]; exact a.1, ?_, ?_, by rw [E4, eN 4 (by omega)]; exact a.2.2.2.1, fun i hi9 => by rw [es i hi9, eN 0 (by omega)]; exact a.2.2.2.2.1 i hi9, fun i hi9 => by rw [E4] at hi9; rw [eu i]; exact a.2.2.2.2.2 i hi9⟩
      · by_cases q2 : j = 2
        · rw [← q2, ej]; exact h2 (by omega)
        · rw [ei 2 (by omega) (by omega)]; exact a.2.1
      · by_cases q3 : j = 3
        · rw [← q3, ej]; exact h2 (by omega)
        · rw [ei 3 (by omega) (by omega)]; exact a.2.2.1
    · exact gRf_cg (fun k hk => en _ (by omega)) (eN 0 (by omega)) (by rw [eN 4 (by omega)]; exact Nat.le_refl _) (hb.keL hf') (hr.2.2 f' hf')
/-- the moves change -/
theorem gInv_mv {g g' : Nat → Int64} (h : gInv g) (hb' : gBd g') (e : ∀ k, k ≠ 5 → k < 1078 → g' k = g k) (hi' : ∀ k, k < 1378 → (k = 5 ∨ 1078 ≤ k) → isI (g' k)) : gInv g' := by
  obtain ⟨hb, hi, hT, hF, hr, h0⟩ := h
  have h4 := hb.2.1.2
  have h20 := hb.2.2.1.2
  have eN : ∀ k, k ≠ 5 → k < 1078 → gN g' k = gN g k := fun k h5 hk => gN_eq (e k h5 hk)
  refine ⟨hb', fun k hk hk2 => ?_, fun t ht => ?_, fun f hf => ?_, ⟨by rw [its_eq (e 1 (by omega) (by omega))]; exact hr.1, fun t ht => ?_, fun f hf => ?_⟩, by rw [eN 2 (by omega) (by omega)]; exact h0⟩
  · by_cases q : k = 5 ∨ 1078 ≤ k
    · exact hi' k hk q
    · show isI (g' k)
      rw [e k (by omega) (by omega)]; exact hi k hk hk2
  · rw [eN 2 (by omega) (by omega)] at ht
    obtain ⟨m, m0, hm⟩ := hT t ht
    exact ⟨m, m0, gNm_eq (g := g) (fun k hk => e _ (by omega) (by omega)) hm⟩
  · rw [eN 3 (by omega) (by omega)] at hf
    obtain ⟨m, hm⟩ := hF f hf
    exact ⟨m, gNm_eq (g := g) (fun k hk => e _ (by omega) (by omega)) hm⟩
  · rw [eN 2 (by omega) (by omega)] at ht
    exact gRt_cg (fun k hk => e _ (by omega) (by omega)) (hr.2.1 t ht)
  · rw [eN 3 (by omega) (by omega)] at hf
    exact gRf_cg (fun k hk => e _ (by omega) (by omega)) (eN 0 (by omega) (by omega)) (by rw [eN 4 (by omega) (by omega)]; exact Nat.le_refl _) (hb.keL hf) (hr.2.2 f hf)
theorem gBd_5 {g : Nat → Int64} {n : Nat} (h : gBd g) (hn : n ≤ gN g 5) : gBd (zwL g 5 (nI n).toInt64) := by
  have h60 := h.2.2.2.2.1.2
  refine h.moves (fun k h5 _ => zwL_n h5) ⟨?_, ?_⟩ ?_
  · rw [gN_e (by omega)]
    exact its_e2.trans (i64 _)
  · rw [gN_e (by omega)]; omega
  · intro w hw
    rw [gN_e (by omega)] at hw
    have a := h.2.2.2.2.2.2 w (by omega)
    have e : ∀ k, zwL g 5 (nI n).toInt64 (1078 + 5 * w + k) = g (1078 + 5 * w + k) := fun k => zwL_n (by omega)
    rw [show gm (zwL g 5 (nI n).toInt64) w 0 = gm g w 0 from its_eq (e 0), show gm (zwL g 5 (nI n).toInt64) w 1 = gm g w 1 from its_eq (e 1), show gm (zwL g 5 (nI n).toInt64) w 2 = gm g w 2 from its_eq (e 2), gN_eq (e 0), gN_eq (e 1), gN_eq (e 2)]
    exact a
theorem isI_put1 {g : Nat → Int64} {n k : Nat} {f fr to oc ic : Int32} (h : isI (g k)) : isI (oPut1 g n f fr to oc ic k) := by
  have w : ∀ (u : Nat → Int64) (j : Nat) (x : Int32), isI (u k) → isI (zwL u j x.toInt64 k) := fun u j x hu => by
    by_cases q : k = j
    · rw [q, zwL_e]; exact isI_of x
    · rw [zwL_n q]; exact hu
  unfold oPut1
  exact w _ _ _ (w _ _ _ (w _ _ _ (w _ _ _ (w _ _ _ (w _ _ _ h)))))
theorem isI_put {g : Nat → Int64} {k : Nat} {f fr to oc ic : Int32} (h : gIp g) (hk : k < 1378) (hk2 : k = 5 ∨ 1078 ≤ k) : isI (oPut g f fr to oc ic k) := by
  have i0 : ∀ k, k < 1378 → (k = 5 ∨ 1078 ≤ k) → isI (g k) := fun k h1 h2 => h k h1 (fun f hf => by omega)
  unfold oPut
  split
  · refine isI_put1 ?_
    unfold oMsh
    by_cases q : k = 5
    · rw [q, zwL_e]; exact isI_of _
    · rw [zwL_n q]
      show isI (if 1078 ≤ k ∧ k < 1373 then g (k + 5) else g k)
      split
      · exact i0 _ (by omega) (by omega)
      · exact i0 _ hk hk2
  · exact isI_put1 (i0 k hk hk2)
theorem gInv_put {g : Nat → Int64} {f a b : Nat} {oc ic : Int32} (h : gInv g) (hf : f < gN g 3) (ha : a < gN g 2) (hb : b < gN g 2) : gInv (oPut g (nI f) (nI a) (nI b) oc ic) :=
  gInv_mv h (h.1.put hf ha hb) (fun k h5 hk => oPut_n h.1.2.2.2.2.1.2 h5 (by omega)) (fun k hk hk2 => isI_put h.2.1 hk hk2)
theorem gInv_pays {g : Nat → Int64} {t k : Nat} {x : Int64} (h : gInv g) : gInv (oPays g t k x) := gInv_lo h (fun j hj => oPays_n (by omega))
theorem gInv_go {g : Nat → Int64} {f t : Nat} (h : gInv g) (hf : f < gN g 3) (ht : t < gN g 2) : gInv (oGo g f t) := by
  have on := h.1.onL hf
  have h1 : gInv (zwL g (58 + 51 * f + 1) (nI t).toInt64) := gInv_fj h hf (Or.inl rfl) (fun _ => ⟨t, ht, rfl⟩) (fun q => absurd rfl q)
  have h3 := gInv_pays (t := t) (k := 2) (x := (oInc g f t).toInt64) (gInv_pays (t := gN g (58 + 51 * f + 1)) (k := 2) (x := (oOut g f).toInt64) h1)
  have e : ∀ k, k < 58 → oPays (oPays (zwL g (58 + 51 * f + 1) (nI t).toInt64) (gN g (58 + 51 * f + 1)) 2 (oOut g f).toInt64) t 2 (oInc g f t).toInt64 k = g k := fun k hk => by
    rw [oPays_n (by omega), oPays_n (by omega), zwL_n (by omega)]
  unfold oGo
  exact gInv_put h3 (by rw [gN_eq (e 3 (by omega))]; exact hf) (by rw [gN_eq (e 2 (by omega))]; exact on) (by rw [gN_eq (e 2 (by omega))]; exact ht)
theorem gInv_5 {g : Nat → Int64} {n : Nat} (h : gInv g) (hn : n ≤ gN g 5) : gInv (zwL g 5 (nI n).toInt64) := by
  refine gInv_mv h (gBd_5 h.1 hn) (fun k h5 _ => zwL_n h5) (fun k hk hk2 => ?_)
  by_cases q : k = 5
  · rw [q, zwL_e]; exact isI_of _
  · rw [zwL_n q]; exact h.2.1 k hk (fun f hf => by omega)
theorem gInv_bk {g : Nat → Int64} (h : gInv g) (h0 : 0 < gN g 5) : gInv (oBk g) := by
  have hF := (h.1.mF h0).2
  have hA := (h.1.mA h0).2
  have h1 : gInv (zwL g (58 + 51 * oLf g + 1) (nI (oLa g)).toInt64) := gInv_fj h hF (Or.inl rfl) (fun _ => ⟨_, hA, rfl⟩) (fun q => absurd rfl q)
  have h3 := gInv_pays (t := oLb g) (k := 2) (x := -(gm g (gN g 5 - 1) 4).toInt64) (gInv_pays (t := oLa g) (k := 2) (x := -(gm g (gN g 5 - 1) 3).toInt64) h1)
  unfold oBk
  refine gInv_5 h3 ?_
  have h60 := h.1.2.2.2.2.1.2
  have e5 : oPays (oPays (zwL g (58 + 51 * oLf g + 1) (nI (oLa g)).toInt64) (oLa g) 2 (-(gm g (gN g 5 - 1) 3).toInt64)) (oLb g) 2 (-(gm g (gN g 5 - 1) 4).toInt64) 5 = g 5 := (oPays_n (by omega)).trans ((oPays_n (by omega)).trans (zwL_n (by omega)))
  rw [gN_eq e5]
  omega
