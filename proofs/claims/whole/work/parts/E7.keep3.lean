/-! ===== the invariant is kept: a file more, a period's end ===== -/
theorem add_row {g : Nat → Int64} {n t : Nat} {u : Int32} {v : Int64} (hn : n < 20) : zwL (zwL (zwL (oB0 g n) (58 + 51 * n + 0) u.toInt64) (58 + 51 * n + 1) (nI t).toInt64) 3 v = zwL (oStart g n (fun _ => 0) u (nI t) (nI 0)) 3 v := by
  funext k
  by_cases q3 : k = 3
  · rw [q3, zwL_e, zwL_e]
  · rw [zwL_n q3, zwL_n q3]
    unfold oStart
    by_cases qf : 58 + 51 * n ≤ k ∧ k < 58 + 51 * n + 51
    · rw [if_pos qf]
      by_cases a0 : k = 58 + 51 * n + 0
      · rw [if_pos a0, a0, zwL_n (by omega), zwL_e]
      · rw [if_neg a0]
        by_cases a1 : k = 58 + 51 * n + 1
        · rw [if_pos a1, a1, zwL_e]
        · rw [if_neg a1, zwL_n a1, zwL_n a0]
          have eB : oB0 g n k = if 58 + 51 * n + 14 ≤ k ∧ k < 58 + 51 * n + 26 then (-1 : Int32).toInt64 else 0 := by
            show oFoN (oZeN g n 51) n 12 k = _
            unfold oFoN oZeN
            by_cases a9 : 58 + 51 * n + 14 ≤ k ∧ k < 58 + 51 * n + 26
            · rw [if_pos a9, if_pos (show 58 + 51 * n + 14 ≤ k ∧ k < 58 + 51 * n + 14 + 12 by omega)]
            · rw [if_neg a9, if_neg (show ¬ (58 + 51 * n + 14 ≤ k ∧ k < 58 + 51 * n + 14 + 12) by omega), if_pos qf]
              rfl
          rw [eB]
          by_cases a3 : k = 58 + 51 * n + 3
          · rw [if_pos a3, if_neg (by omega)]
            decide
          · rw [if_neg a3]
            by_cases an : 58 + 51 * n + 6 ≤ k ∧ k < 58 + 51 * n + 14
            · rw [if_pos an, if_neg (by omega)]
            · rw [if_neg an]
    · rw [if_neg qf, zwL_n (by omega), zwL_n (by omega), oB0_n (by omega)]
theorem gInv_add {g : Nat → Int64} {t : Nat} {u : Int32} (h : gInv g) (hn : gN g 3 < 20) (ht : t < gN g 2) (hu : nLe u 1 999) : gInv (zwL (oStart g (gN g 3) (fun _ => 0) u (nI t) (nI 0)) 3 (nI (gN g 3 + 1)).toInt64) := by
  obtain ⟨hb, hi, hT, hF, hr, h2⟩ := h
  have h4 := hb.2.1.2
  have eS : ∀ k, (k < 58 + 51 * gN g 3 ∨ 58 + 51 * gN g 3 + 51 ≤ k) → oStart g (gN g 3) (fun _ => 0) u (nI t) (nI 0) k = g k := fun k q => if_neg (by omega)
  have hbS : gBd (oStart g (gN g 3) (fun _ => 0) u (nI t) (nI 0)) := hb.fresh hn (Nat.le_refl _) eS
  have s3 : gN (oStart g (gN g 3) (fun _ => 0) u (nI t) (nI 0)) 3 = gN g 3 := gN_eq (eS 3 (by omega))
  have s2 : gN (oStart g (gN g 3) (fun _ => 0) u (nI t) (nI 0)) 2 = gN g 2 := gN_eq (eS 2 (by omega))
  have eI0 : ∀ j, j < 51 → oStart g (gN g 3) (fun _ => 0) u (nI t) (nI 0) (58 + 51 * gN g 3 + j) = (if j = 0 then u.toInt64 else if j = 1 then (nI t).toInt64 else if j = 3 then (nI 0).toInt64 else if 6 ≤ j ∧ j < 14 then 0 else if 14 ≤ j ∧ j < 26 then (-1 : Int32).toInt64 else 0) := fun j hj => by
    unfold oStart
    rw [if_pos (by omega)]
    by_cases j0 : j = 0
    · rw [if_pos (by omega), if_pos j0]
    · rw [if_neg (by omega), if_neg j0]
      by_cases j1 : j = 1
      · rw [if_pos (by omega), if_pos j1]
      · rw [if_neg (by omega), if_neg j1]
        by_cases j3 : j = 3
        · rw [if_pos (by omega), if_pos j3]
        · rw [if_neg (by omega), if_neg j3]
          by_cases j6 : 6 ≤ j ∧ j < 14
          · rw [if_pos (by omega), if_pos j6]
          · rw [if_neg (by omega), if_neg j6]
            by_cases j9 : 14 ≤ j ∧ j < 26
            · rw [if_pos (by omega), if_pos j9]
            · rw [if_neg (by omega), if_neg j9]
  have i1 : gf (oStart g (gN g 3) (fun _ => 0) u (nI t) (nI 0)) (gN g 3) 1 = nI t := gf_of (eI0 1 (by omega))
  have i4 : gf (oStart g (gN g 3) (fun _ => 0) u (nI t) (nI 0)) (gN g 3) 4 = nI 0 := gf_of (((eI0 4 (by omega)).trans (show _ = (0 : Int64) from rfl)).trans (by decide))
  have hb' : gBd (zwL (oStart g (gN g 3) (fun _ => 0) u (nI t) (nI 0)) 3 (nI (gN g 3 + 1)).toInt64) := hbS.fct (by rw [s3]; omega) (by omega) (fun f h1 h9 => by
    rw [s3] at h1
    have e : f = gN g 3 := by omega
    rw [e]
    have G1 : gN (oStart g (gN g 3) (fun _ => 0) u (nI t) (nI 0)) (58 + 51 * gN g 3 + 1) = t := gN_of i1 (by omega)
    have G4 : gN (oStart g (gN g 3) (fun _ => 0) u (nI t) (nI 0)) (58 + 51 * gN g 3 + 4) = 0 := gN_of i4 (by omega)
    rw [i1, i4, G1, G4, s2]
    exact ⟨⟨rfl, ht⟩, rfl, by omega⟩)
  have eI : ∀ j, j < 51 → zwL (oStart g (gN g 3) (fun _ => 0) u (nI t) (nI 0)) 3 (nI (gN g 3 + 1)).toInt64 (58 + 51 * gN g 3 + j) = _ := fun j hj => (zwL_n (by omega)).trans (eI0 j hj)
  have eE : ∀ k, k ≠ 3 → (k < 58 + 51 * gN g 3 ∨ 58 + 51 * gN g 3 + 51 ≤ k) → zwL (oStart g (gN g 3) (fun _ => 0) u (nI t) (nI 0)) 3 (nI (gN g 3 + 1)).toInt64 k = g k := fun k q3 q => (zwL_n q3).trans (eS k q)
  have N3 : gN (zwL (oStart g (gN g 3) (fun _ => 0) u (nI t) (nI 0)) 3 (nI (gN g 3 + 1)).toInt64) 3 = gN g 3 + 1 := gN_e (by omega)
  have e3 : zwL (oStart g (gN g 3) (fun _ => 0) u (nI t) (nI 0)) 3 (nI (gN g 3 + 1)).toInt64 3 = (nI (gN g 3 + 1)).toInt64 := zwL_e
  generalize zwL (oStart g (gN g 3) (fun _ => 0) u (nI t) (nI 0)) 3 (nI (gN g 3 + 1)).toInt64 = g' at hb' eI eE N3 e3 ⊢
  have eN : ∀ k, k < 58 → k ≠ 3 → gN g' k = gN g k := fun k hk q3 => gN_eq (eE k q3 (by omega))
  have G4 : gN g' (58 + 51 * gN g 3 + 4) = 0 := gN_of (n := 0) (gf_of (g := g') (f := gN g 3) (k := 4) (x := nI 0) (((eI 4 (by omega)).trans (show _ = (0 : Int64) from rfl)).trans (by decide))) (by omega)
  refine ⟨hb', fun k hk hk2 => ?_, fun t' ht' => ?_, fun f hf9 => ?_, ⟨by rw [its_eq (eE 1 (by omega) (by omega))]; exact hr.1, fun t' ht' => ?_, fun f hf9 => ?_⟩, by rw [eN 2 (by omega) (by omega)]; exact h2⟩
  · show isI (g' k)
    by_cases q3 : k = 3
    · rw [q3, e3]; exact isI_of _
    · by_cases q4 : 58 + 51 * gN g 3 ≤ k ∧ k < 58 + 51 * gN g 3 + 51
      · have e := eI (k - (58 + 51 * gN g 3)) (by omega)
        rw [show 58 + 51 * gN g 3 + (k - (58 + 51 * gN g 3)) = k by omega] at e
        rw [e]
        split
        · exact isI_of _
        · split
          · exact isI_of _
          · split
            · exact isI_of _
            · split
              · exact isI_0
              · split
                · exact isI_of _
                · exact isI_0
      · rw [eE k q3 (by omega)]
        exact hi k hk hk2
  · rw [eN 2 (by omega) (by omega)] at ht'
    obtain ⟨m, m0, hm⟩ := hT t' ht'
    exact ⟨m, m0, gNm_eq (g := g) (fun k hk => eE _ (by omega) (by omega)) hm⟩
  · rw [N3] at hf9
    by_cases q : f = gN g 3
    · rw [q]
      refine ⟨0, by omega, fun k hk => by omega, fun k _ hk => ?_⟩
      rw [Nat.add_assoc, eI (6 + k) (by omega), if_neg (by omega), if_neg (by omega), if_neg (by omega), if_pos (by omega)]
    · obtain ⟨m, hm⟩ := hF f (by omega)
      exact ⟨m, gNm_eq (g := g) (fun k hk => eE _ (by omega) (by omega)) hm⟩
  · rw [eN 2 (by omega) (by omega)] at ht'
    exact gRt_cg (fun k hk => eE _ (by omega) (by omega)) (hr.2.1 t' ht')
  · rw [N3] at hf9
    by_cases q : f = gN g 3
    · subst q
      refine ⟨?_, ?_, ?_, by rw [G4]; omega, fun j hj => Or.inl ?_, fun j hj => by rw [G4] at hj; omega⟩
      · rw [gf_of (x := u) (eI 0 (by omega))]; exact hu
      · rw [gf_of (x := nI 0) (((eI 2 (by omega)).trans (show _ = (0 : Int64) from rfl)).trans (by decide))]
        exact ⟨0, rfl, by omega, by omega⟩
      · rw [gf_of (x := nI 0) (eI 3 (by omega))]
        exact ⟨0, rfl, by omega, by omega⟩
      · show (g' (58 + 51 * gN g 3 + 14 + j)).toInt32 = -1
        rw [show 58 + 51 * gN g 3 + 14 + j = 58 + 51 * gN g 3 + (14 + j) by omega, eI (14 + j) (by omega), if_neg (by omega), if_neg (by omega), if_neg (by omega), if_neg (by omega), if_pos (by omega), i64]
    · exact gRf_cg (fun k hk => eE _ (by omega) (by omega)) (eN 0 (by omega) (by omega)) (by rw [eN 4 (by omega) (by omega)]; exact Nat.le_refl _) (hb.keL (f := f) (by omega)) (hr.2.2 f (by omega))
/-! one file at a period's end -/
theorem oScP_n {h : Nat → Int64} {f k : Nat} (h50 : k ≠ 58 + 51 * f + 50) (h5 : k ≠ 58 + 51 * f + 5) (hk : k < 1378) : oScore (oPay h f) f k = h k := by
  unfold oScore
  split
  · rw [zwL_n h5, zwL_n h50, oPay_n hk]
  · exact oPay_n hk
theorem oLr_n {h : Nat → Int64} {f ph k : Nat} {u : Int32} (h50 : k ≠ 58 + 51 * f + 50) (h5 : k ≠ 58 + 51 * f + 5) (hp : k ≠ 58 + 51 * f + 14 + ph) (hk : k < 1378) : oLearn (oScore (oPay h f) f) f ph u k = h k := by
  unfold oLearn
  rw [zwL_n hp]
  exact oScP_n h50 h5 hk
theorem kept_row {L : Nat → Int64} {f : Nat} (hf : f < 20) (h24 : gN L (58 + 51 * f + 4) ≤ 24) : (∀ q, q < 51 → q ≠ 2 → q ≠ 4 → (q < 26 ∨ 50 ≤ q) → oKeep L f (58 + 51 * f + q) = L (58 + 51 * f + q)) ∧ oKeep L f (58 + 51 * f + 2) = (nI 0).toInt64 ∧ gN (oKeep L f) (58 + 51 * f + 4) = (if gN L (58 + 51 * f + 4) = 24 then 24 else gN L (58 + 51 * f + 4) + 1) ∧ (uOk (gu L f) (gN L (58 + 51 * f + 4)) → nLe (gf L f 2) 0 9999 → uOk (gu (oKeep L f) f) (gN (oKeep L f) (58 + 51 * f + 4))) := by
  have e4 : gN (oKeep L f) (58 + 51 * f + 4) = (if gN L (58 + 51 * f + 4) = 24 then 24 else gN L (58 + 51 * f + 4) + 1) := gN_of oKeep_4 (by split <;> omega)
  refine ⟨fun q hq h2 h4 hq6 => ?_, ?_, e4, fun hu h2 j hj => ?_⟩
  · unfold oKeep
    split
    · unfold oKeep1
      rw [zwL_n (by omega), zwL_n (by omega), zwL_n (by omega)]
      exact if_neg (by omega)
    · unfold oKeep1
      rw [zwL_n (by omega), zwL_n (by omega), zwL_n (by omega)]
  · unfold oKeep
    split
    · exact zwL_e
    · exact zwL_e
  · rw [e4] at hj
    by_cases q : gN L (58 + 51 * f + 4) = 24
    · rw [if_pos q] at hj
      have eo : oKeep L f = oKeep1 (oShift L (58 + 51 * f + 26)) f 23 := if_pos q
      have e2 : gf (oShift L (58 + 51 * f + 26)) f 2 = gf L f 2 := its_eq (if_neg (by omega))
      by_cases q2 : j = 23
      · have e : gu (oKeep L f) f j = gf L f 2 := by
          show its (oKeep L f) _ = _
          rw [eo, q2, ← e2]
          unfold oKeep1
          rw [its_eq (zwL_n (show 58 + 51 * f + 26 + 23 ≠ 58 + 51 * f + 2 by omega)), its_eq (zwL_n (show 58 + 51 * f + 26 + 23 ≠ 58 + 51 * f + 4 by omega))]
          exact its_e2.trans (i64 _)
        rw [e]; exact h2
      · have e : gu (oKeep L f) f j = gu L f (j + 1) := by
          show its (oKeep L f) _ = _
          rw [eo]
          unfold oKeep1
          rw [its_eq (zwL_n (show 58 + 51 * f + 26 + j ≠ 58 + 51 * f + 2 by omega)), its_eq (zwL_n (show 58 + 51 * f + 26 + j ≠ 58 + 51 * f + 4 by omega)), its_eq (zwL_n (show 58 + 51 * f + 26 + j ≠ 58 + 51 * f + 26 + 23 by omega))]
          show (oShift L (58 + 51 * f + 26) (58 + 51 * f + 26 + j)).toInt32 = _
          unfold oShift
          rw [if_pos (by omega), i64]
          rfl
        rw [e]
        exact hu (j + 1) (by omega)
    · rw [if_neg q] at hj
      have eo : oKeep L f = oKeep1 L f (gN L (58 + 51 * f + 4)) := if_neg q
      by_cases q2 : j = gN L (58 + 51 * f + 4)
      · have e : gu (oKeep L f) f j = gf L f 2 := by
          show its (oKeep L f) _ = _
          rw [eo, q2]
          unfold oKeep1
          rw [its_eq (zwL_n (by omega)), its_eq (zwL_n (by omega))]
          exact its_e2.trans (i64 _)
        rw [e]; exact h2
      · have e : gu (oKeep L f) f j = gu L f j := by
          show its (oKeep L f) _ = _
          rw [eo]
          unfold oKeep1
          rw [its_eq (zwL_n (by omega)), its_eq (zwL_n (by omega)), its_eq (zwL_n (by omega))]
          rfl
        rw [e]
        exact hu j (by omega)
theorem oCl_row {g : Nat → Int64} (hb : gBd g) {f k : Nat} (hk : k < 51) : ∀ d, f + 1 + d ≤ gN g 3 → oCl g (f + 1 + d) (58 + 51 * f + k) = oCl g (f + 1) (58 + 51 * f + k)
  | 0, _ => rfl
  | d + 1, hd => by
    have h20 := hb.2.2.1.2
    have hp : zph g 0 < 12 := by
      unfold zph
      have := Nat.mod_lt (gN g 4 + 0) (show 0 < gN g 0 by have := hb.1.2.1; omega)
      have := hb.1.2.2
      omega
    have e4 : gN (oCl g (f + 1 + d)) (58 + 51 * (f + 1 + d) + 4) = gN g (58 + 51 * (f + 1 + d) + 4) := gN_eq (oCl_n hb _ (by omega) _ (by omega) (by omega))
    show oKeep (oLearn (oScore (oPay (oCl g (f + 1 + d)) (f + 1 + d)) (f + 1 + d)) (f + 1 + d) (zph g 0) _) (f + 1 + d) (58 + 51 * f + k) = _
    rw [oCl1_n (by omega) hp (by rw [e4]; exact hb.keL (by omega)) (by omega) (by omega)]
    exact oCl_row hb hk d (by omega)
theorem gInv_end {g : Nat → Int64} (h : gInv g) (hP : gN g 4 < 9999) : gInv (oEnd g) := by
  have hs := h.s
  obtain ⟨hb, hi, hT, hF, hr, h2⟩ := h
  have h4 := hb.2.1.2
  have h20 := hb.2.2.1.2
  have hc : 2 ≤ gN g 0 ∧ gN g 0 ≤ 12 := ⟨hb.1.2.1, hb.1.2.2⟩
  have hp0 : zph g 0 < gN g 0 := Nat.mod_lt _ (by omega)
  have hbC : gBd (oCl g (gN g 3)) := by
    rw [← rCl_o hb hs _ (Nat.le_refl _)]
    exact (hb.cl _ (Nat.le_refl _)).1
  have hb' : gBd (oEnd g) := by
    unfold oEnd
    exact gBd_5 (hbC.per (by omega)) (Nat.zero_le _)
  have eh : ∀ k, k < 58 → k ≠ 4 → k ≠ 5 → oEnd g k = g k := fun k hk k4 k5 => by
    unfold oEnd
    rw [zwL_n k5, zwL_n k4]
    exact oCl_n hb _ (Nat.le_refl _) k (by omega) (Or.inl hk)
  have e4 : gN (oEnd g) 4 = gN g 4 + 1 := by
    unfold oEnd
    rw [gN_eq (zwL_n (by decide))]
    exact gN_e (by omega)
  have eN : ∀ k, k < 58 → k ≠ 4 → k ≠ 5 → gN (oEnd g) k = gN g k := fun k hk k4 k5 => gN_eq (eh k hk k4 k5)
  -- a file's row
  have row : ∀ f, f < gN g 3 → ∀ q, q < 51 → oEnd g (58 + 51 * f + q) = oCl g (f + 1) (58 + 51 * f + q) := fun f hf q hq => by
    unfold oEnd
    rw [zwL_n (by omega), zwL_n (by omega)]
    have e := oCl_row hb (f := f) hq (gN g 3 - (f + 1)) (by omega)
    rw [show f + 1 + (gN g 3 - (f + 1)) = gN g 3 by omega] at e
    exact e
  have step : ∀ f, f < gN g 3 → ∃ L, oCl g (f + 1) = oKeep L f ∧ (∀ q, q < 51 → q ≠ 50 → q ≠ 5 → q ≠ 14 + zph g 0 → L (58 + 51 * f + q) = g (58 + 51 * f + q)) ∧ sOk (gs L f) (gN g 0) ∧ (∀ q, q < 50 → isI (L (58 + 51 * f + q))) := fun f hf => by
    have en := oCl_n hb f (by omega)
    have er : ∀ q, q < 51 → oCl g f (58 + 51 * f + q) = g (58 + 51 * f + q) := fun q hq => en _ (by omega) (by omega)
    have a := hr.2.2 f hf
    have ig : ∀ q, q < 50 → isI (g (58 + 51 * f + q)) := fun q hq => hi _ (by omega) (fun f' hf' => by omega)
    refine ⟨_, rfl, fun q hq q50 q5 qp => (oLr_n (by omega) (by omega) (by omega) (by omega)).trans (er q hq), ?_, fun q hq => ?_⟩
    · refine learn_ok hp0 hc.2 (fun j hj => ?_) ?_ ?_
      · have e : gs (oScore (oPay (oCl g f) f) f) f j = gs g f j := its_eq ((oScP_n (by omega) (by omega) (by omega)).trans (by have := er (14 + j) (by omega); rw [← Nat.add_assoc] at this; exact this))
        rw [e]
        exact hs f hf j hj
      · rw [its_eq ((oScP_n (by omega) (by omega) (by omega)).trans (en 1 (by omega) (by omega)))]
        exact hr.1
      · rw [show gf (oScore (oPay (oCl g f) f) f) f 2 = gf g f 2 from its_eq ((oScP_n (by omega) (by omega) (by omega)).trans (er 2 (by omega)))]
        exact a.2.1
    · have i0 : isI (oCl g f (58 + 51 * f + q)) := by rw [er q (by omega)]; exact ig q hq
      have i1 : isI (oScore (oPay (oCl g f) f) f (58 + 51 * f + q)) := by
        unfold oScore
        split
        · by_cases z : q = 5
          · rw [z, zwL_e]; exact isI_of _
          · rw [zwL_n (by omega), zwL_n (by omega), oPay_n (by omega)]; exact i0
        · rw [oPay_n (by omega)]; exact i0
      show isI (zwL _ (58 + 51 * f + 14 + zph g 0) _ _)
      by_cases z : q = 14 + zph g 0
      · rw [z, ← Nat.add_assoc, zwL_e]; exact isI_of _
      · rw [zwL_n (by omega)]; exact i1
  have fin : ∀ f, f < gN g 3 → ∃ L, (∀ q, q < 51 → oEnd g (58 + 51 * f + q) = oKeep L f (58 + 51 * f + q)) ∧ gN L (58 + 51 * f + 4) = gN g (58 + 51 * f + 4) ∧ (∀ q, q < 51 → q ≠ 50 → q ≠ 5 → q ≠ 14 + zph g 0 → L (58 + 51 * f + q) = g (58 + 51 * f + q)) ∧ sOk (gs L f) (gN g 0) ∧ (∀ q, q < 50 → isI (L (58 + 51 * f + q))) := fun f hf => by
    obtain ⟨L, l1, l2, l3, l4⟩ := step f hf
    exact ⟨L, fun q hq => (row f hf q hq).trans (by rw [l1]), gN_eq (l2 4 (by omega) (by omega) (by omega) (by omega)), l2, l3, l4⟩
  refine ⟨hb', fun k hk hk2 => ?_, fun t ht => ?_, fun f hf => ?_, ⟨by rw [its_eq (eh 1 (by omega) (by omega) (by omega))]; exact hr.1, fun t ht => ?_, fun f hf => ?_⟩, by rw [eN 2 (by omega) (by omega) (by omega)]; exact h2⟩
  · show isI (oEnd g k)
    by_cases k4 : k = 4
    · rw [k4]
      unfold oEnd
      rw [zwL_n (by decide), zwL_e]
      exact isI_of _
    · by_cases k5 : k = 5
      · rw [k5]
        unfold oEnd
        rw [zwL_e]
        exact isI_of _
      · by_cases kf : 58 ≤ k ∧ k < 58 + 51 * gN g 3
        · have hf : (k - 58) / 51 < gN g 3 := by omega
          have hq : (k - 58) % 51 < 51 := Nat.mod_lt _ (by omega)
          have ek : 58 + 51 * ((k - 58) / 51) + (k - 58) % 51 = k := by omega
          have n50 : (k - 58) % 51 ≠ 50 := fun z => hk2 ((k - 58) / 51) (by omega) (by omega)
          obtain ⟨L, l1, l2, l3, l4, l5⟩ := fin _ hf
          rw [← ek, l1 _ hq]
          generalize (k - 58) / 51 = f at *
          generalize (k - 58) % 51 = q at *
          have hw : ∀ (u : Nat → Int64) (j : Nat) (x : Int32), isI (u (58 + 51 * f + q)) → isI (zwL u j x.toInt64 (58 + 51 * f + q)) := fun u j x hu => by
            by_cases z : 58 + 51 * f + q = j
            · rw [z, zwL_e]; exact isI_of x
            · rw [zwL_n z]; exact hu
          unfold oKeep
          split
          · unfold oKeep1
            refine hw _ _ _ (hw _ _ _ (hw _ _ _ ?_))
            unfold oShift
            split
            · exact isI_of _
            · exact l5 q (by omega)
          · unfold oKeep1
            exact hw _ _ _ (hw _ _ _ (hw _ _ _ (l5 q (by omega))))
        · have e : oEnd g k = g k := by
            unfold oEnd
            rw [zwL_n k5, zwL_n k4]
            exact oCl_n hb _ (Nat.le_refl _) k hk (by omega)
          rw [e]
          exact hi k hk hk2
  · rw [eN 2 (by omega) (by omega) (by omega)] at ht
    obtain ⟨m, m0, hm⟩ := hT t ht
    exact ⟨m, m0, gNm_eq (g := g) (fun k hk => eh _ (by omega) (by omega) (by omega)) hm⟩
  · rw [eN 3 (by omega) (by omega) (by omega)] at hf
    obtain ⟨m, hm⟩ := hF f hf
    obtain ⟨L, l1, l2, l3, l4, l5⟩ := fin f hf
    have kr := kept_row (L := L) (f := f) (by omega) (by rw [l2]; exact hb.keL hf)
    refine ⟨m, gNm_eq (g := g) (fun k hk => ?_) hm⟩
    have e := (l1 (6 + k) (by omega)).trans ((kr.1 (6 + k) (by omega) (by omega) (by omega) (by omega)).trans (l3 (6 + k) (by omega) (by omega) (by omega) (by omega)))
    rw [← Nat.add_assoc] at e
    exact e
  · rw [eN 2 (by omega) (by omega) (by omega)] at ht
    exact gRt_cg (fun k hk => eh _ (by omega) (by omega) (by omega)) (hr.2.1 t ht)
  · rw [eN 3 (by omega) (by omega) (by omega)] at hf
    have a := hr.2.2 f hf
    obtain ⟨L, l1, l2, l3, l4, l5⟩ := fin f hf
    have kL := hb.keL hf
    have kr := kept_row (L := L) (f := f) (by omega) (by rw [l2]; exact kL)
    have ek : ∀ q, q < 51 → its (oEnd g) (58 + 51 * f + q) = its (oKeep L f) (58 + 51 * f + q) := fun q hq => its_eq (l1 q hq)
    have E4 : gN (oEnd g) (58 + 51 * f + 4) = gN (oKeep L f) (58 + 51 * f + 4) := gN_eq (l1 4 (by omega))
    have g0 : gf (oEnd g) f 0 = gf g f 0 := (ek 0 (by omega)).trans ((its_eq (kr.1 0 (by omega) (by omega) (by omega) (by omega))).trans (its_eq (l3 0 (by omega) (by omega) (by omega) (by omega))))
    have g3 : gf (oEnd g) f 3 = gf g f 3 := (ek 3 (by omega)).trans ((its_eq (kr.1 3 (by omega) (by omega) (by omega) (by omega))).trans (its_eq (l3 3 (by omega) (by omega) (by omega) (by omega))))
    have g2 : gf (oEnd g) f 2 = nI 0 := by
      show its (oEnd g) (58 + 51 * f + 2) = _
      rw [ek 2 (by omega)]
      unfold its
      rw [kr.2.1, i64]
    have gL2 : gf L f 2 = gf g f 2 := its_eq (l3 2 (by omega) (by omega) (by omega) (by omega))
    have k24' : gN (oKeep L f) (58 + 51 * f + 4) ≤ 24 := by rw [kr.2.2.1, l2]; split <;> omega
    refine ⟨by rw [g0]; exact a.1, by rw [g2]; exact ⟨0, rfl, by omega, by omega⟩, by rw [g3]; exact a.2.2.1, ?_, fun j hj => ?_, fun j hj => ?_⟩
    · rw [E4, kr.2.2.1, l2, e4]
      have := a.2.2.2.1
      split <;> omega
    · have e : gs (oEnd g) f j = gs L f j := by
        have e1 := ek (14 + j) (by omega)
        have e2 : its (oKeep L f) (58 + 51 * f + (14 + j)) = its L (58 + 51 * f + (14 + j)) := its_eq (kr.1 (14 + j) (by omega) (by omega) (by omega) (by omega))
        have e3 := e1.trans e2
        rw [← Nat.add_assoc] at e3
        exact e3
      rw [e, eN 0 (by omega) (by omega) (by omega)]
      exact l4 j hj
    · rw [E4] at hj
      have e : gu (oEnd g) f j = gu (oKeep L f) f j := by
        have e1 := ek (26 + j) (by omega)
        rw [← Nat.add_assoc] at e1
        exact e1
      rw [e]
      refine kr.2.2.2 (fun i hi9 => ?_) (by rw [gL2]; exact a.2.1) j hj
      rw [l2] at hi9
      have e1 := l3 (26 + i) (by omega) (by omega) (by omega) (by have := hc.2; omega)
      rw [← Nat.add_assoc] at e1
      rw [show gu L f i = gu g f i from its_eq e1]
      exact a.2.2.2.2.2 i hi9
