/-! ===== the reference reads: what a tier and a file leave ===== -/
theorem its_add1 {g : Nat → Int64} {k : Nat} {x : Int64} {n : Nat} (h : its g k = nI n) (e : x = g k) : (x + lN 1).toInt32 = nI (n + 1) := by
  rw [e, Int64.toInt32_add]
  show its g k + _ = _
  rw [h]
  exact nI_1 n
theorem its_e2 {g : Nat → Int64} {k : Nat} {v : Int64} : its (zwL g k v) k = v.toInt32 := by
  unfold its
  rw [zwL_e]
theorem rTq_n {u : Nat → Int32} {n t : Nat} {x : (Nat → Int64) × rRd} (ht : t < 4) {j : Nat} (hj : j < 6 ∨ 58 ≤ j) : ∀ k, k ≤ 4 → (rTq u n t x k).1 j = x.1 j
  | 0, _ => rfl
  | k + 1, hk => by
    unfold rTq
    exact (zwL_n (by omega)).trans (rTq_n ht hj k (by omega))
theorem rT5_n {u : Nat → Int32} {n t : Nat} {g : Nat → Int64} {r : rRd} (ht : t < 4) {j : Nat} (hj : j < 6 ∨ 58 ≤ j) : (rT5 u n t g r).1 j = g j := by
  unfold rT5
  exact (zwL_n (by omega)).trans (if_neg (by omega))
/-- what leads to a tier that is put -/
theorem rT_w {u : Nat → Int32} {n t : Nat} {g : Nat → Int64} {r r0 ra rb rc : rRd} {v1 nv c : Int32} {m : Nat} (hc0 : ¬ c = 0) (h0 : (if t = m then rFl r c else r) = r0) (ha : rMu u n v1 r0 = ra) (hb : rMn ra = rb) (hrc : (if nv = -1 then rb else rFl rb (-5)) = rc) (w : rc.2.2.2.2.1 = 0) :
    ¬ t = m ∧ r0 = r ∧ r.2.2.2.2.1 = 0 ∧ ¬ v1 = 0 ∧ ra = rNx u n r ∧ rb = ra ∧ ra.2.2.1 = 0 ∧ ra.2.1 - ra.1 ≤ 8 ∧ ra.2.2.2.2.1 = 0 ∧ nv = -1 ∧ rc = ra := by
  have q : nv = -1 := Classical.byContradiction fun q => by
    rw [← hrc, if_neg q] at w
    exact absurd w (rFl_wr (by decide))
  rw [if_pos q] at hrc
  have wb : rb.2.2.2.2.1 = 0 := by rw [hrc]; exact w
  have m1 := rMn_wr (r := ra) (by rw [hb]; exact wb)
  have eb : rb = ra := hb.symm.trans m1.1
  have wa : ra.2.2.2.2.1 = 0 := by rw [← eb]; exact wb
  have m2 := rMu_wr (u := u) (n := n) (v := v1) (r := r0) (by rw [ha]; exact wa)
  have q2 : ¬ t = m := fun q => by
    have := m2.1
    rw [← h0, if_pos q] at this
    exact absurd this (rFl_wr hc0)
  rw [if_neg q2] at h0
  subst h0
  exact ⟨q2, rfl, m2.1, m2.2.1, ha.symm.trans m2.2.2, eb, m1.2.1, m1.2.2, wa, q, hrc.symm.trans eb⟩
theorem rTR_fc {u : Nat → Int32} {n : Nat} {g g' : Nat → Int64} {r r' : rRd} (h : rTR u n (gN g 2) g r g' r') (h2 : its g 2 = nI (gN g 2)) (h4 : gN g 2 ≤ 4) :
    rOk n r' ∧ its g' 2 = nI (gN g' 2) ∧ gN g' 2 ≤ 4 ∧ (r'.2.2.2.2.1 = 0 → r.2.2.2.2.1 = 0 ∧ gN g' 2 = gN g 2 + 1) ∧ (∀ k, (k < 6 ∧ k ≠ 2) ∨ 58 ≤ k → g' k = g k) ∧ gN g 2 ≤ gN g' 2 := by
  obtain ⟨r0, v1, ra, rb, nv, rc, h0, hv, ha, hb, hn, hc, hh⟩ := h
  rcases hh with ⟨w, Y, X, hY, hX, rfl, rfl, ok⟩ | ⟨w, rfl, rfl, ok⟩
  · have hw := rT_w (g := g) (by decide) h0 ha hb hc w
    have ht : gN g 2 < 4 := by have := hw.1; omega
    have eX : ∀ j, j < 6 ∨ 58 ≤ j → X.1 j = g j := fun j hj => by
      rw [← hX, rTq_n ht hj 4 (by omega), ← hY, rT5_n ht hj]
    have e2 : its (zwL X.1 2 (X.1 2 + lN 1)) 2 = nI (gN g 2 + 1) := its_e2.trans (its_add1 h2 (eX 2 (by omega)))
    have eN : gN (zwL X.1 2 (X.1 2 + lN 1)) 2 = gN g 2 + 1 := gN_of e2 (by omega)
    exact ⟨ok, by rw [eN]; exact e2, by omega, fun _ => ⟨hw.2.2.1, eN⟩, fun k hk => (zwL_n (by omega)).trans (eX k (by omega)), by omega⟩
  · exact ⟨ok, h2, h4, fun q => absurd q w, fun _ _ => rfl, Nat.le_refl _⟩
theorem rTR_gB {u : Nat → Int32} {n : Nat} {g g' : Nat → Int64} {r r' : rRd} (h : rTR u n (gN g 2) g r g' r') (hb : gBd g) (h0 : gN g 3 = 0) (h5 : gN g 5 = 0) : gBd g' := by
  have f := rTR_fc h hb.2.1.1 hb.2.1.2
  have e : ∀ k, (k < 6 ∧ k ≠ 2) → its g' k = its g k := fun k hk => its_eq (f.2.2.2.2.1 k (Or.inl hk))
  have eN : ∀ k, (k < 6 ∧ k ≠ 2) → gN g' k = gN g k := fun k hk => gN_eq (f.2.2.2.2.1 k (Or.inl hk))
  obtain ⟨b0, b2, b3, b4, b5, bf, bm⟩ := hb
  refine ⟨by rw [e 0 (by omega), eN 0 (by omega)]; exact b0, ⟨f.2.1, f.2.2.1⟩, by rw [e 3 (by omega), eN 3 (by omega)]; exact b3, by rw [e 4 (by omega), eN 4 (by omega)]; exact b4, by rw [e 5 (by omega), eN 5 (by omega)]; exact b5, fun q hq => ?_, fun q hq => ?_⟩
  · rw [eN 3 (by omega), h0] at hq; omega
  · rw [eN 5 (by omega), h5] at hq; omega
theorem rIw_wr {u : Nat → Int32} {w : Nat} {r : rRd} (h : ¬ rIw u w r = 0) : r.2.2.2.2.1 = 0 ∧ r.2.2.1 = 0 ∧ r.2.1 - r.1 = zLl.getD w 0 ∧ rIw u w r = zwd u w r.1 (zLl.getD w 0) 0 := by
  by_cases c : r.2.2.2.2.1 = 0 ∧ r.2.2.1 = 0 ∧ r.2.1 - r.1 = zLl.getD w 0
  · exact ⟨c.1, c.2.1, c.2.2, if_pos c⟩
  · exact absurd (show rIw u w r = 0 from (if_neg c).trans (by decide)) h
theorem rEn_wr {u : Nat → Int32} {n : Nat} {r : rRd} (h : (rEn u n r).2.2.2.2.1 = 0) : r.2.2.2.2.1 = 0 ∧ (r.2.2.1 = 2 ∧ zrb u n r.1 = nI 59) ∧ rEn u n r = rNx u n r := by
  have m := rMu_wr (u := u) (n := n) (r := r) h
  refine ⟨m.1, ?_, m.2.2⟩
  exact b01_ne m.2.1
/-- a file that was read -/
theorem rFQ_fc {u : Nat → Int32} {n t : Nat} {g g' : Nat → Int64} {rc r' : rRd} (h : rFQ u n t g rc g' r') (ht : t < 20) (h3 : its g 3 = nI t) (h20 : gN g 2 ≤ 4) :
    rOk n r' ∧ its g' 3 = nI (t + 1) ∧ (∀ k, (k < 58 ∧ k ≠ 3) ∨ (58 ≤ k ∧ k < 58 + 51 * t) ∨ 58 + 51 * t + 51 ≤ k → g' k = g k) := by
  obtain ⟨g2, r1, x, v2, r3, r4, nv, r5, r6, r7, v7, z, hg2, h1, hx, hv2, hr3, hr4, hnv, hr5, hr6, hr7, hv7, hz, hg, hr, ok⟩ := h
  have eg : ∀ k, k < 58 + 51 * t ∨ 58 + 51 * t + 51 ≤ k → g2 k = g k := fun k q => by rw [← hg2, rPn_n (by omega), oB0_n (by omega)]
  subst hg
  have e3 : (zwL (zwL (zwL g2 (58 + 51 * t + 0) x.1.toInt64) (58 + 51 * t + 1) nv.toInt64) (58 + 51 * t + 3) z.1.toInt64) 3 = g 3 := by
    rw [zwL_n (by omega), zwL_n (by omega), zwL_n (by omega), eg 3 (by omega)]
  refine ⟨ok, its_e2.trans (its_add1 h3 e3), fun k hk => ?_⟩
  rw [zwL_n (by omega), zwL_n (by omega), zwL_n (by omega), zwL_n (by omega), eg k (by omega)]
/-- its chain, where nothing was wrong -/
theorem rFQ_w {u : Nat → Int32} {n t : Nat} {g2 : Nat → Int64} {r1 r3 r4 r5 r6 r7 : rRd} {x z : Int32 × rRd} {v2 nv v7 : Int32} (hx : rTa u n (nI 1) (nI 999) r1 = x) (hr3 : rMu u n v2 x.2 = r3) (hr4 : rMn r3 = r4) (hr5 : (if nv = -1 then rFl r4 (-4) else r4) = r5) (hr6 : (if r5.2.2.2.2.1 = 0 ∧ gt g2 nv.toNatClampNeg 0 - zfull g2 nv (gN g2 3) < x.1 then rFl r5 (-6) else r5) = r6) (hr7 : rMu u n (nI 1) r6 = r7) (hz : (if v7 = 0 then (nI 0, r7) else rTa u n (nI 0) (nI 9999) (rNx u n r7)) = z) (w : (rEn u n z.2).2.2.2.2.1 = 0) :
    r7.2.2.2.2.1 = 0 ∧ r7 = rNx u n r5 ∧ r6 = r5 ∧ ¬ gt g2 nv.toNatClampNeg 0 - zfull g2 nv (gN g2 3) < x.1 ∧ r5.2.2.2.2.1 = 0 ∧ r5 = r4 ∧ ¬ nv = -1 ∧ r4 = r3 ∧ r3.2.2.1 = 0 ∧ r3.2.1 - r3.1 ≤ 8 ∧ ¬ v2 = 0 ∧ r3 = rNx u n x.2 ∧ r1.2.2.2.2.1 = 0 ∧ x.1 = r1.2.2.2.1 ∧ nI 1 ≤ x.1 ∧ x.1 ≤ nI 999 ∧ x.2 = rNx u n r1 ∧ r1.2.2.1 = 1 ∧ z.2.2.2.2.2.1 = 0 ∧ (rEn u n z.2 = rNx u n z.2) := by
  have wz := rEn_wr w
  have w7 : r7.2.2.2.2.1 = 0 := by
    by_cases q : v7 = 0
    · rw [if_pos q] at hz
      have := wz.1
      rw [← hz] at this
      exact this
    · rw [if_neg q] at hz
      have h := wz.1
      rw [← hz] at h
      have := (rTa_wr h).1
      rw [rNx_wr] at this
      exact this
  have m7 := rMu_wr (u := u) (n := n) (v := nI 1) (r := r6) (by rw [hr7]; exact w7)
  have q6 : ¬ (r5.2.2.2.2.1 = 0 ∧ gt g2 nv.toNatClampNeg 0 - zfull g2 nv (gN g2 3) < x.1) := fun q => by
    have := m7.1
    rw [← hr6, if_pos q] at this
    exact absurd this (rFl_wr (by decide))
  have e6 : r6 = r5 := hr6.symm.trans (if_neg q6)
  have w5 : r5.2.2.2.2.1 = 0 := by rw [← e6]; exact m7.1
  have q5 : ¬ nv = -1 := fun q => by
    rw [← hr5, if_pos q] at w5
    exact absurd w5 (rFl_wr (by decide))
  have e5 : r5 = r4 := hr5.symm.trans (if_neg q5)
  have w4 : r4.2.2.2.2.1 = 0 := by rw [← e5]; exact w5
  have m4 := rMn_wr (r := r3) (by rw [hr4]; exact w4)
  have e4 : r4 = r3 := hr4.symm.trans m4.1
  have m3 := rMu_wr (u := u) (n := n) (v := v2) (r := x.2) (by rw [hr3, ← e4]; exact w4)
  have m1 := rTa_wr (u := u) (n := n) (lo := nI 1) (hi := nI 999) (r := r1) (by rw [hx]; exact m3.1)
  have ex : x = (r1.2.2.2.1, rNx u n r1) := hx.symm.trans m1.2.2.2
  exact ⟨w7, (hr7.symm.trans m7.2.2).trans (by rw [e6]), e6, fun q => q6 ⟨w5, q⟩, w5, e5, q5, e4, m4.2.1, m4.2.2, m3.2.1, hr3.symm.trans m3.2.2, m1.1, by rw [ex], by rw [ex]; exact m1.2.2.1.1, by rw [ex]; exact m1.2.2.1.2, by rw [ex], m1.2.1, wz.1, wz.2.2⟩
theorem rFR_fc {u : Nat → Int32} {n : Nat} {g g' : Nat → Int64} {r r' : rRd} (h : rFR u n (gN g 3) g r g' r') (h2 : its g 2 = nI (gN g 2)) (h4 : gN g 2 ≤ 4) (h3 : its g 3 = nI (gN g 3)) (h20 : gN g 3 ≤ 20) :
    rOk n r' ∧ its g' 3 = nI (gN g' 3) ∧ gN g' 3 ≤ 20 ∧ (r'.2.2.2.2.1 = 0 → r.2.2.2.2.1 = 0 ∧ gN g' 3 = gN g 3 + 1) ∧ (∀ k, k < 58 ∧ k ≠ 3 → g' k = g k) := by
  obtain ⟨r0, ra, rb, nv, rc, h0, ha, hb, hn, hc, hh⟩ := h
  rcases hh with ⟨w, hq⟩ | ⟨w, rfl, rfl, ok⟩
  · have hw := rT_w (g := g) (by decide) h0 ha hb hc w
    have ht : gN g 3 < 20 := by have := hw.1; omega
    have f := rFQ_fc hq ht h3 h4
    have eN : gN g' 3 = gN g 3 + 1 := gN_of f.2.1 (by omega)
    exact ⟨f.1, by rw [eN]; exact f.2.1, by omega, fun _ => ⟨hw.2.2.1, eN⟩, fun k hk => f.2.2 k (Or.inl hk)⟩
  · exact ⟨ok, h3, h20, fun q => absurd q w, fun _ _ => rfl⟩
theorem rFR_gB {u : Nat → Int32} {n : Nat} {g g' : Nat → Int64} {r r' : rRd} (h : rFR u n (gN g 3) g r g' r') (hb : r.2.2.2.2.1 = 0 → gBd g) (w' : r'.2.2.2.2.1 = 0) : gBd g' := by
  obtain ⟨r0, ra, rb, nv0, rc, h0, ha, hb0, hn, hc, hh⟩ := h
  rcases hh with ⟨w, hq⟩ | ⟨w, rfl, rfl, ok⟩
  · have hw := rT_w (g := g) (by decide) h0 ha hb0 hc w
    have hg := hb hw.2.2.1
    have ht : gN g 3 < 20 := by have := hw.1; have := hg.2.2.1.2; omega
    obtain ⟨g2, r1, x, v2, r3, r4, nv, r5, r6, r7, v7, z, hg2, h1, hx, hv2, hr3, hr4, hnv, hr5, hr6, hr7, hv7, hz, he, hr, ok⟩ := hq
    rw [hr] at w'
    have hf := rFQ_w (t := gN g 3) hx hr3 hr4 hr5 hr6 hr7 hz w'
    have eg : ∀ k, k < 58 + 51 * gN g 3 ∨ 58 + 51 * gN g 3 + 51 ≤ k → g2 k = g k := fun k q => by rw [← hg2, rPn_n (by omega), oB0_n (by omega)]
    have hb2 : gBd g2 := hg.fresh ht (Nat.le_refl _) eg
    have e4 : g2 (58 + 51 * gN g 3 + 4) = (nI 0).toInt64 := by
      rw [← hg2, rPn_n (by omega)]
      show oFoN (oZeN g (gN g 3) 51) (gN g 3) 12 _ = _
      unfold oFoN oZeN
      rw [if_neg (by omega), if_pos (by omega)]
      decide
    have hd : ∃ d, d < gN g2 2 ∧ nv = nI d := by
      have c : r4.2.2.2.2.1 = 0 := by rw [← hf.2.2.2.2.2.1]; exact hf.2.2.2.2.1
      rw [show rNa g2 u r4 11 13 (gN g2 2) = rNd g2 u r4 11 13 (gN g2 2) 0 from if_pos c] at hnv
      rcases rNd_in (g := g2) (u := u) (r := r4) (b := 11) (sz := 13) (gN g2 2) 0 with q | ⟨d, -, h5, h6, -⟩
      · exact absurd (hnv.symm.trans q) hf.2.2.2.2.2.2.1
      · exact ⟨d, by omega, hnv.symm.trans h6⟩
    obtain ⟨d, hd2, rfl⟩ := hd
    have e3 : gN g2 3 = gN g 3 := gN_eq (eg 3 (by omega))
    have e2 : gN g2 2 = gN g 2 := gN_eq (eg 2 (by omega))
    obtain ⟨b0, b2, b3, b4, b5, bf, bm⟩ := hb2
    have n58 : ∀ k, k ≠ 3 → k ≠ 58 + 51 * gN g 3 + 0 → k ≠ 58 + 51 * gN g 3 + 1 → k ≠ 58 + 51 * gN g 3 + 3 → g' k = g2 k := fun k q0 q1 q2 q3 => by
      rw [he, zwL_n q0, zwL_n q3, zwL_n q2, zwL_n q1]
    have i3 : its g' 3 = nI (gN g 3 + 1) := by
      rw [he]
      exact its_e2.trans (its_add1 b3.1 (by rw [zwL_n (by omega), zwL_n (by omega), zwL_n (by omega)])) |>.trans (by rw [e3])
    have N3 : gN g' 3 = gN g 3 + 1 := gN_of i3 (by omega)
    have iN : ∀ k, k < 58 → k ≠ 3 → its g' k = its g2 k ∧ gN g' k = gN g2 k := fun k q1 q2 => ⟨its_eq (n58 k q2 (by omega) (by omega) (by omega)), gN_eq (n58 k q2 (by omega) (by omega) (by omega))⟩
    refine ⟨by rw [(iN 0 (by omega) (by omega)).1, (iN 0 (by omega) (by omega)).2]; exact b0, by rw [(iN 2 (by omega) (by omega)).1, (iN 2 (by omega) (by omega)).2]; exact b2, ⟨by rw [N3]; exact i3, by omega⟩, by rw [(iN 4 (by omega) (by omega)).1, (iN 4 (by omega) (by omega)).2]; exact b4, by rw [(iN 5 (by omega) (by omega)).1, (iN 5 (by omega) (by omega)).2]; exact b5, fun f hf9 => ?_, fun q hq => ?_⟩
    · rw [N3] at hf9
      rw [(iN 2 (by omega) (by omega)).2]
      by_cases q : f = gN g 3
      · subst q
        have e1 : g' (58 + 51 * gN g 3 + 1) = (nI d).toInt64 := by
          rw [he, zwL_n (by omega), zwL_n (by omega), zwL_e]
        have e4' : g' (58 + 51 * gN g 3 + 4) = (nI 0).toInt64 := by rw [n58 _ (by omega) (by omega) (by omega) (by omega)]; exact e4
        have g1 : gf g' (gN g 3) 1 = nI d := by show its g' _ = _; unfold its; rw [e1]; exact i64 _
        have g4 : gf g' (gN g 3) 4 = nI 0 := by show its g' _ = _; unfold its; rw [e4']; exact i64 _
        have G1 : gN g' (58 + 51 * gN g 3 + 1) = d := by show (gf g' (gN g 3) 1).toNatClampNeg = d; rw [g1]; have := b2.2; exact nI_clamp (by omega)
        have G4 : gN g' (58 + 51 * gN g 3 + 4) = 0 := by show (gf g' (gN g 3) 4).toNatClampNeg = 0; rw [g4]; exact nI_clamp (by omega)
        rw [g1, g4, G1, G4]
        exact ⟨⟨rfl, hd2⟩, rfl, by omega⟩
      · have e1 : g' (58 + 51 * f + 1) = g2 (58 + 51 * f + 1) := n58 _ (by omega) (by omega) (by omega) (by omega)
        have e4' : g' (58 + 51 * f + 4) = g2 (58 + 51 * f + 4) := n58 _ (by omega) (by omega) (by omega) (by omega)
        rw [show gf g' f 1 = gf g2 f 1 from its_eq e1, show gf g' f 4 = gf g2 f 4 from its_eq e4', gN_eq e1, gN_eq e4']
        exact bf f (by omega)
    · have h60 := b5.2
      rw [(iN 5 (by omega) (by omega)).2] at hq
      rw [(iN 2 (by omega) (by omega)).2, N3]
      have ew : ∀ k, k < 5 → g' (1078 + 5 * q + k) = g2 (1078 + 5 * q + k) := fun k hk => n58 _ (by omega) (by omega) (by omega) (by omega)
      have := bm q hq
      rw [show gm g' q 0 = gm g2 q 0 from its_eq (ew 0 (by omega)), show gm g' q 1 = gm g2 q 1 from its_eq (ew 1 (by omega)), show gm g' q 2 = gm g2 q 2 from its_eq (ew 2 (by omega)), gN_eq (ew 0 (by omega)), gN_eq (ew 1 (by omega)), gN_eq (ew 2 (by omega))]
      refine ⟨⟨this.1.1, ?_⟩, this.2⟩
      have := this.1.2
      omega
  · exact absurd w' w
