/-! ===== faults are below 0; the head's row ===== -/
def nw (r : rRd) : Prop := r.2.2.2.2.1 ≤ 0
theorem rFl_nw {r : rRd} {c : Int32} (h : nw r) (hc : c ≤ 0) : nw (rFl r c) := by
  unfold nw at *
  by_cases w : r.2.2.2.2.1 = 0
  · rw [rFl_w w]; exact hc
  · rw [rFl_n w]; exact h
theorem rNx_nw {u : Nat → Int32} {n : Nat} {r : rRd} (h : nw r) : nw (rNx u n r) := by
  unfold nw at *
  rw [rNx_wr]
  exact h
theorem rMu_nw {u : Nat → Int32} {n : Nat} {v : Int32} {r : rRd} (h : nw r) : nw (rMu u n v r) := by
  unfold rMu
  split
  · exact rFl_nw h (by decide)
  · split
    · exact rNx_nw h
    · exact h
theorem rMn_nw {r : rRd} (h : nw r) : nw (rMn r) := by
  unfold rMn
  split
  · exact h
  · exact rFl_nw h (by decide)
theorem rTa_nw {u : Nat → Int32} {n : Nat} {lo hi : Int32} {r : rRd} (h : nw r) : nw (rTa u n lo hi r).2 := by
  unfold rTa
  split
  · exact h
  · split
    · exact rFl_nw h (by decide)
    · split
      · exact rFl_nw h (by decide)
      · exact rNx_nw h
theorem rEn_nw {u : Nat → Int32} {n : Nat} {r : rRd} (h : nw r) : nw (rEn u n r) := rMu_nw h
theorem rTq_nw {u : Nat → Int32} {n t : Nat} {x : (Nat → Int64) × rRd} (h : nw x.2) : ∀ k, nw (rTq u n t x k).2
  | 0 => h
  | k + 1 => rTa_nw (rTq_nw h k)
theorem rTR_nw {u : Nat → Int32} {n t : Nat} {g g' : Nat → Int64} {r r' : rRd} (h : rTR u n t g r g' r') (w : nw r) : nw r' := by
  obtain ⟨r0, v1, ra, rb, nv, rc, h0, hv, ha, hb, hn, hc, hh⟩ := h
  have w0 : nw r0 := by
    rw [← h0]
    split
    · exact rFl_nw w (by decide)
    · exact w
  have wb : nw rb := by rw [← hb, ← ha]; exact rMn_nw (rMu_nw w0)
  have wc : nw rc := by
    rw [← hc]
    split
    · exact wb
    · exact rFl_nw wb (by decide)
  rcases hh with ⟨-, Y, X, hY, hX, -, e2, -⟩ | ⟨-, -, e2, -⟩
  · have wY : nw Y.2 := by
      rw [← hY]
      unfold rT5
      dsimp only
      exact rTa_nw (rNx_nw wc)
    have wX : nw X.2 := by
      rw [← hX]
      exact rTq_nw wY 4
    rw [e2]
    exact rEn_nw wX
  · rw [e2]; exact wc
theorem rFR_nw {u : Nat → Int32} {n t : Nat} {g g' : Nat → Int64} {r r' : rRd} (h : rFR u n t g r g' r') (w : nw r) : nw r' := by
  obtain ⟨r0, ra, rb, nv0, rc, h0, ha, hb, hn, hc, hh⟩ := h
  have w0 : nw r0 := by
    rw [← h0]
    split
    · exact rFl_nw w (by decide)
    · exact w
  have wb : nw rb := by rw [← hb, ← ha]; exact rMn_nw (rMu_nw w0)
  have wc : nw rc := by
    rw [← hc]
    split
    · exact wb
    · exact rFl_nw wb (by decide)
  rcases hh with ⟨-, hq⟩ | ⟨-, -, e2, -⟩
  · obtain ⟨g2, r1, x, v2, r3, r4, nv, r5, r6, r7, v7, z, hg2, h1, hx, hv2, hr3, hr4, hnv, hr5, hr6, hr7, hv7, hz, he, her, ok⟩ := hq
    have w4 : nw r4 := by
      rw [← hr4, ← hr3, ← hx, ← h1]
      exact rMn_nw (rMu_nw (rTa_nw (rNx_nw wc)))
    have w5 : nw r5 := by
      rw [← hr5]
      split
      · exact rFl_nw w4 (by decide)
      · exact w4
    have w6 : nw r6 := by
      rw [← hr6]
      split
      · exact rFl_nw w5 (by decide)
      · exact w5
    have w7 : nw r7 := by rw [← hr7]; exact rMu_nw w6
    have wz : nw z.2 := by
      rw [← hz]
      split
      · exact w7
      · exact rTa_nw (rNx_nw w7)
    rw [her]
    exact rEn_nw wz
  · rw [e2]; exact wc
theorem rTs_nw {u : Nat → Int32} {n : Nat} {g' : Nat → Int64} {r' : rRd} : ∀ k (g : Nat → Int64) (r : rRd), rTs u n k g r g' r' → nw r → nw r'
  | 0, g, r, h, w => by rw [h.2.2]; exact w
  | k + 1, g, r, h, w => by
    obtain ⟨-, g1, r1, h1, h2⟩ := h
    exact rTs_nw k g1 r1 h2 (rTR_nw h1 w)
theorem rTl_nw {u : Nat → Int32} {n k : Nat} {g' : Nat → Int64} {r' : rRd} : ∀ f (g : Nat → Int64) (r : rRd), rTl u n f k g r g' r' → nw r → nw r'
  | 0, g, r, h, w => rTs_nw k g r h w
  | f + 1, g, r, h, w => by
    obtain ⟨g1, r1, h1, h2⟩ := h
    exact rTl_nw f g1 r1 h2 (rTR_nw h1 w)
theorem rFs_nw {u : Nat → Int32} {n : Nat} {g' : Nat → Int64} {r' : rRd} : ∀ k (g : Nat → Int64) (r : rRd), rFs u n k g r g' r' → nw r → nw r'
  | 0, g, r, h, w => by rw [h.2.2]; exact w
  | k + 1, g, r, h, w => by
    obtain ⟨-, g1, r1, h1, h2⟩ := h
    exact rFs_nw k g1 r1 h2 (rFR_nw h1 w)
theorem rHR_nw {u : Nat → Int32} {n : Nat} {g g' : Nat → Int64} {r r' : rRd} (h : rHR u n g r g' r') (w : nw r) : nw r' := by
  obtain ⟨v1, r1, x, v3, y, hv1, hr1, hx, hv3, hy, rfl, rfl, ok⟩ := h
  have wx : nw x.2 := by rw [← hx, ← hr1]; exact rTa_nw (rMu_nw w)
  have wy : nw y.2 := by
    rw [← hy]
    split
    · exact wx
    · exact rTa_nw (rNx_nw wx)
  exact rEn_nw wy
/-- the whole text -/
def rLd (u : Nat → Int32) (n : Nat) (g : Nat → Int64) (r : rRd) (ge : Nat → Int64) (re : rRd) : Prop :=
  ∃ (g1 : Nat → Int64) (r1 : rRd) (k9 : Nat) (g4 : Nat → Int64) (r4 : rRd) (k2 : Nat) (r5 : rRd), rHR u n g r g1 r1 ∧ rTl u n 2 k9 g1 r1 g4 r4 ∧ rFs u n k2 g4 r4 ge r5 ∧ (if r5.2.2.2.2.1 = 0 ∧ ¬ r5.2.2.1 = 3 then rFl r5 (-2) else r5) = re
theorem rLd_nw {u : Nat → Int32} {n : Nat} {g ge : Nat → Int64} {r re : rRd} (h : rLd u n g r ge re) (w : nw r) : nw re := by
  obtain ⟨g1, r1, k9, g4, r4, k2, r5, h1, h2, h3, h4⟩ := h
  have w5 := rFs_nw _ _ _ h3 (rTl_nw _ _ _ h2 (rHR_nw h1 w))
  rw [← h4]
  split
  · exact rFl_nw w5 (by decide)
  · exact w5
theorem oBeg_k {g : Nat → Int64} {k : Nat} (hk : k < 1390) (h1 : k ≠ 1) : oBeg g k = 0 := by
  unfold oBeg zAll
  rw [zwL_n h1, if_pos hk]
  rfl
theorem oBeg_1 {g : Nat → Int64} : oBeg g 1 = lN 4 := zwL_e
theorem oBeg_i {g : Nat → Int64} {k : Nat} (hk : k < 1390) (h1 : k ≠ 1) : its (oBeg g) k = nI 0 := by
  unfold its
  rw [oBeg_k hk h1]
  decide
theorem oBeg_i1 {g : Nat → Int64} : its (oBeg g) 1 = nI 4 := by
  unfold its
  rw [oBeg_1]
  exact lN_i 4
theorem row_RI {g : Nat → Int64} {c rt : Nat} (hc : 2 ≤ c ∧ c ≤ 12) (hr : 1 ≤ rt ∧ rt ≤ 8) (e0 : g 0 = (nI c).toInt64) (e1 : g 1 = (nI rt).toInt64) (ek : ∀ k, k < 1390 → k ≠ 0 → k ≠ 1 → g k = 0) : gRI g ∧ gN g 2 = 0 ∧ gN g 3 = 0 := by
  have i0 : its g 0 = nI c := by unfold its; rw [e0, i64]
  have i1 : its g 1 = nI rt := by unfold its; rw [e1, i64]
  have ik : ∀ k, k < 1390 → k ≠ 0 → k ≠ 1 → its g k = nI 0 := fun k h1 h2 h3 => by unfold its; rw [ek k h1 h2 h3]; decide
  have N0 : gN g 0 = c := by unfold gN; rw [i0]; exact nI_clamp (by omega)
  have Nk : ∀ k, k < 1390 → k ≠ 0 → k ≠ 1 → gN g k = 0 := fun k h1 h2 h3 => by unfold gN; rw [ik k h1 h2 h3]; decide
  have n2 := Nk 2 (by omega) (by omega) (by omega)
  have n3 := Nk 3 (by omega) (by omega) (by omega)
  have n4 := Nk 4 (by omega) (by omega) (by omega)
  have n5 := Nk 5 (by omega) (by omega) (by omega)
  refine ⟨⟨⟨⟨by rw [N0]; exact i0, by omega, by omega⟩, ⟨by rw [n2]; exact ik 2 (by omega) (by omega) (by omega), by omega⟩, ⟨by rw [n3]; exact ik 3 (by omega) (by omega) (by omega), by omega⟩, ⟨by rw [n4]; exact ik 4 (by omega) (by omega) (by omega), by omega⟩, ⟨by rw [n5]; exact ik 5 (by omega) (by omega) (by omega), by omega⟩, fun f hf => by omega, fun w hw => by omega⟩, ?_, fun t ht => by omega, fun f hf => by omega, ⟨?_, fun t ht => by omega, fun f hf => by omega⟩, fun k h1 h2 => ek k h2 (by omega) (by omega), n4, n5⟩, n2, n3⟩
  · intro k hk _
    by_cases q0 : k = 0
    · rw [q0, i0]; exact e0
    · by_cases q1 : k = 1
      · rw [q1, i1]; exact e1
      · rw [ik k (by omega) q0 q1, ek k (by omega) q0 q1]
        decide
  · exact ⟨rt, i1, hr.1, hr.2⟩
theorem head_RI {u : Nat → Int32} {n : Nat} {g g' : Nat → Int64} {r r' : rRd} (h : rHR u n (oBeg g) r g' r') (w : r'.2.2.2.2.1 = 0) : gRI g' ∧ gN g' 2 = 0 ∧ gN g' 3 = 0 := by
  obtain ⟨v1, r1, x, v3, y, hv1, hr1, hx, hv3, hy, rfl, rfl, ok⟩ := h
  have wy := (rEn_wr w).1
  by_cases q : v3 = 0
  · rw [if_pos q] at hy
    subst hy
    obtain ⟨c, ec, c1, c2⟩ := nLe_ta (u := u) (n := n) (r := r1) (lo := 2) (hi := 12) (by omega) (by omega) (by rw [hx]; exact wy)
    rw [hx] at ec
    show gRI (zwL (oBeg g) 0 x.1.toInt64) ∧ gN (zwL (oBeg g) 0 x.1.toInt64) 2 = 0 ∧ gN (zwL (oBeg g) 0 x.1.toInt64) 3 = 0
    exact row_RI ⟨c1, c2⟩ (rt := 4) (by omega) (by rw [← ec]; exact zwL_e) ((zwL_n (by decide)).trans (oBeg_1.trans (by decide))) (fun k h1 h2 h3 => (zwL_n h2).trans (oBeg_k h1 h3))
  · rw [if_neg q] at hy
    subst hy
    obtain ⟨t, et, t1, t2⟩ := nLe_ta (u := u) (n := n) (r := rNx u n x.2) (lo := 1) (hi := 8) (by omega) (by omega) wy
    have wx : x.2.2.2.2.2.1 = 0 := by
      have := (rTa_wr wy).1
      rw [rNx_wr] at this
      exact this
    obtain ⟨c, ec, c1, c2⟩ := nLe_ta (u := u) (n := n) (r := r1) (lo := 2) (hi := 12) (by omega) (by omega) (by rw [hx]; exact wx)
    rw [hx] at ec
    show gRI (zwL (zwL (oBeg g) 0 x.1.toInt64) 1 (rTa u n (nI 1) (nI 8) (rNx u n x.2)).1.toInt64) ∧ gN (zwL (zwL (oBeg g) 0 x.1.toInt64) 1 (rTa u n (nI 1) (nI 8) (rNx u n x.2)).1.toInt64) 2 = 0 ∧ gN (zwL (zwL (oBeg g) 0 x.1.toInt64) 1 (rTa u n (nI 1) (nI 8) (rNx u n x.2)).1.toInt64) 3 = 0
    exact row_RI ⟨c1, c2⟩ ⟨t1, t2⟩ (by rw [← ec]; exact (zwL_n (by decide)).trans zwL_e) (by rw [← et]; exact zwL_e) (fun k h1 h2 h3 => (zwL_n h3).trans ((zwL_n h2).trans (oBeg_k h1 h3)))
/-- what a row must be behind a text that was right -/
theorem gRI.inv {g : Nat → Int64} (h : gRI g) (h2 : 2 ≤ gN g 2) : gInv g := ⟨h.1, h.2.1, h.2.2.1, h.2.2.2.1, h.2.2.2.2.1, by omega⟩
