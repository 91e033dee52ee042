/-! ===== what a text means: there is one meaning, and only one ===== -/
variable {u : Nat → Int32} {n t : Nat} {g : Nat → Int64} {r : rRd}
theorem rTR_ex (ho : rOk n r) : ∃ g' r', rTR u n t g r g' r' := by
  obtain ⟨r0, h0⟩ : ∃ r0, (if t = 4 then rFl r (-7) else r) = r0 := ⟨_, rfl⟩
  have ho0 : rOk n r0 := by rw [← h0]; split; exact rFl_ok ho; exact ho
  obtain ⟨v1, hv1⟩ : ∃ v1, rIw u 2 r0 = v1 := ⟨_, rfl⟩
  obtain ⟨ra, hra⟩ : ∃ ra, rMu u n v1 r0 = ra := ⟨_, rfl⟩
  have hoa : rOk n ra := by rw [← hra]; exact rMu_ok ho0
  obtain ⟨rb, hrb⟩ : ∃ rb, rMn ra = rb := ⟨_, rfl⟩
  have hob : rOk n rb := by rw [← hrb]; exact rMn_ok hoa
  obtain ⟨nv, hnv⟩ : ∃ nv, rNa g u rb 11 13 t = nv := ⟨_, rfl⟩
  obtain ⟨rc, hrc⟩ : ∃ rc, (if nv = -1 then rb else rFl rb (-5)) = rc := ⟨_, rfl⟩
  have hoc : rOk n rc := by rw [← hrc]; split; exact hob; exact rFl_ok hob
  by_cases w : rc.2.2.2.2.1 = 0
  · obtain ⟨Y, hY⟩ : ∃ Y, rT5 u n t g rc = Y := ⟨_, rfl⟩
    have hoY : rOk n Y.2 := by rw [← hY]; exact rT5_ok hoc
    obtain ⟨X, hX⟩ : ∃ X, rTq u n t Y 4 = X := ⟨_, rfl⟩
    have hoX : rOk n X.2 := by rw [← hX]; exact rTq_ok hoY 4
    exact ⟨_, _, r0, v1, ra, rb, nv, rc, h0, hv1, hra, hrb, hnv, hrc, Or.inl ⟨w, Y, X, hY, hX, rfl, rfl, rEn_ok hoX⟩⟩
  · exact ⟨_, _, r0, v1, ra, rb, nv, rc, h0, hv1, hra, hrb, hnv, hrc, Or.inr ⟨w, rfl, rfl, hoc⟩⟩
theorem rTR_det {g1 g2 : Nat → Int64} {r1 r2 : rRd} (h : rTR u n t g r g1 r1) (k : rTR u n t g r g2 r2) : g1 = g2 ∧ r1 = r2 := by
  obtain ⟨r0, v1, ra, rb, nv, rc, a1, a2, a3, a4, a5, a6, h⟩ := h
  obtain ⟨r0', v1', ra', rb', nv', rc', b1, b2, b3, b4, b5, b6, k⟩ := k
  obtain rfl := b1.symm.trans a1
  obtain rfl := b2.symm.trans a2
  obtain rfl := b3.symm.trans a3
  obtain rfl := b4.symm.trans a4
  obtain rfl := b5.symm.trans a5
  obtain rfl := b6.symm.trans a6
  rcases h with ⟨w, Y, X, c1, c2, c3, c4, -⟩ | ⟨w, c3, c4, -⟩
  · rcases k with ⟨-, Y', X', d1, d2, d3, d4, -⟩ | ⟨w', -⟩
    · obtain rfl := d1.symm.trans c1
      obtain rfl := d2.symm.trans c2
      exact ⟨c3.trans d3.symm, c4.trans d4.symm⟩
    · exact absurd w w'
  · rcases k with ⟨w', -⟩ | ⟨-, d3, d4, -⟩
    · exact absurd w' w
    · exact ⟨c3.trans d3.symm, c4.trans d4.symm⟩
theorem rFR_ex (ho : rOk n r) : ∃ g' r', rFR u n t g r g' r' := by
  obtain ⟨r0, h0⟩ : ∃ r0, (if t = 20 then rFl r (-7) else r) = r0 := ⟨_, rfl⟩
  have ho0 : rOk n r0 := by rw [← h0]; split; exact rFl_ok ho; exact ho
  obtain ⟨ra, hra⟩ : ∃ ra, rMu u n (nI 1) r0 = ra := ⟨_, rfl⟩
  have hoa : rOk n ra := by rw [← hra]; exact rMu_ok ho0
  obtain ⟨rb, hrb⟩ : ∃ rb, rMn ra = rb := ⟨_, rfl⟩
  have hob : rOk n rb := by rw [← hrb]; exact rMn_ok hoa
  obtain ⟨nv, hnv⟩ : ∃ nv, rNa g u rb 64 51 t = nv := ⟨_, rfl⟩
  obtain ⟨rc, hrc⟩ : ∃ rc, (if nv = -1 then rb else rFl rb (-5)) = rc := ⟨_, rfl⟩
  have hoc : rOk n rc := by rw [← hrc]; split; exact hob; exact rFl_ok hob
  by_cases w : rc.2.2.2.2.1 = 0
  · obtain ⟨g2, hg2⟩ : ∃ g2, rPn u rc (oB0 g t) (58 + 51 * t + 6) 8 = g2 := ⟨_, rfl⟩
    obtain ⟨r1, hr1⟩ : ∃ r1, rNx u n rc = r1 := ⟨_, rfl⟩
    have ho1 : rOk n r1 := by rw [← hr1]; exact rNx_ok hoc
    obtain ⟨x, hx⟩ : ∃ x, rTa u n (nI 1) (nI 999) r1 = x := ⟨_, rfl⟩
    have ho2 : rOk n x.2 := by rw [← hx]; exact rTa_ok ho1
    obtain ⟨v2, hv2⟩ : ∃ v2, rIw u 4 x.2 = v2 := ⟨_, rfl⟩
    obtain ⟨r3, hr3⟩ : ∃ r3, rMu u n v2 x.2 = r3 := ⟨_, rfl⟩
    have ho3 : rOk n r3 := by rw [← hr3]; exact rMu_ok ho2
    obtain ⟨r4, hr4⟩ : ∃ r4, rMn r3 = r4 := ⟨_, rfl⟩
    have ho4 : rOk n r4 := by rw [← hr4]; exact rMn_ok ho3
    obtain ⟨nv2, hnv2⟩ : ∃ nv2, rNa g2 u r4 11 13 (gN g2 2) = nv2 := ⟨_, rfl⟩
    obtain ⟨r5, hr5⟩ : ∃ r5, (if nv2 = -1 then rFl r4 (-4) else r4) = r5 := ⟨_, rfl⟩
    have ho5 : rOk n r5 := by rw [← hr5]; split; exact rFl_ok ho4; exact ho4
    obtain ⟨r6, hr6⟩ : ∃ r6, (if r5.2.2.2.2.1 = 0 ∧ gt g2 nv2.toNatClampNeg 0 - zfull g2 nv2 (gN g2 3) < x.1 then rFl r5 (-6) else r5) = r6 := ⟨_, rfl⟩
    have ho6 : rOk n r6 := by rw [← hr6]; split; exact rFl_ok ho5; exact ho5
    obtain ⟨r7, hr7⟩ : ∃ r7, rMu u n (nI 1) r6 = r7 := ⟨_, rfl⟩
    have ho7 : rOk n r7 := by rw [← hr7]; exact rMu_ok ho6
    obtain ⟨v7, hv7⟩ : ∃ v7, rIw u 5 r7 = v7 := ⟨_, rfl⟩
    obtain ⟨z, hz⟩ : ∃ z, (if v7 = 0 then (nI 0, r7) else rTa u n (nI 0) (nI 9999) (rNx u n r7)) = z := ⟨_, rfl⟩
    have hoz : rOk n z.2 := by rw [← hz]; split; exact ho7; exact rTa_ok (rNx_ok ho7)
    exact ⟨_, _, r0, ra, rb, nv, rc, h0, hra, hrb, hnv, hrc, Or.inl ⟨w, g2, r1, x, v2, r3, r4, nv2, r5, r6, r7, v7, z, hg2, hr1, hx, hv2, hr3, hr4, hnv2, hr5, hr6, hr7, hv7, hz, rfl, rfl, rEn_ok hoz⟩⟩
  · exact ⟨_, _, r0, ra, rb, nv, rc, h0, hra, hrb, hnv, hrc, Or.inr ⟨w, rfl, rfl, hoc⟩⟩
theorem rFR_det {g1 g2 : Nat → Int64} {r1 r2 : rRd} (h : rFR u n t g r g1 r1) (k : rFR u n t g r g2 r2) : g1 = g2 ∧ r1 = r2 := by
  obtain ⟨r0, ra, rb, nv, rc, a1, a3, a4, a5, a6, h⟩ := h
  obtain ⟨r0', ra', rb', nv', rc', b1, b3, b4, b5, b6, k⟩ := k
  obtain rfl := b1.symm.trans a1
  obtain rfl := b3.symm.trans a3
  obtain rfl := b4.symm.trans a4
  obtain rfl := b5.symm.trans a5
  obtain rfl := b6.symm.trans a6
  rcases h with ⟨w, h⟩ | ⟨w, c3, c4, -⟩
  · rcases k with ⟨-, k⟩ | ⟨w', -⟩
    · obtain ⟨g2, r1, x, v2, r3, r4, nv2, r5, r6, r7, v7, z, c1, c2, c3, c4, c5, c6, c7, c8, c9, c10, c11, c12, c13, c14, -⟩ := h
      obtain ⟨g2', r1', x', v2', r3', r4', nv2', r5', r6', r7', v7', z', d1, d2, d3, d4, d5, d6, d7, d8, d9, d10, d11, d12, d13, d14, -⟩ := k
      obtain rfl := d1.symm.trans c1
      obtain rfl := d2.symm.trans c2
      obtain rfl := d3.symm.trans c3
      obtain rfl := d4.symm.trans c4
      obtain rfl := d5.symm.trans c5
      obtain rfl := d6.symm.trans c6
      obtain rfl := d7.symm.trans c7
      obtain rfl := d8.symm.trans c8
      obtain rfl := d9.symm.trans c9
      obtain rfl := d10.symm.trans c10
      obtain rfl := d11.symm.trans c11
      obtain rfl := d12.symm.trans c12
      exact ⟨c13.trans d13.symm, c14.trans d14.symm⟩
    · exact absurd w w'
  · rcases k with ⟨w', -⟩ | ⟨-, d3, d4, -⟩
    · exact absurd w' w
    · exact ⟨c3.trans d3.symm, c4.trans d4.symm⟩
theorem rTs_det {g1 g2 : Nat → Int64} {r1 r2 : rRd} : ∀ k k' (g : Nat → Int64) (r : rRd), rTs u n k g r g1 r1 → rTs u n k' g r g2 r2 → g1 = g2 ∧ r1 = r2
  | 0, 0, _, _, h, h' => ⟨h.2.1.trans h'.2.1.symm, h.2.2.trans h'.2.2.symm⟩
  | 0, k' + 1, _, _, h, h' => absurd h.1 h'.1
  | k + 1, 0, _, _, h, h' => absurd h'.1 h.1
  | k + 1, k' + 1, g, r, h, h' => by
    obtain ⟨-, ga, ra, h1, h2⟩ := h
    obtain ⟨-, gb, rb, h3, h4⟩ := h'
    obtain ⟨rfl, rfl⟩ := rTR_det h1 h3
    exact rTs_det k k' _ _ h2 h4
theorem rFs_det {g1 g2 : Nat → Int64} {r1 r2 : rRd} : ∀ k k' (g : Nat → Int64) (r : rRd), rFs u n k g r g1 r1 → rFs u n k' g r g2 r2 → g1 = g2 ∧ r1 = r2
  | 0, 0, _, _, h, h' => ⟨h.2.1.trans h'.2.1.symm, h.2.2.trans h'.2.2.symm⟩
  | 0, k' + 1, _, _, h, h' => absurd h.1 h'.1
  | k + 1, 0, _, _, h, h' => absurd h'.1 h.1
  | k + 1, k' + 1, g, r, h, h' => by
    obtain ⟨-, ga, ra, h1, h2⟩ := h
    obtain ⟨-, gb, rb, h3, h4⟩ := h'
    obtain ⟨rfl, rfl⟩ := rFR_det h1 h3
    exact rFs_det k k' _ _ h2 h4
theorem rTl_det {g1 g2 : Nat → Int64} {r1 r2 : rRd} {k k' : Nat} : ∀ f (g : Nat → Int64) (r : rRd), rTl u n f k g r g1 r1 → rTl u n f k' g r g2 r2 → g1 = g2 ∧ r1 = r2
  | 0, g, r, h, h' => rTs_det k k' g r h h'
  | f + 1, g, r, h, h' => by
    obtain ⟨ga, ra, h1, h2⟩ := h
    obtain ⟨gb, rb, h3, h4⟩ := h'
    obtain ⟨rfl, rfl⟩ := rTR_det h1 h3
    exact rTl_det f _ _ h2 h4
theorem rHR_det {g1 g2 : Nat → Int64} {r1 r2 : rRd} (h : rHR u n g r g1 r1) (k : rHR u n g r g2 r2) : g1 = g2 ∧ r1 = r2 := by
  obtain ⟨v1, ra, x, v3, y, a1, a2, a3, a4, a5, a6, a7, -⟩ := h
  obtain ⟨v1', ra', x', v3', y', b1, b2, b3, b4, b5, b6, b7, -⟩ := k
  obtain rfl := b1.symm.trans a1
  obtain rfl := b2.symm.trans a2
  obtain rfl := b3.symm.trans a3
  obtain rfl := b4.symm.trans a4
  obtain rfl := b5.symm.trans a5
  exact ⟨a6.trans b6.symm, a7.trans b7.symm⟩
theorem rLd_det {g1 g2 : Nat → Int64} {r1 r2 : rRd} (h : rLd u n g r g1 r1) (k : rLd u n g r g2 r2) : g1 = g2 ∧ r1 = r2 := by
  obtain ⟨ga, ra, k9, g4, r4, k2, r5, h1, h2, h3, h4⟩ := h
  obtain ⟨ga', ra', k9', g4', r4', k2', r5', b1, b2, b3, b4⟩ := k
  obtain ⟨rfl, rfl⟩ := rHR_det h1 b1
  obtain ⟨rfl, rfl⟩ := rTl_det 2 _ _ h2 b2
  obtain ⟨rfl, rfl⟩ := rFs_det _ _ _ _ h3 b3
  exact ⟨rfl, h4.symm.trans b4⟩
theorem rTs_ex : ∀ (k : Nat) (g : Nat → Int64) (r : rRd), rOk n r → its g 2 = nI (gN g 2) → gN g 2 ≤ 4 → (if r.2.2.2.2.1 = 0 then 6 - gN g 2 else 0) < k → ∃ k9 g9 r9, rTs u n k9 g r g9 r9 ∧ rOk n r9 ∧ its g9 2 = nI (gN g9 2) ∧ gN g9 2 ≤ 4 := by
  intro k
  induction k with
  | zero => intros; omega
  | succ k ih =>
    intro g r ho h2 h4 hk
    by_cases c : rIw u 2 r = 0
    · exact ⟨0, g, r, ⟨c, rfl, rfl⟩, ho, h2, h4⟩
    · obtain ⟨g2, r2, t2⟩ := rTR_ex (u := u) (t := gN g 2) (g := g) ho
      have f := rTR_fc t2 h2 h4
      have w0 := (rIw_wr c).1
      rw [if_pos w0] at hk
      have hk2 : (if r2.2.2.2.2.1 = 0 then 6 - gN g2 2 else 0) < k := by
        by_cases w2 : r2.2.2.2.2.1 = 0
        · have := (f.2.2.2.1 w2).2
          rw [if_pos w2]
          omega
        · rw [if_neg w2]
          omega
      obtain ⟨k9, g9, r9, t9, o9⟩ := ih g2 r2 f.1 f.2.1 f.2.2.1 hk2
      exact ⟨k9 + 1, g9, r9, ⟨c, g2, r2, t2, t9⟩, o9⟩
theorem rFs_ex : ∀ (k : Nat) (g : Nat → Int64) (r : rRd), rOk n r → its g 2 = nI (gN g 2) → gN g 2 ≤ 4 → its g 3 = nI (gN g 3) → gN g 3 ≤ 20 → (if r.2.2.2.2.1 = 0 then 22 - gN g 3 else 0) < k → ∃ k9 g9 r9, rFs u n k9 g r g9 r9 ∧ rOk n r9 := by
  intro k
  induction k with
  | zero => intros; omega
  | succ k ih =>
    intro g r ho h2 h4 h3 h20 hk
    by_cases c : rIw u 3 r = 0
    · exact ⟨0, g, r, ⟨c, rfl, rfl⟩, ho⟩
    · obtain ⟨g2, r2, t2⟩ := rFR_ex (u := u) (t := gN g 3) (g := g) ho
      have f := rFR_fc t2 h2 h4 h3 h20
      have e2 := f.2.2.2.2 2 (by decide)
      have w0 := (rIw_wr c).1
      rw [if_pos w0] at hk
      have hk2 : (if r2.2.2.2.2.1 = 0 then 22 - gN g2 3 else 0) < k := by
        by_cases w2 : r2.2.2.2.2.1 = 0
        · have := (f.2.2.2.1 w2).2
          rw [if_pos w2]
          omega
        · rw [if_neg w2]
          omega
      obtain ⟨k9, g9, r9, t9, o9⟩ := ih g2 r2 f.1 (by rw [its_eq e2, gN_eq e2]; exact h2) (by rw [gN_eq e2]; exact h4) f.2.1 f.2.2.1 hk2
      exact ⟨k9 + 1, g9, r9, ⟨c, g2, r2, t2, t9⟩, o9⟩
theorem rLd_ex {w0 : Int32} : ∃ ge re, rLd u n (oBeg g) (rTk u n (zsk u n (n - 0) 0) (0, w0)) ge re := by
  obtain ⟨r0, hr0⟩ : ∃ r0, rTk u n (zsk u n (n - 0) 0) (0, w0) = r0 := ⟨_, rfl⟩
  have ho0 : rOk n r0 := by
    have hz := zsk_in (u := u) (n := n) (n - 0) 0
    rw [← hr0]
    exact rTk_ok (by omega)
  obtain ⟨v1, hv1⟩ : ∃ v1, rIw u 0 r0 = v1 := ⟨_, rfl⟩
  obtain ⟨r1, h1⟩ : ∃ r1, rMu u n v1 r0 = r1 := ⟨_, rfl⟩
  have ho1 : rOk n r1 := by rw [← h1]; exact rMu_ok ho0
  obtain ⟨x, hx⟩ : ∃ x, rTa u n (nI 2) (nI 12) r1 = x := ⟨_, rfl⟩
  have ho2 : rOk n x.2 := by rw [← hx]; exact rTa_ok ho1
  obtain ⟨v3, hv3⟩ : ∃ v3, rIw u 1 x.2 = v3 := ⟨_, rfl⟩
  obtain ⟨y, hy⟩ : ∃ y, (if v3 = 0 then (zwL (oBeg g) 0 x.1.toInt64, x.2) else (zwL (zwL (oBeg g) 0 x.1.toInt64) 1 (rTa u n (nI 1) (nI 8) (rNx u n x.2)).1.toInt64, (rTa u n (nI 1) (nI 8) (rNx u n x.2)).2)) = y := ⟨_, rfl⟩
  have hoy : rOk n y.2 := by
    rw [← hy]
    split
    · exact ho2
    · exact rTa_ok (rNx_ok ho2)
  have yk : ∀ k, k < 1390 → k ≠ 0 → k ≠ 1 → y.1 k = 0 := fun k q1 q2 q3 => by
    rw [← hy]
    split
    · exact (zwL_n q2).trans (oBeg_k q1 q3)
    · exact (zwL_n q3).trans ((zwL_n q2).trans (oBeg_k q1 q3))
  have yi : ∀ k, k < 1390 → k ≠ 0 → k ≠ 1 → its y.1 k = nI 0 ∧ gN y.1 k = 0 := fun k q1 q2 q3 => by
    have e : its y.1 k = nI 0 := by unfold its; rw [yk k q1 q2 q3]; decide
    exact ⟨e, by unfold gN; rw [e]; decide⟩
  have hoE : rOk n (rEn u n y.2) := rEn_ok hoy
  have hH : rHR u n (oBeg g) r0 y.1 (rEn u n y.2) := ⟨v1, r1, x, v3, y, hv1, h1, hx, hv3, hy, rfl, rfl, hoE⟩
  have y2 := yi 2 (by omega) (by omega) (by omega)
  have y3 := yi 3 (by omega) (by omega) (by omega)
  have y5 := yi 5 (by omega) (by omega) (by omega)
  have hHb : (rEn u n y.2).2.2.2.2.1 = 0 → gBd y.1 := fun w => (head_RI hH w).1.1
  obtain ⟨g2, r2, t2⟩ := rTR_ex (u := u) (t := gN y.1 2) (g := y.1) hoE
  have f2 := rTR_fc t2 (by rw [y2.1, y2.2]) (by omega)
  have b2 := rTR_b t2 hHb (by rw [y2.1, y2.2]) (by omega) y3.2 y5.2
  have z3 : gN g2 3 = 0 := (gN_eq (b2.1 3 (by omega) (by omega))).trans y3.2
  have z5 : gN g2 5 = 0 := (gN_eq (b2.1 5 (by omega) (by omega))).trans y5.2
  obtain ⟨g3, r3, t3⟩ := rTR_ex (u := u) (t := gN g2 2) (g := g2) f2.1
  have f3 := rTR_fc t3 f2.2.1 f2.2.2.1
  have b3 := rTR_b t3 b2.2 f2.2.1 f2.2.2.1 z3 z5
  have e3 : gN g3 3 = 0 := (gN_eq (b3.1 3 (by omega) (by omega))).trans z3
  have e5 : gN g3 5 = 0 := (gN_eq (b3.1 5 (by omega) (by omega))).trans z5
  obtain ⟨k9, g4, r4, t4, o4, p4, p8⟩ := rTs_ex (u := u) 100 g3 r3 f3.1 f3.2.1 f3.2.2.1 (by split <;> omega)
  have b4 := rTs_b k9 g3 r3 t4 b3.2 f3.2.1 f3.2.2.1 e3 e5
  have q3 : g4 3 = y.1 3 := (b4.1 3 (by omega) (by omega)).trans ((b3.1 3 (by omega) (by omega)).trans (b2.1 3 (by omega) (by omega)))
  obtain ⟨k2, g5, r5, t5, o5⟩ := rFs_ex (u := u) 100 g4 r4 o4 p4 p8 (by rw [its_eq q3, gN_eq q3, y3.1, y3.2]) (by rw [gN_eq q3]; omega) (by split <;> omega)
  exact ⟨g5, _, y.1, _, k9, g4, r4, k2, r5, by rw [hr0]; exact hH, ⟨g2, r2, t2, g3, r3, t3, t4⟩, t5, rfl⟩
