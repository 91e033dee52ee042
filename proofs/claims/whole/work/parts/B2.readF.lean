/-! ===== the reference reads: a file ===== -/
/-- the file's row from its name on -/
def rFQ (u : Nat → Int32) (n t : Nat) (g : Nat → Int64) (rc : rRd) (g' : Nat → Int64) (r' : rRd) : Prop :=
  ∃ (g2 : Nat → Int64) (r1 : rRd) (x : Int32 × rRd) (v2 : Int32) (r3 r4 : rRd) (nv : Int32) (r5 r6 r7 : rRd) (v7 : Int32) (z : Int32 × rRd), rPn u rc (oB0 g t) (58 + 51 * t + 6) 8 = g2 ∧ rNx u n rc = r1 ∧ rTa u n (nI 1) (nI 999) r1 = x ∧ rIw u 4 x.2 = v2 ∧ rMu u n v2 x.2 = r3 ∧ rMn r3 = r4 ∧ rNa g2 u r4 11 13 (gN g2 2) = nv ∧ (if nv = -1 then rFl r4 (-4) else r4) = r5 ∧ (if r5.2.2.2.2.1 = 0 ∧ gt g2 nv.toNatClampNeg 0 - zfull g2 nv (gN g2 3) < x.1 then rFl r5 (-6) else r5) = r6 ∧ rMu u n (nI 1) r6 = r7 ∧ rIw u 5 r7 = v7 ∧ (if v7 = 0 then (nI 0, r7) else rTa u n (nI 0) (nI 9999) (rNx u n r7)) = z ∧ g' = zwL (zwL (zwL (zwL g2 (58 + 51 * t + 0) x.1.toInt64) (58 + 51 * t + 1) nv.toInt64) (58 + 51 * t + 3) z.1.toInt64) 3 ((zwL (zwL (zwL g2 (58 + 51 * t + 0) x.1.toInt64) (58 + 51 * t + 1) nv.toInt64) (58 + 51 * t + 3) z.1.toInt64) 3 + lN 1) ∧ r' = rEn u n z.2 ∧ rOk n r'
def rFR (u : Nat → Int32) (n t : Nat) (g : Nat → Int64) (r : rRd) (g' : Nat → Int64) (r' : rRd) : Prop :=
  ∃ (r0 ra rb : rRd) (nv : Int32) (rc : rRd), (if t = 20 then rFl r (-7) else r) = r0 ∧ rMu u n (nI 1) r0 = ra ∧ rMn ra = rb ∧ rNa g u rb 64 51 t = nv ∧ (if nv = -1 then rb else rFl rb (-5)) = rc ∧ ((rc.2.2.2.2.1 = 0 ∧ rFQ u n t g rc g' r') ∨ (¬ rc.2.2.2.2.1 = 0 ∧ g' = g ∧ r' = rc ∧ rOk n r'))
def rFP (M : zMem) (u : Nat → Int32) (n t : Nat) (g : Nat → Int64) (r : rRd) : zOut → zMem → Prop := fun o M' => o = .inl none ∧ ∃ g' r', rFR u n t g r g' r' ∧ M' = zsL (rdM M r') 942 g'
theorem rPn_n {u : Nat → Int32} {r : rRd} {g : Nat → Int64} {to k j : Nat} (h : j < to ∨ to + k ≤ j) : rPn u r g to k j = g j := if_neg (by omega)
theorem gBd.fresh {g g2 : Nat → Int64} {t : Nat} (h : gBd g) (ht : t < 20) (hc : gN g 3 ≤ t) (e : ∀ k, k < 58 + 51 * t ∨ 58 + 51 * t + 51 ≤ k → g2 k = g k) : gBd g2 := h.file ht e (fun q => absurd q (by omega))
section
variable {l : Launch} {G : zG}
theorem w_X9_readsFile_53r (hl : l.stackTraces = false) {M : zMem} (hm : mSh M) {g : Nat → Int64} {u : Nat → Int32} (hu : zI M 947 = u) {n : Nat} (hn : zI M 941 8 = nI n) (hn6 : n ≤ 600) {r : rRd} (ho : rOk n r) (h2 : its g 2 = nI (gN g 2)) (h24 : gN g 2 ≤ 4) (hbd : gBd g) (ht : gN g 3 < 20) {Q : zOut → zMem → Prop} (kk : ∀ g' r', rFQ u n (gN g 3) g r g' r' → Q (.inl none) (zsL (rdM M r') 942 g')) : zS l G mX9_readsFile 6 200 0 0 53 [some (.ref 941), some (.int (nI (gN g 3))), none, none, none] [] (zsL (rdM M r) 942 g) Q := by
  obtain ⟨g2, hg2⟩ : ∃ g2, rPn u r (oB0 g (gN g 3)) (58 + 51 * gN g 3 + 6) 8 = g2 := ⟨_, rfl⟩
  have eg : ∀ k, k < 58 + 51 * gN g 3 ∨ 58 + 51 * gN g 3 + 51 ≤ k → g2 k = g k := fun k q => by rw [← hg2, rPn_n (by omega), oB0_n (by omega)]
  have e2 : gN g2 2 = gN g 2 := gN_eq (eg 2 (by omega))
  have hb2 : gBd g2 := hbd.fresh ht (Nat.le_refl _) eg
  obtain ⟨r1, hr1⟩ : ∃ r1, rNx u n r = r1 := ⟨_, rfl⟩
  have ho1 : rOk n r1 := by rw [← hr1]; exact rNx_ok ho
  obtain ⟨x, hx⟩ : ∃ x, rTa u n (nI 1) (nI 999) r1 = x := ⟨_, rfl⟩
  have ho2 : rOk n x.2 := by rw [← hx]; exact rTa_ok ho1
  obtain ⟨v2, hv2⟩ : ∃ v2, rIw u 4 x.2 = v2 := ⟨_, rfl⟩
  obtain ⟨r3, hr3⟩ : ∃ r3, rMu u n v2 x.2 = r3 := ⟨_, rfl⟩
  have ho3 : rOk n r3 := by rw [← hr3]; exact rMu_ok ho2
  obtain ⟨r4, hr4⟩ : ∃ r4, rMn r3 = r4 := ⟨_, rfl⟩
  have ho4 : rOk n r4 := by rw [← hr4]; exact rMn_ok ho3
  obtain ⟨nv, hnv⟩ : ∃ nv, rNa g2 u r4 11 13 (gN g2 2) = nv := ⟨_, rfl⟩
  obtain ⟨r5, hr5⟩ : ∃ r5, (if nv = -1 then rFl r4 (-4) else r4) = r5 := ⟨_, rfl⟩
  have ho5 : rOk n r5 := by rw [← hr5]; split; exact rFl_ok ho4; exact ho4
  obtain ⟨r6, hr6⟩ : ∃ r6, (if r5.2.2.2.2.1 = 0 ∧ gt g2 nv.toNatClampNeg 0 - zfull g2 nv (gN g2 3) < x.1 then rFl r5 (-6) else r5) = r6 := ⟨_, rfl⟩
  have ho6 : rOk n r6 := by rw [← hr6]; split; exact rFl_ok ho5; exact ho5
  obtain ⟨r7, hr7⟩ : ∃ r7, rMu u n (nI 1) r6 = r7 := ⟨_, rfl⟩
  have ho7 : rOk n r7 := by rw [← hr7]; exact rMu_ok ho6
  obtain ⟨v7, hv7⟩ : ∃ v7, rIw u 5 r7 = v7 := ⟨_, rfl⟩
  obtain ⟨z, hz⟩ : ∃ z, (if v7 = 0 then (nI 0, r7) else rTa u n (nI 0) (nI 9999) (rNx u n r7)) = z := ⟨_, rfl⟩
  have hoz : rOk n z.2 := by rw [← hz]; split; exact ho7; exact rTa_ok (rNx_ok ho7)
  refine w_X9_readsFile_53 hl hm hu hn hn6 ho ht hg2 hr1 hx hv2 hr3 hr4 (by rw [e2, its_eq (eg 2 (by omega))]; exact h2) (by omega) hnv hr5 ho1 ho2 ho3 ho4 ?_
  refine w_X9_readsFile_123 hl hm hu hn hn6 ho5 (fun c => ⟨hb2, ?_⟩) hr6 ?_
  · by_cases q : nv = -1
    · rw [← hr5, if_pos q] at c
      exact absurd c (rFl_wr (by decide))
    · rw [← hr5, if_neg q] at c
      rw [show rNa g2 u r4 11 13 (gN g2 2) = rNd g2 u r4 11 13 (gN g2 2) 0 from if_pos c] at hnv
      rcases rNd_in (g := g2) (u := u) (r := r4) (b := 11) (sz := 13) (gN g2 2) 0 with h | ⟨d, -, h5, h6, -⟩
      · exact absurd (hnv.symm.trans h) q
      · exact ⟨d, by omega, hnv.symm.trans h6⟩
  · refine zS.mono (w_X9_readsFile_145 hl hm hu hn hn6 ho6 ht hr7 hv7 hz ho7 hoz) (fun o M2 q => ?_)
    obtain ⟨rfl, rfl⟩ := q
    exact kk _ _ ⟨g2, r1, x, v2, r3, r4, nv, r5, r6, r7, v7, z, hg2, hr1, hx, hv2, hr3, hr4, hnv, hr5, hr6, hr7, hv7, hz, rfl, rfl, by unfold rEn; exact rMu_ok hoz⟩
end
