/-! ===== the class reads a tier ===== -/
theorem rTn_at {u : Nat → Int32} {n t : Nat} {x : (Nat → Int64) × rRd} {j : Nat} : ∀ m, j < m → (rTn u n t x m).1 (6 + 13 * t + j) = (rTa u n (rLo j) (rHi j) (rTn u n t x j).2).1.toInt64
  | 0, h => by omega
  | m + 1, h => by
    show zwL (rTn u n t x m).1 (6 + 13 * t + m) _ _ = _
    by_cases q : j = m
    · rw [q, zwL_e]
    · rw [zwL_n (by omega)]
      exact rTn_at m (by omega)
theorem rTn_n {u : Nat → Int32} {n t : Nat} {x : (Nat → Int64) × rRd} {k : Nat} : ∀ m, m ≤ 5 → (k < 6 + 13 * t ∨ 6 + 13 * t + 5 ≤ k) → (rTn u n t x m).1 k = x.1 k
  | 0, _, _ => rfl
  | m + 1, h, q => by
    show zwL (rTn u n t x m).1 (6 + 13 * t + m) _ _ = _
    rw [zwL_n (by omega)]
    exact rTn_n m (by omega) q
theorem oTier_up {g : Nat → Int64} {t i : Nat} {w : Nat → Int64} {num : Nat → Int32} {v : Int32} {z : Int64} (hi : i < 5) : zwL (zwL (oTier g t w num) 2 z) (6 + 13 * t + i) v.toInt64 = zwL (oTier g t w (zw1 num i v)) 2 z := by
  funext k
  by_cases q : k = 6 + 13 * t + i
  · rw [q, zwL_e, zwL_n (by omega)]
    unfold oTier
    rw [if_pos (by omega), show 6 + 13 * t + i - (6 + 13 * t) = i by omega, zw1_e]
  · rw [zwL_n q]
    by_cases q2 : k = 2
    · rw [q2, zwL_e, zwL_e]
    · rw [zwL_n q2, zwL_n q2]
      unfold oTier
      by_cases q3 : 6 + 13 * t ≤ k ∧ k < 6 + 13 * t + 5
      · rw [if_pos q3, if_pos q3, zw1_n (by omega)]
      · rw [if_neg q3, if_neg q3]
/-- the row of a tier that was read -/
theorem tier_row {g : Nat → Int64} {u : Nat → Int32} {n : Nat} {ra r1 : rRd} {X : (Nat → Int64) × rRd} (ht : gN g 2 < 4) (h2 : g 2 = (nI (gN g 2)).toInt64) (h0 : ∀ k, 1378 ≤ k → k < 1390 → g k = 0) (hX : rTn u n (gN g 2) (rPn u ra g (6 + 13 * gN g 2 + 5) 8, r1) 5 = X) (num : Nat → Int32) (hn : ∀ j, j < 5 → (num j).toInt64 = X.1 (6 + 13 * gN g 2 + j)) (k : Nat) (hk : k < 1390) : zwL X.1 2 (X.1 2 + lN 1) k = zwL (oTier g (gN g 2) (rNm u ra) num) 2 (nI (gN g 2 + 1)).toInt64 k := by
  have eX : ∀ k, (k < 6 + 13 * gN g 2 ∨ 6 + 13 * gN g 2 + 5 ≤ k) → X.1 k = rPn u ra g (6 + 13 * gN g 2 + 5) 8 k := fun k q => by
    rw [← hX]
    exact rTn_n 5 (by omega) q
  by_cases q : k = 2
  · rw [q, zwL_e, zwL_e, eX 2 (by omega), rPn_n (by omega), h2, nI_l (by omega), nI_l (by omega), lN_add]
  · rw [zwL_n q, zwL_n q]
    unfold oTier
    by_cases q1 : 6 + 13 * gN g 2 ≤ k ∧ k < 6 + 13 * gN g 2 + 5
    · rw [if_pos q1, hn (k - (6 + 13 * gN g 2)) (by omega)]
      exact congrArg X.1 (by omega)
    · rw [if_neg q1, eX k (by omega)]
      by_cases q2 : 6 + 13 * gN g 2 + 5 ≤ k ∧ k < 6 + 13 * gN g 2 + 13
      · rw [if_pos q2]
        exact if_pos (by omega)
      · rw [if_neg q2, rPn_n (by omega)]
        by_cases q3 : 1378 + 3 * gN g 2 ≤ k ∧ k < 1378 + 3 * gN g 2 + 3
        · rw [if_pos q3]
          exact h0 k (by omega) hk
        · rw [if_neg q3]
theorem rTR_7 {u : Nat → Int32} {n t : Nat} {g g' : Nat → Int64} {r r' : rRd} (h : rTR u n t g r g' r') (ht : t = 4) (w : r.2.2.2.2.1 = 0) : r' = rFl r (-7) := by
  obtain ⟨r0, v1, ra, rb, nv, rc, h0, hv, ha, hb, hn, hc, hh⟩ := h
  rw [if_pos ht] at h0
  have w0 : ¬ r0.2.2.2.2.1 = 0 := by rw [← h0, rFl_w w]; decide
  have ea : ra = r0 := ha.symm.trans (rMu_w w0)
  have e : rc = ra := rX_w hb hn hc (by rw [ea]; exact w0)
  rcases hh with ⟨q, -⟩ | ⟨q, -, e2, -⟩
  · rw [e, ea] at q
    exact absurd q w0
  · rw [e2, e, ea, h0]
section
variable {l : Launch} {G : zG}
theorem w_X4_readTier_79 (hl : l.stackTraces = false) {B : zMem} {a n s : Nat} {u : Nat → Int32} (hd : a + 2 ≤ s ∨ s + 77 ≤ a) {g : Nat → Int64} {t : Nat} {w0 : Nat → Int64} {q : Nat → Nat} (ht : t < 4) {x X : (Nat → Int64) × rRd} (hX : rTn u n t x 5 = X) {g' : Nat → Int64} (hg' : ∀ num : Nat → Int32, (∀ j, j < 5 → (num j).toInt64 = X.1 (6 + 13 * t + j)) → ∀ k, k < 1390 → g' k = (zwL (oTier g t w0 num) 2 (nI (t + 1)).toInt64) k) : ∀ (k i : Nat) (N : zMem) (p : Nat) (num : Nat → Int32), eM B N a s → eB N a n u → zI N a 3 = nI p → eSy u n p (rTn u n t x i).2 → rSt N s (zwL (oTier g t w0 num) 2 (nI (t + 1)).toInt64) q → (∀ j, j < i → (num j).toInt64 = X.1 (6 + 13 * t + j)) → i ≤ 5 → 5 - i < k → zS l G mX4_readTier 6 200 0 0 79 [some (.ref a), some (.ref s), some (.int (nI i))] [] N (tQ B a n s u g' (rEn u n X.2)) := by
  intro k
  induction k with
  | zero => intros; omega
  | succ k ih =>
    intro i N p num hM hbN hp hs hr hnum hi hk
    refine s_iload_n (zdk hX4_readTier_0 41 rfl) rfl ?_
    refine s_iconstv (v := nI 5) (zdk hX4_readTier_0 42 rfl) zc_iconst_5 ?_
    refine s_icmp_ge 127 (zdk hX4_readTier_0 43 rfl) (by decide) (fun c81 => ?_) (fun c81 => ?_)
    · have n81 : 5 ≤ i := nle c81 (by omega) (by omega)
      obtain rfl : i = 5 := by omega
      rw [hX] at hs
      refine s_aload_n (zdk hX4_readTier_1 7 rfl) rfl ?_
      refine s_callV1 (ci := 4) [] (zdk hX4_readTier_1 8 rfl) cw_X4_72 (hbN.1.1) (by decide) rfl rfl rfl (Nat.le_of_ble_eq_true rfl) (by decide) (e_semi hl hbN hp hs) ?_
      intro v9 M1 q9
      obtain ⟨q8, k1⟩ := q9
      cases q8
      have hb1 := hbN.keep k1
      have r1 := hr.keep (k1.1.mono (fun c hc => by omega))
      refine s_ireturn (zdk hX4_readTier_1 9 rfl) rfl nar01 ?_
      exact hM.q k1 (r1.ext (hg' num hnum)) (fun _ => rfl)
    · have n81 : i < 5 := nlt c81 (by omega) (by omega)
      have n3 : t < gN (zwL (oTier g t w0 num) 2 (nI (t + 1)).toInt64) 2 := by rw [gN_e (by omega)]; omega
      refine s_aload_n (zdk hX4_readTier_0 44 rfl) rfl ?_
      refine s_iload_n (zdk hX4_readTier_0 45 rfl) rfl ?_
      refine s_callSN0 [.int (nI i)] (zdk hX4_readTier_0 46 rfl) cw_X4_98 rfl (Nat.le_of_ble_eq_true rfl) (by decide) (c_X8_leastOf hl N (nI i)) ?_
      refine s_topi (b := rLo i) (rfl) ?_
      refine s_iload_n (zdk hX4_readTier_0 47 rfl) rfl ?_
      refine s_callSN0 [.int (nI i)] (zdk hX4_readTier_0 48 rfl) cw_X4_102 rfl (Nat.le_of_ble_eq_true rfl) (by decide) (c_X8_greatestOf hl N (nI i)) ?_
      refine s_topi (b := rHi i) (rfl) ?_
      refine s_callV1 (ci := 4) [.int (rLo i), .int (rHi i)] (zdk hX4_readTier_0 49 rfl) cw_X4_59 (hbN.1.1) (by decide) rfl rfl rfl (Nat.le_of_ble_eq_true rfl) (by decide) (e_num hl hbN hp hs (rLo i) (rHi_le i)) ?_
      intro v9 M1 q9
      obtain ⟨q8, k1, m1⟩ := q9
      cases q8
      have hb1 := hbN.keep k1
      have r1 := hr.keep (k1.1.mono (fun c hc => by omega))
      refine s_if_ne 101 (zdk hX4_readTier_0 50 rfl) (by decide) (fun c96 => ?_) (fun c96 => ?_)
      · have b96 : (rTa u n (rLo i) (rHi i) (rTn u n t x i).2).2.2.2.2.2.1 = 0 := b01_ne c96
        obtain ⟨e1, p1, hp1, hs1⟩ := k1.y b96
        refine s_aload_n (zdk hX4_readTier_0 53 rfl) rfl ?_
        refine s_getR (zdk hX4_readTier_0 54 rfl) fw_X4_105 rfl (r1.K) (r1.r5) ?_
        refine s_aload_n (zdk hX4_readTier_0 55 rfl) rfl ?_
        refine s_getI (zdk hX4_readTier_0 56 rfl) fw_X4_81 rfl (r1.K) ?_
        refine s_topi (b := nI (t + 1)) (r1.v3.trans (by rw [gN_e (by omega)])) ?_
        refine s_iconstv (v := nI 1) (zdk hX4_readTier_0 57 rfl) zc_iconst_1 ?_
        refine s_isub (zdk hX4_readTier_0 58 rfl) ?_
        refine s_topi (b := nI t) (pk_sub (by omega)) ?_
        refine s_aaloadN (N := 4) (j := t) (zdk hX4_readTier_0 59 rfl) (r1.tK) (by decide) (r1.tN) (r1.tL n3) (by decide) (r1.tR n3) ?_
        refine s_getR (zdk hX4_readTier_1 0 rfl) fw_X4_109 rfl ((r1.tS n3).1) ((r1.tS n3).2.1) ?_
        refine s_iload_n (zdk hX4_readTier_1 1 rfl) rfl ?_
        refine s_aload_n (zdk hX4_readTier_1 2 rfl) rfl ?_
        refine s_getI (zdk hX4_readTier_1 3 rfl) fw_X4_28 rfl (hb1.1.1) ?_
        refine s_topi (b := (rTa u n (rLo i) (rHi i) (rTn u n t x i).2).1) (m1 b96) ?_
        refine s_iastoreN (N := 5) (j := i) (zdk hX4_readTier_1 4 rfl) ((r1.tS n3).2.2.2.1) ((r1.tS n3).2.2.2.2.1) (n81) (by decide) ?_
        refine s_iinc (r := nI (i + 1)) (zdk hX4_readTier_1 5 rfl) (Nat.le_of_ble_eq_true rfl) rfl (nI_1 _) ?_
        refine s_ls (ls' := [some (.ref a), some (.ref s), some (.int (nI (i + 1)))]) rfl ?_
        refine s_goto 79 (zdk hX4_readTier_1 6 rfl) (by decide) ?_
        have e2 : zag M1 (zsI M1 (s + 5 + 3 * t + 1) i (rTa u n (rLo i) (rHi i) (rTn u n t x i).2).1) (fun c => c < s ∨ s + 77 ≤ c) := (zag_I _ _ _ _).mono fun c hc => by omega
        refine ih (i + 1) _ p1 (zw1 num i (rTa u n (rLo i) (rHi i) (rTn u n t x i).2).1) ((hM.step k1 b96).st (by omega) e2) (hb1.st hd e2) ((congrFun (e2.2 a (by omega)).1 3).trans hp1) hs1 ((r1.num n3 n81).cong (oTier_up n81)) (fun j hj => ?_) (by omega) (by omega)
        by_cases q5 : j = i
        · rw [q5, zw1_e, ← hX]
          exact (rTn_at 5 n81).symm
        · rw [zw1_n q5]
          exact hnum j (by omega)
      · have b96 : ¬ ((rTa u n (rLo i) (rHi i) (rTn u n t x i).2).2.2.2.2.2.1 = 0) := b01_eq c96
        refine s_iconstv (v := nI 0) (zdk hX4_readTier_0 51 rfl) zc_iconst_0 ?_
        refine s_ireturn (zdk hX4_readTier_0 52 rfl) rfl rfl ?_
        have e5 : X.2 = (rTa u n (rLo i) (rHi i) (rTn u n t x i).2).2 := by
          have := rTn_w (u := u) (n := n) (t := t) (x := x) (k := i + 1) b96 (5 - (i + 1))
          rw [show i + 1 + (5 - (i + 1)) = 5 by omega, hX] at this
          exact this
        rw [e5, rEn_w b96]
        exact hM.qn b96 k1 r1
theorem w_X4_readTier_28 (hl : l.stackTraces = false) {M : zMem} {a n s : Nat} {u : Nat → Int32} (hb : eB M a n u) (hd : a + 2 ≤ s ∨ s + 77 ≤ a) {p : Nat} {r : rRd} (hp : zI M a 3 = nI p) (hs : eSy u n p r) {g : Nat → Int64} {q : Nat → Nat} (hg : rSt M s g q) (hN : gNT g) (h2 : g 2 = (nI (gN g 2)).toInt64) (h0 : ∀ k, 1378 ≤ k → k < 1390 → g k = 0) (ht4 : gN g 2 < 4) {v1 nv : Int32} {ra rb rc : rRd} (hv : rIw u 2 r = v1) (ha : rMu u n v1 r = ra) (hb9 : rMn ra = rb) (hn : rNa g u rb 11 13 (gN g 2) = nv) (hc : (if nv = -1 then rb else rFl rb (-5)) = rc) {g' : Nat → Int64} {r' : rRd} (hh : (rc.2.2.2.2.1 = 0 ∧ ∃ Y X, rT5 u n (gN g 2) g rc = Y ∧ rTq u n (gN g 2) Y 4 = X ∧ g' = zwL X.1 2 (X.1 2 + lN 1) ∧ r' = rEn u n X.2 ∧ rOk n r') ∨ (¬ rc.2.2.2.2.1 = 0 ∧ g' = g ∧ r' = rc ∧ rOk n r')) : zS l G mX4_readTier 6 200 0 0 28 [some (.ref a), some (.ref s), none] [] M (tQ M a n s u g' r') := by
  refine s_aload_n (zdk hX4_readTier_0 14 rfl) rfl ?_
  refine s_ldcS (tx := "tier") (k := 2) (zdk hX4_readTier_0 15 rfl) (by decide +kernel) (by decide) ?_
  refine s_callV1 (ci := 4) [.ref (1000000 + 2)] (zdk hX4_readTier_0 16 rfl) cw_X4_55 (hb.1.1) (by decide) rfl rfl rfl (Nat.le_of_ble_eq_true rfl) (by decide) (e_pass hl hb hp hs (w := 2) (by decide)) ?_
  intro v9 M1 q9
  rw [hv, ha] at q9
  obtain ⟨q8, k1⟩ := q9
  cases q8
  have hb1 := hb.keep k1
  have r1 := hg.keep (k1.1.mono (fun c hc => by omega))
  refine s_if_eq 44 (zdk hX4_readTier_0 17 rfl) (by decide) (fun c34 => ?_) (fun c34 => ?_)
  · have b34 : ¬ (ra.2.2.2.2.1 = 0) := b01_eq c34
    refine s_iconstv (v := nI 0) (zdk hX4_readTier_0 21 rfl) zc_iconst_0 ?_
    refine s_ireturn (zdk hX4_readTier_0 22 rfl) rfl rfl ?_
    have e := rX_w hb9 hn hc b34
    rcases hh with ⟨w, -⟩ | ⟨w, -, e2, -⟩
    · exact absurd (by rw [← e]; exact w) b34
    · rw [e2, e]; exact tQ_n b34 k1 r1
  · have b34 : ra.2.2.2.2.1 = 0 := b01_ne c34
    obtain ⟨e1, p1, hp1, hs1⟩ := k1.y b34
    refine s_aload_n (zdk hX4_readTier_0 18 rfl) rfl ?_
    refine s_callV1 (ci := 4) [] (zdk hX4_readTier_0 19 rfl) cw_X4_87 (hb1.1.1) (by decide) rfl rfl rfl (Nat.le_of_ble_eq_true rfl) (by decide) (e_name hl hb1 hp1 hs1) ?_
    intro v9 M2 q9
    rw [hb9] at q9
    obtain ⟨q8, k2, n2⟩ := q9
    cases q8
    have hb2 := hb1.keep k2
    have r2 := r1.keep (k2.1.mono (fun c hc => by omega))
    refine s_if_ne 46 (zdk hX4_readTier_0 20 rfl) (by decide) (fun c41 => ?_) (fun c41 => ?_)
    · have b41 : rb.2.2.2.2.1 = 0 := b01_ne c41
      rw [if_pos b41] at k2
      have eb : rb = ra := hb9.symm.trans (rMn_wr (by rw [hb9]; exact b41)).1
      have ek := (rMn_wr (r := ra) (by rw [hb9]; exact b41)).2
      have en : zfs (fun i => zpk g (6 + 13 * i + 5) 8) (zpl u ra.1 (ra.2.1 - ra.1)) ((gN g 2) - 0) 0 = nv := by rw [nT_eq hN hs1 ek.1 ek.2, ← eb]; exact hn
      have ew := rNm_g hs1 ek.1 ek.2
      refine s_aload_n (zdk hX4_readTier_0 23 rfl) rfl ?_
      refine s_aload_n (zdk hX4_readTier_0 24 rfl) rfl ?_
      refine s_getJ (zdk hX4_readTier_0 25 rfl) fw_X4_31 rfl (hb2.1.1) ?_
      refine s_topl (b := zpl u ra.1 (ra.2.1 - ra.1)) ((n2 b41).1) ?_
      refine s_callV0 (ci := 5) [.long (zpl u ra.1 (ra.2.1 - ra.1))] (zdk hX4_readTier_0 26 rfl) cw_X4_90 (r2.K) (by decide) rfl rfl rfl (Nat.le_of_ble_eq_true rfl) (by decide) (c_X5_tierNamed hl r2 _) ?_
      refine s_topi (b := nv) (en) ?_
      refine s_iconstv (v := (-1)) (zdk hX4_readTier_0 27 rfl) zc_iconst_m1 ?_
      refine s_icmp_eq 69 (zdk hX4_readTier_0 28 rfl) (by decide) (fun c55 => ?_) (fun c55 => ?_)
      · refine s_aload_n (zdk hX4_readTier_0 35 rfl) rfl ?_
        refine s_aload_n (zdk hX4_readTier_0 36 rfl) rfl ?_
        refine s_getJ (zdk hX4_readTier_0 37 rfl) fw_X4_31 rfl (hb2.1.1) ?_
        refine s_topl (b := zpl u ra.1 (ra.2.1 - ra.1)) ((n2 b41).1) ?_
        refine s_callV1 (ci := 5) [.long (zpl u ra.1 (ra.2.1 - ra.1))] (zdk hX4_readTier_0 38 rfl) cw_X4_94 (r2.K) (by decide) rfl rfl rfl (Nat.le_of_ble_eq_true rfl) (by decide) (c_X5_putTier hl r2 (w := rNm u ra) ew.2.2 ht4) ?_
        intro v9 M3 q9
        obtain ⟨q8, a3, r3⟩ := q9
        cases q8
        refine s_iconstv (v := nI 0) (zdk hX4_readTier_0 39 rfl) zc_iconst_0 ?_
        refine s_istore_n (zdk hX4_readTier_0 40 rfl) (Nat.le_of_ble_eq_true rfl) ?_
        refine s_ls (ls' := [some (.ref a), some (.ref s), some (.int (nI 0))]) rfl ?_
        have e3 : rc = ra := by rw [← hc, if_pos c55, eb]
        rcases hh with ⟨w, Y, X, hY, hX, e1, e2, ok⟩ | ⟨w, -⟩
        · rw [e3] at hY
          have hX5 := rTn_5 hY hX
          obtain ⟨f1, p2, hp2, hs2⟩ := k2.y (by rw [rNx_wr]; exact b34)
          rw [e1, e2]
          exact w_X4_readTier_79 hl hd ht4 hX5 (fun num hnum k hk => tier_row ht4 h2 h0 hX5 num hnum k hk) 6 0 M3 p2 _ (((eM.refl.step k1 b34).step k2 (by rw [rNx_wr]; exact b34)).st (by omega) a3) (hb2.st hd a3) ((congrFun (a3.2 a (by omega)).1 3).trans hp2) hs2 r3 (fun j hj => by omega) (by omega) (by omega)
        · exact absurd (by rw [e3]; exact b34) w
      · refine s_aload_n (zdk hX4_readTier_0 29 rfl) rfl ?_
        refine s_bipushv (v := (-5)) (zdk hX4_readTier_0 30 rfl) zc_bipush_m5 ?_
        refine s_aload_n (zdk hX4_readTier_0 31 rfl) rfl ?_
        refine s_getI (zdk hX4_readTier_0 32 rfl) fw_X4_35 rfl (hb2.1.1) ?_
        refine s_topi (b := nI ra.1) ((n2 b41).2) ?_
        refine s_callV0 (ci := 4) [.int ((-5)), .int (nI ra.1)] (zdk hX4_readTier_0 33 rfl) cw_X4_84 (hb2.1.1) (by decide) rfl rfl rfl (Nat.le_of_ble_eq_true rfl) (by decide) (c_X4_fail hl hb2.1 (-5) (nI ra.1)) ?_
        refine s_ireturn (zdk hX4_readTier_0 34 rfl) rfl rfl ?_
        have e : rc = rFl ra (-5) := by rw [← hc, if_neg c55, eb]
        have w5 : ¬ rc.2.2.2.2.1 = 0 := by rw [e, rFl_w b34]; decide
        rcases hh with ⟨w, -⟩ | ⟨w, -, e2, -⟩
        · exact absurd w w5
        · rw [e2]
          exact tQ_n w5 (by rw [e]; exact k1.tr b34 (eR_fail k2.1 k2.2.1 k2.2.2.1 b34 (by decide) rfl)) (r2.keep (((zag_I M2 a 4 (-5)).trans (zag_I _ a 1 _)).mono (fun c hc => by omega)))
    · have b41 : ¬ (rb.2.2.2.2.1 = 0) := b01_eq c41
      refine s_iconstv (v := nI 0) (zdk hX4_readTier_0 21 rfl) zc_iconst_0 ?_
      refine s_ireturn (zdk hX4_readTier_0 22 rfl) rfl rfl ?_
      have e : rc = rb := by rw [← hc, ← hn, rNa_w b41, if_pos rfl]
      rw [if_neg b41] at k2
      rcases hh with ⟨w, -⟩ | ⟨w, -, e2, -⟩
      · exact absurd (by rw [← e]; exact w) b41
      · rw [e2, e]; exact tQ_n b41 (k1.tr b34 k2) r2
theorem c_X4_readTier (hl : l.stackTraces = false) {M : zMem} {a n s : Nat} {u : Nat → Int32} (hb : eB M a n u) (hd : a + 2 ≤ s ∨ s + 77 ≤ a) {p : Nat} {r : rRd} (hp : zI M a 3 = nI p) (hs : eSy u n p r) {g : Nat → Int64} {q : Nat → Nat} (hg : rSt M s g q) (hN : gNT g) (h2 : g 2 = (nI (gN g 2)).toInt64) (h0 : ∀ k, 1378 ≤ k → k < 1390 → g k = 0) {g' : Nat → Int64} {r' : rRd} (ht : rTR u n (gN g 2) g r g' r') (hpre : gN g 2 < 4 ∨ ¬ rIw u 2 r = 0) : zCm l G mX4_readTier 6 200 0 0 [.ref a, .ref s] M (tQ M a n s u g' r') := by
  have h24 := hg.b.2.1.2
  refine zCm.of0 (ls0 := [some (.ref a), some (.ref s), none]) (by decide +kernel) rfl hl rfl (Nat.le_of_ble_eq_true rfl) (fun v' M' q => q.2.1.1) (fun x M' q => by cases q.1) ?_
  refine s_aload_n (zdk hX4_readTier_0 0 rfl) rfl ?_
  refine s_ldcS (tx := "tier") (k := 2) (zdk hX4_readTier_0 1 rfl) (by decide +kernel) (by decide) ?_
  refine s_callV1 (ci := 4) [.ref (1000000 + 2)] (zdk hX4_readTier_0 2 rfl) cw_X4_65 (hb.1.1) (by decide) rfl rfl rfl (Nat.le_of_ble_eq_true rfl) (by decide) (e_word hl hb hp hs (w := 2) (by decide)) ?_
  intro v9 M1 q9
  obtain ⟨q8, k1, z1, y1⟩ := q9
  cases q8
  have hb1 := hb.keep k1
  have r1 := hg.keep (k1.1.mono (fun c hc => by omega))
  refine s_if_eq 28 (zdk hX4_readTier_0 3 rfl) (by decide) (fun c6 => ?_) (fun c6 => ?_)
  · have hpr : gN g 2 < 4 := by rcases hpre with z | z; exact z; exact absurd c6 z
    obtain ⟨r0, v1, ra, rb, nv, rc, h9, hv, ha, hb9, hn, hc, hh⟩ := ht
    rw [if_neg (by omega)] at h9
    subst h9
    exact zS.mono (w_X4_readTier_28 hl hb1 hd z1 hs.at r1 hN h2 h0 (by omega) hv ha hb9 hn hc hh) (fun o M2 z => z.pre k1 hs.2.1)
  · refine s_aload_n (zdk hX4_readTier_0 4 rfl) rfl ?_
    refine s_getI (zdk hX4_readTier_0 5 rfl) fw_X4_81 rfl (r1.K) ?_
    refine s_topi (b := nI (gN g 2)) (r1.v3) ?_
    refine s_iconstv (v := nI 4) (zdk hX4_readTier_0 6 rfl) zc_iconst_4 ?_
    refine s_icmp_ne 28 (zdk hX4_readTier_0 7 rfl) (by decide) (fun c14 => ?_) (fun c14 => ?_)
    · have n14 : ¬ (gN g 2) = 4 := nne c14
      obtain ⟨r0, v1, ra, rb, nv, rc, h9, hv, ha, hb9, hn, hc, hh⟩ := ht
      rw [if_neg (by omega)] at h9
      subst h9
      exact zS.mono (w_X4_readTier_28 hl hb1 hd z1 hs.at r1 hN h2 h0 (by omega) hv ha hb9 hn hc hh) (fun o M2 z => z.pre k1 hs.2.1)
    · have n14 : gN g 2 = 4 := neq c14 (by omega) (by omega)
      refine s_aload_n (zdk hX4_readTier_0 8 rfl) rfl ?_
      refine s_bipushv (v := (-7)) (zdk hX4_readTier_0 9 rfl) zc_bipush_m7 ?_
      refine s_aload_n (zdk hX4_readTier_0 10 rfl) rfl ?_
      refine s_getI (zdk hX4_readTier_0 11 rfl) fw_X4_22 rfl (hb1.1.1) ?_
      refine s_topi (b := nI r.1) (z1) ?_
      refine s_callV0 (ci := 4) [.int ((-7)), .int (nI r.1)] (zdk hX4_readTier_0 12 rfl) cw_X4_84 (hb1.1.1) (by decide) rfl rfl rfl (Nat.le_of_ble_eq_true rfl) (by decide) (c_X4_fail hl hb1.1 (-7) (nI r.1)) ?_
      refine s_ireturn (zdk hX4_readTier_0 13 rfl) rfl rfl ?_
      have e := rTR_7 ht n14 hs.2.1
      subst e
      exact tQ_n (by rw [rFl_w hs.2.1]; decide) (k1.tr hs.2.1 (eR_fail (zag.refl _ _) rfl rfl hs.2.1 (by decide) rfl)) (r1.keep (((zag_I M1 a 4 (-7)).trans (zag_I _ a 1 _)).mono (fun c hc => by omega)))
end
