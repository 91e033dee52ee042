/-! ===== a store as it begins ===== -/
def oNw (h : Nat → Int64) (i j : Nat) : Nat → Int64 := fun k => if 6 + 13 * i ≤ k ∧ k < 6 + 13 * i + j then (if k = 6 + 13 * i then lN 10 else lN 1) else h k
theorem oNw_0 {h : Nat → Int64} {i : Nat} : oNw h i 0 = h := by
  funext k
  unfold oNw
  rw [if_neg (by omega)]
theorem oNw_s {h : Nat → Int64} {i j : Nat} {v : Int64} (hv : v = if j = 0 then lN 10 else lN 1) : zwL (oNw h i j) (6 + 13 * i + j) v = oNw h i (j + 1) := by
  funext k
  unfold zwL oNw
  by_cases q : k = 6 + 13 * i + j
  · rw [if_pos q, if_pos (by omega), hv]
    by_cases q2 : j = 0
    · rw [if_pos q2, if_pos (by omega)]
    · rw [if_neg q2, if_neg (by omega)]
  · rw [if_neg q]
    by_cases q2 : 6 + 13 * i ≤ k ∧ k < 6 + 13 * i + j
    · rw [if_pos q2, if_pos (show 6 + 13 * i ≤ k ∧ k < 6 + 13 * i + (j + 1) by omega)]
    · rw [if_neg q2, if_neg (show ¬ (6 + 13 * i ≤ k ∧ k < 6 + 13 * i + (j + 1)) by omega)]
def nwW (i : Nat) : Nat → Int64 := fun k => if k = 0 then lN (97 + i) else 0
/-- the store behind i tiers -/
def oNT : Nat → Nat → Int64
  | 0 => fun k => if k = 0 then lN 2 else if k = 1 then lN 4 else 0
  | i + 1 => oNw (zwL (oTier (oNT i) i (nwW i) (fun _ => nI 0)) 2 (nI (i + 1)).toInt64) i 5
theorem oNT_s {h : Nat → Int64} {i : Nat} {v : Int64} {w : Nat → Int64} {a b : Nat → Int32} : oNw (zwL (oTier h i w a) 2 v) i 5 = oNw (zwL (oTier h i w b) 2 v) i 5 := by
  funext k
  unfold oNw
  by_cases q : 6 + 13 * i ≤ k ∧ k < 6 + 13 * i + 5
  · rw [if_pos q, if_pos q]
  · rw [if_neg q, if_neg q]
    unfold zwL oTier
    rw [if_neg q, if_neg q]
theorem oNT_2 : ∀ i, i ≤ 2 → gN (oNT i) 2 = i
  | 0, _ => by decide
  | 1, _ => by decide
  | 2, _ => by decide
  | i + 3, h => by omega
section
variable {l : Launch} {G : zG}
theorem c_X5_startAsNew (hl : l.stackTraces = false) {M : zMem} {s : Nat} {g : Nat → Int64} {p : Nat → Nat} (h : rSt M s g p) : zCm l G mX5_startAsNew 2 80 0 0 [.ref s] M (zU M s none (oNT 2) p) := by
  refine zCu.of (ls0 := [some (.ref s), none, none]) (by decide +kernel) rfl hl rfl (Nat.le_of_ble_eq_true rfl) ?_
  refine s_aload_n (zdk hX5_startAsNew 0 rfl) rfl ?_
  refine s_iconstv (v := nI 2) (zdk hX5_startAsNew 1 rfl) zc_iconst_2 ?_
  refine s_iconstv (v := nI 4) (zdk hX5_startAsNew 2 rfl) zc_iconst_4 ?_
  refine s_callV1 (ci := 5) [.int (nI 2), .int (nI 4)] (zdk hX5_startAsNew 3 rfl) cw_X5_61 h.K (by decide) rfl rfl rfl (Nat.le_of_ble_eq_true rfl) (by decide) (c_X5_startAs hl h (c := 2) (r := nI 4) (by decide) (g1 := oNT 0) (by decide) (by decide) (by decide) (by decide) (by decide) (by decide)) (fun v M1 q => ?_)
  obtain ⟨q1, a1, r1⟩ := q
  cases q1
  refine s_iconstv (v := nI 0) (zdk hX5_startAsNew 4 rfl) zc_iconst_0 ?_
  refine s_istore_n (zdk hX5_startAsNew 5 rfl) (Nat.le_of_ble_eq_true rfl) ?_
  refine s_ls (ls' := [some (.ref s), some (.int (nI 0)), none]) rfl ?_
  suffices outer : ∀ (k i : Nat) (x2 : Option Value) (M2 : zMem), zag M M2 (fun b => b < s ∨ s + 77 ≤ b) → rSt M2 s (oNT i) p → i ≤ 2 → 2 - i < k → zS l G mX5_startAsNew 2 80 0 0 8 [some (.ref s), some (.int (nI i)), x2] [] M2 (zU M s none (oNT 2) p) from outer 3 0 _ _ a1 r1 (by omega) (by omega)
  intro k
  induction k with
  | zero => intros; omega
  | succ k ih =>
    intro i x2 M2 a2 r2 hi hk
    refine s_iload_n (zdk hX5_startAsNew 6 rfl) rfl ?_
    refine s_iconstv (v := nI 2) (zdk hX5_startAsNew 7 rfl) zc_iconst_2 ?_
    refine s_icmp_ge 65 (zdk hX5_startAsNew 8 rfl) (by decide) (fun c => ?_) (fun c => ?_)
    · have n1 : 2 ≤ i := nle c (by omega) (by omega)
      obtain rfl : i = 2 := by omega
      exact s_return (zdk hX5_startAsNew 37 rfl) rfl ⟨rfl, a2, r2⟩
    · have n1 : i < 2 := nlt c (by omega) (by omega)
      refine s_aload_n (zdk hX5_startAsNew 9 rfl) rfl ?_
      refine s_lconstv (v := 0) (zdk hX5_startAsNew 10 rfl) (by decide) ?_
      refine s_bipushv (v := nI 97) (zdk hX5_startAsNew 11 rfl) zc_bipush_97 ?_
      refine s_iload_n (zdk hX5_startAsNew 12 rfl) rfl ?_
      refine s_iadd (zdk hX5_startAsNew 13 rfl) ?_
      refine s_callS0 [.long 0, .int (nI 97 + nI i)] (zdk hX5_startAsNew 14 rfl) cw_X5_65 rfl (Nat.le_of_ble_eq_true rfl) (by decide) (c_X7_withLetter hl _ _ _) ?_
      refine s_callV1 (ci := 5) [.long _] (zdk hX5_startAsNew 15 rfl) cw_X5_71 r2.K (by decide) rfl rfl rfl (Nat.le_of_ble_eq_true rfl) (by decide) (c_X5_putTier hl r2 (w := nwW i) (by match i, n1 with
        | 0, _ => decide
        | 1, _ => decide) (by rw [oNT_2 i hi]; omega)) (fun v M3 q => ?_)
      obtain ⟨q1, a3, r3⟩ := q
      cases q1
      rw [oNT_2 i hi] at r3
      have n3 : i < gN (zwL (oTier (oNT i) i (nwW i) (zI M2 (s + 5 + 3 * i + 1))) 2 (nI (i + 1)).toInt64) 2 := by rw [gN_e (by omega)]; omega
      refine s_iconstv (v := nI 0) (zdk hX5_startAsNew 16 rfl) zc_iconst_0 ?_
      refine s_istore_n (zdk hX5_startAsNew 17 rfl) (Nat.le_of_ble_eq_true rfl) ?_
      refine s_ls (ls' := [some (.ref s), some (.int (nI i)), some (.int (nI 0))]) rfl ?_
      suffices inner : ∀ (k2 j : Nat) (M4 : zMem), zag M M4 (fun b => b < s ∨ s + 77 ≤ b) → rSt M4 s (oNw (zwL (oTier (oNT i) i (nwW i) (zI M2 (s + 5 + 3 * i + 1))) 2 (nI (i + 1)).toInt64) i j) p → j ≤ 5 → 5 - j < k2 → zS l G mX5_startAsNew 2 80 0 0 27 [some (.ref s), some (.int (nI i)), some (.int (nI j))] [] M4 (zU M s none (oNT 2) p) from inner 6 0 _ (a2.trans a3) (r3.cong oNw_0.symm) (by omega) (by omega)
      intro k2
      induction k2 with
      | zero => intros; omega
      | succ k2 ih2 =>
        intro j M4 a4 r4 hj hk2
        refine s_iload_n (zdk hX5_startAsNew 18 rfl) rfl ?_
        refine s_iconstv (v := nI 5) (zdk hX5_startAsNew 19 rfl) zc_iconst_5 ?_
        refine s_icmp_ge 59 (zdk hX5_startAsNew 20 rfl) (by decide) (fun c => ?_) (fun c => ?_)
        · have n2 : 5 ≤ j := nle c (by omega) (by omega)
          obtain rfl : j = 5 := by omega
          refine s_iinc (r := nI (i + 1)) (zdk hX5_startAsNew 35 rfl) (Nat.le_of_ble_eq_true rfl) rfl (nI_1 _) ?_
          refine s_ls (ls' := [some (.ref s), some (.int (nI (i + 1))), some (.int (nI 5))]) rfl ?_
          refine s_goto 8 (zdk hX5_startAsNew 36 rfl) (by decide) ?_
          exact ih (i + 1) _ _ a4 (r4.cong oNT_s) (by omega) (by omega)
        · have n2 : j < 5 := nlt c (by omega) (by omega)
          have n5 : i < gN (oNw (zwL (oTier (oNT i) i (nwW i) (zI M2 (s + 5 + 3 * i + 1))) 2 (nI (i + 1)).toInt64) i j) 2 := by
            rw [gN_eq (show oNw _ i j 2 = _ from if_neg (by omega))]; exact n3
          refine s_aload_n (zdk hX5_startAsNew 21 rfl) rfl ?_
          refine s_getR (zdk hX5_startAsNew 22 rfl) fw_X5_29 rfl r4.K r4.r5 ?_
          refine s_iload_n (zdk hX5_startAsNew 23 rfl) rfl ?_
          refine s_aaloadN (N := 4) (j := i) (zdk hX5_startAsNew 24 rfl) r4.tK (by decide) r4.tN (by omega) (by decide) (r4.tR n5) ?_
          refine s_getR (zdk hX5_startAsNew 25 rfl) fw_X5_75 rfl (r4.tS n5).1 (r4.tS n5).2.1 ?_
          refine s_iload_n (zdk hX5_startAsNew 26 rfl) rfl ?_
          refine s_iload_n (zdk hX5_startAsNew 27 rfl) rfl ?_
          refine s_if_ne 51 (zdk hX5_startAsNew 28 rfl) (by decide) (fun c => ?_) (fun c => ?_)
          · have j0 : j ≠ 0 := fun e => c (by rw [e]; decide)
            refine s_iconstv (v := nI 1) (zdk hX5_startAsNew 31 rfl) zc_iconst_1 ?_
            refine s_iastoreN (N := 5) (j := j) (zdk hX5_startAsNew 32 rfl) (r4.tS n5).2.2.2.1 (r4.tS n5).2.2.2.2.1 n2 (by decide) ?_
            refine s_iinc (r := nI (j + 1)) (zdk hX5_startAsNew 33 rfl) (Nat.le_of_ble_eq_true rfl) rfl (nI_1 _) ?_
            refine s_ls (ls' := [some (.ref s), some (.int (nI i)), some (.int (nI (j + 1)))]) rfl ?_
            refine s_goto 27 (zdk hX5_startAsNew 34 rfl) (by decide) ?_
            exact ih2 (j + 1) _ (a4.trans ((zag_I _ _ _ _).mono fun b hb => by omega)) ((r4.num n5 n2).cong (oNw_s (by rw [if_neg j0]; decide))) (by omega) (by omega)
          · have j0 : j = 0 := by
              match j, n2, c with
              | 0, _, _ => rfl
              | 1, _, c => exact absurd c (by decide)
              | 2, _, c => exact absurd c (by decide)
              | 3, _, c => exact absurd c (by decide)
              | 4, _, c => exact absurd c (by decide)
              | j + 5, h, _ => omega
            refine s_bipushv (v := nI 10) (zdk hX5_startAsNew 29 rfl) zc_bipush_10 ?_
            refine s_goto 52 (zdk hX5_startAsNew 30 rfl) (by decide) ?_
            refine s_iastoreN (N := 5) (j := j) (zdk hX5_startAsNew 32 rfl) (r4.tS n5).2.2.2.1 (r4.tS n5).2.2.2.2.1 n2 (by decide) ?_
            refine s_iinc (r := nI (j + 1)) (zdk hX5_startAsNew 33 rfl) (Nat.le_of_ble_eq_true rfl) rfl (nI_1 _) ?_
            refine s_ls (ls' := [some (.ref s), some (.int (nI i)), some (.int (nI (j + 1)))]) rfl ?_
            refine s_goto 27 (zdk hX5_startAsNew 34 rfl) (by decide) ?_
            exact ih2 (j + 1) _ (a4.trans ((zag_I _ _ _ _).mono fun b hb => by omega)) ((r4.num n5 n2).cong (oNw_s (by rw [if_pos j0]; decide))) (by omega) (by omega)

end
