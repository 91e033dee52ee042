theorem zc_bipush_10 : (Int8.ofInt 10).toInt32 = nI 10 := by decide
/-! ===== the reader: a number ===== -/
def zAN (M : zMem) (a i : Nat) (x : Int32) : zMem := zsI (zsI M a 3 (nI i)) a 5 x
theorem zAN_x {M : zMem} {a i : Nat} {x z : Int32} : zsI (zAN M a i x) a 5 z = zAN M a i z := zsI_zsI
theorem zAN_i {M : zMem} {a i j : Nat} {x : Int32} : zsI (zAN M a i x) a 3 (nI j) = zAN M a j x := by
  unfold zAN zsI
  congr 1
  show zu (zu (zu M.1 a 3 (nI i)) a 5 x) a 3 (nI j) = zu (zu M.1 a 3 (nI j)) a 5 x
  rw [zu_c _ a 5 3 _ _ (by decide), zu_zu]
theorem zAN_3 {M : zMem} {a i : Nat} {x : Int32} : zI (zAN M a i x) a 3 = nI i := (congrFun zI_Ie 3).trans ((zw1_n (by decide)).trans ((congrFun zI_Ie 3).trans zw1_e))
theorem zAN_5 {M : zMem} {a i : Nat} {x : Int32} : zI (zAN M a i x) a 5 = x := (congrFun zI_Ie 5).trans zw1_e
theorem zAN_0 {M : zMem} {a i : Nat} {x : Int32} : zI (zAN M a i x) a 0 = zI M a 0 := (congrFun zI_Ie 0).trans ((zw1_n (by decide)).trans ((congrFun zI_Ie 0).trans (zw1_n (by decide))))
theorem zAN_u {M : zMem} {a i : Nat} {x : Int32} : zI (zAN M a i x) (a + 1) = zI M (a + 1) := (zI_In (show a + 1 ≠ a by omega)).trans (zI_In (show a + 1 ≠ a by omega))
def zdg (b x : Int32) : Int32 := if x ≤ nI 99999 then x * nI 10 + b - nI 48 else x
def zrn (u : Nat → Int32) (n : Nat) : Nat → Nat → Int32 → Nat × Int32
  | 0, i, x => (i, x)
  | k + 1, i, x => if nI 48 ≤ u i ∧ u i ≤ nI 57 then zrn u n k (i + 1) (zdg (u i) x) else (i, x)
theorem zrn_y {u : Nat → Int32} {n i : Nat} {x : Int32} (h : i < n) (e : nI 48 ≤ u i ∧ u i ≤ nI 57) : zrn u n (n - i) i x = zrn u n (n - (i + 1)) (i + 1) (zdg (u i) x) := by
  conv => lhs; rw [show n - i = (n - (i + 1)) + 1 by omega]
  exact if_pos e
theorem zrn_n {u : Nat → Int32} {n i : Nat} {x : Int32} (e : n ≤ i ∨ ¬ (nI 48 ≤ u i ∧ u i ≤ nI 57)) : zrn u n (n - i) i x = (i, x) := by
  by_cases h : n ≤ i
  · rw [show n - i = 0 by omega]; rfl
  · rw [show n - i = (n - (i + 1)) + 1 by omega]
    exact if_neg (by rcases e with e | e; exact absurd e h; exact e)
section
variable {l : Launch} {G : zG}
theorem w_X4_readNumber_31 (hl : l.stackTraces = false) {M : zMem} {a n : Nat} (ha : eSh M a) (hn : zI M a 0 = nI n) (hn6 : n ≤ 600) (lo hi : Int32) (st : Nat) {Q : zOut → zMem → Prop} : ∀ (k i : Nat) (x : Int32), i ≤ n → n - i < k → zS l G mX4_readNumber 2 50 0 0 103 [some (.ref a), some (.int (lo)), some (.int (hi)), some (.int (nI st))] [] (zAN M a (zrn (zI M (a + 1)) n (n - i) i x).1 (zrn (zI M (a + 1)) n (n - i) i x).2) Q → zS l G mX4_readNumber 2 50 0 0 31 [some (.ref a), some (.int (lo)), some (.int (hi)), some (.int (nI st))] [] (zAN M a i x) Q := by
  intro k
  induction k with
  | zero => intros; omega
  | succ k ih =>
    intro i x hi2_ hk hk2
    refine s_aload_n (zdk hX4_readNumber_0 16 rfl) rfl ?_
    refine s_getI (zdk hX4_readNumber_0 17 rfl) fw_X4_22 rfl (ha.1) ?_
    refine s_topi (b := nI i) (zAN_3) ?_
    refine s_aload_n (zdk hX4_readNumber_0 18 rfl) rfl ?_
    refine s_getI (zdk hX4_readNumber_0 19 rfl) fw_X4_9 rfl (ha.1) ?_
    refine s_topi (b := nI n) (zAN_0.trans hn) ?_
    refine s_icmp_ge 103 (zdk hX4_readNumber_0 20 rfl) (by decide) (fun c39 => ?_) (fun c39 => ?_)
    · obtain rfl : i = n := by have := nle c39 (by omega) (by omega); omega
      rw [zrn_n (by first | exact Or.inl (Nat.le_refl _) | exact Or.inr hd)] at hk2
      exact hk2
    · have hi2 : i < n := nlt c39 (by omega) (by omega)
      refine s_aload_n (zdk hX4_readNumber_0 21 rfl) rfl ?_
      refine s_getR (zdk hX4_readNumber_0 22 rfl) fw_X4_18 rfl (ha.1) (ha.2.1) ?_
      refine s_aload_n (zdk hX4_readNumber_0 23 rfl) rfl ?_
      refine s_getI (zdk hX4_readNumber_0 24 rfl) fw_X4_22 rfl (ha.1) ?_
      refine s_topi (b := nI i) (zAN_3) ?_
      refine s_ialoadN (N := 600) (j := i) (zdk hX4_readNumber_0 25 rfl) (ha.2.2.1) (ha.2.2.2) (by omega) (by decide) ?_
      refine s_topi (b := zI M (a + 1) i) (congrFun zAN_u i) ?_
      refine s_callS0 [.int (zI M (a + 1) i)] (zdk hX4_readNumber_0 26 rfl) cw_X4_146 rfl (Nat.le_of_ble_eq_true rfl) (by decide) (c_X4_isDigit hl _ _) ?_
      refine s_if_eq 103 (zdk hX4_readNumber_0 27 rfl) (by decide) (fun c54 => ?_) (fun c54 => ?_)
      · have hd : ¬ (nI 48 ≤ zI M (a + 1) i ∧ zI M (a + 1) i ≤ nI 57) := fun q => by rw [if_pos q] at c54; exact absurd c54 (by decide)
        rw [zrn_n (by first | exact Or.inl (Nat.le_refl _) | exact Or.inr hd)] at hk2
        exact hk2
      · have hd : nI 48 ≤ zI M (a + 1) i ∧ zI M (a + 1) i ≤ nI 57 := Classical.byContradiction fun q => c54 (if_neg q)
        rw [zrn_y hi2 hd] at hk2
        refine s_aload_n (zdk hX4_readNumber_0 28 rfl) rfl ?_
        refine s_getI (zdk hX4_readNumber_0 29 rfl) fw_X4_28 rfl (ha.1) ?_
        refine s_topi (b := x) (zAN_5) ?_
        refine s_ldc (zdk hX4_readNumber_0 30 rfl) kw_X4_150 ?_
        refine s_topi (b := nI 99999) (by decide) ?_
        refine s_icmp_gt 90 (zdk hX4_readNumber_0 31 rfl) (by decide) (fun c63 => ?_) (fun c63 => ?_)
        · have e1 : (zdg (zI M (a + 1) i) x) = x := if_neg (Int32.not_le.mpr c63)
          refine s_mem (M' := (zAN M a i (zdg (zI M (a + 1) i) x))) (by rw [e1]) ?_
          refine s_aload_n (zdk hX4_readNumber_0 46 rfl) rfl ?_
          refine s_dupr (zdk hX4_readNumber_0 47 rfl) ?_
          refine s_getI (zdk hX4_readNumber_0 48 rfl) fw_X4_22 rfl (ha.1) ?_
          refine s_topi (b := nI i) (zAN_3) ?_
          refine s_iconstv (v := nI 1) (zdk hX4_readNumber_0 49 rfl) zc_iconst_1 ?_
          refine s_iadd (zdk hX4_readNumber_0 50 rfl) ?_
          refine s_topi (b := nI (i + 1)) (nI_1 i) ?_
          refine s_putI (zdk hX4_readNumber_0 51 rfl) fw_X4_22 rfl pw_4_3 (ha.1) ?_
          refine s_mem (M' := (zAN M a (i + 1) (zdg (zI M (a + 1) i) x))) (zAN_i) ?_
          refine s_goto 31 (zdk hX4_readNumber_0 52 rfl) (by decide) ?_
          exact ih (i + 1) (zdg (zI M (a + 1) i) x) (by omega) (by omega) hk2
        · have e1 : (zdg (zI M (a + 1) i) x) = x * nI 10 + zI M (a + 1) i - nI 48 := if_pos (Int32.not_lt.mp c63)
          refine s_aload_n (zdk hX4_readNumber_0 32 rfl) rfl ?_
          refine s_aload_n (zdk hX4_readNumber_0 33 rfl) rfl ?_
          refine s_getI (zdk hX4_readNumber_0 34 rfl) fw_X4_28 rfl (ha.1) ?_
          refine s_topi (b := x) (zAN_5) ?_
          refine s_bipushv (v := nI 10) (zdk hX4_readNumber_0 35 rfl) zc_bipush_10 ?_
          refine s_imul (zdk hX4_readNumber_0 36 rfl) ?_
          refine s_aload_n (zdk hX4_readNumber_0 37 rfl) rfl ?_
          refine s_getR (zdk hX4_readNumber_0 38 rfl) fw_X4_18 rfl (ha.1) (ha.2.1) ?_
          refine s_aload_n (zdk hX4_readNumber_0 39 rfl) rfl ?_
          refine s_getI (zdk hX4_readNumber_0 40 rfl) fw_X4_22 rfl (ha.1) ?_
          refine s_topi (b := nI i) (zAN_3) ?_
          refine s_ialoadN (N := 600) (j := i) (zdk hX4_readNumber_0 41 rfl) (ha.2.2.1) (ha.2.2.2) (by omega) (by decide) ?_
          refine s_topi (b := zI M (a + 1) i) (congrFun zAN_u i) ?_
          refine s_iadd (zdk hX4_readNumber_0 42 rfl) ?_
          refine s_bipushv (v := nI 48) (zdk hX4_readNumber_0 43 rfl) zc_bipush_48 ?_
          refine s_isub (zdk hX4_readNumber_0 44 rfl) ?_
          refine s_putI (zdk hX4_readNumber_0 45 rfl) fw_X4_28 rfl pw_4_5 (ha.1) ?_
          refine s_mem (M' := (zAN M a i (x * nI 10 + zI M (a + 1) i - nI 48))) (zAN_x) ?_
          refine s_mem (M' := (zAN M a i (zdg (zI M (a + 1) i) x))) (by rw [e1]) ?_
          refine s_aload_n (zdk hX4_readNumber_0 46 rfl) rfl ?_
          refine s_dupr (zdk hX4_readNumber_0 47 rfl) ?_
          refine s_getI (zdk hX4_readNumber_0 48 rfl) fw_X4_22 rfl (ha.1) ?_
          refine s_topi (b := nI i) (zAN_3) ?_
          refine s_iconstv (v := nI 1) (zdk hX4_readNumber_0 49 rfl) zc_iconst_1 ?_
          refine s_iadd (zdk hX4_readNumber_0 50 rfl) ?_
          refine s_topi (b := nI (i + 1)) (nI_1 i) ?_
          refine s_putI (zdk hX4_readNumber_0 51 rfl) fw_X4_22 rfl pw_4_3 (ha.1) ?_
          refine s_mem (M' := (zAN M a (i + 1) (zdg (zI M (a + 1) i) x))) (zAN_i) ?_
          refine s_goto 31 (zdk hX4_readNumber_0 52 rfl) (by decide) ?_
          exact ih (i + 1) (zdg (zI M (a + 1) i) x) (by omega) (by omega) hk2
end
