/-! ===== the reader: a name ===== -/
def zNM (M : zMem) (a j i : Nat) (x : Int64) : zMem := zsJ (zsI (zsI M a 7 (nI j)) a 3 (nI i)) a 6 x
theorem zNM_0 {M : zMem} {a j : Nat} {x : Int64} : zsJ (zsI (zsI M a 3 (nI j)) a 7 (nI j)) a 6 x = zNM M a j j x := by
  unfold zNM zsJ zsI
  congr 1
  exact zu_c _ _ _ _ _ _ (by decide)
theorem zNM_x {M : zMem} {a j i : Nat} {x z : Int64} : zsJ (zNM M a j i x) a 6 z = zNM M a j i z := by
  unfold zNM zsJ zsI
  congr 2
  exact zu_zu _ _ _ _ _
theorem zNM_i {M : zMem} {a j i i' : Nat} {x : Int64} : zsI (zNM M a j i x) a 3 (nI i') = zNM M a j i' x := by
  unfold zNM zsJ zsI
  congr 1
  exact zu_zu _ _ _ _ _
theorem zNM_3 {M : zMem} {a j i : Nat} {x : Int64} : zI (zNM M a j i x) a 3 = nI i := (congrFun zI_Ie 3).trans zw1_e
theorem zNM_6 {M : zMem} {a j i : Nat} {x : Int64} : zJ (zNM M a j i x) a 6 = x := (congrFun zJ_Jw 6).trans zwL_e
theorem zNM_u {M : zMem} {a j i : Nat} {x : Int64} : zI (zNM M a j i x) (a + 1) = zI M (a + 1) := (zI_In (show a + 1 ≠ a by omega)).trans (zI_In (show a + 1 ≠ a by omega))
def zpl (u : Nat → Int32) (j : Nat) : Nat → Int64
  | 0 => lN 0
  | k + 1 => (zpl u j k <<< ((nI 5).toInt64 &&& 63)) + (u (j + k) - nI 97 + nI 1).toInt64
section
variable {l : Launch} {G : zG}
theorem w_X4_readName_53 (hl : l.stackTraces = false) {M : zMem} {a n : Nat} (ha : eSh M a) (hn : zI M a 0 = nI n) (hn6 : n ≤ 600) {j e : Nat} (hj : j ≤ e) (he : e ≤ n) : ∀ (k : Nat) (d : Nat), d ≤ e - j → e - j - d < k → zS l G mX4_readName 1 30 0 0 53 [some (.ref a), some (.int (nI e))] [] (zNM M a j (j + d) (zpl (zI M (a + 1)) j d)) (zD (some (.int (nI 1))) (zNM M a j (j + (e - j)) (zpl (zI M (a + 1)) j (e - j)))) := by
  intro k
  induction k with
  | zero => intros; omega
  | succ k ih =>
    intro d hd hk
    refine s_aload_n (zdk hX4_readName 29 rfl) rfl ?_
    refine s_getI (zdk hX4_readName 30 rfl) fw_X4_22 rfl (ha.1) ?_
    refine s_topi (b := nI (j + d)) (zNM_3) ?_
    refine s_iload_n (zdk hX4_readName 31 rfl) rfl ?_
    refine s_icmp_ge 94 (zdk hX4_readName 32 rfl) (by decide) (fun c58 => ?_) (fun c58 => ?_)
    · obtain rfl : d = e - j := by have := nle c58 (by omega) (by omega); omega
      refine s_iconstv (v := nI 1) (zdk hX4_readName 50 rfl) zc_iconst_1 ?_
      refine s_ireturn (zdk hX4_readName 51 rfl) rfl rfl ?_
      exact ⟨rfl, rfl⟩
    · have hd2 : j + d < e := nlt c58 (by omega) (by omega)
      refine s_aload_n (zdk hX4_readName 33 rfl) rfl ?_
      refine s_aload_n (zdk hX4_readName 34 rfl) rfl ?_
      refine s_getJ (zdk hX4_readName 35 rfl) fw_X4_31 rfl (ha.1) ?_
      refine s_topl (b := (zpl (zI M (a + 1)) j d)) (zNM_6) ?_
      refine s_aload_n (zdk hX4_readName 36 rfl) rfl ?_
      refine s_getR (zdk hX4_readName 37 rfl) fw_X4_18 rfl (ha.1) (ha.2.1) ?_
      refine s_aload_n (zdk hX4_readName 38 rfl) rfl ?_
      refine s_getI (zdk hX4_readName 39 rfl) fw_X4_22 rfl (ha.1) ?_
      refine s_topi (b := nI (j + d)) (zNM_3) ?_
      refine s_ialoadN (N := 600) (j := (j + d)) (zdk hX4_readName 40 rfl) (ha.2.2.1) (ha.2.2.2) (by omega) (by decide) ?_
      refine s_topi (b := zI M (a + 1) (j + d)) (congrFun zNM_u _) ?_
      refine s_callS0 [.long ((zpl (zI M (a + 1)) j d)), .int (zI M (a + 1) (j + d))] (zdk hX4_readName 41 rfl) cw_X4_140 rfl (Nat.le_of_ble_eq_true rfl) (by decide) (c_X7_withLetter hl _ _ _) ?_
      refine s_putJ (zdk hX4_readName 42 rfl) fw_X4_31 rfl pw_4_6 (ha.1) ?_
      refine s_mem (M' := (zNM M a j (j + d) (zpl (zI M (a + 1)) j (d + 1)))) (zNM_x) ?_
      refine s_aload_n (zdk hX4_readName 43 rfl) rfl ?_
      refine s_dupr (zdk hX4_readName 44 rfl) ?_
      refine s_getI (zdk hX4_readName 45 rfl) fw_X4_22 rfl (ha.1) ?_
      refine s_topi (b := nI (j + d)) (zNM_3) ?_
      refine s_iconstv (v := nI 1) (zdk hX4_readName 46 rfl) zc_iconst_1 ?_
      refine s_iadd (zdk hX4_readName 47 rfl) ?_
      refine s_topi (b := nI (j + (d + 1))) (nI_1 _) ?_
      refine s_putI (zdk hX4_readName 48 rfl) fw_X4_22 rfl pw_4_3 (ha.1) ?_
      refine s_mem (M' := (zNM M a j (j + (d + 1)) (zpl (zI M (a + 1)) j (d + 1)))) (zNM_i) ?_
      refine s_goto 53 (zdk hX4_readName 49 rfl) (by decide) ?_
      exact ih (d + 1) (by omega) (by omega)
theorem c_X4_readName (hl : l.stackTraces = false) {M : zMem} {a n : Nat} (ha : eSh M a) (hn : zI M a 0 = nI n) (hn6 : n ≤ 600) {i : Nat} (hat : zI M a 3 = nI i) (hin : i ≤ n) : zCm l G mX4_readName 1 30 0 0 [.ref a] M (zD (some (.int (if (zew (zI M (a + 1)) n (n - (zsk (zI M (a + 1)) n (n - i) i)) (zsk (zI M (a + 1)) n (n - i) i)) = (zsk (zI M (a + 1)) n (n - i) i) ∨ 8 < (zew (zI M (a + 1)) n (n - (zsk (zI M (a + 1)) n (n - i) i)) (zsk (zI M (a + 1)) n (n - i) i)) - (zsk (zI M (a + 1)) n (n - i) i) then nI 0 else nI 1))) (if (zew (zI M (a + 1)) n (n - (zsk (zI M (a + 1)) n (n - i) i)) (zsk (zI M (a + 1)) n (n - i) i)) = (zsk (zI M (a + 1)) n (n - i) i) ∨ 8 < (zew (zI M (a + 1)) n (n - (zsk (zI M (a + 1)) n (n - i) i)) (zsk (zI M (a + 1)) n (n - i) i)) - (zsk (zI M (a + 1)) n (n - i) i) then (zsI (zsI (zsI M a 3 (nI (zsk (zI M (a + 1)) n (n - i) i))) a 4 (-2)) a 1 (nI (zsk (zI M (a + 1)) n (n - i) i))) else (zNM M a (zsk (zI M (a + 1)) n (n - i) i) ((zsk (zI M (a + 1)) n (n - i) i) + ((zew (zI M (a + 1)) n (n - (zsk (zI M (a + 1)) n (n - i) i)) (zsk (zI M (a + 1)) n (n - i) i)) - (zsk (zI M (a + 1)) n (n - i) i))) (zpl (zI M (a + 1)) (zsk (zI M (a + 1)) n (n - i) i) ((zew (zI M (a + 1)) n (n - (zsk (zI M (a + 1)) n (n - i) i)) (zsk (zI M (a + 1)) n (n - i) i)) - (zsk (zI M (a + 1)) n (n - i) i)))))) := by
  refine zCd.of (ls0 := [some (.ref a), none]) (by decide +kernel) rfl hl rfl (Nat.le_of_ble_eq_true rfl) (by split <;> rfl) ?_
  refine s_aload_n (zdk hX4_readName 0 rfl) rfl ?_
  refine s_callV0 (ci := 4) [] (zdk hX4_readName 1 rfl) cw_X4_114 (ha.1) (by decide) rfl rfl rfl (Nat.le_of_ble_eq_true rfl) (by decide) (c_X4_nextByte hl ha hn hn6 hat hin) ?_
  refine s_popi (zdk hX4_readName 2 rfl) ?_
  refine s_aload_n (zdk hX4_readName 3 rfl) rfl ?_
  have hle : (zsk (zI M (a + 1)) n (n - i) i) ≤ n := by have := zsk_le (u := (zI M (a + 1))) (n := n) (n - i) i; omega
  have hn1 : zI (zsI M a 3 (nI (zsk (zI M (a + 1)) n (n - i) i))) a 0 = nI n := (congrFun zI_Ie 0).trans ((zw1_n (by decide)).trans hn)
  have hge := zew_ge (u := (zI M (a + 1))) (n := n) (n - (zsk (zI M (a + 1)) n (n - i) i)) (zsk (zI M (a + 1)) n (n - i) i)
  have hel := zew_le (u := (zI M (a + 1))) (n := n) (n - (zsk (zI M (a + 1)) n (n - i) i)) (zsk (zI M (a + 1)) n (n - i) i)
  refine s_callV0 (ci := 4) [] (zdk hX4_readName 4 rfl) cw_X4_137 (ha.1) (by decide) rfl rfl rfl (Nat.le_of_ble_eq_true rfl) (by decide) (c_X4_endOfWord hl (show eSh (zsI M a 3 (nI (zsk (zI M (a + 1)) n (n - i) i))) a from ha) (n := n) (i := (zsk (zI M (a + 1)) n (n - i) i)) hn1 hn6 ((congrFun zI_Ie 3).trans zw1_e) hle) ?_
  refine s_topi (b := nI (zew (zI M (a + 1)) n (n - (zsk (zI M (a + 1)) n (n - i) i)) (zsk (zI M (a + 1)) n (n - i) i))) ((by rw [zI_In (show a + 1 ≠ a by omega)])) ?_
  refine s_istore_n (zdk hX4_readName 5 rfl) (Nat.le_of_ble_eq_true rfl) ?_
  refine s_ls (ls' := [some (.ref a), some (.int (nI (zew (zI M (a + 1)) n (n - (zsk (zI M (a + 1)) n (n - i) i)) (zsk (zI M (a + 1)) n (n - i) i))))]) rfl ?_
  refine s_iload_n (zdk hX4_readName 6 rfl) rfl ?_
  refine s_aload_n (zdk hX4_readName 7 rfl) rfl ?_
  refine s_getI (zdk hX4_readName 8 rfl) fw_X4_22 rfl (ha.1) ?_
  refine s_topi (b := nI (zsk (zI M (a + 1)) n (n - i) i)) ((congrFun zI_Ie 3).trans zw1_e) ?_
  refine s_icmp_eq 29 (zdk hX4_readName 9 rfl) (by decide) (fun c15 => ?_) (fun c15 => ?_)
  · have hc : (zew (zI M (a + 1)) n (n - (zsk (zI M (a + 1)) n (n - i) i)) (zsk (zI M (a + 1)) n (n - i) i)) = (zsk (zI M (a + 1)) n (n - i) i) ∨ 8 < (zew (zI M (a + 1)) n (n - (zsk (zI M (a + 1)) n (n - i) i)) (zsk (zI M (a + 1)) n (n - i) i)) - (zsk (zI M (a + 1)) n (n - i) i) := Or.inl (neq c15 (by omega) (by omega))
    rw [if_pos hc, if_pos hc]
    refine s_aload_n (zdk hX4_readName 16 rfl) rfl ?_
    refine s_bipushv (v := (-2)) (zdk hX4_readName 17 rfl) zc_bipush_m2 ?_
    refine s_aload_n (zdk hX4_readName 18 rfl) rfl ?_
    refine s_getI (zdk hX4_readName 19 rfl) fw_X4_22 rfl (ha.1) ?_
    refine s_topi (b := nI (zsk (zI M (a + 1)) n (n - i) i)) ((congrFun zI_Ie 3).trans zw1_e) ?_
    refine s_callV0 (ci := 4) [.int ((-2)), .int (nI (zsk (zI M (a + 1)) n (n - i) i))] (zdk hX4_readName 20 rfl) cw_X4_84 (ha.1) (by decide) rfl rfl rfl (Nat.le_of_ble_eq_true rfl) (by decide) (c_X4_fail hl (show eSh (zsI M a 3 (nI (zsk (zI M (a + 1)) n (n - i) i))) a from ha) _ _) ?_
    refine s_ireturn (zdk hX4_readName 21 rfl) rfl rfl ?_
    exact ⟨rfl, rfl⟩
  · refine s_iload_n (zdk hX4_readName 10 rfl) rfl ?_
    refine s_aload_n (zdk hX4_readName 11 rfl) rfl ?_
    refine s_getI (zdk hX4_readName 12 rfl) fw_X4_22 rfl (ha.1) ?_
    refine s_topi (b := nI (zsk (zI M (a + 1)) n (n - i) i)) ((congrFun zI_Ie 3).trans zw1_e) ?_
    refine s_isub (zdk hX4_readName 13 rfl) ?_
    refine s_topi (b := nI ((zew (zI M (a + 1)) n (n - (zsk (zI M (a + 1)) n (n - i) i)) (zsk (zI M (a + 1)) n (n - i) i)) - (zsk (zI M (a + 1)) n (n - i) i))) (pk_sub hge) ?_
    refine s_bipushv (v := nI 8) (zdk hX4_readName 14 rfl) zc_bipush_8 ?_
    refine s_icmp_le 40 (zdk hX4_readName 15 rfl) (by decide) (fun c26 => ?_) (fun c26 => ?_)
    · have hc : ¬ ((zew (zI M (a + 1)) n (n - (zsk (zI M (a + 1)) n (n - i) i)) (zsk (zI M (a + 1)) n (n - i) i)) = (zsk (zI M (a + 1)) n (n - i) i) ∨ 8 < (zew (zI M (a + 1)) n (n - (zsk (zI M (a + 1)) n (n - i) i)) (zsk (zI M (a + 1)) n (n - i) i)) - (zsk (zI M (a + 1)) n (n - i) i)) := fun q => by
        have h8 := nle c26 (by omega) (by omega)
        rcases q with q | q
        · exact c15 (by rw [q])
        · omega
      rw [if_neg hc, if_neg hc]
      refine s_aload_n (zdk hX4_readName 22 rfl) rfl ?_
      refine s_aload_n (zdk hX4_readName 23 rfl) rfl ?_
      refine s_getI (zdk hX4_readName 24 rfl) fw_X4_22 rfl (ha.1) ?_
      refine s_topi (b := nI (zsk (zI M (a + 1)) n (n - i) i)) ((congrFun zI_Ie 3).trans zw1_e) ?_
      refine s_putI (zdk hX4_readName 25 rfl) fw_X4_35 rfl pw_4_7 (ha.1) ?_
      refine s_aload_n (zdk hX4_readName 26 rfl) rfl ?_
      refine s_lconstv (v := lN 0) (zdk hX4_readName 27 rfl) rfl ?_
      refine s_putJ (zdk hX4_readName 28 rfl) fw_X4_31 rfl pw_4_6 (ha.1) ?_
      refine s_mem (M' := (zNM M a (zsk (zI M (a + 1)) n (n - i) i) (zsk (zI M (a + 1)) n (n - i) i) (lN 0))) (zNM_0) ?_
      exact w_X4_readName_53 hl ha hn hn6 (j := (zsk (zI M (a + 1)) n (n - i) i)) (e := (zew (zI M (a + 1)) n (n - (zsk (zI M (a + 1)) n (n - i) i)) (zsk (zI M (a + 1)) n (n - i) i))) hge (by omega) ((zew (zI M (a + 1)) n (n - (zsk (zI M (a + 1)) n (n - i) i)) (zsk (zI M (a + 1)) n (n - i) i)) + 1) 0 (by omega) (by omega)
    · have hc : (zew (zI M (a + 1)) n (n - (zsk (zI M (a + 1)) n (n - i) i)) (zsk (zI M (a + 1)) n (n - i) i)) = (zsk (zI M (a + 1)) n (n - i) i) ∨ 8 < (zew (zI M (a + 1)) n (n - (zsk (zI M (a + 1)) n (n - i) i)) (zsk (zI M (a + 1)) n (n - i) i)) - (zsk (zI M (a + 1)) n (n - i) i) := Or.inr (nlt c26 (by omega) (by omega))
      rw [if_pos hc, if_pos hc]
      refine s_aload_n (zdk hX4_readName 16 rfl) rfl ?_
      refine s_bipushv (v := (-2)) (zdk hX4_readName 17 rfl) zc_bipush_m2 ?_
      refine s_aload_n (zdk hX4_readName 18 rfl) rfl ?_
      refine s_getI (zdk hX4_readName 19 rfl) fw_X4_22 rfl (ha.1) ?_
      refine s_topi (b := nI (zsk (zI M (a + 1)) n (n - i) i)) ((congrFun zI_Ie 3).trans zw1_e) ?_
      refine s_callV0 (ci := 4) [.int ((-2)), .int (nI (zsk (zI M (a + 1)) n (n - i) i))] (zdk hX4_readName 20 rfl) cw_X4_84 (ha.1) (by decide) rfl rfl rfl (Nat.le_of_ble_eq_true rfl) (by decide) (c_X4_fail hl (show eSh (zsI M a 3 (nI (zsk (zI M (a + 1)) n (n - i) i))) a from ha) _ _) ?_
      refine s_ireturn (zdk hX4_readName 21 rfl) rfl rfl ?_
      exact ⟨rfl, rfl⟩
end
