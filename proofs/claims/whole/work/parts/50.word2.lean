section
variable {l : Launch} {G : zG}
theorem c_X4_nextIsWord (hl : l.stackTraces = false) {M : zMem} {a n : Nat} (ha : eSh M a) (hn : zI M a 0 = nI n) (hn6 : n ≤ 600) {i : Nat} (hi : zI M a 3 = nI i) (hin : i ≤ n) {w : Nat} (hw : w < 6) : zCm l G mX4_nextIsWord 4 120 0 0 [.ref a, .ref (1000000 + w)] M (zD (some (.int (if (zew (zI M (a + 1)) n (n - (zsk (zI M (a + 1)) n (n - i) i)) (zsk (zI M (a + 1)) n (n - i) i)) - (zsk (zI M (a + 1)) n (n - i) i) = (zLl.getD w 0) then zwd (zI M (a + 1)) w (zsk (zI M (a + 1)) n (n - i) i) (zLl.getD w 0) 0 else nI 0))) (zsI M a 3 (nI (zsk (zI M (a + 1)) n (n - i) i)))) := by
  refine zCd.of (ls0 := [some (.ref a), some (.ref (1000000 + w)), none]) (by decide +kernel) rfl hl rfl (Nat.le_of_ble_eq_true rfl) rfl ?_
  refine s_aload_n (zdk hX4_nextIsWord 0 rfl) rfl ?_
  refine s_callV0 (ci := 4) [] (zdk hX4_nextIsWord 1 rfl) cw_X4_114 (ha.1) (by decide) rfl rfl rfl (Nat.le_of_ble_eq_true rfl) (by decide) (c_X4_nextByte hl ha hn hn6 hi hin) ?_
  refine s_popi (zdk hX4_nextIsWord 2 rfl) ?_
  refine s_aload_n (zdk hX4_nextIsWord 3 rfl) rfl ?_
  have hle : (zsk (zI M (a + 1)) n (n - i) i) ≤ n := by have := zsk_le (u := (zI M (a + 1))) (n := n) (n - i) i; omega
  have hn1 : zI (zsI M a 3 (nI (zsk (zI M (a + 1)) n (n - i) i))) a 0 = nI n := (congrFun zI_Ie 0).trans ((zw1_n (by decide)).trans hn)
  have hge := zew_ge (u := (zI M (a + 1))) (n := n) (n - (zsk (zI M (a + 1)) n (n - i) i)) (zsk (zI M (a + 1)) n (n - i) i)
  have hel := zew_le (u := (zI M (a + 1))) (n := n) (n - (zsk (zI M (a + 1)) n (n - i) i)) (zsk (zI M (a + 1)) n (n - i) i)
  refine s_callV0 (ci := 4) [] (zdk hX4_nextIsWord 4 rfl) cw_X4_137 (ha.1) (by decide) rfl rfl rfl (Nat.le_of_ble_eq_true rfl) (by decide) (c_X4_endOfWord hl (show eSh (zsI M a 3 (nI (zsk (zI M (a + 1)) n (n - i) i))) a from ha) (n := n) (i := (zsk (zI M (a + 1)) n (n - i) i)) hn1 hn6 ((congrFun zI_Ie 3).trans zw1_e) hle) ?_
  refine s_topi (b := nI (zew (zI M (a + 1)) n (n - (zsk (zI M (a + 1)) n (n - i) i)) (zsk (zI M (a + 1)) n (n - i) i))) ((by rw [zI_In (show a + 1 ≠ a by omega)])) ?_
  refine s_aload_n (zdk hX4_nextIsWord 5 rfl) rfl ?_
  refine s_getI (zdk hX4_nextIsWord 6 rfl) fw_X4_22 rfl (ha.1) ?_
  refine s_topi (b := nI (zsk (zI M (a + 1)) n (n - i) i)) ((congrFun zI_Ie 3).trans zw1_e) ?_
  refine s_isub (zdk hX4_nextIsWord 7 rfl) ?_
  refine s_topi (b := nI ((zew (zI M (a + 1)) n (n - (zsk (zI M (a + 1)) n (n - i) i)) (zsk (zI M (a + 1)) n (n - i) i)) - (zsk (zI M (a + 1)) n (n - i) i))) (pk_sub hge) ?_
  refine s_aload_n (zdk hX4_nextIsWord 8 rfl) rfl ?_
  refine s_callVs (mc := 0) (ms := 0) (bc := 0) (bs := 0) (as := []) (zdk hX4_nextIsWord 9 rfl) cw_X4_151 hw rfl rfl (Nat.le_of_ble_eq_true rfl) (by decide) (c_slength hl _ hw) ?_
  intro v9 M9 q9
  obtain ⟨q8, rfl⟩ := q9
  cases q8
  refine s_icmp_eq 23 (zdk hX4_nextIsWord 10 rfl) (by decide) (fun c18 => ?_) (fun c18 => ?_)
  · have hc : (zew (zI M (a + 1)) n (n - (zsk (zI M (a + 1)) n (n - i) i)) (zsk (zI M (a + 1)) n (n - i) i)) - (zsk (zI M (a + 1)) n (n - i) i) = (zLl.getD w 0) := neq c18 (by omega) (by have := zLl_6 hw; omega)
    rw [if_pos hc]
    refine s_iconstv (v := nI 0) (zdk hX4_nextIsWord 13 rfl) zc_iconst_0 ?_
    refine s_istore_n (zdk hX4_nextIsWord 14 rfl) (Nat.le_of_ble_eq_true rfl) ?_
    refine s_ls (ls' := [some (.ref a), some (.ref (1000000 + w)), some (.int (nI 0))]) rfl ?_
    exact w_X4_nextIsWord_25 hl ha hn hn6 hw (by omega) ((zLl.getD w 0) + 1) 0 (by omega) (by omega)
  · rw [if_neg (nne c18)]
    refine s_iconstv (v := nI 0) (zdk hX4_nextIsWord 11 rfl) zc_iconst_0 ?_
    refine s_ireturn (zdk hX4_nextIsWord 12 rfl) rfl rfl ?_
    exact ⟨rfl, rfl⟩
end
