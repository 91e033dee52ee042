/-- does word w stand behind the blanks from i? -/
def zwq (u : Nat → Int32) (n i w : Nat) : Int32 := if zew u n (n - zsk u n (n - i) i) (zsk u n (n - i) i) - zsk u n (n - i) i = zLl.getD w 0 then zwd u w (zsk u n (n - i) i) (zLl.getD w 0) 0 else nI 0
section
variable {l : Launch} {G : zG}
theorem c_X4_passWord (hl : l.stackTraces = false) {M : zMem} {a n : Nat} (ha : eSh M a) (hn : zI M a 0 = nI n) (hn6 : n ≤ 600) {i : Nat} (hi : zI M a 3 = nI i) (hin : i ≤ n) {w : Nat} (hw : w < 6) : zCm l G mX4_passWord 5 150 0 0 [.ref a, .ref (1000000 + w)] M (zD (some (.int (if (zwq (zI M (a + 1)) n i w) = 0 then nI 0 else nI 1))) (if (zwq (zI M (a + 1)) n i w) = 0 then (zsI (zsI (zsI M a 3 (nI (zsk (zI M (a + 1)) n (n - i) i))) a 4 (-2)) a 1 (nI (zsk (zI M (a + 1)) n (n - i) i))) else (zsI M a 3 (nI ((zsk (zI M (a + 1)) n (n - i) i) + (zLl.getD w 0)))))) := by
  refine zCd.of (ls0 := [some (.ref a), some (.ref (1000000 + w))]) (by decide +kernel) rfl hl rfl (Nat.le_of_ble_eq_true rfl) (by split <;> rfl) ?_
  refine s_aload_n (zdk hX4_passWord 0 rfl) rfl ?_
  refine s_aload_n (zdk hX4_passWord 1 rfl) rfl ?_
  refine s_callV0 (ci := 4) [.ref (1000000 + w)] (zdk hX4_passWord 2 rfl) cw_X4_65 (ha.1) (by decide) rfl rfl rfl (Nat.le_of_ble_eq_true rfl) (by decide) (c_X4_nextIsWord hl ha hn hn6 hi hin hw) ?_
  refine s_topi (b := (zwq (zI M (a + 1)) n i w)) (rfl) ?_
  refine s_if_ne 19 (zdk hX4_passWord 3 rfl) (by decide) (fun c5 => ?_) (fun c5 => ?_)
  · rw [if_neg c5, if_neg c5]
    refine s_aload_n (zdk hX4_passWord 10 rfl) rfl ?_
    refine s_dupr (zdk hX4_passWord 11 rfl) ?_
    refine s_getI (zdk hX4_passWord 12 rfl) fw_X4_22 rfl (ha.1) ?_
    refine s_topi (b := nI (zsk (zI M (a + 1)) n (n - i) i)) ((congrFun zI_Ie 3).trans zw1_e) ?_
    refine s_aload_n (zdk hX4_passWord 13 rfl) rfl ?_
    refine s_callVs (mc := 0) (ms := 0) (bc := 0) (bs := 0) (as := []) (zdk hX4_passWord 14 rfl) cw_X4_151 hw rfl rfl (Nat.le_of_ble_eq_true rfl) (by decide) (c_slength hl _ hw) ?_
    intro v9 M9 q9
    obtain ⟨q8, rfl⟩ := q9
    cases q8
    refine s_iadd (zdk hX4_passWord 15 rfl) ?_
    refine s_topi (b := nI ((zsk (zI M (a + 1)) n (n - i) i) + (zLl.getD w 0))) (nI_add _ _) ?_
    refine s_putI (zdk hX4_passWord 16 rfl) fw_X4_22 rfl pw_4_3 (ha.1) ?_
    refine s_mem (M' := (zsI M a 3 (nI ((zsk (zI M (a + 1)) n (n - i) i) + (zLl.getD w 0))))) (zsI_zsI) ?_
    refine s_iconstv (v := nI 1) (zdk hX4_passWord 17 rfl) zc_iconst_1 ?_
    refine s_ireturn (zdk hX4_passWord 18 rfl) rfl rfl ?_
    exact ⟨rfl, rfl⟩
  · rw [if_pos c5, if_pos c5]
    refine s_aload_n (zdk hX4_passWord 4 rfl) rfl ?_
    refine s_bipushv (v := (-2)) (zdk hX4_passWord 5 rfl) zc_bipush_m2 ?_
    refine s_aload_n (zdk hX4_passWord 6 rfl) rfl ?_
    refine s_getI (zdk hX4_passWord 7 rfl) fw_X4_22 rfl (ha.1) ?_
    refine s_topi (b := nI (zsk (zI M (a + 1)) n (n - i) i)) ((congrFun zI_Ie 3).trans zw1_e) ?_
    refine s_callV0 (ci := 4) [.int ((-2)), .int (nI (zsk (zI M (a + 1)) n (n - i) i))] (zdk hX4_passWord 8 rfl) cw_X4_84 (ha.1) (by decide) rfl rfl rfl (Nat.le_of_ble_eq_true rfl) (by decide) (c_X4_fail hl (show eSh (zsI M a 3 (nI (zsk (zI M (a + 1)) n (n - i) i))) a from ha) _ _) ?_
    refine s_ireturn (zdk hX4_passWord 9 rfl) rfl rfl ?_
    exact ⟨rfl, rfl⟩
end
