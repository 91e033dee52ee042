theorem zc_bipush_m2 : (Int8.ofInt (-2)).toInt32 = (-2) := by decide
theorem zc_bipush_59 : (Int8.ofInt 59).toInt32 = nI 59 := by decide
/-! ===== the reader: a sign ===== -/
theorem zsk_le {u : Nat → Int32} {n : Nat} : ∀ k i, zsk u n k i ≤ i + k
  | 0, i => Nat.le_refl i
  | k + 1, i => by
    unfold zsk
    have := zsk_le (u := u) (n := n) k (i + 1)
    split <;> omega
theorem zsk_ge {u : Nat → Int32} {n : Nat} : ∀ k i, i ≤ zsk u n k i
  | 0, i => Nat.le_refl i
  | k + 1, i => by
    unfold zsk
    have := zsk_ge (u := u) (n := n) k (i + 1)
    split <;> omega
section
variable {l : Launch} {G : zG}
theorem c_X4_passSemicolon (hl : l.stackTraces = false) {M : zMem} {a n : Nat} (ha : eSh M a) (hn : zI M a 0 = nI n) (hn6 : n ≤ 600) {i : Nat} (hi : zI M a 3 = nI i) (hin : i ≤ n) : zCm l G mX4_passSemicolon 1 24 0 0 [.ref a] M (zD (some (.int (if zrb (zI M (a + 1)) n (zsk (zI M (a + 1)) n (n - i) i) = nI 59 then nI 1 else nI 0))) (if zrb (zI M (a + 1)) n (zsk (zI M (a + 1)) n (n - i) i) = nI 59 then (zsI M a 3 (nI ((zsk (zI M (a + 1)) n (n - i) i) + 1))) else (zsI (zsI (zsI M a 3 (nI (zsk (zI M (a + 1)) n (n - i) i))) a 4 (-2)) a 1 (nI (zsk (zI M (a + 1)) n (n - i) i))))) := by
  refine zCd.of (ls0 := [some (.ref a)]) (by decide +kernel) rfl hl rfl (Nat.le_of_ble_eq_true rfl) (by split <;> rfl) ?_
  refine s_aload_n (zdk hX4_passSemicolon 0 rfl) rfl ?_
  refine s_callV0 (ci := 4) [] (zdk hX4_passSemicolon 1 rfl) cw_X4_114 (ha.1) (by decide) rfl rfl rfl (Nat.le_of_ble_eq_true rfl) (by decide) (c_X4_nextByte hl ha hn hn6 hi hin) ?_
  refine s_bipushv (v := nI 59) (zdk hX4_passSemicolon 2 rfl) zc_bipush_59 ?_
  refine s_icmp_eq 20 (zdk hX4_passSemicolon 3 rfl) (by decide) (fun c6 => ?_) (fun c6 => ?_)
  · rw [if_pos c6, if_pos c6]
    refine s_aload_n (zdk hX4_passSemicolon 10 rfl) rfl ?_
    refine s_dupr (zdk hX4_passSemicolon 11 rfl) ?_
    refine s_getI (zdk hX4_passSemicolon 12 rfl) fw_X4_22 rfl (ha.1) ?_
    refine s_topi (b := nI (zsk (zI M (a + 1)) n (n - i) i)) ((congrFun zI_Ie 3).trans zw1_e) ?_
    refine s_iconstv (v := nI 1) (zdk hX4_passSemicolon 13 rfl) zc_iconst_1 ?_
    refine s_iadd (zdk hX4_passSemicolon 14 rfl) ?_
    refine s_topi (b := nI ((zsk (zI M (a + 1)) n (n - i) i) + 1)) (nI_1 _) ?_
    refine s_putI (zdk hX4_passSemicolon 15 rfl) fw_X4_22 rfl pw_4_3 (ha.1) ?_
    refine s_mem (M' := (zsI M a 3 (nI ((zsk (zI M (a + 1)) n (n - i) i) + 1)))) (zsI_zsI) ?_
    refine s_iconstv (v := nI 1) (zdk hX4_passSemicolon 16 rfl) zc_iconst_1 ?_
    refine s_ireturn (zdk hX4_passSemicolon 17 rfl) rfl rfl ?_
    exact ⟨rfl, rfl⟩
  · rw [if_neg c6, if_neg c6]
    refine s_aload_n (zdk hX4_passSemicolon 4 rfl) rfl ?_
    refine s_bipushv (v := (-2)) (zdk hX4_passSemicolon 5 rfl) zc_bipush_m2 ?_
    refine s_aload_n (zdk hX4_passSemicolon 6 rfl) rfl ?_
    refine s_getI (zdk hX4_passSemicolon 7 rfl) fw_X4_22 rfl (ha.1) ?_
    refine s_topi (b := nI (zsk (zI M (a + 1)) n (n - i) i)) ((congrFun zI_Ie 3).trans zw1_e) ?_
    refine s_callV0 (ci := 4) [.int ((-2)), .int (nI (zsk (zI M (a + 1)) n (n - i) i))] (zdk hX4_passSemicolon 8 rfl) cw_X4_84 (ha.1) (by decide) rfl rfl rfl (Nat.le_of_ble_eq_true rfl) (by decide) (c_X4_fail hl (show eSh (zsI M a 3 (nI (zsk (zI M (a + 1)) n (n - i) i))) a from ha) _ _) ?_
    refine s_ireturn (zdk hX4_passSemicolon 9 rfl) rfl rfl ?_
    exact ⟨rfl, rfl⟩
end
