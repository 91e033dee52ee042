theorem zc_bipush_m3 : (Int8.ofInt (-3)).toInt32 = (-3) := by decide
/-- what a number's reading answers: a number there? its end, its worth -/
def zdq (b : Int32) : Prop := nI 48 ≤ b ∧ b ≤ nI 57
section
variable {l : Launch} {G : zG}
theorem c_X4_readNumber (hl : l.stackTraces = false) {M : zMem} {a n : Nat} (ha : eSh M a) (hn : zI M a 0 = nI n) (hn6 : n ≤ 600) {i : Nat} (hat : zI M a 3 = nI i) (hin : i ≤ n) (lo hi : Int32) : zCm l G mX4_readNumber 2 50 0 0 [.ref a, .int lo, .int hi] M (zD (some (.int (if nI 48 ≤ (zrb (zI M (a + 1)) n (zsk (zI M (a + 1)) n (n - i) i)) ∧ (zrb (zI M (a + 1)) n (zsk (zI M (a + 1)) n (n - i) i)) ≤ nI 57 then (if lo ≤ (zrn (zI M (a + 1)) n (n - (zsk (zI M (a + 1)) n (n - i) i)) (zsk (zI M (a + 1)) n (n - i) i) (nI 0)).2 ∧ (zrn (zI M (a + 1)) n (n - (zsk (zI M (a + 1)) n (n - i) i)) (zsk (zI M (a + 1)) n (n - i) i) (nI 0)).2 ≤ hi then nI 1 else nI 0) else nI 0))) (if nI 48 ≤ (zrb (zI M (a + 1)) n (zsk (zI M (a + 1)) n (n - i) i)) ∧ (zrb (zI M (a + 1)) n (zsk (zI M (a + 1)) n (n - i) i)) ≤ nI 57 then (if lo ≤ (zrn (zI M (a + 1)) n (n - (zsk (zI M (a + 1)) n (n - i) i)) (zsk (zI M (a + 1)) n (n - i) i) (nI 0)).2 ∧ (zrn (zI M (a + 1)) n (n - (zsk (zI M (a + 1)) n (n - i) i)) (zsk (zI M (a + 1)) n (n - i) i) (nI 0)).2 ≤ hi then (zAN M a (zrn (zI M (a + 1)) n (n - (zsk (zI M (a + 1)) n (n - i) i)) (zsk (zI M (a + 1)) n (n - i) i) (nI 0)).1 (zrn (zI M (a + 1)) n (n - (zsk (zI M (a + 1)) n (n - i) i)) (zsk (zI M (a + 1)) n (n - i) i) (nI 0)).2) else (zsI (zsI (zAN M a (zrn (zI M (a + 1)) n (n - (zsk (zI M (a + 1)) n (n - i) i)) (zsk (zI M (a + 1)) n (n - i) i) (nI 0)).1 (zrn (zI M (a + 1)) n (n - (zsk (zI M (a + 1)) n (n - i) i)) (zsk (zI M (a + 1)) n (n - i) i) (nI 0)).2) a 4 (-3)) a 1 (nI (zsk (zI M (a + 1)) n (n - i) i)))) else (zsI (zsI (zsI M a 3 (nI (zsk (zI M (a + 1)) n (n - i) i))) a 4 (-2)) a 1 (nI (zsk (zI M (a + 1)) n (n - i) i))))) := by
  refine zCd.of (ls0 := [some (.ref a), some (.int (lo)), some (.int (hi)), none]) (by decide +kernel) rfl hl rfl (Nat.le_of_ble_eq_true rfl) (by split <;> (first | rfl | (split <;> rfl))) ?_
  refine s_aload_n (zdk hX4_readNumber_0 0 rfl) rfl ?_
  refine s_callV0 (ci := 4) [] (zdk hX4_readNumber_0 1 rfl) cw_X4_114 (ha.1) (by decide) rfl rfl rfl (Nat.le_of_ble_eq_true rfl) (by decide) (c_X4_nextByte hl ha hn hn6 hat hin) ?_
  refine s_callS0 [.int ((zrb (zI M (a + 1)) n (zsk (zI M (a + 1)) n (n - i) i)))] (zdk hX4_readNumber_0 2 rfl) cw_X4_146 rfl (Nat.le_of_ble_eq_true rfl) (by decide) (c_X4_isDigit hl _ _) ?_
  refine s_if_ne 21 (zdk hX4_readNumber_0 3 rfl) (by decide) (fun c7 => ?_) (fun c7 => ?_)
  · have hd : nI 48 ≤ (zrb (zI M (a + 1)) n (zsk (zI M (a + 1)) n (n - i) i)) ∧ (zrb (zI M (a + 1)) n (zsk (zI M (a + 1)) n (n - i) i)) ≤ nI 57 := Classical.byContradiction fun q => c7 (if_neg q)
    rw [if_pos hd, if_pos hd]
    refine s_aload_n (zdk hX4_readNumber_0 10 rfl) rfl ?_
    refine s_getI (zdk hX4_readNumber_0 11 rfl) fw_X4_22 rfl (ha.1) ?_
    refine s_topi (b := nI (zsk (zI M (a + 1)) n (n - i) i)) ((congrFun zI_Ie 3).trans zw1_e) ?_
    refine s_istore_n (zdk hX4_readNumber_0 12 rfl) (Nat.le_of_ble_eq_true rfl) ?_
    refine s_ls (ls' := [some (.ref a), some (.int (lo)), some (.int (hi)), some (.int (nI (zsk (zI M (a + 1)) n (n - i) i)))]) rfl ?_
    refine s_aload_n (zdk hX4_readNumber_0 13 rfl) rfl ?_
    refine s_iconstv (v := nI 0) (zdk hX4_readNumber_0 14 rfl) zc_iconst_0 ?_
    refine s_putI (zdk hX4_readNumber_0 15 rfl) fw_X4_28 rfl pw_4_5 (ha.1) ?_
    refine s_mem (M' := (zAN M a (zsk (zI M (a + 1)) n (n - i) i) (nI 0))) (rfl) ?_
    have hle : (zsk (zI M (a + 1)) n (n - i) i) ≤ n := by have := zsk_le (u := (zI M (a + 1))) (n := n) (n - i) i; omega
    refine w_X4_readNumber_31 hl ha hn hn6 lo hi (zsk (zI M (a + 1)) n (n - i) i) (n + 1) (zsk (zI M (a + 1)) n (n - i) i) (nI 0) hle (by omega) ?_
    refine s_aload_n (zdk hX4_readNumber_0 53 rfl) rfl ?_
    refine s_getI (zdk hX4_readNumber_0 54 rfl) fw_X4_28 rfl (ha.1) ?_
    refine s_topi (b := (zrn (zI M (a + 1)) n (n - (zsk (zI M (a + 1)) n (n - i) i)) (zsk (zI M (a + 1)) n (n - i) i) (nI 0)).2) (zAN_5) ?_
    refine s_iload_n (zdk hX4_readNumber_0 55 rfl) rfl ?_
    refine s_icmp_lt 119 (zdk hX4_readNumber_0 56 rfl) (by decide) (fun c108 => ?_) (fun c108 => ?_)
    · have hc : ¬ (lo ≤ (zrn (zI M (a + 1)) n (n - (zsk (zI M (a + 1)) n (n - i) i)) (zsk (zI M (a + 1)) n (n - i) i) (nI 0)).2 ∧ (zrn (zI M (a + 1)) n (n - (zsk (zI M (a + 1)) n (n - i) i)) (zsk (zI M (a + 1)) n (n - i) i) (nI 0)).2 ≤ hi) := fun q => absurd q.1 (Int32.not_le.mpr c108)
      refine s_aload_n (zdk hX4_readNumber_1 1 rfl) rfl ?_
      refine s_bipushv (v := (-3)) (zdk hX4_readNumber_1 2 rfl) zc_bipush_m3 ?_
      refine s_iload_n (zdk hX4_readNumber_1 3 rfl) rfl ?_
      refine s_callV0 (ci := 4) [.int ((-3)), .int (nI (zsk (zI M (a + 1)) n (n - i) i))] (zdk hX4_readNumber_1 4 rfl) cw_X4_84 (ha.1) (by decide) rfl rfl rfl (Nat.le_of_ble_eq_true rfl) (by decide) (c_X4_fail hl (show eSh (zAN M a (zrn (zI M (a + 1)) n (n - (zsk (zI M (a + 1)) n (n - i) i)) (zsk (zI M (a + 1)) n (n - i) i) (nI 0)).1 (zrn (zI M (a + 1)) n (n - (zsk (zI M (a + 1)) n (n - i) i)) (zsk (zI M (a + 1)) n (n - i) i) (nI 0)).2) a from ha) _ _) ?_
      refine s_if_eq 133 (zdk hX4_readNumber_1 5 rfl) (by decide) (fun c126 => ?_) (fun c126 => ?_)
      · refine s_iconstv (v := nI 0) (zdk hX4_readNumber_1 8 rfl) zc_iconst_0 ?_
        refine s_ireturn (zdk hX4_readNumber_1 9 rfl) rfl rfl ?_
        rw [if_neg hc, if_neg hc]
        exact ⟨rfl, rfl⟩
      · exact absurd rfl c126
    · refine s_aload_n (zdk hX4_readNumber_0 57 rfl) rfl ?_
      refine s_getI (zdk hX4_readNumber_0 58 rfl) fw_X4_28 rfl (ha.1) ?_
      refine s_topi (b := (zrn (zI M (a + 1)) n (n - (zsk (zI M (a + 1)) n (n - i) i)) (zsk (zI M (a + 1)) n (n - i) i) (nI 0)).2) (zAN_5) ?_
      refine s_iload_n (zdk hX4_readNumber_0 59 rfl) rfl ?_
      refine s_icmp_le 129 (zdk hX4_readNumber_1 0 rfl) (by decide) (fun c116 => ?_) (fun c116 => ?_)
      · have hc : lo ≤ (zrn (zI M (a + 1)) n (n - (zsk (zI M (a + 1)) n (n - i) i)) (zsk (zI M (a + 1)) n (n - i) i) (nI 0)).2 ∧ (zrn (zI M (a + 1)) n (n - (zsk (zI M (a + 1)) n (n - i) i)) (zsk (zI M (a + 1)) n (n - i) i) (nI 0)).2 ≤ hi := ⟨Int32.not_lt.mp c108, c116⟩
        refine s_iconstv (v := nI 1) (zdk hX4_readNumber_1 6 rfl) zc_iconst_1 ?_
        refine s_goto 134 (zdk hX4_readNumber_1 7 rfl) (by decide) ?_
        refine s_ireturn (zdk hX4_readNumber_1 9 rfl) rfl rfl ?_
        rw [if_pos hc, if_pos hc]
        exact ⟨rfl, rfl⟩
      · have hc : ¬ (lo ≤ (zrn (zI M (a + 1)) n (n - (zsk (zI M (a + 1)) n (n - i) i)) (zsk (zI M (a + 1)) n (n - i) i) (nI 0)).2 ∧ (zrn (zI M (a + 1)) n (n - (zsk (zI M (a + 1)) n (n - i) i)) (zsk (zI M (a + 1)) n (n - i) i) (nI 0)).2 ≤ hi) := fun q => absurd q.2 c116
        refine s_aload_n (zdk hX4_readNumber_1 1 rfl) rfl ?_
        refine s_bipushv (v := (-3)) (zdk hX4_readNumber_1 2 rfl) zc_bipush_m3 ?_
        refine s_iload_n (zdk hX4_readNumber_1 3 rfl) rfl ?_
        refine s_callV0 (ci := 4) [.int ((-3)), .int (nI (zsk (zI M (a + 1)) n (n - i) i))] (zdk hX4_readNumber_1 4 rfl) cw_X4_84 (ha.1) (by decide) rfl rfl rfl (Nat.le_of_ble_eq_true rfl) (by decide) (c_X4_fail hl (show eSh (zAN M a (zrn (zI M (a + 1)) n (n - (zsk (zI M (a + 1)) n (n - i) i)) (zsk (zI M (a + 1)) n (n - i) i) (nI 0)).1 (zrn (zI M (a + 1)) n (n - (zsk (zI M (a + 1)) n (n - i) i)) (zsk (zI M (a + 1)) n (n - i) i) (nI 0)).2) a from ha) _ _) ?_
        refine s_if_eq 133 (zdk hX4_readNumber_1 5 rfl) (by decide) (fun c126 => ?_) (fun c126 => ?_)
        · refine s_iconstv (v := nI 0) (zdk hX4_readNumber_1 8 rfl) zc_iconst_0 ?_
          refine s_ireturn (zdk hX4_readNumber_1 9 rfl) rfl rfl ?_
          rw [if_neg hc, if_neg hc]
          exact ⟨rfl, rfl⟩
        · exact absurd rfl c126
  · have hd : ¬ (nI 48 ≤ (zrb (zI M (a + 1)) n (zsk (zI M (a + 1)) n (n - i) i)) ∧ (zrb (zI M (a + 1)) n (zsk (zI M (a + 1)) n (n - i) i)) ≤ nI 57) := fun q => by rw [if_pos q] at c7; exact absurd c7 (by decide)
    rw [if_neg hd, if_neg hd]
    refine s_aload_n (zdk hX4_readNumber_0 4 rfl) rfl ?_
    refine s_bipushv (v := (-2)) (zdk hX4_readNumber_0 5 rfl) zc_bipush_m2 ?_
    refine s_aload_n (zdk hX4_readNumber_0 6 rfl) rfl ?_
    refine s_getI (zdk hX4_readNumber_0 7 rfl) fw_X4_22 rfl (ha.1) ?_
    refine s_topi (b := nI (zsk (zI M (a + 1)) n (n - i) i)) ((congrFun zI_Ie 3).trans zw1_e) ?_
    refine s_callV0 (ci := 4) [.int ((-2)), .int (nI (zsk (zI M (a + 1)) n (n - i) i))] (zdk hX4_readNumber_0 8 rfl) cw_X4_84 (ha.1) (by decide) rfl rfl rfl (Nat.le_of_ble_eq_true rfl) (by decide) (c_X4_fail hl (show eSh (zsI M a 3 (nI (zsk (zI M (a + 1)) n (n - i) i))) a from ha) _ _) ?_
    refine s_ireturn (zdk hX4_readNumber_0 9 rfl) rfl rfl ?_
    exact ⟨rfl, rfl⟩
end
