theorem zc_sipush_255 : (Int16.ofInt 255).toInt32 = nI 255 := by decide
/-! ===== the words' letters ===== -/
def zch (k j : Nat) : Int32 := (zLb.getD k []).getD j 0
theorem zch_c {k j : Nat} (hk : k < 6) (hj : j < 6) : ((zch k j &&& nI 255).toUInt32 % 65536).toInt32 = zch k j := by
  rcases (by omega : k = 0 ∨ k = 1 ∨ k = 2 ∨ k = 3 ∨ k = 4 ∨ k = 5) with r | r | r | r | r | r <;> rcases (by omega : j = 0 ∨ j = 1 ∨ j = 2 ∨ j = 3 ∨ j = 4 ∨ j = 5) with q | q | q | q | q | q <;> (subst r; subst q; decide)
theorem zch_n {k j : Nat} (hk : k < 6) (hj : j < 6) : narrow .char (.int (zch k j)) = .int (zch k j) := by
  rcases (by omega : k = 0 ∨ k = 1 ∨ k = 2 ∨ k = 3 ∨ k = 4 ∨ k = 5) with r | r | r | r | r | r <;> rcases (by omega : j = 0 ∨ j = 1 ∨ j = 2 ∨ j = 3 ∨ j = 4 ∨ j = 5) with q | q | q | q | q | q <;> (subst r; subst q; decide)
theorem zLl_6 {k : Nat} (hk : k < 6) : zLl.getD k 0 < 6 := by
  rcases (by omega : k = 0 ∨ k = 1 ∨ k = 2 ∨ k = 3 ∨ k = 4 ∨ k = 5) with r | r | r | r | r | r <;> (subst r; decide)
section
variable {l : Launch} {G : zG}
theorem c_chkN (hl : l.stackTraces = false) (M : zMem) {j n : Nat} (h : j < n) (hn : n < 100000) : zCm l G mJ3_checkIndex_8e157 0 0 0 0 [.int (nI j), .int (nI n), .null] M (zD (some (.int (nI j))) M) := by
  refine zCd.ofF (ls0 := [some (.int (nI j)), some (.int (nI n)), some (.null)]) (by decide +kernel) rfl hl rfl (Nat.le_of_ble_eq_true rfl) rfl ?_
  refine s_iload_n (zdk hJ3_checkIndex_8e157 0 rfl) rfl ?_
  refine s_if_lt 9 (zdk hJ3_checkIndex_8e157 1 rfl) (by decide) (fun c => ?_) (fun c => ?_)
  · exact absurd c (nI_pos (by omega))
  · refine s_iload_n (zdk hJ3_checkIndex_8e157 2 rfl) rfl ?_
    refine s_iload_n (zdk hJ3_checkIndex_8e157 3 rfl) rfl ?_
    refine s_icmp_lt 16 (zdk hJ3_checkIndex_8e157 4 rfl) (by decide) (fun c => ?_) (fun c => ?_)
    · refine s_iload_n (zdk hJ3_checkIndex_8e157 10 rfl) rfl ?_
      refine s_ireturn (zdk hJ3_checkIndex_8e157 11 rfl) rfl rfl ?_
      exact ⟨rfl, rfl⟩
    · exact absurd (nI_lt h (by omega)) c
theorem c_chkR (hl : l.stackTraces = false) (M : zMem) {j n : Nat} (h : j < n) (hn : n < 100000) : zCm l G mJ3_checkIndex_8e157 0 0 0 0 [.int (nI j), .int (nI n), .ref 3000006] M (zD (some (.int (nI j))) M) := by
  refine zCd.ofF (ls0 := [some (.int (nI j)), some (.int (nI n)), some (.ref 3000006)]) (by decide +kernel) rfl hl rfl (Nat.le_of_ble_eq_true rfl) rfl ?_
  refine s_iload_n (zdk hJ3_checkIndex_8e157 0 rfl) rfl ?_
  refine s_if_lt 9 (zdk hJ3_checkIndex_8e157 1 rfl) (by decide) (fun c => ?_) (fun c => ?_)
  · exact absurd c (nI_pos (by omega))
  · refine s_iload_n (zdk hJ3_checkIndex_8e157 2 rfl) rfl ?_
    refine s_iload_n (zdk hJ3_checkIndex_8e157 3 rfl) rfl ?_
    refine s_icmp_lt 16 (zdk hJ3_checkIndex_8e157 4 rfl) (by decide) (fun c => ?_) (fun c => ?_)
    · refine s_iload_n (zdk hJ3_checkIndex_8e157 10 rfl) rfl ?_
      refine s_ireturn (zdk hJ3_checkIndex_8e157 11 rfl) rfl rfl ?_
      exact ⟨rfl, rfl⟩
    · exact absurd (nI_lt h (by omega)) c
theorem c_schk (hl : l.stackTraces = false) (M : zMem) {j n : Nat} (h : j < n) (hn : n < 100000) : zCm l G mJ0_checkIndex_df160 1 24 0 0 [.int (nI j), .int (nI n)] M (zD none M) := by
  refine zCd.ofF (ls0 := [some (.int (nI j)), some (.int (nI n))]) (by decide +kernel) rfl hl rfl (Nat.le_of_ble_eq_true rfl) rfl ?_
  refine s_iload_n (zdk hJ0_checkIndex_df160 0 rfl) rfl ?_
  refine s_iload_n (zdk hJ0_checkIndex_df160 1 rfl) rfl ?_
  refine s_gstF (zdk hJ0_checkIndex_df160 2 rfl) jw_J0_1053 ?_ ?_
  · refine s_callS0 [.int (nI j), .int (nI n), .null] (zdk hJ0_checkIndex_df160 3 rfl) cw_J0_1059 rfl (Nat.le_of_ble_eq_true rfl) (by decide) (c_chkN hl M h hn) ?_
    refine s_popi (zdk hJ0_checkIndex_df160 4 rfl) ?_
    refine s_return (zdk hJ0_checkIndex_df160 5 rfl) rfl ?_
    exact ⟨rfl, rfl⟩
  · refine s_callS0 [.int (nI j), .int (nI n), .ref 3000006] (zdk hJ0_checkIndex_df160 3 rfl) cw_J0_1059 rfl (Nat.le_of_ble_eq_true rfl) (by decide) (c_chkR hl M h hn) ?_
    refine s_popi (zdk hJ0_checkIndex_df160 4 rfl) ?_
    refine s_return (zdk hJ0_checkIndex_df160 5 rfl) rfl ?_
    exact ⟨rfl, rfl⟩
theorem c_lchr (hl : l.stackTraces = false) (M : zMem) {k j : Nat} (hk : k < 6) (hj : j < zLl.getD k 0) : zCm l G mJ1_charAt_3b067 2 50 0 0 [.ref (3000000 + k), .int (nI j)] M (zD (some (.int (zch k j))) M) := by
  have h6 := zLl_6 hk
  refine zCd.ofF (ls0 := [some (.ref (3000000 + k)), some (.int (nI j))]) (by decide +kernel) rfl hl rfl (Nat.le_of_ble_eq_true rfl) rfl ?_
  refine s_iload_n (zdk hJ1_charAt_3b067 0 rfl) rfl ?_
  refine s_aload_n (zdk hJ1_charAt_3b067 1 rfl) rfl ?_
  refine s_strL hk (zdk hJ1_charAt_3b067 2 rfl) ?_
  refine s_callS0 [.int (nI j), .int (nI (zLl.getD k 0))] (zdk hJ1_charAt_3b067 3 rfl) cw_J1_9 rfl (Nat.le_of_ble_eq_true rfl) (by decide) (c_schk hl M hj (by omega)) ?_
  refine s_aload_n (zdk hJ1_charAt_3b067 4 rfl) rfl ?_
  refine s_iload_n (zdk hJ1_charAt_3b067 5 rfl) rfl ?_
  refine s_strB hk (zdk hJ1_charAt_3b067 6 rfl) (nI_in2 hj (by omega)) ?_
  refine s_topi (b := zch k j) (by rw [nI_cl hj (by omega)]; rfl) ?_
  refine s_sipushv (v := nI 255) (zdk hJ1_charAt_3b067 7 rfl) zc_sipush_255 ?_
  refine s_iand (zdk hJ1_charAt_3b067 8 rfl) ?_
  refine s_i2c (zdk hJ1_charAt_3b067 9 rfl) (zch_c hk (by omega)) ?_
  refine s_ireturn (zdk hJ1_charAt_3b067 10 rfl) rfl (zch_n hk (by omega)) ?_
  exact ⟨rfl, rfl⟩
end
