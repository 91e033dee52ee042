section
variable {l : Launch} {G : zG}
theorem c_schr (hl : l.stackTraces = false) (M : zMem) {k j : Nat} (hk : k < 6) (hj : j < zLl.getD k 0) : zCm l G mJ0_charAt_5068e 3 80 0 0 [.ref (1000000 + k), .int (nI j)] M (zD (some (.int (zch k j))) M) := by
  have h6 := zLl_6 hk
  refine zCd.ofF (ls0 := [some (.ref (1000000 + k)), some (.int (nI j))]) (by decide +kernel) rfl hl rfl (Nat.le_of_ble_eq_true rfl) rfl ?_
  refine s_aload_n (zdk hJ0_charAt_5068e 0 rfl) rfl ?_
  refine s_callVs (mc := 0) (ms := 0) (bc := 0) (bs := 0) (as := []) (zdk hJ0_charAt_5068e 1 rfl) cw_J0_492 hk rfl rfl (Nat.le_of_ble_eq_true rfl) (by decide) (c_isLatin1 hl M hk) ?_
  intro v M1 q
  obtain ⟨q1, rfl⟩ := q
  cases q1
  refine s_if_eq 16 (zdk hJ0_charAt_5068e 2 rfl) (by decide) (fun c => ?_) (fun c => ?_)
  · exact absurd c (by decide)
  · refine s_aload_n (zdk hJ0_charAt_5068e 3 rfl) rfl ?_
    refine s_strV hk (zdk hJ0_charAt_5068e 4 rfl) jw_J0_9 ?_
    refine s_iload_n (zdk hJ0_charAt_5068e 5 rfl) rfl ?_
    refine s_callS0 [.ref (3000000 + k), .int (nI j)] (zdk hJ0_charAt_5068e 6 rfl) cw_J0_495 rfl (Nat.le_of_ble_eq_true rfl) (by decide) (c_lchr hl _ hk hj) ?_
    refine s_ireturn (zdk hJ0_charAt_5068e 7 rfl) rfl (zch_n hk (by omega)) ?_
    exact ⟨rfl, rfl⟩
end
