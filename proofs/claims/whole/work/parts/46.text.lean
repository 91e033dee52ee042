/-! ===== the words' texts ===== -/
section
variable {l : Launch} {G : zG}
theorem c_coder (hl : l.stackTraces = false) (M : zMem) {k : Nat} (hk : k < 6) : zCm l G mJ0_coder_7d493 0 0 0 0 [.ref (1000000 + k)] M (zD (some (.int 0)) M) := by
  refine zCd.ofF (ls0 := [some (.ref (1000000 + k))]) (by decide +kernel) rfl hl rfl (Nat.le_of_ble_eq_true rfl) rfl ?_
  refine s_gstC (zdk hJ0_coder_7d493 0 rfl) jw_J0_38 ?_
  refine s_if_eq 13 (zdk hJ0_coder_7d493 1 rfl) (by decide) (fun c => ?_) (fun c => ?_)
  · exact absurd c (by decide)
  · refine s_aload_n (zdk hJ0_coder_7d493 2 rfl) rfl ?_
    refine s_strC hk (zdk hJ0_coder_7d493 3 rfl) jw_J0_15 ?_
    refine s_goto 14 (zdk hJ0_coder_7d493 4 rfl) (by decide) ?_
    refine s_ireturn (zdk hJ0_coder_7d493 6 rfl) rfl rfl ?_
    exact ⟨rfl, rfl⟩
theorem c_isLatin1 (hl : l.stackTraces = false) (M : zMem) {k : Nat} (hk : k < 6) : zCm l G mJ0_isLatin1_aae02 0 0 0 0 [.ref (1000000 + k)] M (zD (some (.int (nI 1))) M) := by
  refine zCd.ofF (ls0 := [some (.ref (1000000 + k))]) (by decide +kernel) rfl hl rfl (Nat.le_of_ble_eq_true rfl) rfl ?_
  refine s_gstC (zdk hJ0_isLatin1_aae02 0 rfl) jw_J0_38 ?_
  refine s_if_eq 17 (zdk hJ0_isLatin1_aae02 1 rfl) (by decide) (fun c => ?_) (fun c => ?_)
  · exact absurd c (by decide)
  · refine s_aload_n (zdk hJ0_isLatin1_aae02 2 rfl) rfl ?_
    refine s_strC hk (zdk hJ0_isLatin1_aae02 3 rfl) jw_J0_15 ?_
    refine s_if_ne 17 (zdk hJ0_isLatin1_aae02 4 rfl) (by decide) (fun c => ?_) (fun c => ?_)
    · exact absurd rfl c
    · refine s_iconstv (v := nI 1) (zdk hJ0_isLatin1_aae02 5 rfl) zc_iconst_1 ?_
      refine s_goto 18 (zdk hJ0_isLatin1_aae02 6 rfl) (by decide) ?_
      refine s_ireturn (zdk hJ0_isLatin1_aae02 8 rfl) rfl rfl ?_
      exact ⟨rfl, rfl⟩
theorem c_slength (hl : l.stackTraces = false) (M : zMem) {k : Nat} (hk : k < 6) : zCm l G mJ0_length_8abf5 1 24 0 0 [.ref (1000000 + k)] M (zD (some (.int (nI (zLl.getD k 0)))) M) := by
  refine zCd.ofF (ls0 := [some (.ref (1000000 + k))]) (by decide +kernel) rfl hl rfl (Nat.le_of_ble_eq_true rfl) rfl ?_
  refine s_aload_n (zdk hJ0_length_8abf5 0 rfl) rfl ?_
  refine s_strV hk (zdk hJ0_length_8abf5 1 rfl) jw_J0_9 ?_
  refine s_strL hk (zdk hJ0_length_8abf5 2 rfl) ?_
  refine s_aload_n (zdk hJ0_length_8abf5 3 rfl) rfl ?_
  refine s_callVs (mc := 0) (ms := 0) (bc := 0) (bs := 0) (as := []) (zdk hJ0_length_8abf5 4 rfl) cw_J0_335 hk rfl rfl (Nat.le_of_ble_eq_true rfl) (by decide) (c_coder hl M hk) ?_
  intro v M1 q
  obtain ⟨q1, rfl⟩ := q
  cases q1
  refine s_ishr (zdk hJ0_length_8abf5 5 rfl) ?_
  refine s_topi (b := nI (zLl.getD k 0)) (by rcases (by omega : k = 0 ∨ k = 1 ∨ k = 2 ∨ k = 3 ∨ k = 4 ∨ k = 5) with r | r | r | r | r | r <;> (subst r; decide)) ?_
  refine s_ireturn (zdk hJ0_length_8abf5 6 rfl) rfl rfl ?_
  exact ⟨rfl, rfl⟩
end
