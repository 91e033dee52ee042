/-! ===== the reference reads: load's beginning and end ===== -/
theorem i32_nI (x : Int32) : ∃ k, x = nI k := by
  obtain ⟨n, -, e⟩ := wb_of32 x
  exact ⟨n, e⟩
/-- the world in which load reads: what was is put aside -/
def ldA (M : zMem) (g : Nat → Int64) : zMem := zsL (zsI M 941 6 (nI 0)) 943 (va_cpy g (zJ M 943) 0 0 1390)
theorem ldA_sh {M : zMem} {g : Nat → Int64} (h : mSh M) : mSh (ldA M g) := h
theorem ldA_8 {M : zMem} {g : Nat → Int64} {k : Nat} (h : k ≠ 6) : zI (ldA M g) 941 k = zI M 941 k := (congrFun (zI_Ie (M := M) (a := 941) (k := 6) (v := nI 0)) k).trans (zw1_n h)
theorem ldA_n {M : zMem} {g : Nat → Int64} {b : Nat} (h : b ≠ 941) : zI (ldA M g) b = zI M b := zI_In h
section
variable {l : Launch} {G : zG}
theorem w_X9_load_0 (hl : l.stackTraces = false) {M : zMem} (hm : mSh M) {g : Nat → Int64} {u : Nat → Int32} (hu : zI M 947 = u) {n : Nat} (hn : zI M 941 8 = nI n) (hn6 : n ≤ 600) {Q : zOut → zMem → Prop} (kk : ∀ w0, zI M 941 14 = w0 → zS l G mX9_load 7 240 0 0 36 [some (.ref 941)] [] (zsL (rdM (ldA M g) (rTk u n (zsk u n (n - 0) 0) (0, w0))) 942 (oBeg g)) Q) : zS l G mX9_load 7 240 0 0 0 [some (.ref 941)] [] (zsL M 942 g) Q := by
  obtain ⟨i0, hi0⟩ := i32_nI (zI M 941 9)
  obtain ⟨k0, hk0⟩ := i32_nI (zI M 941 11)
  obtain ⟨x0, hx0⟩ : ∃ x0, zI M 941 12 = x0 := ⟨_, rfl⟩
  obtain ⟨w0, hw0⟩ : ∃ w0, zI M 941 14 = w0 := ⟨_, rfl⟩
  have eR : (zsL (zsI (zsI (zsI M 941 6 (nI 0)) 941 10 (nI 0)) 941 13 (nI 0)) 943 (va_cpy g (zJ M 943) 0 0 1390)) = rdM (ldA M g) (i0, 0, k0, x0, 0, w0) := by
    refine rdM_ext (fun b q => ?_) (fun k => ?_) rfl
    · rw [rd_n q, ldA_n q]
      show zI (zsI (zsI (zsI M 941 6 (nI 0)) 941 10 (nI 0)) 941 13 (nI 0)) b = _
      rw [zI_In q, zI_In q, zI_In q]
    · show zI (zsI (zsI (zsI M 941 6 (nI 0)) 941 10 (nI 0)) 941 13 (nI 0)) 941 k = _
      by_cases q : k < 9 ∨ 14 < k
      · rw [rd_o q]
        show _ = zI (zsI M 941 6 (nI 0)) 941 k
        rw [zI_Ie, zw1_n (by omega), zI_Ie, zw1_n (by omega)]
      · have q9 : k = 9 ∨ k = 10 ∨ k = 11 ∨ k = 12 ∨ k = 13 ∨ k = 14 := by omega
        rcases q9 with rfl | rfl | rfl | rfl | rfl | rfl
        · rw [rd_at, zI_Ie, zw1_n (by decide), zI_Ie, zw1_n (by decide), zI_Ie, zw1_n (by decide)]; exact hi0
        · rw [rd_be, zI_Ie, zw1_n (by decide), zI_Ie, zw1_e]
        · rw [rd_ki, zI_Ie, zw1_n (by decide), zI_Ie, zw1_n (by decide), zI_Ie, zw1_n (by decide)]; exact hk0
        · rw [rd_nu, zI_Ie, zw1_n (by decide), zI_Ie, zw1_n (by decide), zI_Ie, zw1_n (by decide)]; exact hx0
        · rw [rd_wr, zI_Ie, zw1_e]; rfl
        · rw [rd_wa, zI_Ie, zw1_n (by decide), zI_Ie, zw1_n (by decide), zI_Ie, zw1_n (by decide)]; exact hw0
  refine s_aload_n (zdk hX9_load_0 0 rfl) rfl ?_
  refine s_iconstv (v := nI 0) (zdk hX9_load_0 1 rfl) zc_iconst_0 ?_
  refine s_putI (zdk hX9_load_0 2 rfl) fw_X9_69 rfl pw_9_6 (hm.1) ?_
  refine s_mem (M' := (zsL (zsI M 941 6 (nI 0)) 942 g)) rfl ?_
  refine s_aload_n (zdk hX9_load_0 3 rfl) rfl ?_
  refine s_iconstv (v := nI 0) (zdk hX9_load_0 4 rfl) zc_iconst_0 ?_
  refine s_putI (zdk hX9_load_0 5 rfl) fw_X9_101 rfl pw_9_10 (hm.1) ?_
  refine s_mem (M' := (zsL (zsI (zsI M 941 6 (nI 0)) 941 10 (nI 0)) 942 g)) rfl ?_
  refine s_aload_n (zdk hX9_load_0 6 rfl) rfl ?_
  refine s_iconstv (v := nI 0) (zdk hX9_load_0 7 rfl) zc_iconst_0 ?_
  refine s_putI (zdk hX9_load_0 8 rfl) fw_X9_127 rfl pw_9_13 (hm.1) ?_
  refine s_mem (M' := (zsL (zsI (zsI (zsI M 941 6 (nI 0)) 941 10 (nI 0)) 941 13 (nI 0)) 942 g)) rfl ?_
  refine s_aload_n (zdk hX9_load_0 9 rfl) rfl ?_
  refine s_getR (zdk hX9_load_0 10 rfl) fw_X9_13 rfl (hm.1) (show _ = some 943 from (hm.r (i := 1) rfl).1) ?_
  refine s_iconstv (v := nI 0) (zdk hX9_load_0 11 rfl) zc_iconst_0 ?_
  refine s_aload_n (zdk hX9_load_0 12 rfl) rfl ?_
  refine s_getR (zdk hX9_load_0 13 rfl) fw_X9_7 rfl (hm.1) (show _ = some 942 from (hm.r (i := 0) rfl).1) ?_
  refine s_iconstv (v := nI 0) (zdk hX9_load_0 14 rfl) zc_iconst_0 ?_
  refine s_callS0 [.ref 943, .int (nI 0), .ref 942, .int (nI 0)] (zdk hX9_load_0 15 rfl) cw_X9_75 rfl (Nat.le_of_ble_eq_true rfl) (by decide) (c_copiesB hl (X := (zsI (zsI (zsI M 941 6 (nI 0)) 941 10 (nI 0)) 941 13 (nI 0))) hm (g := g) (B := 943) (p := 0) (NB := 1390) (hm.r (i := 1) rfl).2.1 (hm.r (i := 1) rfl).2.2 (by decide) (by omega) (by decide)) ?_
  refine s_aload_n (zdk hX9_load_0 16 rfl) rfl ?_
  refine s_callV0 (ci := 9) [] (zdk hX9_load_0 17 rfl) cw_X9_58 (hm.1) (by decide) rfl rfl rfl (Nat.le_of_ble_eq_true rfl) (by decide) (c_X9_begins hl (M := (zsL (zsI (zsI (zsI M 941 6 (nI 0)) 941 10 (nI 0)) 941 13 (nI 0)) 943 (va_cpy g (zJ M 943) 0 0 1390))) hm (g := g)) ?_
  refine s_mem (M' := zsL (rdM (ldA M g) (i0, 0, k0, x0, 0, w0)) 942 (oBeg g)) (congrArg (fun q => zsL q 942 (oBeg g)) eR) ?_
  refine s_aload_n (zdk hX9_load_0 18 rfl) rfl ?_
  refine s_callV0 (ci := 9) [] (zdk hX9_load_0 19 rfl) cw_X9_147 (hm.1) (by decide) rfl rfl rfl (Nat.le_of_ble_eq_true rfl) (by decide) (c_X9_next hl (M := (ldA M g)) hm ((ldA_n (by decide)).trans hu) ((ldA_8 (by decide)).trans hn) hn6 (g := oBeg g) (i := i0) (b := 0) (k0 := k0) (Nat.zero_le n) x0 0 w0) ?_
  exact kk w0 hw0
theorem w_X9_load_171w (hl : l.stackTraces = false) {M : zMem} (hm : mSh M) {g : Nat → Int64} {r : rRd} {e : Int32} (hw : ¬ r.2.2.2.2.1 = 0) : zS l G mX9_load 7 240 0 0 171 [some (.ref 941)] [] (zsL (zsI (rdM M r) 941 15 e) 942 g) (zD (some (.int r.2.2.2.2.1)) (zsL (zsI (zsI (rdM M r) 941 15 e) 941 8 (nI 0)) 942 (va_cpy (zJ M 943) g 0 0 1390))) := by
  refine s_aload_n (zdk hX9_load_1 28 rfl) rfl ?_
  refine s_iconstv (v := nI 0) (zdk hX9_load_1 29 rfl) zc_iconst_0 ?_
  refine s_putI (zdk hX9_load_1 30 rfl) fw_X9_95 rfl pw_9_8 (hm.1) ?_
  refine s_mem (M' := (zsL (zsI (zsI (rdM M r) 941 15 e) 941 8 (nI 0)) 942 g)) rfl ?_
  refine s_aload_n (zdk hX9_load_1 31 rfl) rfl ?_
  refine s_getI (zdk hX9_load_1 32 rfl) fw_X9_127 rfl (hm.1) ?_
  refine s_topi (b := r.2.2.2.2.1) (show zI (zsI (zsI (rdM M r) 941 15 e) 941 8 (nI 0)) 941 13 = _ from (congrFun zI_Ie 13).trans ((zw1_n (by decide)).trans ((congrFun zI_Ie 13).trans ((zw1_n (by decide)).trans rd_wr)))) ?_
  refine s_if_eq 196 (zdk hX9_load_1 33 rfl) (by decide) (fun c180 => ?_) (fun c180 => ?_)
  · exact absurd c180 hw
  · refine s_aload_n (zdk hX9_load_1 34 rfl) rfl ?_
    refine s_getR (zdk hX9_load_1 35 rfl) fw_X9_7 rfl (hm.1) (show _ = some 942 from (hm.r (i := 0) rfl).1) ?_
    refine s_iconstv (v := nI 0) (zdk hX9_load_1 36 rfl) zc_iconst_0 ?_
    refine s_aload_n (zdk hX9_load_1 37 rfl) rfl ?_
    refine s_getR (zdk hX9_load_1 38 rfl) fw_X9_13 rfl (hm.1) (show _ = some 943 from (hm.r (i := 1) rfl).1) ?_
    refine s_iconstv (v := nI 0) (zdk hX9_load_1 39 rfl) zc_iconst_0 ?_
    refine s_callS0 [.ref 942, .int (nI 0), .ref 943, .int (nI 0)] (zdk hX9_load_1 40 rfl) cw_X9_75 rfl (Nat.le_of_ble_eq_true rfl) (by decide) (c_copiesA hl (X := (zsI (zsI (rdM M r) 941 15 e) 941 8 (nI 0))) hm (g := g) (B := 943) (q := 0) (NB := 1390) (hm.r (i := 1) rfl).2.1 (hm.r (i := 1) rfl).2.2 (by decide) (by omega) (by decide)) ?_
    refine s_aload_n (zdk hX9_load_1 41 rfl) rfl ?_
    refine s_getI (zdk hX9_load_1 42 rfl) fw_X9_127 rfl (hm.1) ?_
    refine s_topi (b := r.2.2.2.2.1) (show zI (zsI (zsI (rdM M r) 941 15 e) 941 8 (nI 0)) 941 13 = _ from (congrFun zI_Ie 13).trans ((zw1_n (by decide)).trans ((congrFun zI_Ie 13).trans ((zw1_n (by decide)).trans rd_wr)))) ?_
    refine s_if_eq 208 (zdk hX9_load_1 43 rfl) (by decide) (fun c200 => ?_) (fun c200 => ?_)
    · exact absurd c200 hw
    · refine s_aload_n (zdk hX9_load_1 44 rfl) rfl ?_
      refine s_getI (zdk hX9_load_1 45 rfl) fw_X9_127 rfl (hm.1) ?_
      refine s_topi (b := r.2.2.2.2.1) (show zI (zsI (zsI (rdM M r) 941 15 e) 941 8 (nI 0)) 941 13 = _ from (congrFun zI_Ie 13).trans ((zw1_n (by decide)).trans ((congrFun zI_Ie 13).trans ((zw1_n (by decide)).trans rd_wr)))) ?_
      refine s_ireturn (zdk hX9_load_1 46 rfl) rfl rfl ?_
      exact ⟨rfl, rfl⟩
theorem w_X9_load_171o (hl : l.stackTraces = false) {M : zMem} (hm : mSh M) {g : Nat → Int64} {r : rRd} {e : Int32} (hw : r.2.2.2.2.1 = 0) {c : Nat} (hc : zI M 941 5 = nI c) (hc8 : c ≤ 8) (h3 : its g 3 = nI (gN g 3)) : zS l G mX9_load 7 240 0 0 171 [some (.ref 941)] [] (zsL (zsI (rdM M r) 941 15 e) 942 g) (zD (some (.int (nI (gN g 3)))) (zsL (zsL (zsI (zsI (zsI (rdM M r) 941 15 e) 941 8 (nI 0)) 941 5 (nI (min 8 (c + 1)))) 944 (kQ c (zJ M 944) (zJ M 943))) 942 g)) := by
  have hc9 : zI (zsL (zsI (zsI (rdM M r) 941 15 e) 941 8 (nI 0)) 942 g) 941 5 = nI c := by
    show zI (zsI (zsI (rdM M r) 941 15 e) 941 8 (nI 0)) 941 5 = nI c
    rw [zI_Ie, zw1_n (by decide), zI_Ie, zw1_n (by decide), rd_o (by decide)]
    exact hc
  have eK : zsL (zsI (zsL (zsI (zsI (rdM M r) 941 15 e) 941 8 (nI 0)) 942 g) 941 5 (nI (min 8 (c + 1)))) 944 (kQ c (zJ (zsL (zsI (zsI (rdM M r) 941 15 e) 941 8 (nI 0)) 942 g) 944) (zJ (zsL (zsI (zsI (rdM M r) 941 15 e) 941 8 (nI 0)) 942 g) 943)) = zsL (zsL (zsI (zsI (zsI (rdM M r) 941 15 e) 941 8 (nI 0)) 941 5 (nI (min 8 (c + 1)))) 944 (kQ c (zJ M 944) (zJ M 943))) 942 g := by
    rw [zJ_Ln (by decide), zJ_Ln (by decide)]
    exact zsL_c (M := zsI (zsI (zsI (rdM M r) 941 15 e) 941 8 (nI 0)) 941 5 (nI (min 8 (c + 1)))) (by decide)
  refine s_aload_n (zdk hX9_load_1 28 rfl) rfl ?_
  refine s_iconstv (v := nI 0) (zdk hX9_load_1 29 rfl) zc_iconst_0 ?_
  refine s_putI (zdk hX9_load_1 30 rfl) fw_X9_95 rfl pw_9_8 (hm.1) ?_
  refine s_mem (M' := (zsL (zsI (zsI (rdM M r) 941 15 e) 941 8 (nI 0)) 942 g)) rfl ?_
  refine s_aload_n (zdk hX9_load_1 31 rfl) rfl ?_
  refine s_getI (zdk hX9_load_1 32 rfl) fw_X9_127 rfl (hm.1) ?_
  refine s_topi (b := r.2.2.2.2.1) (show zI (zsI (zsI (rdM M r) 941 15 e) 941 8 (nI 0)) 941 13 = _ from (congrFun zI_Ie 13).trans ((zw1_n (by decide)).trans ((congrFun zI_Ie 13).trans ((zw1_n (by decide)).trans rd_wr)))) ?_
  refine s_if_eq 196 (zdk hX9_load_1 33 rfl) (by decide) (fun c180 => ?_) (fun c180 => ?_)
  · refine s_aload_n (zdk hX9_load_1 41 rfl) rfl ?_
    refine s_getI (zdk hX9_load_1 42 rfl) fw_X9_127 rfl (hm.1) ?_
    refine s_topi (b := r.2.2.2.2.1) (show zI (zsI (zsI (rdM M r) 941 15 e) 941 8 (nI 0)) 941 13 = _ from (congrFun zI_Ie 13).trans ((zw1_n (by decide)).trans ((congrFun zI_Ie 13).trans ((zw1_n (by decide)).trans rd_wr)))) ?_
    refine s_if_eq 208 (zdk hX9_load_1 43 rfl) (by decide) (fun c200 => ?_) (fun c200 => ?_)
    · refine s_aload_n (zdk hX9_load_1 47 rfl) rfl ?_
      refine s_aload_n (zdk hX9_load_1 48 rfl) rfl ?_
      refine s_getR (zdk hX9_load_1 49 rfl) fw_X9_13 rfl (hm.1) (show _ = some 943 from (hm.r (i := 1) rfl).1) ?_
      refine s_callV0 (ci := 9) [.ref 943] (zdk hX9_load_1 50 rfl) cw_X9_83 (hm.1) (by decide) rfl rfl rfl (Nat.le_of_ble_eq_true rfl) (by decide) (c_X9_keeps hl (M := zsL (zsI (zsI (rdM M r) 941 15 e) 941 8 (nI 0)) 942 g) hm (r := 943) (hm.r (i := 1) rfl).2.1 (hm.r (i := 1) rfl).2.2 (by decide) (c := c) hc9 hc8) ?_
      refine s_mem (M' := zsL (zsL (zsI (zsI (zsI (rdM M r) 941 15 e) 941 8 (nI 0)) 941 5 (nI (min 8 (c + 1)))) 944 (kQ c (zJ M 944) (zJ M 943))) 942 g) eK ?_
      refine s_aload_n (zdk hX9_load_1 51 rfl) rfl ?_
      refine s_callV0 (ci := 9) [] (zdk hX9_load_1 52 rfl) cw_X9_180 (hm.1) (by decide) rfl rfl rfl (Nat.le_of_ble_eq_true rfl) (by decide) (c_X9_filesN hl (M := (zsL (zsI (zsI (zsI (rdM M r) 941 15 e) 941 8 (nI 0)) 941 5 (nI (min 8 (c + 1)))) 944 (kQ c (zJ M 944) (zJ M 943)))) hm h3) ?_
      refine s_ireturn (zdk hX9_load_1 53 rfl) rfl rfl ?_
      exact ⟨rfl, rfl⟩
    · exact absurd hw c200
  · exact absurd hw c180
end
