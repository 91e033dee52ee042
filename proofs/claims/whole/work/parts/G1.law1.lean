/-! ===== the law, case by case ===== -/
theorem INV.m9 {M : zMem} (h : INV M) : zK M 941 = 9 + 1 := by
  obtain ⟨S, c, d, n, u, w, v, e, sl, h⟩ := h
  exact h.2.2.1.1.1
theorem INV.k0 {M : zMem} (h : INV M) : zK M 0 = 8 + 1 := by
  obtain ⟨S, c, d, n, u, w, v, e, sl, h⟩ := h
  exact h.K
theorem INV.o {M : zMem} (h : INV M) : OTs M := by
  obtain ⟨S, c, d, n, u, w, v, e, sl, h⟩ := h
  exact h.2.2.2
theorem lg_self (a : Int64) : lg_cmp a a = 0 := by
  unfold lg_cmp
  rw [if_neg (fun z => by rw [gt_iff_lt, Int64.lt_iff_toInt_lt] at z; omega), if_pos rfl]
theorem c_thr {l : Launch} {G : zG} (hl : l.stackTraces = false) {M : zMem} (h : INV M) : zCm l G mX9_thrown 0 0 0 0 [.ref 941] M (zD (some (.int (zI M 941 6))) M) := by
  obtain ⟨S, c, d, n, u, w, v, e, sl, h⟩ := h
  have := c_X9_thrown (G := G) (g := zJ M 942) hl h.2.2.1.1
  rw [zsL_id] at this
  exact this
section
variable {l : Launch} {G : zG}
theorem w_L_append (hl : l.stackTraces = false) (hN : (gX G).2.1 ≤ 3072) {M : zMem} (hI : INV M) {i : Nat} (hi : i + 6 ≤ (gX G).2.1) {bc bs : Nat} {x5 x6 x7 x8 : Option Value} {Q : zOut → zMem → Prop} (kk : ∀ (M' : zMem) (y5 y6 y7 y8 : Option Value), INV M' → zS l G mL_law 13 478 bc bs 2182 [some (.ref 2000000), some (.ref 0), some (.ref 941), some (.ref 956), some (.int (nI i)), y5, y6, y7, y8] [] M' Q) : zS l G mL_law 13 478 (5 + bc) (30 + bs) 200 [some (.ref 2000000), some (.ref 0), some (.ref 941), some (.ref 956), some (.int (nI i)), x5, x6, x7, x8] [] M Q := by
  obtain ⟨a1, ha1⟩ : ∃ a, (gX G).2.2 (nI (i + 1)).toNatClampNeg = a := ⟨_, rfl⟩
  obtain ⟨a2, ha2⟩ : ∃ a, (gX G).2.2 (nI (i + 2)).toNatClampNeg = a := ⟨_, rfl⟩
  obtain ⟨a3, ha3⟩ : ∃ a, (gX G).2.2 (nI (i + 3)).toNatClampNeg = a := ⟨_, rfl⟩
  obtain ⟨a4, ha4⟩ : ∃ a, (gX G).2.2 (nI (i + 4)).toNatClampNeg = a := ⟨_, rfl⟩
  obtain ⟨a5, ha5⟩ : ∃ a, (gX G).2.2 (nI (i + 5)).toNatClampNeg = a := ⟨_, rfl⟩
  refine s_aload_n (zdk hL_law_0 25 rfl) rfl ?_
  refine s_aload_n (zdk hL_law_0 26 rfl) rfl ?_
  refine s_iload (zdk hL_law_0 27 rfl) rfl ?_
  refine s_iconstv (v := nI 1) (zdk hL_law_0 28 rfl) zc_iconst_1 ?_
  refine s_iadd (zdk hL_law_0 29 rfl) ?_
  refine s_topi (b := nI (i + 1)) (nI_add _ _) ?_
  refine s_scrI (zdk hL_law_0 30 rfl) (nI_in2 (by omega) (by omega)) ?_
  refine s_topi (b := a1) ha1 ?_
  refine s_aload_n (zdk hL_law_0 31 rfl) rfl ?_
  refine s_iload (zdk hL_law_0 32 rfl) rfl ?_
  refine s_iconstv (v := nI 2) (zdk hL_law_0 33 rfl) zc_iconst_2 ?_
  refine s_iadd (zdk hL_law_0 34 rfl) ?_
  refine s_topi (b := nI (i + 2)) (nI_add _ _) ?_
  refine s_scrI (zdk hL_law_0 35 rfl) (nI_in2 (by omega) (by omega)) ?_
  refine s_topi (b := a2) ha2 ?_
  refine s_aload_n (zdk hL_law_0 36 rfl) rfl ?_
  refine s_iload (zdk hL_law_0 37 rfl) rfl ?_
  refine s_iconstv (v := nI 3) (zdk hL_law_0 38 rfl) zc_iconst_3 ?_
  refine s_iadd (zdk hL_law_0 39 rfl) ?_
  refine s_topi (b := nI (i + 3)) (nI_add _ _) ?_
  refine s_scrI (zdk hL_law_0 40 rfl) (nI_in2 (by omega) (by omega)) ?_
  refine s_topi (b := a3) ha3 ?_
  refine s_aload_n (zdk hL_law_0 41 rfl) rfl ?_
  refine s_iload (zdk hL_law_0 42 rfl) rfl ?_
  refine s_iconstv (v := nI 4) (zdk hL_law_0 43 rfl) zc_iconst_4 ?_
  refine s_iadd (zdk hL_law_0 44 rfl) ?_
  refine s_topi (b := nI (i + 4)) (nI_add _ _) ?_
  refine s_scrI (zdk hL_law_0 45 rfl) (nI_in2 (by omega) (by omega)) ?_
  refine s_topi (b := a4) ha4 ?_
  refine s_aload_n (zdk hL_law_0 46 rfl) rfl ?_
  refine s_iload (zdk hL_law_0 47 rfl) rfl ?_
  refine s_iconstv (v := nI 5) (zdk hL_law_0 48 rfl) zc_iconst_5 ?_
  refine s_iadd (zdk hL_law_0 49 rfl) ?_
  refine s_topi (b := nI (i + 5)) (nI_add _ _) ?_
  refine s_scrI (zdk hL_law_0 50 rfl) (nI_in2 (by omega) (by omega)) ?_
  refine s_topi (b := a5) ha5 ?_
  refine s_aload_n (zdk hL_law_0 51 rfl) rfl ?_
  refine s_callSH (as := [.ref 0, .int a1, .int a2, .int a3, .int a4, .int a5, .ref 956]) (st := []) (mc := 5) (ms := 30) (bc := bc) (bs := bs) (zdk hL_law_0 52 rfl) cw_L_112 rfl (Nat.le_of_ble_eq_true rfl) (by decide) (op_append hl hI a1 a2 a3 a4 a5) (fun v1 M1 q1 => ?_)
  obtain ⟨x, e1, hK1, fr1, lo1, hr1, h9⟩ := q1
  obtain rfl := Sum.inl.inj e1
  refine s_istore (zdk hL_law_0 53 rfl) (Nat.le_of_ble_eq_true rfl) ?_
  refine s_ls (ls' := [some (.ref 2000000), some (.ref 0), some (.ref 941), some (.ref 956), some (.int (nI i)), some (.int x), x6, x7, x8]) rfl ?_
  refine s_aload_n (zdk hL_law_0 54 rfl) rfl ?_
  refine s_aload_n (zdk hL_law_0 55 rfl) rfl ?_
  refine s_iload (zdk hL_law_0 56 rfl) rfl ?_
  refine s_iconstv (v := nI 1) (zdk hL_law_0 57 rfl) zc_iconst_1 ?_
  refine s_iadd (zdk hL_law_0 58 rfl) ?_
  refine s_topi (b := nI (i + 1)) (nI_add _ _) ?_
  refine s_scrI (zdk hL_law_0 59 rfl) (nI_in2 (by omega) (by omega)) ?_
  refine s_topi (b := a1) ha1 ?_
  refine s_aload_n (zdk hL_law_1 0 rfl) rfl ?_
  refine s_iload (zdk hL_law_1 1 rfl) rfl ?_
  refine s_iconstv (v := nI 2) (zdk hL_law_1 2 rfl) zc_iconst_2 ?_
  refine s_iadd (zdk hL_law_1 3 rfl) ?_
  refine s_topi (b := nI (i + 2)) (nI_add _ _) ?_
  refine s_scrI (zdk hL_law_1 4 rfl) (nI_in2 (by omega) (by omega)) ?_
  refine s_topi (b := a2) ha2 ?_
  refine s_aload_n (zdk hL_law_1 5 rfl) rfl ?_
  refine s_iload (zdk hL_law_1 6 rfl) rfl ?_
  refine s_iconstv (v := nI 3) (zdk hL_law_1 7 rfl) zc_iconst_3 ?_
  refine s_iadd (zdk hL_law_1 8 rfl) ?_
  refine s_topi (b := nI (i + 3)) (nI_add _ _) ?_
  refine s_scrI (zdk hL_law_1 9 rfl) (nI_in2 (by omega) (by omega)) ?_
  refine s_topi (b := a3) ha3 ?_
  refine s_aload_n (zdk hL_law_1 10 rfl) rfl ?_
  refine s_iload (zdk hL_law_1 11 rfl) rfl ?_
  refine s_iconstv (v := nI 4) (zdk hL_law_1 12 rfl) zc_iconst_4 ?_
  refine s_iadd (zdk hL_law_1 13 rfl) ?_
  refine s_topi (b := nI (i + 4)) (nI_add _ _) ?_
  refine s_scrI (zdk hL_law_1 14 rfl) (nI_in2 (by omega) (by omega)) ?_
  refine s_topi (b := a4) ha4 ?_
  refine s_aload_n (zdk hL_law_1 15 rfl) rfl ?_
  refine s_iload (zdk hL_law_1 16 rfl) rfl ?_
  refine s_iconstv (v := nI 5) (zdk hL_law_1 17 rfl) zc_iconst_5 ?_
  refine s_iadd (zdk hL_law_1 18 rfl) ?_
  refine s_topi (b := nI (i + 5)) (nI_add _ _) ?_
  refine s_scrI (zdk hL_law_1 19 rfl) (nI_in2 (by omega) (by omega)) ?_
  refine s_topi (b := a5) ha5 ?_
  refine s_callV1 (ci := 9) [.int a1, .int a2, .int a3, .int a4, .int a5] (zdk hL_law_1 20 rfl) cw_L_117 hK1 (by decide) rfl rfl rfl (Nat.le_of_ble_eq_true rfl) ⟨by omega, (by have e : yL mX9_append = 9 := rfl; rw [e]; omega)⟩ h9 ?_
  intro v2 M2 q2
  obtain ⟨b9, e2, b, rfl, hth, hout, hI2⟩ := q2
  obtain rfl := Sum.inl.inj e2
  refine s_istore (zdk hL_law_1 21 rfl) (Nat.le_of_ble_eq_true rfl) ?_
  refine s_ls (ls' := [some (.ref 2000000), some (.ref 0), some (.ref 941), some (.ref 956), some (.int (nI i)), some (.int x), some (.int b), x7, x8]) rfl ?_
  refine s_aload_n (zdk hL_law_1 22 rfl) rfl ?_
  refine s_callV0 (ci := 9) [] (zdk hL_law_1 23 rfl) cw_L_118 hI2.m9 (by decide) rfl rfl rfl (Nat.le_of_ble_eq_true rfl) (by decide) (c_thr hl hI2) ?_
  refine s_topi (b := x) hth ?_
  refine s_iload (zdk hL_law_1 24 rfl) rfl ?_
  refine s_icmp_eq 284 (zdk hL_law_1 25 rfl) (by decide) (fun _ => ?_) (fun c => absurd rfl c)
  refine s_iload (zdk hL_law_1 28 rfl) rfl ?_
  refine s_if_ne 301 (zdk hL_law_1 29 rfl) (by decide) (fun c => ?_) (fun c => ?_)
  · refine s_goto 2182 (zdk hL_law_1 39 rfl) (by decide) ?_
    exact kk _ _ _ _ _ hI2
  · refine s_aload_n (zdk hL_law_1 30 rfl) rfl ?_
    refine s_iconstv (v := nI 0) (zdk hL_law_1 31 rfl) zc_iconst_0 ?_
    refine s_laloadN (N := 1) (j := 0) (zdk hL_law_1 32 rfl) hI2.o.1 hI2.o.2.1 (by decide) (by decide) ?_
    refine s_topl (b := b.toInt64) (hout c) ?_
    refine s_iload (zdk hL_law_1 33 rfl) rfl ?_
    refine s_i2l (zdk hL_law_1 34 rfl) ?_
    refine s_lcmp (zdk hL_law_1 35 rfl) ?_
    refine s_topi (b := 0) (lg_self _) ?_
    refine s_if_eq 301 (zdk hL_law_1 36 rfl) (by decide) (fun _ => ?_) (fun c => absurd rfl c)
    refine s_goto 2182 (zdk hL_law_1 39 rfl) (by decide) ?_
    exact kk _ _ _ _ _ hI2
theorem w_L_load (hl : l.stackTraces = false) (hN : (gX G).2.1 ≤ 3072) {M : zMem} (hI : INV M) {i : Nat} (hi : i + 6 ≤ (gX G).2.1) {bc bs : Nat} {x5 x6 x7 x8 : Option Value} {Q : zOut → zMem → Prop} (kk : ∀ (M' : zMem) (y5 y6 y7 y8 : Option Value), INV M' → zS l G mL_law 13 478 bc bs 2182 [some (.ref 2000000), some (.ref 0), some (.ref 941), some (.ref 956), some (.int (nI i)), y5, y6, y7, y8] [] M' Q) : zS l G mL_law 13 478 (5 + bc) (30 + bs) 304 [some (.ref 2000000), some (.ref 0), some (.ref 941), some (.ref 956), some (.int (nI i)), x5, x6, x7, x8] [] M Q := by
  refine s_aload_n (zdk hL_law_1 40 rfl) rfl ?_
  obtain ⟨fr8, lo8, mc8, ms8, hb8, h8⟩ := op_load (G := G) hl hI
  refine zS.le (fr' := 0) (lo' := 0) (bc' := mc8 + bc) (bs' := ms8 + bs) (by omega) (by omega) ?_
  refine s_callV (ci := 8) (as := []) (st := []) (zdk hL_law_1 41 rfl) cw_L_121 hI.k0 (by decide) rfl rfl rfl (Nat.le_of_ble_eq_true rfl) ⟨by omega, (by have e : yL mX8_load = 2 := rfl; rw [e]; omega)⟩ h8 (fun v1 M1 q1 => ?_)
  obtain ⟨x, e1, ⟨b, rfl⟩, hK1, fr1, lo1, hr1, h9⟩ := q1
  obtain rfl := Sum.inl.inj e1
  refine s_aload_n (zdk hL_law_1 42 rfl) rfl ?_
  refine s_callV1 (ci := 9) [] (zdk hL_law_1 43 rfl) cw_L_124 hK1 (by decide) rfl rfl rfl (Nat.le_of_ble_eq_true rfl) ⟨by omega, (by have e : yL mX9_load = 1 := rfl; rw [e]; omega)⟩ h9 ?_
  intro v2 M2 q2
  obtain ⟨b9, e2, rfl, hI2⟩ := q2
  obtain rfl := Sum.inl.inj e2
  refine s_icmp_eq 2182 (zdk hL_law_1 44 rfl) (by decide) (fun _ => ?_) (fun c => absurd rfl c)
  exact kk _ _ _ _ _ hI2
theorem w_L_errorPosition (hl : l.stackTraces = false) (hN : (gX G).2.1 ≤ 3072) {M : zMem} (hI : INV M) {i : Nat} (hi : i + 6 ≤ (gX G).2.1) {bc bs : Nat} {x5 x6 x7 x8 : Option Value} {Q : zOut → zMem → Prop} (kk : ∀ (M' : zMem) (y5 y6 y7 y8 : Option Value), INV M' → zS l G mL_law 13 478 bc bs 2182 [some (.ref 2000000), some (.ref 0), some (.ref 941), some (.ref 956), some (.int (nI i)), y5, y6, y7, y8] [] M' Q) : zS l G mL_law 13 478 (5 + bc) (30 + bs) 317 [some (.ref 2000000), some (.ref 0), some (.ref 941), some (.ref 956), some (.int (nI i)), x5, x6, x7, x8] [] M Q := by
  refine s_aload_n (zdk hL_law_1 47 rfl) rfl ?_
  obtain ⟨fr8, lo8, mc8, ms8, hb8, h8⟩ := op_errorPosition (G := G) hl hI
  refine zS.le (fr' := 0) (lo' := 0) (bc' := mc8 + bc) (bs' := ms8 + bs) (by omega) (by omega) ?_
  refine s_callV (ci := 8) (as := []) (st := []) (zdk hL_law_1 48 rfl) cw_L_125 hI.k0 (by decide) rfl rfl rfl (Nat.le_of_ble_eq_true rfl) ⟨by omega, (by have e : yL mX8_errorPosition = 1 := rfl; rw [e]; omega)⟩ h8 (fun v1 M1 q1 => ?_)
  obtain ⟨x, e1, ⟨b, rfl⟩, hK1, fr1, lo1, hr1, h9⟩ := q1
  obtain rfl := Sum.inl.inj e1
  refine s_aload_n (zdk hL_law_1 49 rfl) rfl ?_
  refine s_callV1 (ci := 9) [] (zdk hL_law_1 50 rfl) cw_L_128 hK1 (by decide) rfl rfl rfl (Nat.le_of_ble_eq_true rfl) ⟨by omega, (by have e : yL mX9_errorPosition = 1 := rfl; rw [e]; omega)⟩ h9 ?_
  intro v2 M2 q2
  obtain ⟨b9, e2, rfl, hI2⟩ := q2
  obtain rfl := Sum.inl.inj e2
  refine s_icmp_eq 2182 (zdk hL_law_1 51 rfl) (by decide) (fun _ => ?_) (fun c => absurd rfl c)
  exact kk _ _ _ _ _ hI2
theorem w_L_count (hl : l.stackTraces = false) (hN : (gX G).2.1 ≤ 3072) {M : zMem} (hI : INV M) {i : Nat} (hi : i + 6 ≤ (gX G).2.1) {bc bs : Nat} {x5 x6 x7 x8 : Option Value} {Q : zOut → zMem → Prop} (kk : ∀ (M' : zMem) (y5 y6 y7 y8 : Option Value), INV M' → zS l G mL_law 13 478 bc bs 2182 [some (.ref 2000000), some (.ref 0), some (.ref 941), some (.ref 956), some (.int (nI i)), y5, y6, y7, y8] [] M' Q) : zS l G mL_law 13 478 (5 + bc) (30 + bs) 330 [some (.ref 2000000), some (.ref 0), some (.ref 941), some (.ref 956), some (.int (nI i)), x5, x6, x7, x8] [] M Q := by
  obtain ⟨a1, ha1⟩ : ∃ a, (gX G).2.2 (nI (i + 1)).toNatClampNeg = a := ⟨_, rfl⟩
  refine s_aload_n (zdk hL_law_1 54 rfl) rfl ?_
  refine s_aload_n (zdk hL_law_1 55 rfl) rfl ?_
  refine s_iload (zdk hL_law_1 56 rfl) rfl ?_
  refine s_iconstv (v := nI 1) (zdk hL_law_1 57 rfl) zc_iconst_1 ?_
  refine s_iadd (zdk hL_law_1 58 rfl) ?_
  refine s_topi (b := nI (i + 1)) (nI_add _ _) ?_
  refine s_scrI (zdk hL_law_1 59 rfl) (nI_in2 (by omega) (by omega)) ?_
  refine s_topi (b := a1) ha1 ?_
  refine s_aload_n (zdk hL_law_2 0 rfl) rfl ?_
  refine s_callSH (as := [.ref 0, .int a1, .ref 956]) (st := []) (mc := 5) (ms := 30) (bc := bc) (bs := bs) (zdk hL_law_2 1 rfl) cw_L_129 rfl (Nat.le_of_ble_eq_true rfl) (by decide) (op_count hl hI a1) (fun v1 M1 q1 => ?_)
  obtain ⟨x, e1, hK1, fr1, lo1, hr1, h9⟩ := q1
  obtain rfl := Sum.inl.inj e1
  refine s_istore (zdk hL_law_2 2 rfl) (Nat.le_of_ble_eq_true rfl) ?_
  refine s_ls (ls' := [some (.ref 2000000), some (.ref 0), some (.ref 941), some (.ref 956), some (.int (nI i)), some (.int x), x6, x7, x8]) rfl ?_
  refine s_aload_n (zdk hL_law_2 3 rfl) rfl ?_
  refine s_aload_n (zdk hL_law_2 4 rfl) rfl ?_
  refine s_iload (zdk hL_law_2 5 rfl) rfl ?_
  refine s_iconstv (v := nI 1) (zdk hL_law_2 6 rfl) zc_iconst_1 ?_
  refine s_iadd (zdk hL_law_2 7 rfl) ?_
  refine s_topi (b := nI (i + 1)) (nI_add _ _) ?_
  refine s_scrI (zdk hL_law_2 8 rfl) (nI_in2 (by omega) (by omega)) ?_
  refine s_topi (b := a1) ha1 ?_
  refine s_callV1 (ci := 9) [.int a1] (zdk hL_law_2 9 rfl) cw_L_132 hK1 (by decide) rfl rfl rfl (Nat.le_of_ble_eq_true rfl) ⟨by omega, (by have e : yL mX9_count = 2 := rfl; rw [e]; omega)⟩ h9 ?_
  intro v2 M2 q2
  obtain ⟨b9, e2, b, rfl, hth, hout, hI2⟩ := q2
  obtain rfl := Sum.inl.inj e2
  refine s_istore (zdk hL_law_2 10 rfl) (Nat.le_of_ble_eq_true rfl) ?_
  refine s_ls (ls' := [some (.ref 2000000), some (.ref 0), some (.ref 941), some (.ref 956), some (.int (nI i)), some (.int x), some (.int b), x7, x8]) rfl ?_
  refine s_aload_n (zdk hL_law_2 11 rfl) rfl ?_
  refine s_callV0 (ci := 9) [] (zdk hL_law_2 12 rfl) cw_L_118 hI2.m9 (by decide) rfl rfl rfl (Nat.le_of_ble_eq_true rfl) (by decide) (c_thr hl hI2) ?_
  refine s_topi (b := x) hth ?_
  refine s_iload (zdk hL_law_2 13 rfl) rfl ?_
  refine s_icmp_eq 366 (zdk hL_law_2 14 rfl) (by decide) (fun _ => ?_) (fun c => absurd rfl c)
  refine s_iload (zdk hL_law_2 17 rfl) rfl ?_
  refine s_if_ne 383 (zdk hL_law_2 18 rfl) (by decide) (fun c => ?_) (fun c => ?_)
  · refine s_goto 2182 (zdk hL_law_2 28 rfl) (by decide) ?_
    exact kk _ _ _ _ _ hI2
  · refine s_aload_n (zdk hL_law_2 19 rfl) rfl ?_
    refine s_iconstv (v := nI 0) (zdk hL_law_2 20 rfl) zc_iconst_0 ?_
    refine s_laloadN (N := 1) (j := 0) (zdk hL_law_2 21 rfl) hI2.o.1 hI2.o.2.1 (by decide) (by decide) ?_
    refine s_topl (b := b.toInt64) (hout c) ?_
    refine s_iload (zdk hL_law_2 22 rfl) rfl ?_
    refine s_i2l (zdk hL_law_2 23 rfl) ?_
    refine s_lcmp (zdk hL_law_2 24 rfl) ?_
    refine s_topi (b := 0) (lg_self _) ?_
    refine s_if_eq 383 (zdk hL_law_2 25 rfl) (by decide) (fun _ => ?_) (fun c => absurd rfl c)
    refine s_goto 2182 (zdk hL_law_2 28 rfl) (by decide) ?_
    exact kk _ _ _ _ _ hI2
theorem w_L_tier (hl : l.stackTraces = false) (hN : (gX G).2.1 ≤ 3072) {M : zMem} (hI : INV M) {i : Nat} (hi : i + 6 ≤ (gX G).2.1) {bc bs : Nat} {x5 x6 x7 x8 : Option Value} {Q : zOut → zMem → Prop} (kk : ∀ (M' : zMem) (y5 y6 y7 y8 : Option Value), INV M' → zS l G mL_law 13 478 bc bs 2182 [some (.ref 2000000), some (.ref 0), some (.ref 941), some (.ref 956), some (.int (nI i)), y5, y6, y7, y8] [] M' Q) : zS l G mL_law 13 478 (5 + bc) (30 + bs) 386 [some (.ref 2000000), some (.ref 0), some (.ref 941), some (.ref 956), some (.int (nI i)), x5, x6, x7, x8] [] M Q := by
  obtain ⟨a1, ha1⟩ : ∃ a, (gX G).2.2 (nI (i + 1)).toNatClampNeg = a := ⟨_, rfl⟩
  obtain ⟨a2, ha2⟩ : ∃ a, (gX G).2.2 (nI (i + 2)).toNatClampNeg = a := ⟨_, rfl⟩
  refine s_aload_n (zdk hL_law_2 29 rfl) rfl ?_
  refine s_aload_n (zdk hL_law_2 30 rfl) rfl ?_
  refine s_iload (zdk hL_law_2 31 rfl) rfl ?_
  refine s_iconstv (v := nI 1) (zdk hL_law_2 32 rfl) zc_iconst_1 ?_
  refine s_iadd (zdk hL_law_2 33 rfl) ?_
  refine s_topi (b := nI (i + 1)) (nI_add _ _) ?_
  refine s_scrI (zdk hL_law_2 34 rfl) (nI_in2 (by omega) (by omega)) ?_
  refine s_topi (b := a1) ha1 ?_
  refine s_aload_n (zdk hL_law_2 35 rfl) rfl ?_
  refine s_iload (zdk hL_law_2 36 rfl) rfl ?_
  refine s_iconstv (v := nI 2) (zdk hL_law_2 37 rfl) zc_iconst_2 ?_
  refine s_iadd (zdk hL_law_2 38 rfl) ?_
  refine s_topi (b := nI (i + 2)) (nI_add _ _) ?_
  refine s_scrI (zdk hL_law_2 39 rfl) (nI_in2 (by omega) (by omega)) ?_
  refine s_topi (b := a2) ha2 ?_
  refine s_aload_n (zdk hL_law_2 40 rfl) rfl ?_
  refine s_callSH (as := [.ref 0, .int a1, .int a2, .ref 956]) (st := []) (mc := 5) (ms := 30) (bc := bc) (bs := bs) (zdk hL_law_2 41 rfl) cw_L_133 rfl (Nat.le_of_ble_eq_true rfl) (by decide) (op_tier hl hI a1 a2) (fun v1 M1 q1 => ?_)
  obtain ⟨x, e1, hK1, fr1, lo1, hr1, h9⟩ := q1
  obtain rfl := Sum.inl.inj e1
  refine s_istore (zdk hL_law_2 42 rfl) (Nat.le_of_ble_eq_true rfl) ?_
  refine s_ls (ls' := [some (.ref 2000000), some (.ref 0), some (.ref 941), some (.ref 956), some (.int (nI i)), some (.int x), x6, x7, x8]) rfl ?_
  refine s_aload_n (zdk hL_law_2 43 rfl) rfl ?_
  refine s_aload_n (zdk hL_law_2 44 rfl) rfl ?_
  refine s_iload (zdk hL_law_2 45 rfl) rfl ?_
  refine s_iconstv (v := nI 1) (zdk hL_law_2 46 rfl) zc_iconst_1 ?_
  refine s_iadd (zdk hL_law_2 47 rfl) ?_
  refine s_topi (b := nI (i + 1)) (nI_add _ _) ?_
  refine s_scrI (zdk hL_law_2 48 rfl) (nI_in2 (by omega) (by omega)) ?_
  refine s_topi (b := a1) ha1 ?_
  refine s_aload_n (zdk hL_law_2 49 rfl) rfl ?_
  refine s_iload (zdk hL_law_2 50 rfl) rfl ?_
  refine s_iconstv (v := nI 2) (zdk hL_law_2 51 rfl) zc_iconst_2 ?_
  refine s_iadd (zdk hL_law_2 52 rfl) ?_
  refine s_topi (b := nI (i + 2)) (nI_add _ _) ?_
  refine s_scrI (zdk hL_law_2 53 rfl) (nI_in2 (by omega) (by omega)) ?_
  refine s_topi (b := a2) ha2 ?_
  refine s_callV1 (ci := 9) [.int a1, .int a2] (zdk hL_law_2 54 rfl) cw_L_136 hK1 (by decide) rfl rfl rfl (Nat.le_of_ble_eq_true rfl) ⟨by omega, (by have e : yL mX9_tier = 3 := rfl; rw [e]; omega)⟩ h9 ?_
  intro v2 M2 q2
  obtain ⟨b9, e2, b, rfl, hth, hout, hI2⟩ := q2
  obtain rfl := Sum.inl.inj e2
  refine s_istore (zdk hL_law_2 55 rfl) (Nat.le_of_ble_eq_true rfl) ?_
  refine s_ls (ls' := [some (.ref 2000000), some (.ref 0), some (.ref 941), some (.ref 956), some (.int (nI i)), some (.int x), some (.int b), x7, x8]) rfl ?_
  refine s_aload_n (zdk hL_law_2 56 rfl) rfl ?_
  refine s_callV0 (ci := 9) [] (zdk hL_law_2 57 rfl) cw_L_118 hI2.m9 (by decide) rfl rfl rfl (Nat.le_of_ble_eq_true rfl) (by decide) (c_thr hl hI2) ?_
  refine s_topi (b := x) hth ?_
  refine s_iload (zdk hL_law_2 58 rfl) rfl ?_
  refine s_icmp_eq 434 (zdk hL_law_2 59 rfl) (by decide) (fun _ => ?_) (fun c => absurd rfl c)
  refine s_iload (zdk hL_law_3 2 rfl) rfl ?_
  refine s_if_ne 451 (zdk hL_law_3 3 rfl) (by decide) (fun c => ?_) (fun c => ?_)
  · refine s_goto 2182 (zdk hL_law_3 13 rfl) (by decide) ?_
    exact kk _ _ _ _ _ hI2
  · refine s_aload_n (zdk hL_law_3 4 rfl) rfl ?_
    refine s_iconstv (v := nI 0) (zdk hL_law_3 5 rfl) zc_iconst_0 ?_
    refine s_laloadN (N := 1) (j := 0) (zdk hL_law_3 6 rfl) hI2.o.1 hI2.o.2.1 (by decide) (by decide) ?_
    refine s_topl (b := b.toInt64) (hout c) ?_
    refine s_iload (zdk hL_law_3 7 rfl) rfl ?_
    refine s_i2l (zdk hL_law_3 8 rfl) ?_
    refine s_lcmp (zdk hL_law_3 9 rfl) ?_
    refine s_topi (b := 0) (lg_self _) ?_
    refine s_if_eq 451 (zdk hL_law_3 10 rfl) (by decide) (fun _ => ?_) (fun c => absurd rfl c)
    refine s_goto 2182 (zdk hL_law_3 13 rfl) (by decide) ?_
    exact kk _ _ _ _ _ hI2
theorem w_L_file (hl : l.stackTraces = false) (hN : (gX G).2.1 ≤ 3072) {M : zMem} (hI : INV M) {i : Nat} (hi : i + 6 ≤ (gX G).2.1) {bc bs : Nat} {x5 x6 x7 x8 : Option Value} {Q : zOut → zMem → Prop} (kk : ∀ (M' : zMem) (y5 y6 y7 y8 : Option Value), INV M' → zS l G mL_law 13 478 bc bs 2182 [some (.ref 2000000), some (.ref 0), some (.ref 941), some (.ref 956), some (.int (nI i)), y5, y6, y7, y8] [] M' Q) : zS l G mL_law 13 478 (5 + bc) (30 + bs) 454 [some (.ref 2000000), some (.ref 0), some (.ref 941), some (.ref 956), some (.int (nI i)), x5, x6, x7, x8] [] M Q := by
  obtain ⟨a1, ha1⟩ : ∃ a, (gX G).2.2 (nI (i + 1)).toNatClampNeg = a := ⟨_, rfl⟩
  obtain ⟨a2, ha2⟩ : ∃ a, (gX G).2.2 (nI (i + 2)).toNatClampNeg = a := ⟨_, rfl⟩
  refine s_aload_n (zdk hL_law_3 14 rfl) rfl ?_
  refine s_aload_n (zdk hL_law_3 15 rfl) rfl ?_
  refine s_iload (zdk hL_law_3 16 rfl) rfl ?_
  refine s_iconstv (v := nI 1) (zdk hL_law_3 17 rfl) zc_iconst_1 ?_
  refine s_iadd (zdk hL_law_3 18 rfl) ?_
  refine s_topi (b := nI (i + 1)) (nI_add _ _) ?_
  refine s_scrI (zdk hL_law_3 19 rfl) (nI_in2 (by omega) (by omega)) ?_
  refine s_topi (b := a1) ha1 ?_
  refine s_aload_n (zdk hL_law_3 20 rfl) rfl ?_
  refine s_iload (zdk hL_law_3 21 rfl) rfl ?_
  refine s_iconstv (v := nI 2) (zdk hL_law_3 22 rfl) zc_iconst_2 ?_
  refine s_iadd (zdk hL_law_3 23 rfl) ?_
  refine s_topi (b := nI (i + 2)) (nI_add _ _) ?_
  refine s_scrI (zdk hL_law_3 24 rfl) (nI_in2 (by omega) (by omega)) ?_
  refine s_topi (b := a2) ha2 ?_
  refine s_aload_n (zdk hL_law_3 25 rfl) rfl ?_
  refine s_callSH (as := [.ref 0, .int a1, .int a2, .ref 956]) (st := []) (mc := 5) (ms := 30) (bc := bc) (bs := bs) (zdk hL_law_3 26 rfl) cw_L_137 rfl (Nat.le_of_ble_eq_true rfl) (by decide) (op_file hl hI a1 a2) (fun v1 M1 q1 => ?_)
  obtain ⟨x, e1, hK1, fr1, lo1, hr1, h9⟩ := q1
  obtain rfl := Sum.inl.inj e1
  refine s_istore (zdk hL_law_3 27 rfl) (Nat.le_of_ble_eq_true rfl) ?_
  refine s_ls (ls' := [some (.ref 2000000), some (.ref 0), some (.ref 941), some (.ref 956), some (.int (nI i)), some (.int x), x6, x7, x8]) rfl ?_
  refine s_aload_n (zdk hL_law_3 28 rfl) rfl ?_
  refine s_aload_n (zdk hL_law_3 29 rfl) rfl ?_
  refine s_iload (zdk hL_law_3 30 rfl) rfl ?_
  refine s_iconstv (v := nI 1) (zdk hL_law_3 31 rfl) zc_iconst_1 ?_
  refine s_iadd (zdk hL_law_3 32 rfl) ?_
  refine s_topi (b := nI (i + 1)) (nI_add _ _) ?_
  refine s_scrI (zdk hL_law_3 33 rfl) (nI_in2 (by omega) (by omega)) ?_
  refine s_topi (b := a1) ha1 ?_
  refine s_aload_n (zdk hL_law_3 34 rfl) rfl ?_
  refine s_iload (zdk hL_law_3 35 rfl) rfl ?_
  refine s_iconstv (v := nI 2) (zdk hL_law_3 36 rfl) zc_iconst_2 ?_
  refine s_iadd (zdk hL_law_3 37 rfl) ?_
  refine s_topi (b := nI (i + 2)) (nI_add _ _) ?_
  refine s_scrI (zdk hL_law_3 38 rfl) (nI_in2 (by omega) (by omega)) ?_
  refine s_topi (b := a2) ha2 ?_
  refine s_callV1 (ci := 9) [.int a1, .int a2] (zdk hL_law_3 39 rfl) cw_L_139 hK1 (by decide) rfl rfl rfl (Nat.le_of_ble_eq_true rfl) ⟨by omega, (by have e : yL mX9_file = 3 := rfl; rw [e]; omega)⟩ h9 ?_
  intro v2 M2 q2
  obtain ⟨b9, e2, b, rfl, hth, hout, hI2⟩ := q2
  obtain rfl := Sum.inl.inj e2
  refine s_istore (zdk hL_law_3 40 rfl) (Nat.le_of_ble_eq_true rfl) ?_
  refine s_ls (ls' := [some (.ref 2000000), some (.ref 0), some (.ref 941), some (.ref 956), some (.int (nI i)), some (.int x), some (.int b), x7, x8]) rfl ?_
  refine s_aload_n (zdk hL_law_3 41 rfl) rfl ?_
  refine s_callV0 (ci := 9) [] (zdk hL_law_3 42 rfl) cw_L_118 hI2.m9 (by decide) rfl rfl rfl (Nat.le_of_ble_eq_true rfl) (by decide) (c_thr hl hI2) ?_
  refine s_topi (b := x) hth ?_
  refine s_iload (zdk hL_law_3 43 rfl) rfl ?_
  refine s_icmp_eq 502 (zdk hL_law_3 44 rfl) (by decide) (fun _ => ?_) (fun c => absurd rfl c)
  refine s_iload (zdk hL_law_3 47 rfl) rfl ?_
  refine s_if_ne 519 (zdk hL_law_3 48 rfl) (by decide) (fun c => ?_) (fun c => ?_)
  · refine s_goto 2182 (zdk hL_law_3 58 rfl) (by decide) ?_
    exact kk _ _ _ _ _ hI2
  · refine s_aload_n (zdk hL_law_3 49 rfl) rfl ?_
    refine s_iconstv (v := nI 0) (zdk hL_law_3 50 rfl) zc_iconst_0 ?_
    refine s_laloadN (N := 1) (j := 0) (zdk hL_law_3 51 rfl) hI2.o.1 hI2.o.2.1 (by decide) (by decide) ?_
    refine s_topl (b := b.toInt64) (hout c) ?_
    refine s_iload (zdk hL_law_3 52 rfl) rfl ?_
    refine s_i2l (zdk hL_law_3 53 rfl) ?_
    refine s_lcmp (zdk hL_law_3 54 rfl) ?_
    refine s_topi (b := 0) (lg_self _) ?_
    refine s_if_eq 519 (zdk hL_law_3 55 rfl) (by decide) (fun _ => ?_) (fun c => absurd rfl c)
    refine s_goto 2182 (zdk hL_law_3 58 rfl) (by decide) ?_
    exact kk _ _ _ _ _ hI2
theorem w_L_season (hl : l.stackTraces = false) (hN : (gX G).2.1 ≤ 3072) {M : zMem} (hI : INV M) {i : Nat} (hi : i + 6 ≤ (gX G).2.1) {bc bs : Nat} {x5 x6 x7 x8 : Option Value} {Q : zOut → zMem → Prop} (kk : ∀ (M' : zMem) (y5 y6 y7 y8 : Option Value), INV M' → zS l G mL_law 13 478 bc bs 2182 [some (.ref 2000000), some (.ref 0), some (.ref 941), some (.ref 956), some (.int (nI i)), y5, y6, y7, y8] [] M' Q) : zS l G mL_law 13 478 (5 + bc) (30 + bs) 522 [some (.ref 2000000), some (.ref 0), some (.ref 941), some (.ref 956), some (.int (nI i)), x5, x6, x7, x8] [] M Q := by
  obtain ⟨a1, ha1⟩ : ∃ a, (gX G).2.2 (nI (i + 1)).toNatClampNeg = a := ⟨_, rfl⟩
  obtain ⟨a2, ha2⟩ : ∃ a, (gX G).2.2 (nI (i + 2)).toNatClampNeg = a := ⟨_, rfl⟩
  refine s_aload_n (zdk hL_law_3 59 rfl) rfl ?_
  refine s_aload_n (zdk hL_law_4 0 rfl) rfl ?_
  refine s_iload (zdk hL_law_4 1 rfl) rfl ?_
  refine s_iconstv (v := nI 1) (zdk hL_law_4 2 rfl) zc_iconst_1 ?_
  refine s_iadd (zdk hL_law_4 3 rfl) ?_
  refine s_topi (b := nI (i + 1)) (nI_add _ _) ?_
  refine s_scrI (zdk hL_law_4 4 rfl) (nI_in2 (by omega) (by omega)) ?_
  refine s_topi (b := a1) ha1 ?_
  refine s_aload_n (zdk hL_law_4 5 rfl) rfl ?_
  refine s_iload (zdk hL_law_4 6 rfl) rfl ?_
  refine s_iconstv (v := nI 2) (zdk hL_law_4 7 rfl) zc_iconst_2 ?_
  refine s_iadd (zdk hL_law_4 8 rfl) ?_
  refine s_topi (b := nI (i + 2)) (nI_add _ _) ?_
  refine s_scrI (zdk hL_law_4 9 rfl) (nI_in2 (by omega) (by omega)) ?_
  refine s_topi (b := a2) ha2 ?_
  refine s_aload_n (zdk hL_law_4 10 rfl) rfl ?_
  refine s_callSH (as := [.ref 0, .int a1, .int a2, .ref 956]) (st := []) (mc := 5) (ms := 30) (bc := bc) (bs := bs) (zdk hL_law_4 11 rfl) cw_L_140 rfl (Nat.le_of_ble_eq_true rfl) (by decide) (op_season hl hI a1 a2) (fun v1 M1 q1 => ?_)
  obtain ⟨x, e1, hK1, fr1, lo1, hr1, h9⟩ := q1
  obtain rfl := Sum.inl.inj e1
  refine s_istore (zdk hL_law_4 12 rfl) (Nat.le_of_ble_eq_true rfl) ?_
  refine s_ls (ls' := [some (.ref 2000000), some (.ref 0), some (.ref 941), some (.ref 956), some (.int (nI i)), some (.int x), x6, x7, x8]) rfl ?_
  refine s_aload_n (zdk hL_law_4 13 rfl) rfl ?_
  refine s_aload_n (zdk hL_law_4 14 rfl) rfl ?_
  refine s_iload (zdk hL_law_4 15 rfl) rfl ?_
  refine s_iconstv (v := nI 1) (zdk hL_law_4 16 rfl) zc_iconst_1 ?_
  refine s_iadd (zdk hL_law_4 17 rfl) ?_
  refine s_topi (b := nI (i + 1)) (nI_add _ _) ?_
  refine s_scrI (zdk hL_law_4 18 rfl) (nI_in2 (by omega) (by omega)) ?_
  refine s_topi (b := a1) ha1 ?_
  refine s_aload_n (zdk hL_law_4 19 rfl) rfl ?_
  refine s_iload (zdk hL_law_4 20 rfl) rfl ?_
  refine s_iconstv (v := nI 2) (zdk hL_law_4 21 rfl) zc_iconst_2 ?_
  refine s_iadd (zdk hL_law_4 22 rfl) ?_
  refine s_topi (b := nI (i + 2)) (nI_add _ _) ?_
  refine s_scrI (zdk hL_law_4 23 rfl) (nI_in2 (by omega) (by omega)) ?_
  refine s_topi (b := a2) ha2 ?_
  refine s_callV1 (ci := 9) [.int a1, .int a2] (zdk hL_law_4 24 rfl) cw_L_142 hK1 (by decide) rfl rfl rfl (Nat.le_of_ble_eq_true rfl) ⟨by omega, (by have e : yL mX9_season = 3 := rfl; rw [e]; omega)⟩ h9 ?_
  intro v2 M2 q2
  obtain ⟨b9, e2, b, rfl, hth, hout, hI2⟩ := q2
  obtain rfl := Sum.inl.inj e2
  refine s_istore (zdk hL_law_4 25 rfl) (Nat.le_of_ble_eq_true rfl) ?_
  refine s_ls (ls' := [some (.ref 2000000), some (.ref 0), some (.ref 941), some (.ref 956), some (.int (nI i)), some (.int x), some (.int b), x7, x8]) rfl ?_
  refine s_aload_n (zdk hL_law_4 26 rfl) rfl ?_
  refine s_callV0 (ci := 9) [] (zdk hL_law_4 27 rfl) cw_L_118 hI2.m9 (by decide) rfl rfl rfl (Nat.le_of_ble_eq_true rfl) (by decide) (c_thr hl hI2) ?_
  refine s_topi (b := x) hth ?_
  refine s_iload (zdk hL_law_4 28 rfl) rfl ?_
  refine s_icmp_eq 570 (zdk hL_law_4 29 rfl) (by decide) (fun _ => ?_) (fun c => absurd rfl c)
  refine s_iload (zdk hL_law_4 32 rfl) rfl ?_
  refine s_if_ne 587 (zdk hL_law_4 33 rfl) (by decide) (fun c => ?_) (fun c => ?_)
  · refine s_goto 2182 (zdk hL_law_4 43 rfl) (by decide) ?_
    exact kk _ _ _ _ _ hI2
  · refine s_aload_n (zdk hL_law_4 34 rfl) rfl ?_
    refine s_iconstv (v := nI 0) (zdk hL_law_4 35 rfl) zc_iconst_0 ?_
    refine s_laloadN (N := 1) (j := 0) (zdk hL_law_4 36 rfl) hI2.o.1 hI2.o.2.1 (by decide) (by decide) ?_
    refine s_topl (b := b.toInt64) (hout c) ?_
    refine s_iload (zdk hL_law_4 37 rfl) rfl ?_
    refine s_i2l (zdk hL_law_4 38 rfl) ?_
    refine s_lcmp (zdk hL_law_4 39 rfl) ?_
    refine s_topi (b := 0) (lg_self _) ?_
    refine s_if_eq 587 (zdk hL_law_4 40 rfl) (by decide) (fun _ => ?_) (fun c => absurd rfl c)
    refine s_goto 2182 (zdk hL_law_4 43 rfl) (by decide) ?_
    exact kk _ _ _ _ _ hI2
theorem w_L_kept (hl : l.stackTraces = false) (hN : (gX G).2.1 ≤ 3072) {M : zMem} (hI : INV M) {i : Nat} (hi : i + 6 ≤ (gX G).2.1) {bc bs : Nat} {x5 x6 x7 x8 : Option Value} {Q : zOut → zMem → Prop} (kk : ∀ (M' : zMem) (y5 y6 y7 y8 : Option Value), INV M' → zS l G mL_law 13 478 bc bs 2182 [some (.ref 2000000), some (.ref 0), some (.ref 941), some (.ref 956), some (.int (nI i)), y5, y6, y7, y8] [] M' Q) : zS l G mL_law 13 478 (5 + bc) (30 + bs) 590 [some (.ref 2000000), some (.ref 0), some (.ref 941), some (.ref 956), some (.int (nI i)), x5, x6, x7, x8] [] M Q := by
  obtain ⟨a1, ha1⟩ : ∃ a, (gX G).2.2 (nI (i + 1)).toNatClampNeg = a := ⟨_, rfl⟩
  obtain ⟨a2, ha2⟩ : ∃ a, (gX G).2.2 (nI (i + 2)).toNatClampNeg = a := ⟨_, rfl⟩
  refine s_aload_n (zdk hL_law_4 44 rfl) rfl ?_
  refine s_aload_n (zdk hL_law_4 45 rfl) rfl ?_
  refine s_iload (zdk hL_law_4 46 rfl) rfl ?_
  refine s_iconstv (v := nI 1) (zdk hL_law_4 47 rfl) zc_iconst_1 ?_
  refine s_iadd (zdk hL_law_4 48 rfl) ?_
  refine s_topi (b := nI (i + 1)) (nI_add _ _) ?_
  refine s_scrI (zdk hL_law_4 49 rfl) (nI_in2 (by omega) (by omega)) ?_
  refine s_topi (b := a1) ha1 ?_
  refine s_aload_n (zdk hL_law_4 50 rfl) rfl ?_
  refine s_iload (zdk hL_law_4 51 rfl) rfl ?_
  refine s_iconstv (v := nI 2) (zdk hL_law_4 52 rfl) zc_iconst_2 ?_
  refine s_iadd (zdk hL_law_4 53 rfl) ?_
  refine s_topi (b := nI (i + 2)) (nI_add _ _) ?_
  refine s_scrI (zdk hL_law_4 54 rfl) (nI_in2 (by omega) (by omega)) ?_
  refine s_topi (b := a2) ha2 ?_
  refine s_aload_n (zdk hL_law_4 55 rfl) rfl ?_
  refine s_callSH (as := [.ref 0, .int a1, .int a2, .ref 956]) (st := []) (mc := 5) (ms := 30) (bc := bc) (bs := bs) (zdk hL_law_4 56 rfl) cw_L_143 rfl (Nat.le_of_ble_eq_true rfl) (by decide) (op_kept hl hI a1 a2) (fun v1 M1 q1 => ?_)
  obtain ⟨x, e1, hK1, fr1, lo1, hr1, h9⟩ := q1
  obtain rfl := Sum.inl.inj e1
  refine s_istore (zdk hL_law_4 57 rfl) (Nat.le_of_ble_eq_true rfl) ?_
  refine s_ls (ls' := [some (.ref 2000000), some (.ref 0), some (.ref 941), some (.ref 956), some (.int (nI i)), some (.int x), x6, x7, x8]) rfl ?_
  refine s_aload_n (zdk hL_law_4 58 rfl) rfl ?_
  refine s_aload_n (zdk hL_law_4 59 rfl) rfl ?_
  refine s_iload (zdk hL_law_5 0 rfl) rfl ?_
  refine s_iconstv (v := nI 1) (zdk hL_law_5 1 rfl) zc_iconst_1 ?_
  refine s_iadd (zdk hL_law_5 2 rfl) ?_
  refine s_topi (b := nI (i + 1)) (nI_add _ _) ?_
  refine s_scrI (zdk hL_law_5 3 rfl) (nI_in2 (by omega) (by omega)) ?_
  refine s_topi (b := a1) ha1 ?_
  refine s_aload_n (zdk hL_law_5 4 rfl) rfl ?_
  refine s_iload (zdk hL_law_5 5 rfl) rfl ?_
  refine s_iconstv (v := nI 2) (zdk hL_law_5 6 rfl) zc_iconst_2 ?_
  refine s_iadd (zdk hL_law_5 7 rfl) ?_
  refine s_topi (b := nI (i + 2)) (nI_add _ _) ?_
  refine s_scrI (zdk hL_law_5 8 rfl) (nI_in2 (by omega) (by omega)) ?_
  refine s_topi (b := a2) ha2 ?_
  refine s_callV1 (ci := 9) [.int a1, .int a2] (zdk hL_law_5 9 rfl) cw_L_145 hK1 (by decide) rfl rfl rfl (Nat.le_of_ble_eq_true rfl) ⟨by omega, (by have e : yL mX9_kept = 3 := rfl; rw [e]; omega)⟩ h9 ?_
  intro v2 M2 q2
  obtain ⟨b9, e2, b, rfl, hth, hout, hI2⟩ := q2
  obtain rfl := Sum.inl.inj e2
  refine s_istore (zdk hL_law_5 10 rfl) (Nat.le_of_ble_eq_true rfl) ?_
  refine s_ls (ls' := [some (.ref 2000000), some (.ref 0), some (.ref 941), some (.ref 956), some (.int (nI i)), some (.int x), some (.int b), x7, x8]) rfl ?_
  refine s_aload_n (zdk hL_law_5 11 rfl) rfl ?_
  refine s_callV0 (ci := 9) [] (zdk hL_law_5 12 rfl) cw_L_118 hI2.m9 (by decide) rfl rfl rfl (Nat.le_of_ble_eq_true rfl) (by decide) (c_thr hl hI2) ?_
  refine s_topi (b := x) hth ?_
  refine s_iload (zdk hL_law_5 13 rfl) rfl ?_
  refine s_icmp_eq 638 (zdk hL_law_5 14 rfl) (by decide) (fun _ => ?_) (fun c => absurd rfl c)
  refine s_iload (zdk hL_law_5 17 rfl) rfl ?_
  refine s_if_ne 655 (zdk hL_law_5 18 rfl) (by decide) (fun c => ?_) (fun c => ?_)
  · refine s_goto 2182 (zdk hL_law_5 28 rfl) (by decide) ?_
    exact kk _ _ _ _ _ hI2
  · refine s_aload_n (zdk hL_law_5 19 rfl) rfl ?_
    refine s_iconstv (v := nI 0) (zdk hL_law_5 20 rfl) zc_iconst_0 ?_
    refine s_laloadN (N := 1) (j := 0) (zdk hL_law_5 21 rfl) hI2.o.1 hI2.o.2.1 (by decide) (by decide) ?_
    refine s_topl (b := b.toInt64) (hout c) ?_
    refine s_iload (zdk hL_law_5 22 rfl) rfl ?_
    refine s_i2l (zdk hL_law_5 23 rfl) ?_
    refine s_lcmp (zdk hL_law_5 24 rfl) ?_
    refine s_topi (b := 0) (lg_self _) ?_
    refine s_if_eq 655 (zdk hL_law_5 25 rfl) (by decide) (fun _ => ?_) (fun c => absurd rfl c)
    refine s_goto 2182 (zdk hL_law_5 28 rfl) (by decide) ?_
    exact kk _ _ _ _ _ hI2
theorem w_L_forecast (hl : l.stackTraces = false) (hN : (gX G).2.1 ≤ 3072) {M : zMem} (hI : INV M) {i : Nat} (hi : i + 6 ≤ (gX G).2.1) {bc bs : Nat} {x5 x6 x7 x8 : Option Value} {Q : zOut → zMem → Prop} (kk : ∀ (M' : zMem) (y5 y6 y7 y8 : Option Value), INV M' → zS l G mL_law 13 478 bc bs 2182 [some (.ref 2000000), some (.ref 0), some (.ref 941), some (.ref 956), some (.int (nI i)), y5, y6, y7, y8] [] M' Q) : zS l G mL_law 13 478 (5 + bc) (30 + bs) 658 [some (.ref 2000000), some (.ref 0), some (.ref 941), some (.ref 956), some (.int (nI i)), x5, x6, x7, x8] [] M Q := by
  obtain ⟨a1, ha1⟩ : ∃ a, (gX G).2.2 (nI (i + 1)).toNatClampNeg = a := ⟨_, rfl⟩
  obtain ⟨a2, ha2⟩ : ∃ a, (gX G).2.2 (nI (i + 2)).toNatClampNeg = a := ⟨_, rfl⟩
  refine s_aload_n (zdk hL_law_5 29 rfl) rfl ?_
  refine s_aload_n (zdk hL_law_5 30 rfl) rfl ?_
  refine s_iload (zdk hL_law_5 31 rfl) rfl ?_
  refine s_iconstv (v := nI 1) (zdk hL_law_5 32 rfl) zc_iconst_1 ?_
  refine s_iadd (zdk hL_law_5 33 rfl) ?_
  refine s_topi (b := nI (i + 1)) (nI_add _ _) ?_
  refine s_scrI (zdk hL_law_5 34 rfl) (nI_in2 (by omega) (by omega)) ?_
  refine s_topi (b := a1) ha1 ?_
  refine s_aload_n (zdk hL_law_5 35 rfl) rfl ?_
  refine s_iload (zdk hL_law_5 36 rfl) rfl ?_
  refine s_iconstv (v := nI 2) (zdk hL_law_5 37 rfl) zc_iconst_2 ?_
  refine s_iadd (zdk hL_law_5 38 rfl) ?_
  refine s_topi (b := nI (i + 2)) (nI_add _ _) ?_
  refine s_scrI (zdk hL_law_5 39 rfl) (nI_in2 (by omega) (by omega)) ?_
  refine s_topi (b := a2) ha2 ?_
  refine s_aload_n (zdk hL_law_5 40 rfl) rfl ?_
  refine s_callSH (as := [.ref 0, .int a1, .int a2, .ref 956]) (st := []) (mc := 5) (ms := 30) (bc := bc) (bs := bs) (zdk hL_law_5 41 rfl) cw_L_146 rfl (Nat.le_of_ble_eq_true rfl) (by decide) (op_forecast hl hI a1 a2) (fun v1 M1 q1 => ?_)
  obtain ⟨x, e1, hK1, fr1, lo1, hr1, h9⟩ := q1
  obtain rfl := Sum.inl.inj e1
  refine s_istore (zdk hL_law_5 42 rfl) (Nat.le_of_ble_eq_true rfl) ?_
  refine s_ls (ls' := [some (.ref 2000000), some (.ref 0), some (.ref 941), some (.ref 956), some (.int (nI i)), some (.int x), x6, x7, x8]) rfl ?_
  refine s_aload_n (zdk hL_law_5 43 rfl) rfl ?_
  refine s_aload_n (zdk hL_law_5 44 rfl) rfl ?_
  refine s_iload (zdk hL_law_5 45 rfl) rfl ?_
  refine s_iconstv (v := nI 1) (zdk hL_law_5 46 rfl) zc_iconst_1 ?_
  refine s_iadd (zdk hL_law_5 47 rfl) ?_
  refine s_topi (b := nI (i + 1)) (nI_add _ _) ?_
  refine s_scrI (zdk hL_law_5 48 rfl) (nI_in2 (by omega) (by omega)) ?_
  refine s_topi (b := a1) ha1 ?_
  refine s_aload_n (zdk hL_law_5 49 rfl) rfl ?_
  refine s_iload (zdk hL_law_5 50 rfl) rfl ?_
  refine s_iconstv (v := nI 2) (zdk hL_law_5 51 rfl) zc_iconst_2 ?_
  refine s_iadd (zdk hL_law_5 52 rfl) ?_
  refine s_topi (b := nI (i + 2)) (nI_add _ _) ?_
  refine s_scrI (zdk hL_law_5 53 rfl) (nI_in2 (by omega) (by omega)) ?_
  refine s_topi (b := a2) ha2 ?_
  refine s_callV1 (ci := 9) [.int a1, .int a2] (zdk hL_law_5 54 rfl) cw_L_148 hK1 (by decide) rfl rfl rfl (Nat.le_of_ble_eq_true rfl) ⟨by omega, (by have e : yL mX9_forecast = 3 := rfl; rw [e]; omega)⟩ h9 ?_
  intro v2 M2 q2
  obtain ⟨b9, e2, b, rfl, hth, hout, hI2⟩ := q2
  obtain rfl := Sum.inl.inj e2
  refine s_istore (zdk hL_law_5 55 rfl) (Nat.le_of_ble_eq_true rfl) ?_
  refine s_ls (ls' := [some (.ref 2000000), some (.ref 0), some (.ref 941), some (.ref 956), some (.int (nI i)), some (.int x), some (.int b), x7, x8]) rfl ?_
  refine s_aload_n (zdk hL_law_5 56 rfl) rfl ?_
  refine s_callV0 (ci := 9) [] (zdk hL_law_5 57 rfl) cw_L_118 hI2.m9 (by decide) rfl rfl rfl (Nat.le_of_ble_eq_true rfl) (by decide) (c_thr hl hI2) ?_
  refine s_topi (b := x) hth ?_
  refine s_iload (zdk hL_law_5 58 rfl) rfl ?_
  refine s_icmp_eq 706 (zdk hL_law_5 59 rfl) (by decide) (fun _ => ?_) (fun c => absurd rfl c)
  refine s_iload (zdk hL_law_6 2 rfl) rfl ?_
  refine s_if_ne 723 (zdk hL_law_6 3 rfl) (by decide) (fun c => ?_) (fun c => ?_)
  · refine s_goto 2182 (zdk hL_law_6 13 rfl) (by decide) ?_
    exact kk _ _ _ _ _ hI2
  · refine s_aload_n (zdk hL_law_6 4 rfl) rfl ?_
    refine s_iconstv (v := nI 0) (zdk hL_law_6 5 rfl) zc_iconst_0 ?_
    refine s_laloadN (N := 1) (j := 0) (zdk hL_law_6 6 rfl) hI2.o.1 hI2.o.2.1 (by decide) (by decide) ?_
    refine s_topl (b := b.toInt64) (hout c) ?_
    refine s_iload (zdk hL_law_6 7 rfl) rfl ?_
    refine s_i2l (zdk hL_law_6 8 rfl) ?_
    refine s_lcmp (zdk hL_law_6 9 rfl) ?_
    refine s_topi (b := 0) (lg_self _) ?_
    refine s_if_eq 723 (zdk hL_law_6 10 rfl) (by decide) (fun _ => ?_) (fun c => absurd rfl c)
    refine s_goto 2182 (zdk hL_law_6 13 rfl) (by decide) ?_
    exact kk _ _ _ _ _ hI2
theorem w_L_off (hl : l.stackTraces = false) (hN : (gX G).2.1 ≤ 3072) {M : zMem} (hI : INV M) {i : Nat} (hi : i + 6 ≤ (gX G).2.1) {bc bs : Nat} {x5 x6 x7 x8 : Option Value} {Q : zOut → zMem → Prop} (kk : ∀ (M' : zMem) (y5 y6 y7 y8 : Option Value), INV M' → zS l G mL_law 13 478 bc bs 2182 [some (.ref 2000000), some (.ref 0), some (.ref 941), some (.ref 956), some (.int (nI i)), y5, y6, y7, y8] [] M' Q) : zS l G mL_law 13 478 (5 + bc) (30 + bs) 726 [some (.ref 2000000), some (.ref 0), some (.ref 941), some (.ref 956), some (.int (nI i)), x5, x6, x7, x8] [] M Q := by
  obtain ⟨a1, ha1⟩ : ∃ a, (gX G).2.2 (nI (i + 1)).toNatClampNeg = a := ⟨_, rfl⟩
  refine s_aload_n (zdk hL_law_6 14 rfl) rfl ?_
  refine s_aload_n (zdk hL_law_6 15 rfl) rfl ?_
  refine s_iload (zdk hL_law_6 16 rfl) rfl ?_
  refine s_iconstv (v := nI 1) (zdk hL_law_6 17 rfl) zc_iconst_1 ?_
  refine s_iadd (zdk hL_law_6 18 rfl) ?_
  refine s_topi (b := nI (i + 1)) (nI_add _ _) ?_
  refine s_scrI (zdk hL_law_6 19 rfl) (nI_in2 (by omega) (by omega)) ?_
  refine s_topi (b := a1) ha1 ?_
  refine s_aload_n (zdk hL_law_6 20 rfl) rfl ?_
  refine s_callSH (as := [.ref 0, .int a1, .ref 956]) (st := []) (mc := 5) (ms := 30) (bc := bc) (bs := bs) (zdk hL_law_6 21 rfl) cw_L_149 rfl (Nat.le_of_ble_eq_true rfl) (by decide) (op_off hl hI a1) (fun v1 M1 q1 => ?_)
  obtain ⟨x, e1, hK1, fr1, lo1, hr1, h9⟩ := q1
  obtain rfl := Sum.inl.inj e1
  refine s_istore (zdk hL_law_6 22 rfl) (Nat.le_of_ble_eq_true rfl) ?_
  refine s_ls (ls' := [some (.ref 2000000), some (.ref 0), some (.ref 941), some (.ref 956), some (.int (nI i)), some (.int x), x6, x7, x8]) rfl ?_
  refine s_aload_n (zdk hL_law_6 23 rfl) rfl ?_
  refine s_aload_n (zdk hL_law_6 24 rfl) rfl ?_
  refine s_iload (zdk hL_law_6 25 rfl) rfl ?_
  refine s_iconstv (v := nI 1) (zdk hL_law_6 26 rfl) zc_iconst_1 ?_
  refine s_iadd (zdk hL_law_6 27 rfl) ?_
  refine s_topi (b := nI (i + 1)) (nI_add _ _) ?_
  refine s_scrI (zdk hL_law_6 28 rfl) (nI_in2 (by omega) (by omega)) ?_
  refine s_topi (b := a1) ha1 ?_
  refine s_callV1 (ci := 9) [.int a1] (zdk hL_law_6 29 rfl) cw_L_151 hK1 (by decide) rfl rfl rfl (Nat.le_of_ble_eq_true rfl) ⟨by omega, (by have e : yL mX9_off = 2 := rfl; rw [e]; omega)⟩ h9 ?_
  intro v2 M2 q2
  obtain ⟨b9, e2, b, rfl, hth, hout, hI2⟩ := q2
  obtain rfl := Sum.inl.inj e2
  refine s_lstore (zdk hL_law_6 30 rfl) (Nat.le_of_ble_eq_true rfl) ?_
  refine s_ls (ls' := [some (.ref 2000000), some (.ref 0), some (.ref 941), some (.ref 956), some (.int (nI i)), some (.int x), some (.long b), none, x8]) rfl ?_
  refine s_aload_n (zdk hL_law_6 31 rfl) rfl ?_
  refine s_callV0 (ci := 9) [] (zdk hL_law_6 32 rfl) cw_L_118 hI2.m9 (by decide) rfl rfl rfl (Nat.le_of_ble_eq_true rfl) (by decide) (c_thr hl hI2) ?_
  refine s_topi (b := x) hth ?_
  refine s_iload (zdk hL_law_6 33 rfl) rfl ?_
  refine s_icmp_eq 762 (zdk hL_law_6 34 rfl) (by decide) (fun _ => ?_) (fun c => absurd rfl c)
  refine s_iload (zdk hL_law_6 37 rfl) rfl ?_
  refine s_if_ne 778 (zdk hL_law_6 38 rfl) (by decide) (fun c => ?_) (fun c => ?_)
  · refine s_goto 2182 (zdk hL_law_6 47 rfl) (by decide) ?_
    exact kk _ _ _ _ _ hI2
  · refine s_aload_n (zdk hL_law_6 39 rfl) rfl ?_
    refine s_iconstv (v := nI 0) (zdk hL_law_6 40 rfl) zc_iconst_0 ?_
    refine s_laloadN (N := 1) (j := 0) (zdk hL_law_6 41 rfl) hI2.o.1 hI2.o.2.1 (by decide) (by decide) ?_
    refine s_topl (b := b) (hout c) ?_
    refine s_lload (zdk hL_law_6 42 rfl) rfl ?_
    refine s_lcmp (zdk hL_law_6 43 rfl) ?_
    refine s_topi (b := 0) (lg_self _) ?_
    refine s_if_eq 778 (zdk hL_law_6 44 rfl) (by decide) (fun _ => ?_) (fun c => absurd rfl c)
    refine s_goto 2182 (zdk hL_law_6 47 rfl) (by decide) ?_
    exact kk _ _ _ _ _ hI2
theorem w_L_meanOff (hl : l.stackTraces = false) (hN : (gX G).2.1 ≤ 3072) {M : zMem} (hI : INV M) {i : Nat} (hi : i + 6 ≤ (gX G).2.1) {bc bs : Nat} {x5 x6 x7 x8 : Option Value} {Q : zOut → zMem → Prop} (kk : ∀ (M' : zMem) (y5 y6 y7 y8 : Option Value), INV M' → zS l G mL_law 13 478 bc bs 2182 [some (.ref 2000000), some (.ref 0), some (.ref 941), some (.ref 956), some (.int (nI i)), y5, y6, y7, y8] [] M' Q) : zS l G mL_law 13 478 (5 + bc) (30 + bs) 781 [some (.ref 2000000), some (.ref 0), some (.ref 941), some (.ref 956), some (.int (nI i)), x5, x6, x7, x8] [] M Q := by
  refine s_aload_n (zdk hL_law_6 48 rfl) rfl ?_
  obtain ⟨fr8, lo8, mc8, ms8, hb8, h8⟩ := op_meanOff (G := G) hl hI
  refine zS.le (fr' := 0) (lo' := 0) (bc' := mc8 + bc) (bs' := ms8 + bs) (by omega) (by omega) ?_
  refine s_callV (ci := 8) (as := []) (st := []) (zdk hL_law_6 49 rfl) cw_L_152 hI.k0 (by decide) rfl rfl rfl (Nat.le_of_ble_eq_true rfl) ⟨by omega, (by have e : yL mX8_meanOff = 5 := rfl; rw [e]; omega)⟩ h8 (fun v1 M1 q1 => ?_)
  obtain ⟨x, e1, ⟨b, rfl⟩, hK1, fr1, lo1, hr1, h9⟩ := q1
  obtain rfl := Sum.inl.inj e1
  refine s_dstore (zdk hL_law_6 50 rfl) (Nat.le_of_ble_eq_true rfl) ?_
  refine s_ls (ls' := [some (.ref 2000000), some (.ref 0), some (.ref 941), some (.ref 956), some (.int (nI i)), some (.double b), none, x7, x8]) rfl ?_
  refine s_aload_n (zdk hL_law_6 51 rfl) rfl ?_
  refine s_callV1 (ci := 9) [] (zdk hL_law_6 52 rfl) cw_L_156 hK1 (by decide) rfl rfl rfl (Nat.le_of_ble_eq_true rfl) ⟨by omega, (by have e : yL mX9_meanOff = 5 := rfl; rw [e]; omega)⟩ h9 ?_
  intro v2 M2 q2
  obtain ⟨b9, e2, rfl, hI2⟩ := q2
  obtain rfl := Sum.inl.inj e2
  refine s_dstore (zdk hL_law_6 53 rfl) (Nat.le_of_ble_eq_true rfl) ?_
  refine s_ls (ls' := [some (.ref 2000000), some (.ref 0), some (.ref 941), some (.ref 956), some (.int (nI i)), some (.double b), none, some (.double b), none]) rfl ?_
  obtain ⟨z, hz⟩ : ∃ z, Op.cmpValue (FP.dcmp b b) .l = z := ⟨_, rfl⟩
  refine s_dload (zdk hL_law_6 54 rfl) rfl ?_
  refine s_dload (zdk hL_law_6 55 rfl) rfl ?_
  refine s_dcmp (zdk hL_law_6 56 rfl) ?_
  refine s_topi (b := z) hz ?_
  refine s_if_eq 819 (zdk hL_law_6 57 rfl) (by decide) (fun c => ?_) (fun c => ?_)
  · refine s_goto 2182 (zdk hL_law_7 8 rfl) (by decide) ?_
    exact kk _ _ _ _ _ hI2
  · skip
    refine s_dload (zdk hL_law_6 58 rfl) rfl ?_
    refine s_dload (zdk hL_law_6 59 rfl) rfl ?_
    refine s_dcmp (zdk hL_law_7 0 rfl) ?_
    refine s_topi (b := z) hz ?_
    refine s_if_eq 817 (zdk hL_law_7 1 rfl) (by decide) (fun c2 => absurd c2 c) (fun _ => ?_)
    refine s_dload (zdk hL_law_7 2 rfl) rfl ?_
    refine s_dload (zdk hL_law_7 3 rfl) rfl ?_
    refine s_dcmp (zdk hL_law_7 4 rfl) ?_
    refine s_topi (b := z) hz ?_
    refine s_if_ne 819 (zdk hL_law_7 5 rfl) (by decide) (fun _ => ?_) (fun c2 => absurd c2 c)
    refine s_goto 2182 (zdk hL_law_7 8 rfl) (by decide) ?_
    exact kk _ _ _ _ _ hI2
theorem w_L_cycleOf (hl : l.stackTraces = false) (hN : (gX G).2.1 ≤ 3072) {M : zMem} (hI : INV M) {i : Nat} (hi : i + 6 ≤ (gX G).2.1) {bc bs : Nat} {x5 x6 x7 x8 : Option Value} {Q : zOut → zMem → Prop} (kk : ∀ (M' : zMem) (y5 y6 y7 y8 : Option Value), INV M' → zS l G mL_law 13 478 bc bs 2182 [some (.ref 2000000), some (.ref 0), some (.ref 941), some (.ref 956), some (.int (nI i)), y5, y6, y7, y8] [] M' Q) : zS l G mL_law 13 478 (5 + bc) (30 + bs) 822 [some (.ref 2000000), some (.ref 0), some (.ref 941), some (.ref 956), some (.int (nI i)), x5, x6, x7, x8] [] M Q := by
  obtain ⟨a1, ha1⟩ : ∃ a, (gX G).2.2 (nI (i + 1)).toNatClampNeg = a := ⟨_, rfl⟩
  refine s_aload_n (zdk hL_law_7 9 rfl) rfl ?_
  refine s_aload_n (zdk hL_law_7 10 rfl) rfl ?_
  refine s_iload (zdk hL_law_7 11 rfl) rfl ?_
  refine s_iconstv (v := nI 1) (zdk hL_law_7 12 rfl) zc_iconst_1 ?_
  refine s_iadd (zdk hL_law_7 13 rfl) ?_
  refine s_topi (b := nI (i + 1)) (nI_add _ _) ?_
  refine s_scrI (zdk hL_law_7 14 rfl) (nI_in2 (by omega) (by omega)) ?_
  refine s_topi (b := a1) ha1 ?_
  refine s_aload_n (zdk hL_law_7 15 rfl) rfl ?_
  refine s_callSH (as := [.ref 0, .int a1, .ref 956]) (st := []) (mc := 5) (ms := 30) (bc := bc) (bs := bs) (zdk hL_law_7 16 rfl) cw_L_157 rfl (Nat.le_of_ble_eq_true rfl) (by decide) (op_cycleOf hl hI a1) (fun v1 M1 q1 => ?_)
  obtain ⟨x, e1, hK1, fr1, lo1, hr1, h9⟩ := q1
  obtain rfl := Sum.inl.inj e1
  refine s_istore (zdk hL_law_7 17 rfl) (Nat.le_of_ble_eq_true rfl) ?_
  refine s_ls (ls' := [some (.ref 2000000), some (.ref 0), some (.ref 941), some (.ref 956), some (.int (nI i)), some (.int x), x6, x7, x8]) rfl ?_
  refine s_aload_n (zdk hL_law_7 18 rfl) rfl ?_
  refine s_aload_n (zdk hL_law_7 19 rfl) rfl ?_
  refine s_iload (zdk hL_law_7 20 rfl) rfl ?_
  refine s_iconstv (v := nI 1) (zdk hL_law_7 21 rfl) zc_iconst_1 ?_
  refine s_iadd (zdk hL_law_7 22 rfl) ?_
  refine s_topi (b := nI (i + 1)) (nI_add _ _) ?_
  refine s_scrI (zdk hL_law_7 23 rfl) (nI_in2 (by omega) (by omega)) ?_
  refine s_topi (b := a1) ha1 ?_
  refine s_callV1 (ci := 9) [.int a1] (zdk hL_law_7 24 rfl) cw_L_159 hK1 (by decide) rfl rfl rfl (Nat.le_of_ble_eq_true rfl) ⟨by omega, (by have e : yL mX9_cycleOf = 2 := rfl; rw [e]; omega)⟩ h9 ?_
  intro v2 M2 q2
  obtain ⟨b9, e2, b, rfl, hth, hout, hI2⟩ := q2
  obtain rfl := Sum.inl.inj e2
  refine s_istore (zdk hL_law_7 25 rfl) (Nat.le_of_ble_eq_true rfl) ?_
  refine s_ls (ls' := [some (.ref 2000000), some (.ref 0), some (.ref 941), some (.ref 956), some (.int (nI i)), some (.int x), some (.int b), x7, x8]) rfl ?_
  refine s_aload_n (zdk hL_law_7 26 rfl) rfl ?_
  refine s_callV0 (ci := 9) [] (zdk hL_law_7 27 rfl) cw_L_118 hI2.m9 (by decide) rfl rfl rfl (Nat.le_of_ble_eq_true rfl) (by decide) (c_thr hl hI2) ?_
  refine s_topi (b := x) hth ?_
  refine s_iload (zdk hL_law_7 28 rfl) rfl ?_
  refine s_icmp_eq 858 (zdk hL_law_7 29 rfl) (by decide) (fun _ => ?_) (fun c => absurd rfl c)
  refine s_iload (zdk hL_law_7 32 rfl) rfl ?_
  refine s_if_ne 875 (zdk hL_law_7 33 rfl) (by decide) (fun c => ?_) (fun c => ?_)
  · refine s_goto 2182 (zdk hL_law_7 43 rfl) (by decide) ?_
    exact kk _ _ _ _ _ hI2
  · refine s_aload_n (zdk hL_law_7 34 rfl) rfl ?_
    refine s_iconstv (v := nI 0) (zdk hL_law_7 35 rfl) zc_iconst_0 ?_
    refine s_laloadN (N := 1) (j := 0) (zdk hL_law_7 36 rfl) hI2.o.1 hI2.o.2.1 (by decide) (by decide) ?_
    refine s_topl (b := b.toInt64) (hout c) ?_
    refine s_iload (zdk hL_law_7 37 rfl) rfl ?_
    refine s_i2l (zdk hL_law_7 38 rfl) ?_
    refine s_lcmp (zdk hL_law_7 39 rfl) ?_
    refine s_topi (b := 0) (lg_self _) ?_
    refine s_if_eq 875 (zdk hL_law_7 40 rfl) (by decide) (fun _ => ?_) (fun c => absurd rfl c)
    refine s_goto 2182 (zdk hL_law_7 43 rfl) (by decide) ?_
    exact kk _ _ _ _ _ hI2
end
