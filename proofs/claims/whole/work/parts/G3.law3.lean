/-! ===== the law, more cases ===== -/
section
variable {l : Launch} {G : zG}
theorem w_L_close (hl : l.stackTraces = false) (hN : (gX G).2.1 ≤ 3072) {M : zMem} (hI : INV M) {i : Nat} (hi : i + 6 ≤ (gX G).2.1) {bc bs : Nat} {x5 x6 x7 x8 : Option Value} {Q : zOut → zMem → Prop} (kk : ∀ (M' : zMem) (y5 y6 y7 y8 : Option Value), INV M' → zS l G mL_law 13 478 bc bs 2182 [some (.ref 2000000), some (.ref 0), some (.ref 941), some (.ref 956), some (.int (nI i)), y5, y6, y7, y8] [] M' Q) : zS l G mL_law 13 478 (5 + bc) (30 + bs) 1610 [some (.ref 2000000), some (.ref 0), some (.ref 941), some (.ref 956), some (.int (nI i)), x5, x6, x7, x8] [] M Q := by
  refine s_aload_n (zdk hL_law_15 40 rfl) rfl ?_
  obtain ⟨fr8, lo8, mc8, ms8, hb8, h8⟩ := op_close (G := G) hl hI
  refine zS.le (fr' := 0) (lo' := 0) (bc' := mc8 + bc) (bs' := ms8 + bs) (by omega) (by omega) ?_
  refine s_callV (ci := 8) (as := []) (st := []) (zdk hL_law_15 41 rfl) cw_L_200 hI.k0 (by decide) rfl rfl rfl (Nat.le_of_ble_eq_true rfl) ⟨by omega, (by have e : yL mX8_close = 1 := rfl; rw [e]; omega)⟩ h8 (fun v1 M1 q1 => ?_)
  obtain ⟨x, e1, ⟨b, rfl⟩, hK1, fr1, lo1, hr1, h9⟩ := q1
  obtain rfl := Sum.inl.inj e1
  refine s_aload_n (zdk hL_law_15 42 rfl) rfl ?_
  refine s_callV1 (ci := 9) [] (zdk hL_law_15 43 rfl) cw_L_204 hK1 (by decide) rfl rfl rfl (Nat.le_of_ble_eq_true rfl) ⟨by omega, (by have e : yL mX9_close = 4 := rfl; rw [e]; omega)⟩ h9 ?_
  intro v2 M2 q2
  obtain ⟨b9, e2, rfl, hI2⟩ := q2
  obtain rfl := Sum.inl.inj e2
  refine s_lcmp (zdk hL_law_15 44 rfl) ?_
  refine s_topi (b := 0) (lg_self _) ?_
  refine s_if_eq 2182 (zdk hL_law_15 45 rfl) (by decide) (fun _ => ?_) (fun c => absurd rfl c)
  exact kk _ _ _ _ _ hI2
theorem w_L_move (hl : l.stackTraces = false) (hN : (gX G).2.1 ≤ 3072) {M : zMem} (hI : INV M) {i : Nat} (hi : i + 6 ≤ (gX G).2.1) {bc bs : Nat} {x5 x6 x7 x8 : Option Value} {Q : zOut → zMem → Prop} (kk : ∀ (M' : zMem) (y5 y6 y7 y8 : Option Value), INV M' → zS l G mL_law 13 478 bc bs 2182 [some (.ref 2000000), some (.ref 0), some (.ref 941), some (.ref 956), some (.int (nI i)), y5, y6, y7, y8] [] M' Q) : zS l G mL_law 13 478 (5 + bc) (30 + bs) 1624 [some (.ref 2000000), some (.ref 0), some (.ref 941), some (.ref 956), some (.int (nI i)), x5, x6, x7, x8] [] M Q := by
  obtain ⟨a1, ha1⟩ : ∃ a, (gX G).2.2 (nI (i + 1)).toNatClampNeg = a := ⟨_, rfl⟩
  obtain ⟨a2, ha2⟩ : ∃ a, (gX G).2.2 (nI (i + 2)).toNatClampNeg = a := ⟨_, rfl⟩
  refine s_aload_n (zdk hL_law_15 48 rfl) rfl ?_
  refine s_aload_n (zdk hL_law_15 49 rfl) rfl ?_
  refine s_iload (zdk hL_law_15 50 rfl) rfl ?_
  refine s_iconstv (v := nI 1) (zdk hL_law_15 51 rfl) zc_iconst_1 ?_
  refine s_iadd (zdk hL_law_15 52 rfl) ?_
  refine s_topi (b := nI (i + 1)) (nI_add _ _) ?_
  refine s_scrI (zdk hL_law_15 53 rfl) (nI_in2 (by omega) (by omega)) ?_
  refine s_topi (b := a1) ha1 ?_
  refine s_aload_n (zdk hL_law_15 54 rfl) rfl ?_
  refine s_iload (zdk hL_law_15 55 rfl) rfl ?_
  refine s_iconstv (v := nI 2) (zdk hL_law_15 56 rfl) zc_iconst_2 ?_
  refine s_iadd (zdk hL_law_15 57 rfl) ?_
  refine s_topi (b := nI (i + 2)) (nI_add _ _) ?_
  refine s_scrI (zdk hL_law_15 58 rfl) (nI_in2 (by omega) (by omega)) ?_
  refine s_topi (b := a2) ha2 ?_
  refine s_aload_n (zdk hL_law_15 59 rfl) rfl ?_
  refine s_callSH (as := [.ref 0, .int a1, .int a2, .ref 956]) (st := []) (mc := 5) (ms := 30) (bc := bc) (bs := bs) (zdk hL_law_16 0 rfl) cw_L_205 rfl (Nat.le_of_ble_eq_true rfl) (by decide) (op_move hl hI a1 a2) (fun v1 M1 q1 => ?_)
  obtain ⟨x, e1, hK1, fr1, lo1, hr1, h9⟩ := q1
  obtain rfl := Sum.inl.inj e1
  refine s_istore (zdk hL_law_16 1 rfl) (Nat.le_of_ble_eq_true rfl) ?_
  refine s_ls (ls' := [some (.ref 2000000), some (.ref 0), some (.ref 941), some (.ref 956), some (.int (nI i)), some (.int x), x6, x7, x8]) rfl ?_
  refine s_aload_n (zdk hL_law_16 2 rfl) rfl ?_
  refine s_aload_n (zdk hL_law_16 3 rfl) rfl ?_
  refine s_iload (zdk hL_law_16 4 rfl) rfl ?_
  refine s_iconstv (v := nI 1) (zdk hL_law_16 5 rfl) zc_iconst_1 ?_
  refine s_iadd (zdk hL_law_16 6 rfl) ?_
  refine s_topi (b := nI (i + 1)) (nI_add _ _) ?_
  refine s_scrI (zdk hL_law_16 7 rfl) (nI_in2 (by omega) (by omega)) ?_
  refine s_topi (b := a1) ha1 ?_
  refine s_aload_n (zdk hL_law_16 8 rfl) rfl ?_
  refine s_iload (zdk hL_law_16 9 rfl) rfl ?_
  refine s_iconstv (v := nI 2) (zdk hL_law_16 10 rfl) zc_iconst_2 ?_
  refine s_iadd (zdk hL_law_16 11 rfl) ?_
  refine s_topi (b := nI (i + 2)) (nI_add _ _) ?_
  refine s_scrI (zdk hL_law_16 12 rfl) (nI_in2 (by omega) (by omega)) ?_
  refine s_topi (b := a2) ha2 ?_
  refine s_callV1 (ci := 9) [.int a1, .int a2] (zdk hL_law_16 13 rfl) cw_L_207 hK1 (by decide) rfl rfl rfl (Nat.le_of_ble_eq_true rfl) ⟨by omega, (by have e : yL mX9_move = 3 := rfl; rw [e]; omega)⟩ h9 ?_
  intro v2 M2 q2
  obtain ⟨b9, e2, b, rfl, hth, hout, hI2⟩ := q2
  obtain rfl := Sum.inl.inj e2
  refine s_istore (zdk hL_law_16 14 rfl) (Nat.le_of_ble_eq_true rfl) ?_
  refine s_ls (ls' := [some (.ref 2000000), some (.ref 0), some (.ref 941), some (.ref 956), some (.int (nI i)), some (.int x), some (.int b), x7, x8]) rfl ?_
  refine s_aload_n (zdk hL_law_16 15 rfl) rfl ?_
  refine s_callV0 (ci := 9) [] (zdk hL_law_16 16 rfl) cw_L_118 hI2.m9 (by decide) rfl rfl rfl (Nat.le_of_ble_eq_true rfl) (by decide) (c_thr hl hI2) ?_
  refine s_topi (b := x) hth ?_
  refine s_iload (zdk hL_law_16 17 rfl) rfl ?_
  refine s_icmp_eq 1672 (zdk hL_law_16 18 rfl) (by decide) (fun _ => ?_) (fun c => absurd rfl c)
  refine s_iload (zdk hL_law_16 21 rfl) rfl ?_
  refine s_if_ne 1689 (zdk hL_law_16 22 rfl) (by decide) (fun c => ?_) (fun c => ?_)
  · refine s_goto 2182 (zdk hL_law_16 32 rfl) (by decide) ?_
    exact kk _ _ _ _ _ hI2
  · refine s_aload_n (zdk hL_law_16 23 rfl) rfl ?_
    refine s_iconstv (v := nI 0) (zdk hL_law_16 24 rfl) zc_iconst_0 ?_
    refine s_laloadN (N := 1) (j := 0) (zdk hL_law_16 25 rfl) hI2.o.1 hI2.o.2.1 (by decide) (by decide) ?_
    refine s_topl (b := b.toInt64) (hout c) ?_
    refine s_iload (zdk hL_law_16 26 rfl) rfl ?_
    refine s_i2l (zdk hL_law_16 27 rfl) ?_
    refine s_lcmp (zdk hL_law_16 28 rfl) ?_
    refine s_topi (b := 0) (lg_self _) ?_
    refine s_if_eq 1689 (zdk hL_law_16 29 rfl) (by decide) (fun _ => ?_) (fun c => absurd rfl c)
    refine s_goto 2182 (zdk hL_law_16 32 rfl) (by decide) ?_
    exact kk _ _ _ _ _ hI2
theorem w_L_unmove (hl : l.stackTraces = false) (hN : (gX G).2.1 ≤ 3072) {M : zMem} (hI : INV M) {i : Nat} (hi : i + 6 ≤ (gX G).2.1) {bc bs : Nat} {x5 x6 x7 x8 : Option Value} {Q : zOut → zMem → Prop} (kk : ∀ (M' : zMem) (y5 y6 y7 y8 : Option Value), INV M' → zS l G mL_law 13 478 bc bs 2182 [some (.ref 2000000), some (.ref 0), some (.ref 941), some (.ref 956), some (.int (nI i)), y5, y6, y7, y8] [] M' Q) : zS l G mL_law 13 478 (5 + bc) (30 + bs) 1692 [some (.ref 2000000), some (.ref 0), some (.ref 941), some (.ref 956), some (.int (nI i)), x5, x6, x7, x8] [] M Q := by
  refine s_aload_n (zdk hL_law_16 33 rfl) rfl ?_
  obtain ⟨fr8, lo8, mc8, ms8, hb8, h8⟩ := op_unmove (G := G) hl hI
  refine zS.le (fr' := 0) (lo' := 0) (bc' := mc8 + bc) (bs' := ms8 + bs) (by omega) (by omega) ?_
  refine s_callV (ci := 8) (as := []) (st := []) (zdk hL_law_16 34 rfl) cw_L_208 hI.k0 (by decide) rfl rfl rfl (Nat.le_of_ble_eq_true rfl) ⟨by omega, (by have e : yL mX8_unmove = 2 := rfl; rw [e]; omega)⟩ h8 (fun v1 M1 q1 => ?_)
  obtain ⟨x, e1, ⟨b, rfl⟩, hK1, fr1, lo1, hr1, h9⟩ := q1
  obtain rfl := Sum.inl.inj e1
  refine s_aload_n (zdk hL_law_16 35 rfl) rfl ?_
  refine s_callV1 (ci := 9) [] (zdk hL_law_16 36 rfl) cw_L_211 hK1 (by decide) rfl rfl rfl (Nat.le_of_ble_eq_true rfl) ⟨by omega, (by have e : yL mX9_unmove = 4 := rfl; rw [e]; omega)⟩ h9 ?_
  intro v2 M2 q2
  obtain ⟨b9, e2, rfl, hI2⟩ := q2
  obtain rfl := Sum.inl.inj e2
  refine s_icmp_eq 2182 (zdk hL_law_16 37 rfl) (by decide) (fun _ => ?_) (fun c => absurd rfl c)
  exact kk _ _ _ _ _ hI2
theorem w_L_pin (hl : l.stackTraces = false) (hN : (gX G).2.1 ≤ 3072) {M : zMem} (hI : INV M) {i : Nat} (hi : i + 6 ≤ (gX G).2.1) {bc bs : Nat} {x5 x6 x7 x8 : Option Value} {Q : zOut → zMem → Prop} (kk : ∀ (M' : zMem) (y5 y6 y7 y8 : Option Value), INV M' → zS l G mL_law 13 478 bc bs 2182 [some (.ref 2000000), some (.ref 0), some (.ref 941), some (.ref 956), some (.int (nI i)), y5, y6, y7, y8] [] M' Q) : zS l G mL_law 13 478 (5 + bc) (30 + bs) 1705 [some (.ref 2000000), some (.ref 0), some (.ref 941), some (.ref 956), some (.int (nI i)), x5, x6, x7, x8] [] M Q := by
  obtain ⟨a1, ha1⟩ : ∃ a, (gX G).2.2 (nI (i + 1)).toNatClampNeg = a := ⟨_, rfl⟩
  obtain ⟨a2, ha2⟩ : ∃ a, (gX G).2.2 (nI (i + 2)).toNatClampNeg = a := ⟨_, rfl⟩
  refine s_aload_n (zdk hL_law_16 40 rfl) rfl ?_
  refine s_aload_n (zdk hL_law_16 41 rfl) rfl ?_
  refine s_iload (zdk hL_law_16 42 rfl) rfl ?_
  refine s_iconstv (v := nI 1) (zdk hL_law_16 43 rfl) zc_iconst_1 ?_
  refine s_iadd (zdk hL_law_16 44 rfl) ?_
  refine s_topi (b := nI (i + 1)) (nI_add _ _) ?_
  refine s_scrI (zdk hL_law_16 45 rfl) (nI_in2 (by omega) (by omega)) ?_
  refine s_topi (b := a1) ha1 ?_
  refine s_aload_n (zdk hL_law_16 46 rfl) rfl ?_
  refine s_iload (zdk hL_law_16 47 rfl) rfl ?_
  refine s_iconstv (v := nI 2) (zdk hL_law_16 48 rfl) zc_iconst_2 ?_
  refine s_iadd (zdk hL_law_16 49 rfl) ?_
  refine s_topi (b := nI (i + 2)) (nI_add _ _) ?_
  refine s_scrI (zdk hL_law_16 50 rfl) (nI_in2 (by omega) (by omega)) ?_
  refine s_topi (b := a2) ha2 ?_
  refine s_aload_n (zdk hL_law_16 51 rfl) rfl ?_
  refine s_callSH (as := [.ref 0, .int a1, .int a2, .ref 956]) (st := []) (mc := 5) (ms := 30) (bc := bc) (bs := bs) (zdk hL_law_16 52 rfl) cw_L_212 rfl (Nat.le_of_ble_eq_true rfl) (by decide) (op_pin hl hI a1 a2) (fun v1 M1 q1 => ?_)
  obtain ⟨x, e1, hK1, fr1, lo1, hr1, h9⟩ := q1
  obtain rfl := Sum.inl.inj e1
  refine s_istore (zdk hL_law_16 53 rfl) (Nat.le_of_ble_eq_true rfl) ?_
  refine s_ls (ls' := [some (.ref 2000000), some (.ref 0), some (.ref 941), some (.ref 956), some (.int (nI i)), some (.int x), x6, x7, x8]) rfl ?_
  refine s_aload_n (zdk hL_law_16 54 rfl) rfl ?_
  refine s_aload_n (zdk hL_law_16 55 rfl) rfl ?_
  refine s_iload (zdk hL_law_16 56 rfl) rfl ?_
  refine s_iconstv (v := nI 1) (zdk hL_law_16 57 rfl) zc_iconst_1 ?_
  refine s_iadd (zdk hL_law_16 58 rfl) ?_
  refine s_topi (b := nI (i + 1)) (nI_add _ _) ?_
  refine s_scrI (zdk hL_law_16 59 rfl) (nI_in2 (by omega) (by omega)) ?_
  refine s_topi (b := a1) ha1 ?_
  refine s_aload_n (zdk hL_law_17 0 rfl) rfl ?_
  refine s_iload (zdk hL_law_17 1 rfl) rfl ?_
  refine s_iconstv (v := nI 2) (zdk hL_law_17 2 rfl) zc_iconst_2 ?_
  refine s_iadd (zdk hL_law_17 3 rfl) ?_
  refine s_topi (b := nI (i + 2)) (nI_add _ _) ?_
  refine s_scrI (zdk hL_law_17 4 rfl) (nI_in2 (by omega) (by omega)) ?_
  refine s_topi (b := a2) ha2 ?_
  refine s_callV1 (ci := 9) [.int a1, .int a2] (zdk hL_law_17 5 rfl) cw_L_214 hK1 (by decide) rfl rfl rfl (Nat.le_of_ble_eq_true rfl) ⟨by omega, (by have e : yL mX9_pin = 4 := rfl; rw [e]; omega)⟩ h9 ?_
  intro v2 M2 q2
  obtain ⟨b9, e2, b, rfl, hth, hout, hI2⟩ := q2
  obtain rfl := Sum.inl.inj e2
  refine s_istore (zdk hL_law_17 6 rfl) (Nat.le_of_ble_eq_true rfl) ?_
  refine s_ls (ls' := [some (.ref 2000000), some (.ref 0), some (.ref 941), some (.ref 956), some (.int (nI i)), some (.int x), some (.int b), x7, x8]) rfl ?_
  refine s_aload_n (zdk hL_law_17 7 rfl) rfl ?_
  refine s_callV0 (ci := 9) [] (zdk hL_law_17 8 rfl) cw_L_118 hI2.m9 (by decide) rfl rfl rfl (Nat.le_of_ble_eq_true rfl) (by decide) (c_thr hl hI2) ?_
  refine s_topi (b := x) hth ?_
  refine s_iload (zdk hL_law_17 9 rfl) rfl ?_
  refine s_icmp_eq 1753 (zdk hL_law_17 10 rfl) (by decide) (fun _ => ?_) (fun c => absurd rfl c)
  refine s_iload (zdk hL_law_17 13 rfl) rfl ?_
  refine s_if_ne 1770 (zdk hL_law_17 14 rfl) (by decide) (fun c => ?_) (fun c => ?_)
  · refine s_goto 2182 (zdk hL_law_17 24 rfl) (by decide) ?_
    exact kk _ _ _ _ _ hI2
  · refine s_aload_n (zdk hL_law_17 15 rfl) rfl ?_
    refine s_iconstv (v := nI 0) (zdk hL_law_17 16 rfl) zc_iconst_0 ?_
    refine s_laloadN (N := 1) (j := 0) (zdk hL_law_17 17 rfl) hI2.o.1 hI2.o.2.1 (by decide) (by decide) ?_
    refine s_topl (b := b.toInt64) (hout c) ?_
    refine s_iload (zdk hL_law_17 18 rfl) rfl ?_
    refine s_i2l (zdk hL_law_17 19 rfl) ?_
    refine s_lcmp (zdk hL_law_17 20 rfl) ?_
    refine s_topi (b := 0) (lg_self _) ?_
    refine s_if_eq 1770 (zdk hL_law_17 21 rfl) (by decide) (fun _ => ?_) (fun c => absurd rfl c)
    refine s_goto 2182 (zdk hL_law_17 24 rfl) (by decide) ?_
    exact kk _ _ _ _ _ hI2
theorem w_L_act (hl : l.stackTraces = false) (hN : (gX G).2.1 ≤ 3072) {M : zMem} (hI : INV M) {i : Nat} (hi : i + 6 ≤ (gX G).2.1) {bc bs : Nat} {x5 x6 x7 x8 : Option Value} {Q : zOut → zMem → Prop} (kk : ∀ (M' : zMem) (y5 y6 y7 y8 : Option Value), INV M' → zS l G mL_law 13 478 bc bs 2182 [some (.ref 2000000), some (.ref 0), some (.ref 941), some (.ref 956), some (.int (nI i)), y5, y6, y7, y8] [] M' Q) : zS l G mL_law 13 478 (5 + bc) (30 + bs) 1773 [some (.ref 2000000), some (.ref 0), some (.ref 941), some (.ref 956), some (.int (nI i)), x5, x6, x7, x8] [] M Q := by
  obtain ⟨a1, ha1⟩ : ∃ a, (gX G).2.2 (nI (i + 1)).toNatClampNeg = a := ⟨_, rfl⟩
  refine s_aload_n (zdk hL_law_17 25 rfl) rfl ?_
  refine s_aload_n (zdk hL_law_17 26 rfl) rfl ?_
  refine s_iload (zdk hL_law_17 27 rfl) rfl ?_
  refine s_iconstv (v := nI 1) (zdk hL_law_17 28 rfl) zc_iconst_1 ?_
  refine s_iadd (zdk hL_law_17 29 rfl) ?_
  refine s_topi (b := nI (i + 1)) (nI_add _ _) ?_
  refine s_scrI (zdk hL_law_17 30 rfl) (nI_in2 (by omega) (by omega)) ?_
  refine s_topi (b := a1) ha1 ?_
  refine s_aload_n (zdk hL_law_17 31 rfl) rfl ?_
  refine s_callSH (as := [.ref 0, .int a1, .ref 956]) (st := []) (mc := 5) (ms := 30) (bc := bc) (bs := bs) (zdk hL_law_17 32 rfl) cw_L_215 rfl (Nat.le_of_ble_eq_true rfl) (by decide) (op_act hl hI a1) (fun v1 M1 q1 => ?_)
  obtain ⟨x, e1, hK1, fr1, lo1, hr1, h9⟩ := q1
  obtain rfl := Sum.inl.inj e1
  refine s_istore (zdk hL_law_17 33 rfl) (Nat.le_of_ble_eq_true rfl) ?_
  refine s_ls (ls' := [some (.ref 2000000), some (.ref 0), some (.ref 941), some (.ref 956), some (.int (nI i)), some (.int x), x6, x7, x8]) rfl ?_
  refine s_aload_n (zdk hL_law_17 34 rfl) rfl ?_
  refine s_aload_n (zdk hL_law_17 35 rfl) rfl ?_
  refine s_iload (zdk hL_law_17 36 rfl) rfl ?_
  refine s_iconstv (v := nI 1) (zdk hL_law_17 37 rfl) zc_iconst_1 ?_
  refine s_iadd (zdk hL_law_17 38 rfl) ?_
  refine s_topi (b := nI (i + 1)) (nI_add _ _) ?_
  refine s_scrI (zdk hL_law_17 39 rfl) (nI_in2 (by omega) (by omega)) ?_
  refine s_topi (b := a1) ha1 ?_
  refine s_callV1 (ci := 9) [.int a1] (zdk hL_law_17 40 rfl) cw_L_217 hK1 (by decide) rfl rfl rfl (Nat.le_of_ble_eq_true rfl) ⟨by omega, (by have e : yL mX9_act = 5 := rfl; rw [e]; omega)⟩ h9 ?_
  intro v2 M2 q2
  obtain ⟨b9, e2, b, rfl, hth, hout, hI2⟩ := q2
  obtain rfl := Sum.inl.inj e2
  refine s_istore (zdk hL_law_17 41 rfl) (Nat.le_of_ble_eq_true rfl) ?_
  refine s_ls (ls' := [some (.ref 2000000), some (.ref 0), some (.ref 941), some (.ref 956), some (.int (nI i)), some (.int x), some (.int b), x7, x8]) rfl ?_
  refine s_aload_n (zdk hL_law_17 42 rfl) rfl ?_
  refine s_callV0 (ci := 9) [] (zdk hL_law_17 43 rfl) cw_L_118 hI2.m9 (by decide) rfl rfl rfl (Nat.le_of_ble_eq_true rfl) (by decide) (c_thr hl hI2) ?_
  refine s_topi (b := x) hth ?_
  refine s_iload (zdk hL_law_17 44 rfl) rfl ?_
  refine s_icmp_eq 1809 (zdk hL_law_17 45 rfl) (by decide) (fun _ => ?_) (fun c => absurd rfl c)
  refine s_iload (zdk hL_law_17 48 rfl) rfl ?_
  refine s_if_ne 1826 (zdk hL_law_17 49 rfl) (by decide) (fun c => ?_) (fun c => ?_)
  · refine s_goto 2182 (zdk hL_law_17 59 rfl) (by decide) ?_
    exact kk _ _ _ _ _ hI2
  · refine s_aload_n (zdk hL_law_17 50 rfl) rfl ?_
    refine s_iconstv (v := nI 0) (zdk hL_law_17 51 rfl) zc_iconst_0 ?_
    refine s_laloadN (N := 1) (j := 0) (zdk hL_law_17 52 rfl) hI2.o.1 hI2.o.2.1 (by decide) (by decide) ?_
    refine s_topl (b := b.toInt64) (hout c) ?_
    refine s_iload (zdk hL_law_17 53 rfl) rfl ?_
    refine s_i2l (zdk hL_law_17 54 rfl) ?_
    refine s_lcmp (zdk hL_law_17 55 rfl) ?_
    refine s_topi (b := 0) (lg_self _) ?_
    refine s_if_eq 1826 (zdk hL_law_17 56 rfl) (by decide) (fun _ => ?_) (fun c => absurd rfl c)
    refine s_goto 2182 (zdk hL_law_17 59 rfl) (by decide) ?_
    exact kk _ _ _ _ _ hI2
theorem w_L_learn (hl : l.stackTraces = false) (hN : (gX G).2.1 ≤ 3072) {M : zMem} (hI : INV M) {i : Nat} (hi : i + 6 ≤ (gX G).2.1) {bc bs : Nat} {x5 x6 x7 x8 : Option Value} {Q : zOut → zMem → Prop} (kk : ∀ (M' : zMem) (y5 y6 y7 y8 : Option Value), INV M' → zS l G mL_law 13 478 bc bs 2182 [some (.ref 2000000), some (.ref 0), some (.ref 941), some (.ref 956), some (.int (nI i)), y5, y6, y7, y8] [] M' Q) : zS l G mL_law 13 478 (5 + bc) (30 + bs) 1829 [some (.ref 2000000), some (.ref 0), some (.ref 941), some (.ref 956), some (.int (nI i)), x5, x6, x7, x8] [] M Q := by
  obtain ⟨a1, ha1⟩ : ∃ a, (gX G).2.2 (nI (i + 1)).toNatClampNeg = a := ⟨_, rfl⟩
  obtain ⟨a2, ha2⟩ : ∃ a, (gX G).2.2 (nI (i + 2)).toNatClampNeg = a := ⟨_, rfl⟩
  refine s_aload_n (zdk hL_law_18 0 rfl) rfl ?_
  refine s_aload_n (zdk hL_law_18 1 rfl) rfl ?_
  refine s_iload (zdk hL_law_18 2 rfl) rfl ?_
  refine s_iconstv (v := nI 1) (zdk hL_law_18 3 rfl) zc_iconst_1 ?_
  refine s_iadd (zdk hL_law_18 4 rfl) ?_
  refine s_topi (b := nI (i + 1)) (nI_add _ _) ?_
  refine s_scrI (zdk hL_law_18 5 rfl) (nI_in2 (by omega) (by omega)) ?_
  refine s_topi (b := a1) ha1 ?_
  refine s_aload_n (zdk hL_law_18 6 rfl) rfl ?_
  refine s_iload (zdk hL_law_18 7 rfl) rfl ?_
  refine s_iconstv (v := nI 2) (zdk hL_law_18 8 rfl) zc_iconst_2 ?_
  refine s_iadd (zdk hL_law_18 9 rfl) ?_
  refine s_topi (b := nI (i + 2)) (nI_add _ _) ?_
  refine s_scrI (zdk hL_law_18 10 rfl) (nI_in2 (by omega) (by omega)) ?_
  refine s_topi (b := a2) ha2 ?_
  refine s_aload_n (zdk hL_law_18 11 rfl) rfl ?_
  refine s_callSH (as := [.ref 0, .int a1, .int a2, .ref 956]) (st := []) (mc := 5) (ms := 30) (bc := bc) (bs := bs) (zdk hL_law_18 12 rfl) cw_L_218 rfl (Nat.le_of_ble_eq_true rfl) (by decide) (op_learn hl hI a1 a2) (fun v1 M1 q1 => ?_)
  obtain ⟨x, e1, hK1, fr1, lo1, hr1, h9⟩ := q1
  obtain rfl := Sum.inl.inj e1
  refine s_istore (zdk hL_law_18 13 rfl) (Nat.le_of_ble_eq_true rfl) ?_
  refine s_ls (ls' := [some (.ref 2000000), some (.ref 0), some (.ref 941), some (.ref 956), some (.int (nI i)), some (.int x), x6, x7, x8]) rfl ?_
  refine s_aload_n (zdk hL_law_18 14 rfl) rfl ?_
  refine s_aload_n (zdk hL_law_18 15 rfl) rfl ?_
  refine s_iload (zdk hL_law_18 16 rfl) rfl ?_
  refine s_iconstv (v := nI 1) (zdk hL_law_18 17 rfl) zc_iconst_1 ?_
  refine s_iadd (zdk hL_law_18 18 rfl) ?_
  refine s_topi (b := nI (i + 1)) (nI_add _ _) ?_
  refine s_scrI (zdk hL_law_18 19 rfl) (nI_in2 (by omega) (by omega)) ?_
  refine s_topi (b := a1) ha1 ?_
  refine s_aload_n (zdk hL_law_18 20 rfl) rfl ?_
  refine s_iload (zdk hL_law_18 21 rfl) rfl ?_
  refine s_iconstv (v := nI 2) (zdk hL_law_18 22 rfl) zc_iconst_2 ?_
  refine s_iadd (zdk hL_law_18 23 rfl) ?_
  refine s_topi (b := nI (i + 2)) (nI_add _ _) ?_
  refine s_scrI (zdk hL_law_18 24 rfl) (nI_in2 (by omega) (by omega)) ?_
  refine s_topi (b := a2) ha2 ?_
  refine s_callV1 (ci := 9) [.int a1, .int a2] (zdk hL_law_18 25 rfl) cw_L_220 hK1 (by decide) rfl rfl rfl (Nat.le_of_ble_eq_true rfl) ⟨by omega, (by have e : yL mX9_learn = 5 := rfl; rw [e]; omega)⟩ h9 ?_
  intro v2 M2 q2
  obtain ⟨b9, e2, b, rfl, hth, hout, hI2⟩ := q2
  obtain rfl := Sum.inl.inj e2
  refine s_istore (zdk hL_law_18 26 rfl) (Nat.le_of_ble_eq_true rfl) ?_
  refine s_ls (ls' := [some (.ref 2000000), some (.ref 0), some (.ref 941), some (.ref 956), some (.int (nI i)), some (.int x), some (.int b), x7, x8]) rfl ?_
  refine s_aload_n (zdk hL_law_18 27 rfl) rfl ?_
  refine s_callV0 (ci := 9) [] (zdk hL_law_18 28 rfl) cw_L_118 hI2.m9 (by decide) rfl rfl rfl (Nat.le_of_ble_eq_true rfl) (by decide) (c_thr hl hI2) ?_
  refine s_topi (b := x) hth ?_
  refine s_iload (zdk hL_law_18 29 rfl) rfl ?_
  refine s_icmp_eq 1877 (zdk hL_law_18 30 rfl) (by decide) (fun _ => ?_) (fun c => absurd rfl c)
  refine s_iload (zdk hL_law_18 33 rfl) rfl ?_
  refine s_if_ne 1894 (zdk hL_law_18 34 rfl) (by decide) (fun c => ?_) (fun c => ?_)
  · refine s_goto 2182 (zdk hL_law_18 44 rfl) (by decide) ?_
    exact kk _ _ _ _ _ hI2
  · refine s_aload_n (zdk hL_law_18 35 rfl) rfl ?_
    refine s_iconstv (v := nI 0) (zdk hL_law_18 36 rfl) zc_iconst_0 ?_
    refine s_laloadN (N := 1) (j := 0) (zdk hL_law_18 37 rfl) hI2.o.1 hI2.o.2.1 (by decide) (by decide) ?_
    refine s_topl (b := b.toInt64) (hout c) ?_
    refine s_iload (zdk hL_law_18 38 rfl) rfl ?_
    refine s_i2l (zdk hL_law_18 39 rfl) ?_
    refine s_lcmp (zdk hL_law_18 40 rfl) ?_
    refine s_topi (b := 0) (lg_self _) ?_
    refine s_if_eq 1894 (zdk hL_law_18 41 rfl) (by decide) (fun _ => ?_) (fun c => absurd rfl c)
    refine s_goto 2182 (zdk hL_law_18 44 rfl) (by decide) ?_
    exact kk _ _ _ _ _ hI2
theorem w_L_setTier (hl : l.stackTraces = false) (hN : (gX G).2.1 ≤ 3072) {M : zMem} (hI : INV M) {i : Nat} (hi : i + 6 ≤ (gX G).2.1) {bc bs : Nat} {x5 x6 x7 x8 : Option Value} {Q : zOut → zMem → Prop} (kk : ∀ (M' : zMem) (y5 y6 y7 y8 : Option Value), INV M' → zS l G mL_law 13 478 bc bs 2182 [some (.ref 2000000), some (.ref 0), some (.ref 941), some (.ref 956), some (.int (nI i)), y5, y6, y7, y8] [] M' Q) : zS l G mL_law 13 478 (5 + bc) (30 + bs) 1897 [some (.ref 2000000), some (.ref 0), some (.ref 941), some (.ref 956), some (.int (nI i)), x5, x6, x7, x8] [] M Q := by
  obtain ⟨a1, ha1⟩ : ∃ a, (gX G).2.2 (nI (i + 1)).toNatClampNeg = a := ⟨_, rfl⟩
  obtain ⟨a2, ha2⟩ : ∃ a, (gX G).2.2 (nI (i + 2)).toNatClampNeg = a := ⟨_, rfl⟩
  obtain ⟨a3, ha3⟩ : ∃ a, (gX G).2.2 (nI (i + 3)).toNatClampNeg = a := ⟨_, rfl⟩
  refine s_aload_n (zdk hL_law_18 45 rfl) rfl ?_
  refine s_aload_n (zdk hL_law_18 46 rfl) rfl ?_
  refine s_iload (zdk hL_law_18 47 rfl) rfl ?_
  refine s_iconstv (v := nI 1) (zdk hL_law_18 48 rfl) zc_iconst_1 ?_
  refine s_iadd (zdk hL_law_18 49 rfl) ?_
  refine s_topi (b := nI (i + 1)) (nI_add _ _) ?_
  refine s_scrI (zdk hL_law_18 50 rfl) (nI_in2 (by omega) (by omega)) ?_
  refine s_topi (b := a1) ha1 ?_
  refine s_aload_n (zdk hL_law_18 51 rfl) rfl ?_
  refine s_iload (zdk hL_law_18 52 rfl) rfl ?_
  refine s_iconstv (v := nI 2) (zdk hL_law_18 53 rfl) zc_iconst_2 ?_
  refine s_iadd (zdk hL_law_18 54 rfl) ?_
  refine s_topi (b := nI (i + 2)) (nI_add _ _) ?_
  refine s_scrI (zdk hL_law_18 55 rfl) (nI_in2 (by omega) (by omega)) ?_
  refine s_topi (b := a2) ha2 ?_
  refine s_aload_n (zdk hL_law_18 56 rfl) rfl ?_
  refine s_iload (zdk hL_law_18 57 rfl) rfl ?_
  refine s_iconstv (v := nI 3) (zdk hL_law_18 58 rfl) zc_iconst_3 ?_
  refine s_iadd (zdk hL_law_18 59 rfl) ?_
  refine s_topi (b := nI (i + 3)) (nI_add _ _) ?_
  refine s_scrI (zdk hL_law_19 0 rfl) (nI_in2 (by omega) (by omega)) ?_
  refine s_topi (b := a3) ha3 ?_
  refine s_aload_n (zdk hL_law_19 1 rfl) rfl ?_
  refine s_callSH (as := [.ref 0, .int a1, .int a2, .int a3, .ref 956]) (st := []) (mc := 5) (ms := 30) (bc := bc) (bs := bs) (zdk hL_law_19 2 rfl) cw_L_221 rfl (Nat.le_of_ble_eq_true rfl) (by decide) (op_setTier hl hI a1 a2 a3) (fun v1 M1 q1 => ?_)
  obtain ⟨x, e1, hK1, fr1, lo1, hr1, h9⟩ := q1
  obtain rfl := Sum.inl.inj e1
  refine s_istore (zdk hL_law_19 3 rfl) (Nat.le_of_ble_eq_true rfl) ?_
  refine s_ls (ls' := [some (.ref 2000000), some (.ref 0), some (.ref 941), some (.ref 956), some (.int (nI i)), some (.int x), x6, x7, x8]) rfl ?_
  refine s_aload_n (zdk hL_law_19 4 rfl) rfl ?_
  refine s_aload_n (zdk hL_law_19 5 rfl) rfl ?_
  refine s_iload (zdk hL_law_19 6 rfl) rfl ?_
  refine s_iconstv (v := nI 1) (zdk hL_law_19 7 rfl) zc_iconst_1 ?_
  refine s_iadd (zdk hL_law_19 8 rfl) ?_
  refine s_topi (b := nI (i + 1)) (nI_add _ _) ?_
  refine s_scrI (zdk hL_law_19 9 rfl) (nI_in2 (by omega) (by omega)) ?_
  refine s_topi (b := a1) ha1 ?_
  refine s_aload_n (zdk hL_law_19 10 rfl) rfl ?_
  refine s_iload (zdk hL_law_19 11 rfl) rfl ?_
  refine s_iconstv (v := nI 2) (zdk hL_law_19 12 rfl) zc_iconst_2 ?_
  refine s_iadd (zdk hL_law_19 13 rfl) ?_
  refine s_topi (b := nI (i + 2)) (nI_add _ _) ?_
  refine s_scrI (zdk hL_law_19 14 rfl) (nI_in2 (by omega) (by omega)) ?_
  refine s_topi (b := a2) ha2 ?_
  refine s_aload_n (zdk hL_law_19 15 rfl) rfl ?_
  refine s_iload (zdk hL_law_19 16 rfl) rfl ?_
  refine s_iconstv (v := nI 3) (zdk hL_law_19 17 rfl) zc_iconst_3 ?_
  refine s_iadd (zdk hL_law_19 18 rfl) ?_
  refine s_topi (b := nI (i + 3)) (nI_add _ _) ?_
  refine s_scrI (zdk hL_law_19 19 rfl) (nI_in2 (by omega) (by omega)) ?_
  refine s_topi (b := a3) ha3 ?_
  refine s_callV1 (ci := 9) [.int a1, .int a2, .int a3] (zdk hL_law_19 20 rfl) cw_L_223 hK1 (by decide) rfl rfl rfl (Nat.le_of_ble_eq_true rfl) ⟨by omega, (by have e : yL mX9_setTier = 6 := rfl; rw [e]; omega)⟩ h9 ?_
  intro v2 M2 q2
  obtain ⟨b9, e2, b, rfl, hth, hout, hI2⟩ := q2
  obtain rfl := Sum.inl.inj e2
  refine s_istore (zdk hL_law_19 21 rfl) (Nat.le_of_ble_eq_true rfl) ?_
  refine s_ls (ls' := [some (.ref 2000000), some (.ref 0), some (.ref 941), some (.ref 956), some (.int (nI i)), some (.int x), some (.int b), x7, x8]) rfl ?_
  refine s_aload_n (zdk hL_law_19 22 rfl) rfl ?_
  refine s_callV0 (ci := 9) [] (zdk hL_law_19 23 rfl) cw_L_118 hI2.m9 (by decide) rfl rfl rfl (Nat.le_of_ble_eq_true rfl) (by decide) (c_thr hl hI2) ?_
  refine s_topi (b := x) hth ?_
  refine s_iload (zdk hL_law_19 24 rfl) rfl ?_
  refine s_icmp_eq 1957 (zdk hL_law_19 25 rfl) (by decide) (fun _ => ?_) (fun c => absurd rfl c)
  refine s_iload (zdk hL_law_19 28 rfl) rfl ?_
  refine s_if_ne 1974 (zdk hL_law_19 29 rfl) (by decide) (fun c => ?_) (fun c => ?_)
  · refine s_goto 2182 (zdk hL_law_19 39 rfl) (by decide) ?_
    exact kk _ _ _ _ _ hI2
  · refine s_aload_n (zdk hL_law_19 30 rfl) rfl ?_
    refine s_iconstv (v := nI 0) (zdk hL_law_19 31 rfl) zc_iconst_0 ?_
    refine s_laloadN (N := 1) (j := 0) (zdk hL_law_19 32 rfl) hI2.o.1 hI2.o.2.1 (by decide) (by decide) ?_
    refine s_topl (b := b.toInt64) (hout c) ?_
    refine s_iload (zdk hL_law_19 33 rfl) rfl ?_
    refine s_i2l (zdk hL_law_19 34 rfl) ?_
    refine s_lcmp (zdk hL_law_19 35 rfl) ?_
    refine s_topi (b := 0) (lg_self _) ?_
    refine s_if_eq 1974 (zdk hL_law_19 36 rfl) (by decide) (fun _ => ?_) (fun c => absurd rfl c)
    refine s_goto 2182 (zdk hL_law_19 39 rfl) (by decide) ?_
    exact kk _ _ _ _ _ hI2
theorem w_L_undo (hl : l.stackTraces = false) (hN : (gX G).2.1 ≤ 3072) {M : zMem} (hI : INV M) {i : Nat} (hi : i + 6 ≤ (gX G).2.1) {bc bs : Nat} {x5 x6 x7 x8 : Option Value} {Q : zOut → zMem → Prop} (kk : ∀ (M' : zMem) (y5 y6 y7 y8 : Option Value), INV M' → zS l G mL_law 13 478 bc bs 2182 [some (.ref 2000000), some (.ref 0), some (.ref 941), some (.ref 956), some (.int (nI i)), y5, y6, y7, y8] [] M' Q) : zS l G mL_law 13 478 (5 + bc) (30 + bs) 1977 [some (.ref 2000000), some (.ref 0), some (.ref 941), some (.ref 956), some (.int (nI i)), x5, x6, x7, x8] [] M Q := by
  refine s_aload_n (zdk hL_law_19 40 rfl) rfl ?_
  refine s_aload_n (zdk hL_law_19 41 rfl) rfl ?_
  refine s_callSH (as := [.ref 0, .ref 956]) (st := []) (mc := 5) (ms := 30) (bc := bc) (bs := bs) (zdk hL_law_19 42 rfl) cw_L_224 rfl (Nat.le_of_ble_eq_true rfl) (by decide) (op_undo hl hI) (fun v1 M1 q1 => ?_)
  obtain ⟨x, e1, hK1, fr1, lo1, hr1, h9⟩ := q1
  obtain rfl := Sum.inl.inj e1
  refine s_istore (zdk hL_law_19 43 rfl) (Nat.le_of_ble_eq_true rfl) ?_
  refine s_ls (ls' := [some (.ref 2000000), some (.ref 0), some (.ref 941), some (.ref 956), some (.int (nI i)), some (.int x), x6, x7, x8]) rfl ?_
  refine s_aload_n (zdk hL_law_19 44 rfl) rfl ?_
  refine s_callV1 (ci := 9) [] (zdk hL_law_19 45 rfl) cw_L_227 hK1 (by decide) rfl rfl rfl (Nat.le_of_ble_eq_true rfl) ⟨by omega, (by have e : yL mX9_undo = 1 := rfl; rw [e]; omega)⟩ h9 ?_
  intro v2 M2 q2
  obtain ⟨b9, e2, b, rfl, hth, hout, hI2⟩ := q2
  obtain rfl := Sum.inl.inj e2
  refine s_istore (zdk hL_law_19 46 rfl) (Nat.le_of_ble_eq_true rfl) ?_
  refine s_ls (ls' := [some (.ref 2000000), some (.ref 0), some (.ref 941), some (.ref 956), some (.int (nI i)), some (.int x), some (.int b), x7, x8]) rfl ?_
  refine s_aload_n (zdk hL_law_19 47 rfl) rfl ?_
  refine s_callV0 (ci := 9) [] (zdk hL_law_19 48 rfl) cw_L_118 hI2.m9 (by decide) rfl rfl rfl (Nat.le_of_ble_eq_true rfl) (by decide) (c_thr hl hI2) ?_
  refine s_topi (b := x) hth ?_
  refine s_iload (zdk hL_law_19 49 rfl) rfl ?_
  refine s_icmp_eq 2001 (zdk hL_law_19 50 rfl) (by decide) (fun _ => ?_) (fun c => absurd rfl c)
  refine s_iload (zdk hL_law_19 53 rfl) rfl ?_
  refine s_if_ne 2018 (zdk hL_law_19 54 rfl) (by decide) (fun c => ?_) (fun c => ?_)
  · refine s_goto 2182 (zdk hL_law_20 4 rfl) (by decide) ?_
    exact kk _ _ _ _ _ hI2
  · refine s_aload_n (zdk hL_law_19 55 rfl) rfl ?_
    refine s_iconstv (v := nI 0) (zdk hL_law_19 56 rfl) zc_iconst_0 ?_
    refine s_laloadN (N := 1) (j := 0) (zdk hL_law_19 57 rfl) hI2.o.1 hI2.o.2.1 (by decide) (by decide) ?_
    refine s_topl (b := b.toInt64) (hout c) ?_
    refine s_iload (zdk hL_law_19 58 rfl) rfl ?_
    refine s_i2l (zdk hL_law_19 59 rfl) ?_
    refine s_lcmp (zdk hL_law_20 0 rfl) ?_
    refine s_topi (b := 0) (lg_self _) ?_
    refine s_if_eq 2018 (zdk hL_law_20 1 rfl) (by decide) (fun _ => ?_) (fun c => absurd rfl c)
    refine s_goto 2182 (zdk hL_law_20 4 rfl) (by decide) ?_
    exact kk _ _ _ _ _ hI2
theorem w_L_save (hl : l.stackTraces = false) (hN : (gX G).2.1 ≤ 3072) {M : zMem} (hI : INV M) {i : Nat} (hi : i + 6 ≤ (gX G).2.1) {bc bs : Nat} {x5 x6 x7 x8 : Option Value} {Q : zOut → zMem → Prop} (kk : ∀ (M' : zMem) (y5 y6 y7 y8 : Option Value), INV M' → zS l G mL_law 13 478 bc bs 2182 [some (.ref 2000000), some (.ref 0), some (.ref 941), some (.ref 956), some (.int (nI i)), y5, y6, y7, y8] [] M' Q) : zS l G mL_law 13 478 (5 + bc) (30 + bs) 2021 [some (.ref 2000000), some (.ref 0), some (.ref 941), some (.ref 956), some (.int (nI i)), x5, x6, x7, x8] [] M Q := by
  obtain ⟨a1, ha1⟩ : ∃ a, (gX G).2.2 (nI (i + 1)).toNatClampNeg = a := ⟨_, rfl⟩
  refine s_aload_n (zdk hL_law_20 5 rfl) rfl ?_
  refine s_aload_n (zdk hL_law_20 6 rfl) rfl ?_
  refine s_iload (zdk hL_law_20 7 rfl) rfl ?_
  refine s_iconstv (v := nI 1) (zdk hL_law_20 8 rfl) zc_iconst_1 ?_
  refine s_iadd (zdk hL_law_20 9 rfl) ?_
  refine s_topi (b := nI (i + 1)) (nI_add _ _) ?_
  refine s_scrI (zdk hL_law_20 10 rfl) (nI_in2 (by omega) (by omega)) ?_
  refine s_topi (b := a1) ha1 ?_
  refine s_callSH (as := [.ref 0, .int a1]) (st := []) (mc := 5) (ms := 30) (bc := bc) (bs := bs) (zdk hL_law_20 11 rfl) cw_L_228 rfl (Nat.le_of_ble_eq_true rfl) (by decide) (op_save hl hI a1) (fun v1 M1 q1 => ?_)
  obtain ⟨x, e1, hK1, fr1, lo1, hr1, h9⟩ := q1
  obtain rfl := Sum.inl.inj e1
  refine s_istore (zdk hL_law_20 12 rfl) (Nat.le_of_ble_eq_true rfl) ?_
  refine s_ls (ls' := [some (.ref 2000000), some (.ref 0), some (.ref 941), some (.ref 956), some (.int (nI i)), some (.int x), x6, x7, x8]) rfl ?_
  refine s_aload_n (zdk hL_law_20 13 rfl) rfl ?_
  refine s_aload_n (zdk hL_law_20 14 rfl) rfl ?_
  refine s_iload (zdk hL_law_20 15 rfl) rfl ?_
  refine s_iconstv (v := nI 1) (zdk hL_law_20 16 rfl) zc_iconst_1 ?_
  refine s_iadd (zdk hL_law_20 17 rfl) ?_
  refine s_topi (b := nI (i + 1)) (nI_add _ _) ?_
  refine s_scrI (zdk hL_law_20 18 rfl) (nI_in2 (by omega) (by omega)) ?_
  refine s_topi (b := a1) ha1 ?_
  refine s_callV1 (ci := 9) [.int a1] (zdk hL_law_20 19 rfl) cw_L_231 hK1 (by decide) rfl rfl rfl (Nat.le_of_ble_eq_true rfl) ⟨by omega, (by have e : yL mX9_save = 2 := rfl; rw [e]; omega)⟩ h9 ?_
  intro v2 M2 q2
  obtain ⟨b9, e2, rfl, hth, hI2⟩ := q2
  obtain rfl := Sum.inl.inj e2
  refine s_aload_n (zdk hL_law_20 20 rfl) rfl ?_
  refine s_callV0 (ci := 9) [] (zdk hL_law_20 21 rfl) cw_L_118 hI2.m9 (by decide) rfl rfl rfl (Nat.le_of_ble_eq_true rfl) (by decide) (c_thr hl hI2) ?_
  refine s_topi (b := x) hth ?_
  refine s_iload (zdk hL_law_20 22 rfl) rfl ?_
  refine s_icmp_eq 2054 (zdk hL_law_20 23 rfl) (by decide) (fun _ => ?_) (fun c => absurd rfl c)
  refine s_goto 2182 (zdk hL_law_20 26 rfl) (by decide) ?_
  exact kk _ _ _ _ _ hI2
theorem w_L_restore (hl : l.stackTraces = false) (hN : (gX G).2.1 ≤ 3072) {M : zMem} (hI : INV M) {i : Nat} (hi : i + 6 ≤ (gX G).2.1) {bc bs : Nat} {x5 x6 x7 x8 : Option Value} {Q : zOut → zMem → Prop} (kk : ∀ (M' : zMem) (y5 y6 y7 y8 : Option Value), INV M' → zS l G mL_law 13 478 bc bs 2182 [some (.ref 2000000), some (.ref 0), some (.ref 941), some (.ref 956), some (.int (nI i)), y5, y6, y7, y8] [] M' Q) : zS l G mL_law 13 478 (5 + bc) (30 + bs) 2057 [some (.ref 2000000), some (.ref 0), some (.ref 941), some (.ref 956), some (.int (nI i)), x5, x6, x7, x8] [] M Q := by
  obtain ⟨a1, ha1⟩ : ∃ a, (gX G).2.2 (nI (i + 1)).toNatClampNeg = a := ⟨_, rfl⟩
  refine s_aload_n (zdk hL_law_20 27 rfl) rfl ?_
  refine s_aload_n (zdk hL_law_20 28 rfl) rfl ?_
  refine s_iload (zdk hL_law_20 29 rfl) rfl ?_
  refine s_iconstv (v := nI 1) (zdk hL_law_20 30 rfl) zc_iconst_1 ?_
  refine s_iadd (zdk hL_law_20 31 rfl) ?_
  refine s_topi (b := nI (i + 1)) (nI_add _ _) ?_
  refine s_scrI (zdk hL_law_20 32 rfl) (nI_in2 (by omega) (by omega)) ?_
  refine s_topi (b := a1) ha1 ?_
  refine s_aload_n (zdk hL_law_20 33 rfl) rfl ?_
  refine s_callSH (as := [.ref 0, .int a1, .ref 956]) (st := []) (mc := 5) (ms := 30) (bc := bc) (bs := bs) (zdk hL_law_20 34 rfl) cw_L_232 rfl (Nat.le_of_ble_eq_true rfl) (by decide) (op_restore hl hI a1) (fun v1 M1 q1 => ?_)
  obtain ⟨x, e1, hK1, fr1, lo1, hr1, h9⟩ := q1
  obtain rfl := Sum.inl.inj e1
  refine s_istore (zdk hL_law_20 35 rfl) (Nat.le_of_ble_eq_true rfl) ?_
  refine s_ls (ls' := [some (.ref 2000000), some (.ref 0), some (.ref 941), some (.ref 956), some (.int (nI i)), some (.int x), x6, x7, x8]) rfl ?_
  refine s_aload_n (zdk hL_law_20 36 rfl) rfl ?_
  refine s_aload_n (zdk hL_law_20 37 rfl) rfl ?_
  refine s_iload (zdk hL_law_20 38 rfl) rfl ?_
  refine s_iconstv (v := nI 1) (zdk hL_law_20 39 rfl) zc_iconst_1 ?_
  refine s_iadd (zdk hL_law_20 40 rfl) ?_
  refine s_topi (b := nI (i + 1)) (nI_add _ _) ?_
  refine s_scrI (zdk hL_law_20 41 rfl) (nI_in2 (by omega) (by omega)) ?_
  refine s_topi (b := a1) ha1 ?_
  refine s_callV1 (ci := 9) [.int a1] (zdk hL_law_20 42 rfl) cw_L_234 hK1 (by decide) rfl rfl rfl (Nat.le_of_ble_eq_true rfl) ⟨by omega, (by have e : yL mX9_restore = 2 := rfl; rw [e]; omega)⟩ h9 ?_
  intro v2 M2 q2
  obtain ⟨b9, e2, b, rfl, hth, hout, hI2⟩ := q2
  obtain rfl := Sum.inl.inj e2
  refine s_istore (zdk hL_law_20 43 rfl) (Nat.le_of_ble_eq_true rfl) ?_
  refine s_ls (ls' := [some (.ref 2000000), some (.ref 0), some (.ref 941), some (.ref 956), some (.int (nI i)), some (.int x), some (.int b), x7, x8]) rfl ?_
  refine s_aload_n (zdk hL_law_20 44 rfl) rfl ?_
  refine s_callV0 (ci := 9) [] (zdk hL_law_20 45 rfl) cw_L_118 hI2.m9 (by decide) rfl rfl rfl (Nat.le_of_ble_eq_true rfl) (by decide) (c_thr hl hI2) ?_
  refine s_topi (b := x) hth ?_
  refine s_iload (zdk hL_law_20 46 rfl) rfl ?_
  refine s_icmp_eq 2093 (zdk hL_law_20 47 rfl) (by decide) (fun _ => ?_) (fun c => absurd rfl c)
  refine s_iload (zdk hL_law_20 50 rfl) rfl ?_
  refine s_if_ne 2110 (zdk hL_law_20 51 rfl) (by decide) (fun c => ?_) (fun c => ?_)
  · refine s_goto 2182 (zdk hL_law_21 1 rfl) (by decide) ?_
    exact kk _ _ _ _ _ hI2
  · refine s_aload_n (zdk hL_law_20 52 rfl) rfl ?_
    refine s_iconstv (v := nI 0) (zdk hL_law_20 53 rfl) zc_iconst_0 ?_
    refine s_laloadN (N := 1) (j := 0) (zdk hL_law_20 54 rfl) hI2.o.1 hI2.o.2.1 (by decide) (by decide) ?_
    refine s_topl (b := b.toInt64) (hout c) ?_
    refine s_iload (zdk hL_law_20 55 rfl) rfl ?_
    refine s_i2l (zdk hL_law_20 56 rfl) ?_
    refine s_lcmp (zdk hL_law_20 57 rfl) ?_
    refine s_topi (b := 0) (lg_self _) ?_
    refine s_if_eq 2110 (zdk hL_law_20 58 rfl) (by decide) (fun _ => ?_) (fun c => absurd rfl c)
    refine s_goto 2182 (zdk hL_law_21 1 rfl) (by decide) ?_
    exact kk _ _ _ _ _ hI2
theorem w_L_writeTiers (hl : l.stackTraces = false) (hN : (gX G).2.1 ≤ 3072) {M : zMem} (hI : INV M) {i : Nat} (hi : i + 6 ≤ (gX G).2.1) {bc bs : Nat} {x5 x6 x7 x8 : Option Value} {Q : zOut → zMem → Prop} (kk : ∀ (M' : zMem) (y5 y6 y7 y8 : Option Value), INV M' → zS l G mL_law 13 478 bc bs 2182 [some (.ref 2000000), some (.ref 0), some (.ref 941), some (.ref 956), some (.int (nI i)), y5, y6, y7, y8] [] M' Q) : zS l G mL_law 13 478 (5 + bc) (30 + bs) 2113 [some (.ref 2000000), some (.ref 0), some (.ref 941), some (.ref 956), some (.int (nI i)), x5, x6, x7, x8] [] M Q := by
  refine s_aload_n (zdk hL_law_21 2 rfl) rfl ?_
  obtain ⟨fr8, lo8, mc8, ms8, hb8, h8⟩ := op_writeTiers (G := G) hl hI
  refine zS.le (fr' := 0) (lo' := 0) (bc' := mc8 + bc) (bs' := ms8 + bs) (by omega) (by omega) ?_
  refine s_callV (ci := 8) (as := []) (st := []) (zdk hL_law_21 3 rfl) cw_L_235 hI.k0 (by decide) rfl rfl rfl (Nat.le_of_ble_eq_true rfl) ⟨by omega, (by have e : yL mX8_writeTiers = 1 := rfl; rw [e]; omega)⟩ h8 (fun v1 M1 q1 => ?_)
  obtain ⟨x, e1, ⟨b, rfl⟩, hK1, fr1, lo1, hr1, h9⟩ := q1
  obtain rfl := Sum.inl.inj e1
  refine s_aload_n (zdk hL_law_21 4 rfl) rfl ?_
  refine s_callV1 (ci := 9) [] (zdk hL_law_21 5 rfl) cw_L_238 hK1 (by decide) rfl rfl rfl (Nat.le_of_ble_eq_true rfl) ⟨by omega, (by have e : yL mX9_writeTiers = 4 := rfl; rw [e]; omega)⟩ h9 ?_
  intro v2 M2 q2
  obtain ⟨b9, e2, rfl, hI2⟩ := q2
  obtain rfl := Sum.inl.inj e2
  refine s_icmp_eq 2182 (zdk hL_law_21 6 rfl) (by decide) (fun _ => ?_) (fun c => absurd rfl c)
  exact kk _ _ _ _ _ hI2
theorem w_L_writtenByte (hl : l.stackTraces = false) (hN : (gX G).2.1 ≤ 3072) {M : zMem} (hI : INV M) {i : Nat} (hi : i + 6 ≤ (gX G).2.1) {bc bs : Nat} {x5 x6 x7 x8 : Option Value} {Q : zOut → zMem → Prop} (kk : ∀ (M' : zMem) (y5 y6 y7 y8 : Option Value), INV M' → zS l G mL_law 13 478 bc bs 2182 [some (.ref 2000000), some (.ref 0), some (.ref 941), some (.ref 956), some (.int (nI i)), y5, y6, y7, y8] [] M' Q) : zS l G mL_law 13 478 (5 + bc) (30 + bs) 2126 [some (.ref 2000000), some (.ref 0), some (.ref 941), some (.ref 956), some (.int (nI i)), x5, x6, x7, x8] [] M Q := by
  obtain ⟨a1, ha1⟩ : ∃ a, (gX G).2.2 (nI (i + 1)).toNatClampNeg = a := ⟨_, rfl⟩
  refine s_aload_n (zdk hL_law_21 9 rfl) rfl ?_
  refine s_aload_n (zdk hL_law_21 10 rfl) rfl ?_
  refine s_iload (zdk hL_law_21 11 rfl) rfl ?_
  refine s_iconstv (v := nI 1) (zdk hL_law_21 12 rfl) zc_iconst_1 ?_
  refine s_iadd (zdk hL_law_21 13 rfl) ?_
  refine s_topi (b := nI (i + 1)) (nI_add _ _) ?_
  refine s_scrI (zdk hL_law_21 14 rfl) (nI_in2 (by omega) (by omega)) ?_
  refine s_topi (b := a1) ha1 ?_
  refine s_aload_n (zdk hL_law_21 15 rfl) rfl ?_
  refine s_callSH (as := [.ref 0, .int a1, .ref 956]) (st := []) (mc := 5) (ms := 30) (bc := bc) (bs := bs) (zdk hL_law_21 16 rfl) cw_L_239 rfl (Nat.le_of_ble_eq_true rfl) (by decide) (op_writtenByte hl hI a1) (fun v1 M1 q1 => ?_)
  obtain ⟨x, e1, hK1, fr1, lo1, hr1, h9⟩ := q1
  obtain rfl := Sum.inl.inj e1
  refine s_istore (zdk hL_law_21 17 rfl) (Nat.le_of_ble_eq_true rfl) ?_
  refine s_ls (ls' := [some (.ref 2000000), some (.ref 0), some (.ref 941), some (.ref 956), some (.int (nI i)), some (.int x), x6, x7, x8]) rfl ?_
  refine s_aload_n (zdk hL_law_21 18 rfl) rfl ?_
  refine s_aload_n (zdk hL_law_21 19 rfl) rfl ?_
  refine s_iload (zdk hL_law_21 20 rfl) rfl ?_
  refine s_iconstv (v := nI 1) (zdk hL_law_21 21 rfl) zc_iconst_1 ?_
  refine s_iadd (zdk hL_law_21 22 rfl) ?_
  refine s_topi (b := nI (i + 1)) (nI_add _ _) ?_
  refine s_scrI (zdk hL_law_21 23 rfl) (nI_in2 (by omega) (by omega)) ?_
  refine s_topi (b := a1) ha1 ?_
  refine s_callV1 (ci := 9) [.int a1] (zdk hL_law_21 24 rfl) cw_L_241 hK1 (by decide) rfl rfl rfl (Nat.le_of_ble_eq_true rfl) ⟨by omega, (by have e : yL mX9_writtenByte = 2 := rfl; rw [e]; omega)⟩ h9 ?_
  intro v2 M2 q2
  obtain ⟨b9, e2, b, rfl, hth, hout, hI2⟩ := q2
  obtain rfl := Sum.inl.inj e2
  refine s_istore (zdk hL_law_21 25 rfl) (Nat.le_of_ble_eq_true rfl) ?_
  refine s_ls (ls' := [some (.ref 2000000), some (.ref 0), some (.ref 941), some (.ref 956), some (.int (nI i)), some (.int x), some (.int b), x7, x8]) rfl ?_
  refine s_aload_n (zdk hL_law_21 26 rfl) rfl ?_
  refine s_callV0 (ci := 9) [] (zdk hL_law_21 27 rfl) cw_L_118 hI2.m9 (by decide) rfl rfl rfl (Nat.le_of_ble_eq_true rfl) (by decide) (c_thr hl hI2) ?_
  refine s_topi (b := x) hth ?_
  refine s_iload (zdk hL_law_21 28 rfl) rfl ?_
  refine s_icmp_eq 2162 (zdk hL_law_21 29 rfl) (by decide) (fun _ => ?_) (fun c => absurd rfl c)
  refine s_iload (zdk hL_law_21 32 rfl) rfl ?_
  refine s_if_ne 2179 (zdk hL_law_21 33 rfl) (by decide) (fun c => ?_) (fun c => ?_)
  · refine s_goto 2182 (zdk hL_law_21 43 rfl) (by decide) ?_
    exact kk _ _ _ _ _ hI2
  · refine s_aload_n (zdk hL_law_21 34 rfl) rfl ?_
    refine s_iconstv (v := nI 0) (zdk hL_law_21 35 rfl) zc_iconst_0 ?_
    refine s_laloadN (N := 1) (j := 0) (zdk hL_law_21 36 rfl) hI2.o.1 hI2.o.2.1 (by decide) (by decide) ?_
    refine s_topl (b := b.toInt64) (hout c) ?_
    refine s_iload (zdk hL_law_21 37 rfl) rfl ?_
    refine s_i2l (zdk hL_law_21 38 rfl) ?_
    refine s_lcmp (zdk hL_law_21 39 rfl) ?_
    refine s_topi (b := 0) (lg_self _) ?_
    refine s_if_eq 2179 (zdk hL_law_21 40 rfl) (by decide) (fun _ => ?_) (fun c => absurd rfl c)
    refine s_goto 2182 (zdk hL_law_21 43 rfl) (by decide) ?_
    exact kk _ _ _ _ _ hI2
end
