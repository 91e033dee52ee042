/-! ===== the law, more cases ===== -/
section
variable {l : Launch} {G : zG}
theorem w_L_commonCycle (hl : l.stackTraces = false) (hN : (gX G).2.1 ≤ 3072) {M : zMem} (hI : INV M) {i : Nat} (hi : i + 6 ≤ (gX G).2.1) {bc bs : Nat} {x5 x6 x7 x8 : Option Value} {Q : zOut → zMem → Prop} (kk : ∀ (M' : zMem) (y5 y6 y7 y8 : Option Value), INV M' → zS l G mL_law 13 478 bc bs 2182 [some (.ref 2000000), some (.ref 0), some (.ref 941), some (.ref 956), some (.int (nI i)), y5, y6, y7, y8] [] M' Q) : zS l G mL_law 13 478 (5 + bc) (30 + bs) 878 [some (.ref 2000000), some (.ref 0), some (.ref 941), some (.ref 956), some (.int (nI i)), x5, x6, x7, x8] [] M Q := by
  refine s_aload_n (zdk hL_law_7 44 rfl) rfl ?_
  obtain ⟨fr8, lo8, mc8, ms8, hb8, h8⟩ := op_commonCycle (G := G) hl hI
  refine zS.le (fr' := 0) (lo' := 0) (bc' := mc8 + bc) (bs' := ms8 + bs) (by omega) (by omega) ?_
  refine s_callV (ci := 8) (as := []) (st := []) (zdk hL_law_7 45 rfl) cw_L_160 hI.k0 (by decide) rfl rfl rfl (Nat.le_of_ble_eq_true rfl) ⟨by omega, (by have e : yL mX8_commonCycle = 4 := rfl; rw [e]; omega)⟩ h8 (fun v1 M1 q1 => ?_)
  obtain ⟨x, e1, ⟨b, rfl⟩, hK1, fr1, lo1, hr1, h9⟩ := q1
  obtain rfl := Sum.inl.inj e1
  refine s_aload_n (zdk hL_law_7 46 rfl) rfl ?_
  refine s_callV1 (ci := 9) [] (zdk hL_law_7 47 rfl) cw_L_163 hK1 (by decide) rfl rfl rfl (Nat.le_of_ble_eq_true rfl) ⟨by omega, (by have e : yL mX9_commonCycle = 6 := rfl; rw [e]; omega)⟩ h9 ?_
  intro v2 M2 q2
  obtain ⟨b9, e2, rfl, hI2⟩ := q2
  obtain rfl := Sum.inl.inj e2
  refine s_icmp_eq 2182 (zdk hL_law_7 48 rfl) (by decide) (fun _ => ?_) (fun c => absurd rfl c)
  exact kk _ _ _ _ _ hI2
theorem w_L_account (hl : l.stackTraces = false) (hN : (gX G).2.1 ≤ 3072) {M : zMem} (hI : INV M) {i : Nat} (hi : i + 6 ≤ (gX G).2.1) {bc bs : Nat} {x5 x6 x7 x8 : Option Value} {Q : zOut → zMem → Prop} (kk : ∀ (M' : zMem) (y5 y6 y7 y8 : Option Value), INV M' → zS l G mL_law 13 478 bc bs 2182 [some (.ref 2000000), some (.ref 0), some (.ref 941), some (.ref 956), some (.int (nI i)), y5, y6, y7, y8] [] M' Q) : zS l G mL_law 13 478 (5 + bc) (30 + bs) 891 [some (.ref 2000000), some (.ref 0), some (.ref 941), some (.ref 956), some (.int (nI i)), x5, x6, x7, x8] [] M Q := by
  obtain ⟨a1, ha1⟩ : ∃ a, (gX G).2.2 (nI (i + 1)).toNatClampNeg = a := ⟨_, rfl⟩
  obtain ⟨a2, ha2⟩ : ∃ a, (gX G).2.2 (nI (i + 2)).toNatClampNeg = a := ⟨_, rfl⟩
  refine s_aload_n (zdk hL_law_7 51 rfl) rfl ?_
  refine s_aload_n (zdk hL_law_7 52 rfl) rfl ?_
  refine s_iload (zdk hL_law_7 53 rfl) rfl ?_
  refine s_iconstv (v := nI 1) (zdk hL_law_7 54 rfl) zc_iconst_1 ?_
  refine s_iadd (zdk hL_law_7 55 rfl) ?_
  refine s_topi (b := nI (i + 1)) (nI_add _ _) ?_
  refine s_scrI (zdk hL_law_7 56 rfl) (nI_in2 (by omega) (by omega)) ?_
  refine s_topi (b := a1) ha1 ?_
  refine s_aload_n (zdk hL_law_7 57 rfl) rfl ?_
  refine s_iload (zdk hL_law_7 58 rfl) rfl ?_
  refine s_iconstv (v := nI 2) (zdk hL_law_7 59 rfl) zc_iconst_2 ?_
  refine s_iadd (zdk hL_law_8 0 rfl) ?_
  refine s_topi (b := nI (i + 2)) (nI_add _ _) ?_
  refine s_scrI (zdk hL_law_8 1 rfl) (nI_in2 (by omega) (by omega)) ?_
  refine s_topi (b := a2) ha2 ?_
  refine s_aload_n (zdk hL_law_8 2 rfl) rfl ?_
  refine s_callSH (as := [.ref 0, .int a1, .int a2, .ref 956]) (st := []) (mc := 5) (ms := 30) (bc := bc) (bs := bs) (zdk hL_law_8 3 rfl) cw_L_164 rfl (Nat.le_of_ble_eq_true rfl) (by decide) (op_account hl hI a1 a2) (fun v1 M1 q1 => ?_)
  obtain ⟨x, e1, hK1, fr1, lo1, hr1, h9⟩ := q1
  obtain rfl := Sum.inl.inj e1
  refine s_istore (zdk hL_law_8 4 rfl) (Nat.le_of_ble_eq_true rfl) ?_
  refine s_ls (ls' := [some (.ref 2000000), some (.ref 0), some (.ref 941), some (.ref 956), some (.int (nI i)), some (.int x), x6, x7, x8]) rfl ?_
  refine s_aload_n (zdk hL_law_8 5 rfl) rfl ?_
  refine s_aload_n (zdk hL_law_8 6 rfl) rfl ?_
  refine s_iload (zdk hL_law_8 7 rfl) rfl ?_
  refine s_iconstv (v := nI 1) (zdk hL_law_8 8 rfl) zc_iconst_1 ?_
  refine s_iadd (zdk hL_law_8 9 rfl) ?_
  refine s_topi (b := nI (i + 1)) (nI_add _ _) ?_
  refine s_scrI (zdk hL_law_8 10 rfl) (nI_in2 (by omega) (by omega)) ?_
  refine s_topi (b := a1) ha1 ?_
  refine s_aload_n (zdk hL_law_8 11 rfl) rfl ?_
  refine s_iload (zdk hL_law_8 12 rfl) rfl ?_
  refine s_iconstv (v := nI 2) (zdk hL_law_8 13 rfl) zc_iconst_2 ?_
  refine s_iadd (zdk hL_law_8 14 rfl) ?_
  refine s_topi (b := nI (i + 2)) (nI_add _ _) ?_
  refine s_scrI (zdk hL_law_8 15 rfl) (nI_in2 (by omega) (by omega)) ?_
  refine s_topi (b := a2) ha2 ?_
  refine s_callV1 (ci := 9) [.int a1, .int a2] (zdk hL_law_8 16 rfl) cw_L_166 hK1 (by decide) rfl rfl rfl (Nat.le_of_ble_eq_true rfl) ⟨by omega, (by have e : yL mX9_account = 3 := rfl; rw [e]; omega)⟩ h9 ?_
  intro v2 M2 q2
  obtain ⟨b9, e2, b, rfl, hth, hout, hI2⟩ := q2
  obtain rfl := Sum.inl.inj e2
  refine s_lstore (zdk hL_law_8 17 rfl) (Nat.le_of_ble_eq_true rfl) ?_
  refine s_ls (ls' := [some (.ref 2000000), some (.ref 0), some (.ref 941), some (.ref 956), some (.int (nI i)), some (.int x), some (.long b), none, x8]) rfl ?_
  refine s_aload_n (zdk hL_law_8 18 rfl) rfl ?_
  refine s_callV0 (ci := 9) [] (zdk hL_law_8 19 rfl) cw_L_118 hI2.m9 (by decide) rfl rfl rfl (Nat.le_of_ble_eq_true rfl) (by decide) (c_thr hl hI2) ?_
  refine s_topi (b := x) hth ?_
  refine s_iload (zdk hL_law_8 20 rfl) rfl ?_
  refine s_icmp_eq 939 (zdk hL_law_8 21 rfl) (by decide) (fun _ => ?_) (fun c => absurd rfl c)
  refine s_iload (zdk hL_law_8 24 rfl) rfl ?_
  refine s_if_ne 955 (zdk hL_law_8 25 rfl) (by decide) (fun c => ?_) (fun c => ?_)
  · refine s_goto 2182 (zdk hL_law_8 34 rfl) (by decide) ?_
    exact kk _ _ _ _ _ hI2
  · refine s_aload_n (zdk hL_law_8 26 rfl) rfl ?_
    refine s_iconstv (v := nI 0) (zdk hL_law_8 27 rfl) zc_iconst_0 ?_
    refine s_laloadN (N := 1) (j := 0) (zdk hL_law_8 28 rfl) hI2.o.1 hI2.o.2.1 (by decide) (by decide) ?_
    refine s_topl (b := b) (hout c) ?_
    refine s_lload (zdk hL_law_8 29 rfl) rfl ?_
    refine s_lcmp (zdk hL_law_8 30 rfl) ?_
    refine s_topi (b := 0) (lg_self _) ?_
    refine s_if_eq 955 (zdk hL_law_8 31 rfl) (by decide) (fun _ => ?_) (fun c => absurd rfl c)
    refine s_goto 2182 (zdk hL_law_8 34 rfl) (by decide) ?_
    exact kk _ _ _ _ _ hI2
theorem w_L_movingShare (hl : l.stackTraces = false) (hN : (gX G).2.1 ≤ 3072) {M : zMem} (hI : INV M) {i : Nat} (hi : i + 6 ≤ (gX G).2.1) {bc bs : Nat} {x5 x6 x7 x8 : Option Value} {Q : zOut → zMem → Prop} (kk : ∀ (M' : zMem) (y5 y6 y7 y8 : Option Value), INV M' → zS l G mL_law 13 478 bc bs 2182 [some (.ref 2000000), some (.ref 0), some (.ref 941), some (.ref 956), some (.int (nI i)), y5, y6, y7, y8] [] M' Q) : zS l G mL_law 13 478 (5 + bc) (30 + bs) 958 [some (.ref 2000000), some (.ref 0), some (.ref 941), some (.ref 956), some (.int (nI i)), x5, x6, x7, x8] [] M Q := by
  refine s_aload_n (zdk hL_law_8 35 rfl) rfl ?_
  obtain ⟨fr8, lo8, mc8, ms8, hb8, h8⟩ := op_movingShare (G := G) hl hI
  refine zS.le (fr' := 0) (lo' := 0) (bc' := mc8 + bc) (bs' := ms8 + bs) (by omega) (by omega) ?_
  refine s_callV (ci := 8) (as := []) (st := []) (zdk hL_law_8 36 rfl) cw_L_167 hI.k0 (by decide) rfl rfl rfl (Nat.le_of_ble_eq_true rfl) ⟨by omega, (by have e : yL mX8_movingShare = 3 := rfl; rw [e]; omega)⟩ h8 (fun v1 M1 q1 => ?_)
  obtain ⟨x, e1, ⟨b, rfl, hnn⟩, hK1, fr1, lo1, hr1, h9⟩ := q1
  obtain rfl := Sum.inl.inj e1
  refine s_f2d (zdk hL_law_8 37 rfl) hnn ?_
  refine s_dstore (zdk hL_law_8 38 rfl) (Nat.le_of_ble_eq_true rfl) ?_
  refine s_ls (ls' := [some (.ref 2000000), some (.ref 0), some (.ref 941), some (.ref 956), some (.int (nI i)), some (.double (FP.f2d b)), none, x7, x8]) rfl ?_
  refine s_aload_n (zdk hL_law_8 39 rfl) rfl ?_
  refine s_callV1 (ci := 9) [] (zdk hL_law_8 40 rfl) cw_L_171 hK1 (by decide) rfl rfl rfl (Nat.le_of_ble_eq_true rfl) ⟨by omega, (by have e : yL mX9_movingShare = 3 := rfl; rw [e]; omega)⟩ h9 ?_
  intro v2 M2 q2
  obtain ⟨b9, e2, rfl, hI2⟩ := q2
  obtain rfl := Sum.inl.inj e2
  refine s_f2d (zdk hL_law_8 41 rfl) hnn ?_
  refine s_dstore (zdk hL_law_8 42 rfl) (Nat.le_of_ble_eq_true rfl) ?_
  refine s_ls (ls' := [some (.ref 2000000), some (.ref 0), some (.ref 941), some (.ref 956), some (.int (nI i)), some (.double (FP.f2d b)), none, some (.double (FP.f2d b)), none]) rfl ?_
  obtain ⟨z, hz⟩ : ∃ z, Op.cmpValue (FP.dcmp (FP.f2d b) (FP.f2d b)) .l = z := ⟨_, rfl⟩
  refine s_dload (zdk hL_law_8 43 rfl) rfl ?_
  refine s_dload (zdk hL_law_8 44 rfl) rfl ?_
  refine s_dcmp (zdk hL_law_8 45 rfl) ?_
  refine s_topi (b := z) hz ?_
  refine s_if_eq 998 (zdk hL_law_8 46 rfl) (by decide) (fun c => ?_) (fun c => ?_)
  · refine s_goto 2182 (zdk hL_law_8 57 rfl) (by decide) ?_
    exact kk _ _ _ _ _ hI2
  · skip
    refine s_dload (zdk hL_law_8 47 rfl) rfl ?_
    refine s_dload (zdk hL_law_8 48 rfl) rfl ?_
    refine s_dcmp (zdk hL_law_8 49 rfl) ?_
    refine s_topi (b := z) hz ?_
    refine s_if_eq 996 (zdk hL_law_8 50 rfl) (by decide) (fun c2 => absurd c2 c) (fun _ => ?_)
    refine s_dload (zdk hL_law_8 51 rfl) rfl ?_
    refine s_dload (zdk hL_law_8 52 rfl) rfl ?_
    refine s_dcmp (zdk hL_law_8 53 rfl) ?_
    refine s_topi (b := z) hz ?_
    refine s_if_ne 998 (zdk hL_law_8 54 rfl) (by decide) (fun _ => ?_) (fun c2 => absurd c2 c)
    refine s_goto 2182 (zdk hL_law_8 57 rfl) (by decide) ?_
    exact kk _ _ _ _ _ hI2
theorem w_L_cost (hl : l.stackTraces = false) (hN : (gX G).2.1 ≤ 3072) {M : zMem} (hI : INV M) {i : Nat} (hi : i + 6 ≤ (gX G).2.1) {bc bs : Nat} {x5 x6 x7 x8 : Option Value} {Q : zOut → zMem → Prop} (kk : ∀ (M' : zMem) (y5 y6 y7 y8 : Option Value), INV M' → zS l G mL_law 13 478 bc bs 2182 [some (.ref 2000000), some (.ref 0), some (.ref 941), some (.ref 956), some (.int (nI i)), y5, y6, y7, y8] [] M' Q) : zS l G mL_law 13 478 (5 + bc) (30 + bs) 1001 [some (.ref 2000000), some (.ref 0), some (.ref 941), some (.ref 956), some (.int (nI i)), x5, x6, x7, x8] [] M Q := by
  obtain ⟨a1, ha1⟩ : ∃ a, (gX G).2.2 (nI (i + 1)).toNatClampNeg = a := ⟨_, rfl⟩
  obtain ⟨a2, ha2⟩ : ∃ a, (gX G).2.2 (nI (i + 2)).toNatClampNeg = a := ⟨_, rfl⟩
  obtain ⟨a3, ha3⟩ : ∃ a, (gX G).2.2 (nI (i + 3)).toNatClampNeg = a := ⟨_, rfl⟩
  refine s_aload_n (zdk hL_law_8 58 rfl) rfl ?_
  refine s_aload_n (zdk hL_law_8 59 rfl) rfl ?_
  refine s_iload (zdk hL_law_9 0 rfl) rfl ?_
  refine s_iconstv (v := nI 1) (zdk hL_law_9 1 rfl) zc_iconst_1 ?_
  refine s_iadd (zdk hL_law_9 2 rfl) ?_
  refine s_topi (b := nI (i + 1)) (nI_add _ _) ?_
  refine s_scrI (zdk hL_law_9 3 rfl) (nI_in2 (by omega) (by omega)) ?_
  refine s_topi (b := a1) ha1 ?_
  refine s_aload_n (zdk hL_law_9 4 rfl) rfl ?_
  refine s_iload (zdk hL_law_9 5 rfl) rfl ?_
  refine s_iconstv (v := nI 2) (zdk hL_law_9 6 rfl) zc_iconst_2 ?_
  refine s_iadd (zdk hL_law_9 7 rfl) ?_
  refine s_topi (b := nI (i + 2)) (nI_add _ _) ?_
  refine s_scrI (zdk hL_law_9 8 rfl) (nI_in2 (by omega) (by omega)) ?_
  refine s_topi (b := a2) ha2 ?_
  refine s_aload_n (zdk hL_law_9 9 rfl) rfl ?_
  refine s_iload (zdk hL_law_9 10 rfl) rfl ?_
  refine s_iconstv (v := nI 3) (zdk hL_law_9 11 rfl) zc_iconst_3 ?_
  refine s_iadd (zdk hL_law_9 12 rfl) ?_
  refine s_topi (b := nI (i + 3)) (nI_add _ _) ?_
  refine s_scrI (zdk hL_law_9 13 rfl) (nI_in2 (by omega) (by omega)) ?_
  refine s_topi (b := a3) ha3 ?_
  refine s_aload_n (zdk hL_law_9 14 rfl) rfl ?_
  refine s_callSH (as := [.ref 0, .int a1, .int a2, .int a3, .ref 956]) (st := []) (mc := 5) (ms := 30) (bc := bc) (bs := bs) (zdk hL_law_9 15 rfl) cw_L_172 rfl (Nat.le_of_ble_eq_true rfl) (by decide) (op_cost hl hI a1 a2 a3) (fun v1 M1 q1 => ?_)
  obtain ⟨x, e1, hK1, fr1, lo1, hr1, h9⟩ := q1
  obtain rfl := Sum.inl.inj e1
  refine s_istore (zdk hL_law_9 16 rfl) (Nat.le_of_ble_eq_true rfl) ?_
  refine s_ls (ls' := [some (.ref 2000000), some (.ref 0), some (.ref 941), some (.ref 956), some (.int (nI i)), some (.int x), x6, x7, x8]) rfl ?_
  refine s_aload_n (zdk hL_law_9 17 rfl) rfl ?_
  refine s_aload_n (zdk hL_law_9 18 rfl) rfl ?_
  refine s_iload (zdk hL_law_9 19 rfl) rfl ?_
  refine s_iconstv (v := nI 1) (zdk hL_law_9 20 rfl) zc_iconst_1 ?_
  refine s_iadd (zdk hL_law_9 21 rfl) ?_
  refine s_topi (b := nI (i + 1)) (nI_add _ _) ?_
  refine s_scrI (zdk hL_law_9 22 rfl) (nI_in2 (by omega) (by omega)) ?_
  refine s_topi (b := a1) ha1 ?_
  refine s_aload_n (zdk hL_law_9 23 rfl) rfl ?_
  refine s_iload (zdk hL_law_9 24 rfl) rfl ?_
  refine s_iconstv (v := nI 2) (zdk hL_law_9 25 rfl) zc_iconst_2 ?_
  refine s_iadd (zdk hL_law_9 26 rfl) ?_
  refine s_topi (b := nI (i + 2)) (nI_add _ _) ?_
  refine s_scrI (zdk hL_law_9 27 rfl) (nI_in2 (by omega) (by omega)) ?_
  refine s_topi (b := a2) ha2 ?_
  refine s_aload_n (zdk hL_law_9 28 rfl) rfl ?_
  refine s_iload (zdk hL_law_9 29 rfl) rfl ?_
  refine s_iconstv (v := nI 3) (zdk hL_law_9 30 rfl) zc_iconst_3 ?_
  refine s_iadd (zdk hL_law_9 31 rfl) ?_
  refine s_topi (b := nI (i + 3)) (nI_add _ _) ?_
  refine s_scrI (zdk hL_law_9 32 rfl) (nI_in2 (by omega) (by omega)) ?_
  refine s_topi (b := a3) ha3 ?_
  refine s_callV1 (ci := 9) [.int a1, .int a2, .int a3] (zdk hL_law_9 33 rfl) cw_L_175 hK1 (by decide) rfl rfl rfl (Nat.le_of_ble_eq_true rfl) ⟨by omega, (by have e : yL mX9_cost = 4 := rfl; rw [e]; omega)⟩ h9 ?_
  intro v2 M2 q2
  obtain ⟨b9, e2, b, rfl, hth, hout, hI2⟩ := q2
  obtain rfl := Sum.inl.inj e2
  refine s_lstore (zdk hL_law_9 34 rfl) (Nat.le_of_ble_eq_true rfl) ?_
  refine s_ls (ls' := [some (.ref 2000000), some (.ref 0), some (.ref 941), some (.ref 956), some (.int (nI i)), some (.int x), some (.long b), none, x8]) rfl ?_
  refine s_aload_n (zdk hL_law_9 35 rfl) rfl ?_
  refine s_callV0 (ci := 9) [] (zdk hL_law_9 36 rfl) cw_L_118 hI2.m9 (by decide) rfl rfl rfl (Nat.le_of_ble_eq_true rfl) (by decide) (c_thr hl hI2) ?_
  refine s_topi (b := x) hth ?_
  refine s_iload (zdk hL_law_9 37 rfl) rfl ?_
  refine s_icmp_eq 1061 (zdk hL_law_9 38 rfl) (by decide) (fun _ => ?_) (fun c => absurd rfl c)
  refine s_iload (zdk hL_law_9 41 rfl) rfl ?_
  refine s_if_ne 1077 (zdk hL_law_9 42 rfl) (by decide) (fun c => ?_) (fun c => ?_)
  · refine s_goto 2182 (zdk hL_law_9 51 rfl) (by decide) ?_
    exact kk _ _ _ _ _ hI2
  · refine s_aload_n (zdk hL_law_9 43 rfl) rfl ?_
    refine s_iconstv (v := nI 0) (zdk hL_law_9 44 rfl) zc_iconst_0 ?_
    refine s_laloadN (N := 1) (j := 0) (zdk hL_law_9 45 rfl) hI2.o.1 hI2.o.2.1 (by decide) (by decide) ?_
    refine s_topl (b := b) (hout c) ?_
    refine s_lload (zdk hL_law_9 46 rfl) rfl ?_
    refine s_lcmp (zdk hL_law_9 47 rfl) ?_
    refine s_topi (b := 0) (lg_self _) ?_
    refine s_if_eq 1077 (zdk hL_law_9 48 rfl) (by decide) (fun _ => ?_) (fun c => absurd rfl c)
    refine s_goto 2182 (zdk hL_law_9 51 rfl) (by decide) ?_
    exact kk _ _ _ _ _ hI2
theorem w_L_wish (hl : l.stackTraces = false) (hN : (gX G).2.1 ≤ 3072) {M : zMem} (hI : INV M) {i : Nat} (hi : i + 6 ≤ (gX G).2.1) {bc bs : Nat} {x5 x6 x7 x8 : Option Value} {Q : zOut → zMem → Prop} (kk : ∀ (M' : zMem) (y5 y6 y7 y8 : Option Value), INV M' → zS l G mL_law 13 478 bc bs 2182 [some (.ref 2000000), some (.ref 0), some (.ref 941), some (.ref 956), some (.int (nI i)), y5, y6, y7, y8] [] M' Q) : zS l G mL_law 13 478 (5 + bc) (30 + bs) 1080 [some (.ref 2000000), some (.ref 0), some (.ref 941), some (.ref 956), some (.int (nI i)), x5, x6, x7, x8] [] M Q := by
  obtain ⟨a1, ha1⟩ : ∃ a, (gX G).2.2 (nI (i + 1)).toNatClampNeg = a := ⟨_, rfl⟩
  obtain ⟨a2, ha2⟩ : ∃ a, (gX G).2.2 (nI (i + 2)).toNatClampNeg = a := ⟨_, rfl⟩
  refine s_aload_n (zdk hL_law_9 52 rfl) rfl ?_
  refine s_aload_n (zdk hL_law_9 53 rfl) rfl ?_
  refine s_iload (zdk hL_law_9 54 rfl) rfl ?_
  refine s_iconstv (v := nI 1) (zdk hL_law_9 55 rfl) zc_iconst_1 ?_
  refine s_iadd (zdk hL_law_9 56 rfl) ?_
  refine s_topi (b := nI (i + 1)) (nI_add _ _) ?_
  refine s_scrI (zdk hL_law_9 57 rfl) (nI_in2 (by omega) (by omega)) ?_
  refine s_topi (b := a1) ha1 ?_
  refine s_aload_n (zdk hL_law_9 58 rfl) rfl ?_
  refine s_iload (zdk hL_law_9 59 rfl) rfl ?_
  refine s_iconstv (v := nI 2) (zdk hL_law_10 0 rfl) zc_iconst_2 ?_
  refine s_iadd (zdk hL_law_10 1 rfl) ?_
  refine s_topi (b := nI (i + 2)) (nI_add _ _) ?_
  refine s_scrI (zdk hL_law_10 2 rfl) (nI_in2 (by omega) (by omega)) ?_
  refine s_topi (b := a2) ha2 ?_
  refine s_aload_n (zdk hL_law_10 3 rfl) rfl ?_
  refine s_callSH (as := [.ref 0, .int a1, .int a2, .ref 956]) (st := []) (mc := 5) (ms := 30) (bc := bc) (bs := bs) (zdk hL_law_10 4 rfl) cw_L_176 rfl (Nat.le_of_ble_eq_true rfl) (by decide) (op_wish hl hI a1 a2) (fun v1 M1 q1 => ?_)
  obtain ⟨x, e1, hK1, fr1, lo1, hr1, h9⟩ := q1
  obtain rfl := Sum.inl.inj e1
  refine s_istore (zdk hL_law_10 5 rfl) (Nat.le_of_ble_eq_true rfl) ?_
  refine s_ls (ls' := [some (.ref 2000000), some (.ref 0), some (.ref 941), some (.ref 956), some (.int (nI i)), some (.int x), x6, x7, x8]) rfl ?_
  refine s_aload_n (zdk hL_law_10 6 rfl) rfl ?_
  refine s_aload_n (zdk hL_law_10 7 rfl) rfl ?_
  refine s_iload (zdk hL_law_10 8 rfl) rfl ?_
  refine s_iconstv (v := nI 1) (zdk hL_law_10 9 rfl) zc_iconst_1 ?_
  refine s_iadd (zdk hL_law_10 10 rfl) ?_
  refine s_topi (b := nI (i + 1)) (nI_add _ _) ?_
  refine s_scrI (zdk hL_law_10 11 rfl) (nI_in2 (by omega) (by omega)) ?_
  refine s_topi (b := a1) ha1 ?_
  refine s_aload_n (zdk hL_law_10 12 rfl) rfl ?_
  refine s_iload (zdk hL_law_10 13 rfl) rfl ?_
  refine s_iconstv (v := nI 2) (zdk hL_law_10 14 rfl) zc_iconst_2 ?_
  refine s_iadd (zdk hL_law_10 15 rfl) ?_
  refine s_topi (b := nI (i + 2)) (nI_add _ _) ?_
  refine s_scrI (zdk hL_law_10 16 rfl) (nI_in2 (by omega) (by omega)) ?_
  refine s_topi (b := a2) ha2 ?_
  refine s_callV1 (ci := 9) [.int a1, .int a2] (zdk hL_law_10 17 rfl) cw_L_178 hK1 (by decide) rfl rfl rfl (Nat.le_of_ble_eq_true rfl) ⟨by omega, (by have e : yL mX9_wish = 9 := rfl; rw [e]; omega)⟩ h9 ?_
  intro v2 M2 q2
  obtain ⟨b9, e2, b, rfl, hth, hout, hI2⟩ := q2
  obtain rfl := Sum.inl.inj e2
  refine s_istore (zdk hL_law_10 18 rfl) (Nat.le_of_ble_eq_true rfl) ?_
  refine s_ls (ls' := [some (.ref 2000000), some (.ref 0), some (.ref 941), some (.ref 956), some (.int (nI i)), some (.int x), some (.int b), x7, x8]) rfl ?_
  refine s_aload_n (zdk hL_law_10 19 rfl) rfl ?_
  refine s_callV0 (ci := 9) [] (zdk hL_law_10 20 rfl) cw_L_118 hI2.m9 (by decide) rfl rfl rfl (Nat.le_of_ble_eq_true rfl) (by decide) (c_thr hl hI2) ?_
  refine s_topi (b := x) hth ?_
  refine s_iload (zdk hL_law_10 21 rfl) rfl ?_
  refine s_icmp_eq 1128 (zdk hL_law_10 22 rfl) (by decide) (fun _ => ?_) (fun c => absurd rfl c)
  refine s_iload (zdk hL_law_10 25 rfl) rfl ?_
  refine s_if_ne 1145 (zdk hL_law_10 26 rfl) (by decide) (fun c => ?_) (fun c => ?_)
  · refine s_goto 2182 (zdk hL_law_10 36 rfl) (by decide) ?_
    exact kk _ _ _ _ _ hI2
  · refine s_aload_n (zdk hL_law_10 27 rfl) rfl ?_
    refine s_iconstv (v := nI 0) (zdk hL_law_10 28 rfl) zc_iconst_0 ?_
    refine s_laloadN (N := 1) (j := 0) (zdk hL_law_10 29 rfl) hI2.o.1 hI2.o.2.1 (by decide) (by decide) ?_
    refine s_topl (b := b.toInt64) (hout c) ?_
    refine s_iload (zdk hL_law_10 30 rfl) rfl ?_
    refine s_i2l (zdk hL_law_10 31 rfl) ?_
    refine s_lcmp (zdk hL_law_10 32 rfl) ?_
    refine s_topi (b := 0) (lg_self _) ?_
    refine s_if_eq 1145 (zdk hL_law_10 33 rfl) (by decide) (fun _ => ?_) (fun c => absurd rfl c)
    refine s_goto 2182 (zdk hL_law_10 36 rfl) (by decide) ?_
    exact kk _ _ _ _ _ hI2
theorem w_L_steps (hl : l.stackTraces = false) (hN : (gX G).2.1 ≤ 3072) {M : zMem} (hI : INV M) {i : Nat} (hi : i + 6 ≤ (gX G).2.1) {bc bs : Nat} {x5 x6 x7 x8 : Option Value} {Q : zOut → zMem → Prop} (kk : ∀ (M' : zMem) (y5 y6 y7 y8 : Option Value), INV M' → zS l G mL_law 13 478 bc bs 2182 [some (.ref 2000000), some (.ref 0), some (.ref 941), some (.ref 956), some (.int (nI i)), y5, y6, y7, y8] [] M' Q) : zS l G mL_law 13 478 (5 + bc) (30 + bs) 1148 [some (.ref 2000000), some (.ref 0), some (.ref 941), some (.ref 956), some (.int (nI i)), x5, x6, x7, x8] [] M Q := by
  obtain ⟨a1, ha1⟩ : ∃ a, (gX G).2.2 (nI (i + 1)).toNatClampNeg = a := ⟨_, rfl⟩
  refine s_aload_n (zdk hL_law_10 37 rfl) rfl ?_
  refine s_aload_n (zdk hL_law_10 38 rfl) rfl ?_
  refine s_iload (zdk hL_law_10 39 rfl) rfl ?_
  refine s_iconstv (v := nI 1) (zdk hL_law_10 40 rfl) zc_iconst_1 ?_
  refine s_iadd (zdk hL_law_10 41 rfl) ?_
  refine s_topi (b := nI (i + 1)) (nI_add _ _) ?_
  refine s_scrI (zdk hL_law_10 42 rfl) (nI_in2 (by omega) (by omega)) ?_
  refine s_topi (b := a1) ha1 ?_
  refine s_aload_n (zdk hL_law_10 43 rfl) rfl ?_
  refine s_callSH (as := [.ref 0, .int a1, .ref 956]) (st := []) (mc := 5) (ms := 30) (bc := bc) (bs := bs) (zdk hL_law_10 44 rfl) cw_L_179 rfl (Nat.le_of_ble_eq_true rfl) (by decide) (op_steps hl hI a1) (fun v1 M1 q1 => ?_)
  obtain ⟨x, e1, hK1, fr1, lo1, hr1, h9⟩ := q1
  obtain rfl := Sum.inl.inj e1
  refine s_istore (zdk hL_law_10 45 rfl) (Nat.le_of_ble_eq_true rfl) ?_
  refine s_ls (ls' := [some (.ref 2000000), some (.ref 0), some (.ref 941), some (.ref 956), some (.int (nI i)), some (.int x), x6, x7, x8]) rfl ?_
  refine s_aload_n (zdk hL_law_10 46 rfl) rfl ?_
  refine s_aload_n (zdk hL_law_10 47 rfl) rfl ?_
  refine s_iload (zdk hL_law_10 48 rfl) rfl ?_
  refine s_iconstv (v := nI 1) (zdk hL_law_10 49 rfl) zc_iconst_1 ?_
  refine s_iadd (zdk hL_law_10 50 rfl) ?_
  refine s_topi (b := nI (i + 1)) (nI_add _ _) ?_
  refine s_scrI (zdk hL_law_10 51 rfl) (nI_in2 (by omega) (by omega)) ?_
  refine s_topi (b := a1) ha1 ?_
  refine s_callV1 (ci := 9) [.int a1] (zdk hL_law_10 52 rfl) cw_L_181 hK1 (by decide) rfl rfl rfl (Nat.le_of_ble_eq_true rfl) ⟨by omega, (by have e : yL mX9_steps = 2 := rfl; rw [e]; omega)⟩ h9 ?_
  intro v2 M2 q2
  obtain ⟨b9, e2, b, rfl, hth, hout, hI2⟩ := q2
  obtain rfl := Sum.inl.inj e2
  refine s_istore (zdk hL_law_10 53 rfl) (Nat.le_of_ble_eq_true rfl) ?_
  refine s_ls (ls' := [some (.ref 2000000), some (.ref 0), some (.ref 941), some (.ref 956), some (.int (nI i)), some (.int x), some (.int b), x7, x8]) rfl ?_
  refine s_aload_n (zdk hL_law_10 54 rfl) rfl ?_
  refine s_callV0 (ci := 9) [] (zdk hL_law_10 55 rfl) cw_L_118 hI2.m9 (by decide) rfl rfl rfl (Nat.le_of_ble_eq_true rfl) (by decide) (c_thr hl hI2) ?_
  refine s_topi (b := x) hth ?_
  refine s_iload (zdk hL_law_10 56 rfl) rfl ?_
  refine s_icmp_eq 1184 (zdk hL_law_10 57 rfl) (by decide) (fun _ => ?_) (fun c => absurd rfl c)
  refine s_iload (zdk hL_law_11 0 rfl) rfl ?_
  refine s_if_ne 1201 (zdk hL_law_11 1 rfl) (by decide) (fun c => ?_) (fun c => ?_)
  · refine s_goto 2182 (zdk hL_law_11 11 rfl) (by decide) ?_
    exact kk _ _ _ _ _ hI2
  · refine s_aload_n (zdk hL_law_11 2 rfl) rfl ?_
    refine s_iconstv (v := nI 0) (zdk hL_law_11 3 rfl) zc_iconst_0 ?_
    refine s_laloadN (N := 1) (j := 0) (zdk hL_law_11 4 rfl) hI2.o.1 hI2.o.2.1 (by decide) (by decide) ?_
    refine s_topl (b := b.toInt64) (hout c) ?_
    refine s_iload (zdk hL_law_11 5 rfl) rfl ?_
    refine s_i2l (zdk hL_law_11 6 rfl) ?_
    refine s_lcmp (zdk hL_law_11 7 rfl) ?_
    refine s_topi (b := 0) (lg_self _) ?_
    refine s_if_eq 1201 (zdk hL_law_11 8 rfl) (by decide) (fun _ => ?_) (fun c => absurd rfl c)
    refine s_goto 2182 (zdk hL_law_11 11 rfl) (by decide) ?_
    exact kk _ _ _ _ _ hI2
theorem w_L_step (hl : l.stackTraces = false) (hN : (gX G).2.1 ≤ 3072) {M : zMem} (hI : INV M) {i : Nat} (hi : i + 6 ≤ (gX G).2.1) {bc bs : Nat} {x5 x6 x7 x8 : Option Value} {Q : zOut → zMem → Prop} (kk : ∀ (M' : zMem) (y5 y6 y7 y8 : Option Value), INV M' → zS l G mL_law 13 478 bc bs 2182 [some (.ref 2000000), some (.ref 0), some (.ref 941), some (.ref 956), some (.int (nI i)), y5, y6, y7, y8] [] M' Q) : zS l G mL_law 13 478 (5 + bc) (30 + bs) 1204 [some (.ref 2000000), some (.ref 0), some (.ref 941), some (.ref 956), some (.int (nI i)), x5, x6, x7, x8] [] M Q := by
  obtain ⟨a1, ha1⟩ : ∃ a, (gX G).2.2 (nI (i + 1)).toNatClampNeg = a := ⟨_, rfl⟩
  obtain ⟨a2, ha2⟩ : ∃ a, (gX G).2.2 (nI (i + 2)).toNatClampNeg = a := ⟨_, rfl⟩
  obtain ⟨a3, ha3⟩ : ∃ a, (gX G).2.2 (nI (i + 3)).toNatClampNeg = a := ⟨_, rfl⟩
  refine s_aload_n (zdk hL_law_11 12 rfl) rfl ?_
  refine s_aload_n (zdk hL_law_11 13 rfl) rfl ?_
  refine s_iload (zdk hL_law_11 14 rfl) rfl ?_
  refine s_iconstv (v := nI 1) (zdk hL_law_11 15 rfl) zc_iconst_1 ?_
  refine s_iadd (zdk hL_law_11 16 rfl) ?_
  refine s_topi (b := nI (i + 1)) (nI_add _ _) ?_
  refine s_scrI (zdk hL_law_11 17 rfl) (nI_in2 (by omega) (by omega)) ?_
  refine s_topi (b := a1) ha1 ?_
  refine s_aload_n (zdk hL_law_11 18 rfl) rfl ?_
  refine s_iload (zdk hL_law_11 19 rfl) rfl ?_
  refine s_iconstv (v := nI 2) (zdk hL_law_11 20 rfl) zc_iconst_2 ?_
  refine s_iadd (zdk hL_law_11 21 rfl) ?_
  refine s_topi (b := nI (i + 2)) (nI_add _ _) ?_
  refine s_scrI (zdk hL_law_11 22 rfl) (nI_in2 (by omega) (by omega)) ?_
  refine s_topi (b := a2) ha2 ?_
  refine s_aload_n (zdk hL_law_11 23 rfl) rfl ?_
  refine s_iload (zdk hL_law_11 24 rfl) rfl ?_
  refine s_iconstv (v := nI 3) (zdk hL_law_11 25 rfl) zc_iconst_3 ?_
  refine s_iadd (zdk hL_law_11 26 rfl) ?_
  refine s_topi (b := nI (i + 3)) (nI_add _ _) ?_
  refine s_scrI (zdk hL_law_11 27 rfl) (nI_in2 (by omega) (by omega)) ?_
  refine s_topi (b := a3) ha3 ?_
  refine s_aload_n (zdk hL_law_11 28 rfl) rfl ?_
  refine s_callSH (as := [.ref 0, .int a1, .int a2, .int a3, .ref 956]) (st := []) (mc := 5) (ms := 30) (bc := bc) (bs := bs) (zdk hL_law_11 29 rfl) cw_L_182 rfl (Nat.le_of_ble_eq_true rfl) (by decide) (op_step hl hI a1 a2 a3) (fun v1 M1 q1 => ?_)
  obtain ⟨x, e1, hK1, fr1, lo1, hr1, h9⟩ := q1
  obtain rfl := Sum.inl.inj e1
  refine s_istore (zdk hL_law_11 30 rfl) (Nat.le_of_ble_eq_true rfl) ?_
  refine s_ls (ls' := [some (.ref 2000000), some (.ref 0), some (.ref 941), some (.ref 956), some (.int (nI i)), some (.int x), x6, x7, x8]) rfl ?_
  refine s_aload_n (zdk hL_law_11 31 rfl) rfl ?_
  refine s_aload_n (zdk hL_law_11 32 rfl) rfl ?_
  refine s_iload (zdk hL_law_11 33 rfl) rfl ?_
  refine s_iconstv (v := nI 1) (zdk hL_law_11 34 rfl) zc_iconst_1 ?_
  refine s_iadd (zdk hL_law_11 35 rfl) ?_
  refine s_topi (b := nI (i + 1)) (nI_add _ _) ?_
  refine s_scrI (zdk hL_law_11 36 rfl) (nI_in2 (by omega) (by omega)) ?_
  refine s_topi (b := a1) ha1 ?_
  refine s_aload_n (zdk hL_law_11 37 rfl) rfl ?_
  refine s_iload (zdk hL_law_11 38 rfl) rfl ?_
  refine s_iconstv (v := nI 2) (zdk hL_law_11 39 rfl) zc_iconst_2 ?_
  refine s_iadd (zdk hL_law_11 40 rfl) ?_
  refine s_topi (b := nI (i + 2)) (nI_add _ _) ?_
  refine s_scrI (zdk hL_law_11 41 rfl) (nI_in2 (by omega) (by omega)) ?_
  refine s_topi (b := a2) ha2 ?_
  refine s_aload_n (zdk hL_law_11 42 rfl) rfl ?_
  refine s_iload (zdk hL_law_11 43 rfl) rfl ?_
  refine s_iconstv (v := nI 3) (zdk hL_law_11 44 rfl) zc_iconst_3 ?_
  refine s_iadd (zdk hL_law_11 45 rfl) ?_
  refine s_topi (b := nI (i + 3)) (nI_add _ _) ?_
  refine s_scrI (zdk hL_law_11 46 rfl) (nI_in2 (by omega) (by omega)) ?_
  refine s_topi (b := a3) ha3 ?_
  refine s_callV1 (ci := 9) [.int a1, .int a2, .int a3] (zdk hL_law_11 47 rfl) cw_L_184 hK1 (by decide) rfl rfl rfl (Nat.le_of_ble_eq_true rfl) ⟨by omega, (by have e : yL mX9_step = 4 := rfl; rw [e]; omega)⟩ h9 ?_
  intro v2 M2 q2
  obtain ⟨b9, e2, b, rfl, hth, hout, hI2⟩ := q2
  obtain rfl := Sum.inl.inj e2
  refine s_istore (zdk hL_law_11 48 rfl) (Nat.le_of_ble_eq_true rfl) ?_
  refine s_ls (ls' := [some (.ref 2000000), some (.ref 0), some (.ref 941), some (.ref 956), some (.int (nI i)), some (.int x), some (.int b), x7, x8]) rfl ?_
  refine s_aload_n (zdk hL_law_11 49 rfl) rfl ?_
  refine s_callV0 (ci := 9) [] (zdk hL_law_11 50 rfl) cw_L_118 hI2.m9 (by decide) rfl rfl rfl (Nat.le_of_ble_eq_true rfl) (by decide) (c_thr hl hI2) ?_
  refine s_topi (b := x) hth ?_
  refine s_iload (zdk hL_law_11 51 rfl) rfl ?_
  refine s_icmp_eq 1264 (zdk hL_law_11 52 rfl) (by decide) (fun _ => ?_) (fun c => absurd rfl c)
  refine s_iload (zdk hL_law_11 55 rfl) rfl ?_
  refine s_if_ne 1281 (zdk hL_law_11 56 rfl) (by decide) (fun c => ?_) (fun c => ?_)
  · refine s_goto 2182 (zdk hL_law_12 6 rfl) (by decide) ?_
    exact kk _ _ _ _ _ hI2
  · refine s_aload_n (zdk hL_law_11 57 rfl) rfl ?_
    refine s_iconstv (v := nI 0) (zdk hL_law_11 58 rfl) zc_iconst_0 ?_
    refine s_laloadN (N := 1) (j := 0) (zdk hL_law_11 59 rfl) hI2.o.1 hI2.o.2.1 (by decide) (by decide) ?_
    refine s_topl (b := b.toInt64) (hout c) ?_
    refine s_iload (zdk hL_law_12 0 rfl) rfl ?_
    refine s_i2l (zdk hL_law_12 1 rfl) ?_
    refine s_lcmp (zdk hL_law_12 2 rfl) ?_
    refine s_topi (b := 0) (lg_self _) ?_
    refine s_if_eq 1281 (zdk hL_law_12 3 rfl) (by decide) (fun _ => ?_) (fun c => absurd rfl c)
    refine s_goto 2182 (zdk hL_law_12 6 rfl) (by decide) ?_
    exact kk _ _ _ _ _ hI2
theorem w_L_saving (hl : l.stackTraces = false) (hN : (gX G).2.1 ≤ 3072) {M : zMem} (hI : INV M) {i : Nat} (hi : i + 6 ≤ (gX G).2.1) {bc bs : Nat} {x5 x6 x7 x8 : Option Value} {Q : zOut → zMem → Prop} (kk : ∀ (M' : zMem) (y5 y6 y7 y8 : Option Value), INV M' → zS l G mL_law 13 478 bc bs 2182 [some (.ref 2000000), some (.ref 0), some (.ref 941), some (.ref 956), some (.int (nI i)), y5, y6, y7, y8] [] M' Q) : zS l G mL_law 13 478 (5 + bc) (30 + bs) 1284 [some (.ref 2000000), some (.ref 0), some (.ref 941), some (.ref 956), some (.int (nI i)), x5, x6, x7, x8] [] M Q := by
  obtain ⟨a1, ha1⟩ : ∃ a, (gX G).2.2 (nI (i + 1)).toNatClampNeg = a := ⟨_, rfl⟩
  refine s_aload_n (zdk hL_law_12 7 rfl) rfl ?_
  refine s_aload_n (zdk hL_law_12 8 rfl) rfl ?_
  refine s_iload (zdk hL_law_12 9 rfl) rfl ?_
  refine s_iconstv (v := nI 1) (zdk hL_law_12 10 rfl) zc_iconst_1 ?_
  refine s_iadd (zdk hL_law_12 11 rfl) ?_
  refine s_topi (b := nI (i + 1)) (nI_add _ _) ?_
  refine s_scrI (zdk hL_law_12 12 rfl) (nI_in2 (by omega) (by omega)) ?_
  refine s_topi (b := a1) ha1 ?_
  refine s_aload_n (zdk hL_law_12 13 rfl) rfl ?_
  refine s_callSH (as := [.ref 0, .int a1, .ref 956]) (st := []) (mc := 5) (ms := 30) (bc := bc) (bs := bs) (zdk hL_law_12 14 rfl) cw_L_185 rfl (Nat.le_of_ble_eq_true rfl) (by decide) (op_saving hl hI a1) (fun v1 M1 q1 => ?_)
  obtain ⟨x, e1, hK1, fr1, lo1, hr1, h9⟩ := q1
  obtain rfl := Sum.inl.inj e1
  refine s_istore (zdk hL_law_12 15 rfl) (Nat.le_of_ble_eq_true rfl) ?_
  refine s_ls (ls' := [some (.ref 2000000), some (.ref 0), some (.ref 941), some (.ref 956), some (.int (nI i)), some (.int x), x6, x7, x8]) rfl ?_
  refine s_aload_n (zdk hL_law_12 16 rfl) rfl ?_
  refine s_aload_n (zdk hL_law_12 17 rfl) rfl ?_
  refine s_iload (zdk hL_law_12 18 rfl) rfl ?_
  refine s_iconstv (v := nI 1) (zdk hL_law_12 19 rfl) zc_iconst_1 ?_
  refine s_iadd (zdk hL_law_12 20 rfl) ?_
  refine s_topi (b := nI (i + 1)) (nI_add _ _) ?_
  refine s_scrI (zdk hL_law_12 21 rfl) (nI_in2 (by omega) (by omega)) ?_
  refine s_topi (b := a1) ha1 ?_
  refine s_callV1 (ci := 9) [.int a1] (zdk hL_law_12 22 rfl) cw_L_187 hK1 (by decide) rfl rfl rfl (Nat.le_of_ble_eq_true rfl) ⟨by omega, (by have e : yL mX9_saving = 2 := rfl; rw [e]; omega)⟩ h9 ?_
  intro v2 M2 q2
  obtain ⟨b9, e2, b, rfl, hth, hout, hI2⟩ := q2
  obtain rfl := Sum.inl.inj e2
  refine s_lstore (zdk hL_law_12 23 rfl) (Nat.le_of_ble_eq_true rfl) ?_
  refine s_ls (ls' := [some (.ref 2000000), some (.ref 0), some (.ref 941), some (.ref 956), some (.int (nI i)), some (.int x), some (.long b), none, x8]) rfl ?_
  refine s_aload_n (zdk hL_law_12 24 rfl) rfl ?_
  refine s_callV0 (ci := 9) [] (zdk hL_law_12 25 rfl) cw_L_118 hI2.m9 (by decide) rfl rfl rfl (Nat.le_of_ble_eq_true rfl) (by decide) (c_thr hl hI2) ?_
  refine s_topi (b := x) hth ?_
  refine s_iload (zdk hL_law_12 26 rfl) rfl ?_
  refine s_icmp_eq 1320 (zdk hL_law_12 27 rfl) (by decide) (fun _ => ?_) (fun c => absurd rfl c)
  refine s_iload (zdk hL_law_12 30 rfl) rfl ?_
  refine s_if_ne 1336 (zdk hL_law_12 31 rfl) (by decide) (fun c => ?_) (fun c => ?_)
  · refine s_goto 2182 (zdk hL_law_12 40 rfl) (by decide) ?_
    exact kk _ _ _ _ _ hI2
  · refine s_aload_n (zdk hL_law_12 32 rfl) rfl ?_
    refine s_iconstv (v := nI 0) (zdk hL_law_12 33 rfl) zc_iconst_0 ?_
    refine s_laloadN (N := 1) (j := 0) (zdk hL_law_12 34 rfl) hI2.o.1 hI2.o.2.1 (by decide) (by decide) ?_
    refine s_topl (b := b) (hout c) ?_
    refine s_lload (zdk hL_law_12 35 rfl) rfl ?_
    refine s_lcmp (zdk hL_law_12 36 rfl) ?_
    refine s_topi (b := 0) (lg_self _) ?_
    refine s_if_eq 1336 (zdk hL_law_12 37 rfl) (by decide) (fun _ => ?_) (fun c => absurd rfl c)
    refine s_goto 2182 (zdk hL_law_12 40 rfl) (by decide) ?_
    exact kk _ _ _ _ _ hI2
theorem w_L_withRoom (hl : l.stackTraces = false) (hN : (gX G).2.1 ≤ 3072) {M : zMem} (hI : INV M) {i : Nat} (hi : i + 6 ≤ (gX G).2.1) {bc bs : Nat} {x5 x6 x7 x8 : Option Value} {Q : zOut → zMem → Prop} (kk : ∀ (M' : zMem) (y5 y6 y7 y8 : Option Value), INV M' → zS l G mL_law 13 478 bc bs 2182 [some (.ref 2000000), some (.ref 0), some (.ref 941), some (.ref 956), some (.int (nI i)), y5, y6, y7, y8] [] M' Q) : zS l G mL_law 13 478 (5 + bc) (30 + bs) 1339 [some (.ref 2000000), some (.ref 0), some (.ref 941), some (.ref 956), some (.int (nI i)), x5, x6, x7, x8] [] M Q := by
  obtain ⟨a1, ha1⟩ : ∃ a, (gX G).2.2 (nI (i + 1)).toNatClampNeg = a := ⟨_, rfl⟩
  obtain ⟨a2, ha2⟩ : ∃ a, (gX G).2.2 (nI (i + 2)).toNatClampNeg = a := ⟨_, rfl⟩
  obtain ⟨a3, ha3⟩ : ∃ a, (gX G).2.2 (nI (i + 3)).toNatClampNeg = a := ⟨_, rfl⟩
  refine s_aload_n (zdk hL_law_12 41 rfl) rfl ?_
  refine s_aload_n (zdk hL_law_12 42 rfl) rfl ?_
  refine s_iload (zdk hL_law_12 43 rfl) rfl ?_
  refine s_iconstv (v := nI 1) (zdk hL_law_12 44 rfl) zc_iconst_1 ?_
  refine s_iadd (zdk hL_law_12 45 rfl) ?_
  refine s_topi (b := nI (i + 1)) (nI_add _ _) ?_
  refine s_scrI (zdk hL_law_12 46 rfl) (nI_in2 (by omega) (by omega)) ?_
  refine s_topi (b := a1) ha1 ?_
  refine s_aload_n (zdk hL_law_12 47 rfl) rfl ?_
  refine s_iload (zdk hL_law_12 48 rfl) rfl ?_
  refine s_iconstv (v := nI 2) (zdk hL_law_12 49 rfl) zc_iconst_2 ?_
  refine s_iadd (zdk hL_law_12 50 rfl) ?_
  refine s_topi (b := nI (i + 2)) (nI_add _ _) ?_
  refine s_scrI (zdk hL_law_12 51 rfl) (nI_in2 (by omega) (by omega)) ?_
  refine s_topi (b := a2) ha2 ?_
  refine s_aload_n (zdk hL_law_12 52 rfl) rfl ?_
  refine s_iload (zdk hL_law_12 53 rfl) rfl ?_
  refine s_iconstv (v := nI 3) (zdk hL_law_12 54 rfl) zc_iconst_3 ?_
  refine s_iadd (zdk hL_law_12 55 rfl) ?_
  refine s_topi (b := nI (i + 3)) (nI_add _ _) ?_
  refine s_scrI (zdk hL_law_12 56 rfl) (nI_in2 (by omega) (by omega)) ?_
  refine s_topi (b := a3) ha3 ?_
  refine s_aload_n (zdk hL_law_12 57 rfl) rfl ?_
  refine s_callSH (as := [.ref 0, .int a1, .int a2, .int a3, .ref 956]) (st := []) (mc := 5) (ms := 30) (bc := bc) (bs := bs) (zdk hL_law_12 58 rfl) cw_L_188 rfl (Nat.le_of_ble_eq_true rfl) (by decide) (op_withRoom hl hI a1 a2 a3) (fun v1 M1 q1 => ?_)
  obtain ⟨x, e1, hK1, fr1, lo1, hr1, h9⟩ := q1
  obtain rfl := Sum.inl.inj e1
  refine s_istore (zdk hL_law_12 59 rfl) (Nat.le_of_ble_eq_true rfl) ?_
  refine s_ls (ls' := [some (.ref 2000000), some (.ref 0), some (.ref 941), some (.ref 956), some (.int (nI i)), some (.int x), x6, x7, x8]) rfl ?_
  refine s_aload_n (zdk hL_law_13 0 rfl) rfl ?_
  refine s_aload_n (zdk hL_law_13 1 rfl) rfl ?_
  refine s_iload (zdk hL_law_13 2 rfl) rfl ?_
  refine s_iconstv (v := nI 1) (zdk hL_law_13 3 rfl) zc_iconst_1 ?_
  refine s_iadd (zdk hL_law_13 4 rfl) ?_
  refine s_topi (b := nI (i + 1)) (nI_add _ _) ?_
  refine s_scrI (zdk hL_law_13 5 rfl) (nI_in2 (by omega) (by omega)) ?_
  refine s_topi (b := a1) ha1 ?_
  refine s_aload_n (zdk hL_law_13 6 rfl) rfl ?_
  refine s_iload (zdk hL_law_13 7 rfl) rfl ?_
  refine s_iconstv (v := nI 2) (zdk hL_law_13 8 rfl) zc_iconst_2 ?_
  refine s_iadd (zdk hL_law_13 9 rfl) ?_
  refine s_topi (b := nI (i + 2)) (nI_add _ _) ?_
  refine s_scrI (zdk hL_law_13 10 rfl) (nI_in2 (by omega) (by omega)) ?_
  refine s_topi (b := a2) ha2 ?_
  refine s_aload_n (zdk hL_law_13 11 rfl) rfl ?_
  refine s_iload (zdk hL_law_13 12 rfl) rfl ?_
  refine s_iconstv (v := nI 3) (zdk hL_law_13 13 rfl) zc_iconst_3 ?_
  refine s_iadd (zdk hL_law_13 14 rfl) ?_
  refine s_topi (b := nI (i + 3)) (nI_add _ _) ?_
  refine s_scrI (zdk hL_law_13 15 rfl) (nI_in2 (by omega) (by omega)) ?_
  refine s_topi (b := a3) ha3 ?_
  refine s_callV1 (ci := 9) [.int a1, .int a2, .int a3] (zdk hL_law_13 16 rfl) cw_L_190 hK1 (by decide) rfl rfl rfl (Nat.le_of_ble_eq_true rfl) ⟨by omega, (by have e : yL mX9_withRoom = 6 := rfl; rw [e]; omega)⟩ h9 ?_
  intro v2 M2 q2
  obtain ⟨b9, e2, b, rfl, hth, hout, hI2⟩ := q2
  obtain rfl := Sum.inl.inj e2
  refine s_lstore (zdk hL_law_13 17 rfl) (Nat.le_of_ble_eq_true rfl) ?_
  refine s_ls (ls' := [some (.ref 2000000), some (.ref 0), some (.ref 941), some (.ref 956), some (.int (nI i)), some (.int x), some (.long b), none, x8]) rfl ?_
  refine s_aload_n (zdk hL_law_13 18 rfl) rfl ?_
  refine s_callV0 (ci := 9) [] (zdk hL_law_13 19 rfl) cw_L_118 hI2.m9 (by decide) rfl rfl rfl (Nat.le_of_ble_eq_true rfl) (by decide) (c_thr hl hI2) ?_
  refine s_topi (b := x) hth ?_
  refine s_iload (zdk hL_law_13 20 rfl) rfl ?_
  refine s_icmp_eq 1399 (zdk hL_law_13 21 rfl) (by decide) (fun _ => ?_) (fun c => absurd rfl c)
  refine s_iload (zdk hL_law_13 24 rfl) rfl ?_
  refine s_if_ne 1415 (zdk hL_law_13 25 rfl) (by decide) (fun c => ?_) (fun c => ?_)
  · refine s_goto 2182 (zdk hL_law_13 34 rfl) (by decide) ?_
    exact kk _ _ _ _ _ hI2
  · refine s_aload_n (zdk hL_law_13 26 rfl) rfl ?_
    refine s_iconstv (v := nI 0) (zdk hL_law_13 27 rfl) zc_iconst_0 ?_
    refine s_laloadN (N := 1) (j := 0) (zdk hL_law_13 28 rfl) hI2.o.1 hI2.o.2.1 (by decide) (by decide) ?_
    refine s_topl (b := b) (hout c) ?_
    refine s_lload (zdk hL_law_13 29 rfl) rfl ?_
    refine s_lcmp (zdk hL_law_13 30 rfl) ?_
    refine s_topi (b := 0) (lg_self _) ?_
    refine s_if_eq 1415 (zdk hL_law_13 31 rfl) (by decide) (fun _ => ?_) (fun c => absurd rfl c)
    refine s_goto 2182 (zdk hL_law_13 34 rfl) (by decide) ?_
    exact kk _ _ _ _ _ hI2
theorem w_L_add (hl : l.stackTraces = false) (hN : (gX G).2.1 ≤ 3072) {M : zMem} (hI : INV M) {i : Nat} (hi : i + 6 ≤ (gX G).2.1) {bc bs : Nat} {x5 x6 x7 x8 : Option Value} {Q : zOut → zMem → Prop} (kk : ∀ (M' : zMem) (y5 y6 y7 y8 : Option Value), INV M' → zS l G mL_law 13 478 bc bs 2182 [some (.ref 2000000), some (.ref 0), some (.ref 941), some (.ref 956), some (.int (nI i)), y5, y6, y7, y8] [] M' Q) : zS l G mL_law 13 478 (5 + bc) (30 + bs) 1418 [some (.ref 2000000), some (.ref 0), some (.ref 941), some (.ref 956), some (.int (nI i)), x5, x6, x7, x8] [] M Q := by
  obtain ⟨a1, ha1⟩ : ∃ a, (gX G).2.2 (nI (i + 1)).toNatClampNeg = a := ⟨_, rfl⟩
  obtain ⟨a2, ha2⟩ : ∃ a, (gX G).2.2 (nI (i + 2)).toNatClampNeg = a := ⟨_, rfl⟩
  refine s_aload_n (zdk hL_law_13 35 rfl) rfl ?_
  refine s_aload_n (zdk hL_law_13 36 rfl) rfl ?_
  refine s_iload (zdk hL_law_13 37 rfl) rfl ?_
  refine s_iconstv (v := nI 1) (zdk hL_law_13 38 rfl) zc_iconst_1 ?_
  refine s_iadd (zdk hL_law_13 39 rfl) ?_
  refine s_topi (b := nI (i + 1)) (nI_add _ _) ?_
  refine s_scrI (zdk hL_law_13 40 rfl) (nI_in2 (by omega) (by omega)) ?_
  refine s_topi (b := a1) ha1 ?_
  refine s_aload_n (zdk hL_law_13 41 rfl) rfl ?_
  refine s_iload (zdk hL_law_13 42 rfl) rfl ?_
  refine s_iconstv (v := nI 2) (zdk hL_law_13 43 rfl) zc_iconst_2 ?_
  refine s_iadd (zdk hL_law_13 44 rfl) ?_
  refine s_topi (b := nI (i + 2)) (nI_add _ _) ?_
  refine s_scrI (zdk hL_law_13 45 rfl) (nI_in2 (by omega) (by omega)) ?_
  refine s_topi (b := a2) ha2 ?_
  refine s_aload_n (zdk hL_law_13 46 rfl) rfl ?_
  refine s_callSH (as := [.ref 0, .int a1, .int a2, .ref 956]) (st := []) (mc := 5) (ms := 30) (bc := bc) (bs := bs) (zdk hL_law_13 47 rfl) cw_L_191 rfl (Nat.le_of_ble_eq_true rfl) (by decide) (op_add hl hI a1 a2) (fun v1 M1 q1 => ?_)
  obtain ⟨x, e1, hK1, fr1, lo1, hr1, h9⟩ := q1
  obtain rfl := Sum.inl.inj e1
  refine s_istore (zdk hL_law_13 48 rfl) (Nat.le_of_ble_eq_true rfl) ?_
  refine s_ls (ls' := [some (.ref 2000000), some (.ref 0), some (.ref 941), some (.ref 956), some (.int (nI i)), some (.int x), x6, x7, x8]) rfl ?_
  refine s_aload_n (zdk hL_law_13 49 rfl) rfl ?_
  refine s_aload_n (zdk hL_law_13 50 rfl) rfl ?_
  refine s_iload (zdk hL_law_13 51 rfl) rfl ?_
  refine s_iconstv (v := nI 1) (zdk hL_law_13 52 rfl) zc_iconst_1 ?_
  refine s_iadd (zdk hL_law_13 53 rfl) ?_
  refine s_topi (b := nI (i + 1)) (nI_add _ _) ?_
  refine s_scrI (zdk hL_law_13 54 rfl) (nI_in2 (by omega) (by omega)) ?_
  refine s_topi (b := a1) ha1 ?_
  refine s_aload_n (zdk hL_law_13 55 rfl) rfl ?_
  refine s_iload (zdk hL_law_13 56 rfl) rfl ?_
  refine s_iconstv (v := nI 2) (zdk hL_law_13 57 rfl) zc_iconst_2 ?_
  refine s_iadd (zdk hL_law_13 58 rfl) ?_
  refine s_topi (b := nI (i + 2)) (nI_add _ _) ?_
  refine s_scrI (zdk hL_law_13 59 rfl) (nI_in2 (by omega) (by omega)) ?_
  refine s_topi (b := a2) ha2 ?_
  refine s_callV1 (ci := 9) [.int a1, .int a2] (zdk hL_law_14 0 rfl) cw_L_193 hK1 (by decide) rfl rfl rfl (Nat.le_of_ble_eq_true rfl) ⟨by omega, (by have e : yL mX9_add = 4 := rfl; rw [e]; omega)⟩ h9 ?_
  intro v2 M2 q2
  obtain ⟨b9, e2, b, rfl, hth, hout, hI2⟩ := q2
  obtain rfl := Sum.inl.inj e2
  refine s_istore (zdk hL_law_14 1 rfl) (Nat.le_of_ble_eq_true rfl) ?_
  refine s_ls (ls' := [some (.ref 2000000), some (.ref 0), some (.ref 941), some (.ref 956), some (.int (nI i)), some (.int x), some (.int b), x7, x8]) rfl ?_
  refine s_aload_n (zdk hL_law_14 2 rfl) rfl ?_
  refine s_callV0 (ci := 9) [] (zdk hL_law_14 3 rfl) cw_L_118 hI2.m9 (by decide) rfl rfl rfl (Nat.le_of_ble_eq_true rfl) (by decide) (c_thr hl hI2) ?_
  refine s_topi (b := x) hth ?_
  refine s_iload (zdk hL_law_14 4 rfl) rfl ?_
  refine s_icmp_eq 1466 (zdk hL_law_14 5 rfl) (by decide) (fun _ => ?_) (fun c => absurd rfl c)
  refine s_iload (zdk hL_law_14 8 rfl) rfl ?_
  refine s_if_ne 1483 (zdk hL_law_14 9 rfl) (by decide) (fun c => ?_) (fun c => ?_)
  · refine s_goto 2182 (zdk hL_law_14 19 rfl) (by decide) ?_
    exact kk _ _ _ _ _ hI2
  · refine s_aload_n (zdk hL_law_14 10 rfl) rfl ?_
    refine s_iconstv (v := nI 0) (zdk hL_law_14 11 rfl) zc_iconst_0 ?_
    refine s_laloadN (N := 1) (j := 0) (zdk hL_law_14 12 rfl) hI2.o.1 hI2.o.2.1 (by decide) (by decide) ?_
    refine s_topl (b := b.toInt64) (hout c) ?_
    refine s_iload (zdk hL_law_14 13 rfl) rfl ?_
    refine s_i2l (zdk hL_law_14 14 rfl) ?_
    refine s_lcmp (zdk hL_law_14 15 rfl) ?_
    refine s_topi (b := 0) (lg_self _) ?_
    refine s_if_eq 1483 (zdk hL_law_14 16 rfl) (by decide) (fun _ => ?_) (fun c => absurd rfl c)
    refine s_goto 2182 (zdk hL_law_14 19 rfl) (by decide) ?_
    exact kk _ _ _ _ _ hI2
theorem w_L_drop (hl : l.stackTraces = false) (hN : (gX G).2.1 ≤ 3072) {M : zMem} (hI : INV M) {i : Nat} (hi : i + 6 ≤ (gX G).2.1) {bc bs : Nat} {x5 x6 x7 x8 : Option Value} {Q : zOut → zMem → Prop} (kk : ∀ (M' : zMem) (y5 y6 y7 y8 : Option Value), INV M' → zS l G mL_law 13 478 bc bs 2182 [some (.ref 2000000), some (.ref 0), some (.ref 941), some (.ref 956), some (.int (nI i)), y5, y6, y7, y8] [] M' Q) : zS l G mL_law 13 478 (5 + bc) (30 + bs) 1486 [some (.ref 2000000), some (.ref 0), some (.ref 941), some (.ref 956), some (.int (nI i)), x5, x6, x7, x8] [] M Q := by
  obtain ⟨a1, ha1⟩ : ∃ a, (gX G).2.2 (nI (i + 1)).toNatClampNeg = a := ⟨_, rfl⟩
  refine s_aload_n (zdk hL_law_14 20 rfl) rfl ?_
  refine s_aload_n (zdk hL_law_14 21 rfl) rfl ?_
  refine s_iload (zdk hL_law_14 22 rfl) rfl ?_
  refine s_iconstv (v := nI 1) (zdk hL_law_14 23 rfl) zc_iconst_1 ?_
  refine s_iadd (zdk hL_law_14 24 rfl) ?_
  refine s_topi (b := nI (i + 1)) (nI_add _ _) ?_
  refine s_scrI (zdk hL_law_14 25 rfl) (nI_in2 (by omega) (by omega)) ?_
  refine s_topi (b := a1) ha1 ?_
  refine s_aload_n (zdk hL_law_14 26 rfl) rfl ?_
  refine s_callSH (as := [.ref 0, .int a1, .ref 956]) (st := []) (mc := 5) (ms := 30) (bc := bc) (bs := bs) (zdk hL_law_14 27 rfl) cw_L_194 rfl (Nat.le_of_ble_eq_true rfl) (by decide) (op_drop hl hI a1) (fun v1 M1 q1 => ?_)
  obtain ⟨x, e1, hK1, fr1, lo1, hr1, h9⟩ := q1
  obtain rfl := Sum.inl.inj e1
  refine s_istore (zdk hL_law_14 28 rfl) (Nat.le_of_ble_eq_true rfl) ?_
  refine s_ls (ls' := [some (.ref 2000000), some (.ref 0), some (.ref 941), some (.ref 956), some (.int (nI i)), some (.int x), x6, x7, x8]) rfl ?_
  refine s_aload_n (zdk hL_law_14 29 rfl) rfl ?_
  refine s_aload_n (zdk hL_law_14 30 rfl) rfl ?_
  refine s_iload (zdk hL_law_14 31 rfl) rfl ?_
  refine s_iconstv (v := nI 1) (zdk hL_law_14 32 rfl) zc_iconst_1 ?_
  refine s_iadd (zdk hL_law_14 33 rfl) ?_
  refine s_topi (b := nI (i + 1)) (nI_add _ _) ?_
  refine s_scrI (zdk hL_law_14 34 rfl) (nI_in2 (by omega) (by omega)) ?_
  refine s_topi (b := a1) ha1 ?_
  refine s_callV1 (ci := 9) [.int a1] (zdk hL_law_14 35 rfl) cw_L_196 hK1 (by decide) rfl rfl rfl (Nat.le_of_ble_eq_true rfl) ⟨by omega, (by have e : yL mX9_drop = 7 := rfl; rw [e]; omega)⟩ h9 ?_
  intro v2 M2 q2
  obtain ⟨b9, e2, b, rfl, hth, hout, hI2⟩ := q2
  obtain rfl := Sum.inl.inj e2
  refine s_istore (zdk hL_law_14 36 rfl) (Nat.le_of_ble_eq_true rfl) ?_
  refine s_ls (ls' := [some (.ref 2000000), some (.ref 0), some (.ref 941), some (.ref 956), some (.int (nI i)), some (.int x), some (.int b), x7, x8]) rfl ?_
  refine s_aload_n (zdk hL_law_14 37 rfl) rfl ?_
  refine s_callV0 (ci := 9) [] (zdk hL_law_14 38 rfl) cw_L_118 hI2.m9 (by decide) rfl rfl rfl (Nat.le_of_ble_eq_true rfl) (by decide) (c_thr hl hI2) ?_
  refine s_topi (b := x) hth ?_
  refine s_iload (zdk hL_law_14 39 rfl) rfl ?_
  refine s_icmp_eq 1522 (zdk hL_law_14 40 rfl) (by decide) (fun _ => ?_) (fun c => absurd rfl c)
  refine s_iload (zdk hL_law_14 43 rfl) rfl ?_
  refine s_if_ne 1539 (zdk hL_law_14 44 rfl) (by decide) (fun c => ?_) (fun c => ?_)
  · refine s_goto 2182 (zdk hL_law_14 54 rfl) (by decide) ?_
    exact kk _ _ _ _ _ hI2
  · refine s_aload_n (zdk hL_law_14 45 rfl) rfl ?_
    refine s_iconstv (v := nI 0) (zdk hL_law_14 46 rfl) zc_iconst_0 ?_
    refine s_laloadN (N := 1) (j := 0) (zdk hL_law_14 47 rfl) hI2.o.1 hI2.o.2.1 (by decide) (by decide) ?_
    refine s_topl (b := b.toInt64) (hout c) ?_
    refine s_iload (zdk hL_law_14 48 rfl) rfl ?_
    refine s_i2l (zdk hL_law_14 49 rfl) ?_
    refine s_lcmp (zdk hL_law_14 50 rfl) ?_
    refine s_topi (b := 0) (lg_self _) ?_
    refine s_if_eq 1539 (zdk hL_law_14 51 rfl) (by decide) (fun _ => ?_) (fun c => absurd rfl c)
    refine s_goto 2182 (zdk hL_law_14 54 rfl) (by decide) ?_
    exact kk _ _ _ _ _ hI2
theorem w_L_use (hl : l.stackTraces = false) (hN : (gX G).2.1 ≤ 3072) {M : zMem} (hI : INV M) {i : Nat} (hi : i + 6 ≤ (gX G).2.1) {bc bs : Nat} {x5 x6 x7 x8 : Option Value} {Q : zOut → zMem → Prop} (kk : ∀ (M' : zMem) (y5 y6 y7 y8 : Option Value), INV M' → zS l G mL_law 13 478 bc bs 2182 [some (.ref 2000000), some (.ref 0), some (.ref 941), some (.ref 956), some (.int (nI i)), y5, y6, y7, y8] [] M' Q) : zS l G mL_law 13 478 (5 + bc) (30 + bs) 1542 [some (.ref 2000000), some (.ref 0), some (.ref 941), some (.ref 956), some (.int (nI i)), x5, x6, x7, x8] [] M Q := by
  obtain ⟨a1, ha1⟩ : ∃ a, (gX G).2.2 (nI (i + 1)).toNatClampNeg = a := ⟨_, rfl⟩
  obtain ⟨a2, ha2⟩ : ∃ a, (gX G).2.2 (nI (i + 2)).toNatClampNeg = a := ⟨_, rfl⟩
  refine s_aload_n (zdk hL_law_14 55 rfl) rfl ?_
  refine s_aload_n (zdk hL_law_14 56 rfl) rfl ?_
  refine s_iload (zdk hL_law_14 57 rfl) rfl ?_
  refine s_iconstv (v := nI 1) (zdk hL_law_14 58 rfl) zc_iconst_1 ?_
  refine s_iadd (zdk hL_law_14 59 rfl) ?_
  refine s_topi (b := nI (i + 1)) (nI_add _ _) ?_
  refine s_scrI (zdk hL_law_15 0 rfl) (nI_in2 (by omega) (by omega)) ?_
  refine s_topi (b := a1) ha1 ?_
  refine s_aload_n (zdk hL_law_15 1 rfl) rfl ?_
  refine s_iload (zdk hL_law_15 2 rfl) rfl ?_
  refine s_iconstv (v := nI 2) (zdk hL_law_15 3 rfl) zc_iconst_2 ?_
  refine s_iadd (zdk hL_law_15 4 rfl) ?_
  refine s_topi (b := nI (i + 2)) (nI_add _ _) ?_
  refine s_scrI (zdk hL_law_15 5 rfl) (nI_in2 (by omega) (by omega)) ?_
  refine s_topi (b := a2) ha2 ?_
  refine s_aload_n (zdk hL_law_15 6 rfl) rfl ?_
  refine s_callSH (as := [.ref 0, .int a1, .int a2, .ref 956]) (st := []) (mc := 5) (ms := 30) (bc := bc) (bs := bs) (zdk hL_law_15 7 rfl) cw_L_197 rfl (Nat.le_of_ble_eq_true rfl) (by decide) (op_use hl hI a1 a2) (fun v1 M1 q1 => ?_)
  obtain ⟨x, e1, hK1, fr1, lo1, hr1, h9⟩ := q1
  obtain rfl := Sum.inl.inj e1
  refine s_istore (zdk hL_law_15 8 rfl) (Nat.le_of_ble_eq_true rfl) ?_
  refine s_ls (ls' := [some (.ref 2000000), some (.ref 0), some (.ref 941), some (.ref 956), some (.int (nI i)), some (.int x), x6, x7, x8]) rfl ?_
  refine s_aload_n (zdk hL_law_15 9 rfl) rfl ?_
  refine s_aload_n (zdk hL_law_15 10 rfl) rfl ?_
  refine s_iload (zdk hL_law_15 11 rfl) rfl ?_
  refine s_iconstv (v := nI 1) (zdk hL_law_15 12 rfl) zc_iconst_1 ?_
  refine s_iadd (zdk hL_law_15 13 rfl) ?_
  refine s_topi (b := nI (i + 1)) (nI_add _ _) ?_
  refine s_scrI (zdk hL_law_15 14 rfl) (nI_in2 (by omega) (by omega)) ?_
  refine s_topi (b := a1) ha1 ?_
  refine s_aload_n (zdk hL_law_15 15 rfl) rfl ?_
  refine s_iload (zdk hL_law_15 16 rfl) rfl ?_
  refine s_iconstv (v := nI 2) (zdk hL_law_15 17 rfl) zc_iconst_2 ?_
  refine s_iadd (zdk hL_law_15 18 rfl) ?_
  refine s_topi (b := nI (i + 2)) (nI_add _ _) ?_
  refine s_scrI (zdk hL_law_15 19 rfl) (nI_in2 (by omega) (by omega)) ?_
  refine s_topi (b := a2) ha2 ?_
  refine s_callV1 (ci := 9) [.int a1, .int a2] (zdk hL_law_15 20 rfl) cw_L_199 hK1 (by decide) rfl rfl rfl (Nat.le_of_ble_eq_true rfl) ⟨by omega, (by have e : yL mX9_use = 3 := rfl; rw [e]; omega)⟩ h9 ?_
  intro v2 M2 q2
  obtain ⟨b9, e2, b, rfl, hth, hout, hI2⟩ := q2
  obtain rfl := Sum.inl.inj e2
  refine s_istore (zdk hL_law_15 21 rfl) (Nat.le_of_ble_eq_true rfl) ?_
  refine s_ls (ls' := [some (.ref 2000000), some (.ref 0), some (.ref 941), some (.ref 956), some (.int (nI i)), some (.int x), some (.int b), x7, x8]) rfl ?_
  refine s_aload_n (zdk hL_law_15 22 rfl) rfl ?_
  refine s_callV0 (ci := 9) [] (zdk hL_law_15 23 rfl) cw_L_118 hI2.m9 (by decide) rfl rfl rfl (Nat.le_of_ble_eq_true rfl) (by decide) (c_thr hl hI2) ?_
  refine s_topi (b := x) hth ?_
  refine s_iload (zdk hL_law_15 24 rfl) rfl ?_
  refine s_icmp_eq 1590 (zdk hL_law_15 25 rfl) (by decide) (fun _ => ?_) (fun c => absurd rfl c)
  refine s_iload (zdk hL_law_15 28 rfl) rfl ?_
  refine s_if_ne 1607 (zdk hL_law_15 29 rfl) (by decide) (fun c => ?_) (fun c => ?_)
  · refine s_goto 2182 (zdk hL_law_15 39 rfl) (by decide) ?_
    exact kk _ _ _ _ _ hI2
  · refine s_aload_n (zdk hL_law_15 30 rfl) rfl ?_
    refine s_iconstv (v := nI 0) (zdk hL_law_15 31 rfl) zc_iconst_0 ?_
    refine s_laloadN (N := 1) (j := 0) (zdk hL_law_15 32 rfl) hI2.o.1 hI2.o.2.1 (by decide) (by decide) ?_
    refine s_topl (b := b.toInt64) (hout c) ?_
    refine s_iload (zdk hL_law_15 33 rfl) rfl ?_
    refine s_i2l (zdk hL_law_15 34 rfl) ?_
    refine s_lcmp (zdk hL_law_15 35 rfl) ?_
    refine s_topi (b := 0) (lg_self _) ?_
    refine s_if_eq 1607 (zdk hL_law_15 36 rfl) (by decide) (fun _ => ?_) (fun c => absurd rfl c)
    refine s_goto 2182 (zdk hL_law_15 39 rfl) (by decide) ?_
    exact kk _ _ _ _ _ hI2
end
