/-! ===== plans: a step of the reference ===== -/
theorem sl_J {M : zMem} {a b j : Nat} {g : Nat → Int64} : zJ (zsL M a g) b j = if b = a then g j else zJ M b j := by
  show zur M.2.1 a g b j = _
  unfold zur
  split <;> rfl
theorem sj_J {M : zMem} {a k b j : Nat} {v : Int64} : zJ (zsJ M a k v) b j = if b = a then (if j = k then v else zJ M a j) else zJ M b j := by
  show zu M.2.1 a k v b j = _
  unfold zu
  split <;> rfl
theorem zRB_id (X : zMem) : zRB X (zI X 941 24, zI X 941 25, zI X 941 26, zJ X 941 28) = X := by
  unfold zRB zsJ zsI zI zJ
  congr 1
  · funext b k
    unfold zu
    by_cases q : b = 941
    · subst q
      by_cases h1 : k = 26
      · simp [h1]
      · by_cases h2 : k = 25
        · simp [h2]
        · by_cases h3 : k = 24 <;> simp [h1, h2, h3]
    · simp [q]
  · rw [zu_id]
def pX2 (X : zMem) (b : zBt) (c : Nat) (s : Int64) : zMem := zsJ (zsI (zsI (zsI (zsI (zRB X b) 949 c b.1) 950 c b.2.1) 951 c b.2.2.1) 941 23 (nI (c + 1))) 941 27 (s + b.2.2.2)
section
variable {l : Launch} {G : zG}
theorem w_X9_plans_105 (hl : l.stackTraces = false) {X : zMem} (hm : mSh X) {g : Nat → Int64} {f a t c : Nat} {s v : Int64} (hc : c < 20) (hf : f < 20) (ha : a < 4) (ht : t < 4) (h23 : zI X 941 23 = nI c) (h27 : zJ X 941 27 = s) (hpa : zI X 948 f = nI a) (n tt x : Int32) (x4 : Option Value) {Q : zOut → zMem → Prop} (kk : ∀ x4, zS l G mX9_plans 6 170 0 0 98 [some (.ref 941), some (.int n), some (.int tt), some (.int x), x4] [] (zsL (zGp (pX2 X (nI f, (-1), nI t, v) c s) f a t (gf g f 0)) 942 g) Q) : zS l G mX9_plans 6 170 0 0 105 [some (.ref 941), some (.int (n)), some (.int (tt)), some (.int (x)), x4] [] (zsL (zRB X (nI f, (-1), nI t, v)) 942 g) Q := by
  have hm2 : mSh X := hm
  refine s_aload_n (zdk hX9_plans_0 55 rfl) rfl ?_
  refine s_getR (zdk hX9_plans_0 56 rfl) fw_X9_37 rfl (hm.1) (show _ = some 949 from (hm.r (i := 7) rfl).1) ?_
  refine s_aload_n (zdk hX9_plans_0 57 rfl) rfl ?_
  refine s_getI (zdk hX9_plans_0 58 rfl) fw_X9_300 rfl (hm.1) ?_
  refine s_topi (b := nI c) (by simp [zRB, pX2, zGp, si_I, sj_I, zI_L, zI_J, zJ_I, sl_J, sj_J, h23, h27, hpa]) ?_
  refine s_aload_n (zdk hX9_plans_0 59 rfl) rfl ?_
  refine s_getI (zdk hX9_plans_1 0 rfl) fw_X9_278 rfl (hm.1) ?_
  refine s_topi (b := nI f) (by simp [zRB, pX2, zGp, si_I, sj_I, zI_L, zI_J, zJ_I, sl_J, sj_J, h23, h27, hpa]) ?_
  refine s_iastoreN (N := 20) (j := c) (zdk hX9_plans_1 1 rfl) ((hm.r (i := 7) rfl).2.1) ((hm.r (i := 7) rfl).2.2) (hc) (by decide) ?_
  refine s_mem (M' := (zsL (zsI (zRB X (nI f, (-1), nI t, v)) 949 c (nI f)) 942 g)) rfl ?_
  refine s_aload_n (zdk hX9_plans_1 2 rfl) rfl ?_
  refine s_getR (zdk hX9_plans_1 3 rfl) fw_X9_40 rfl (hm.1) (show _ = some 950 from (hm.r (i := 8) rfl).1) ?_
  refine s_aload_n (zdk hX9_plans_1 4 rfl) rfl ?_
  refine s_getI (zdk hX9_plans_1 5 rfl) fw_X9_300 rfl (hm.1) ?_
  refine s_topi (b := nI c) (by simp [zRB, pX2, zGp, si_I, sj_I, zI_L, zI_J, zJ_I, sl_J, sj_J, h23, h27, hpa]) ?_
  refine s_aload_n (zdk hX9_plans_1 6 rfl) rfl ?_
  refine s_getI (zdk hX9_plans_1 7 rfl) fw_X9_281 rfl (hm.1) ?_
  refine s_topi (b := (-1)) (by simp [zRB, pX2, zGp, si_I, sj_I, zI_L, zI_J, zJ_I, sl_J, sj_J, h23, h27, hpa]) ?_
  refine s_iastoreN (N := 20) (j := c) (zdk hX9_plans_1 8 rfl) ((hm.r (i := 8) rfl).2.1) ((hm.r (i := 8) rfl).2.2) (hc) (by decide) ?_
  refine s_mem (M' := (zsL (zsI (zsI (zRB X (nI f, (-1), nI t, v)) 949 c (nI f)) 950 c ((-1))) 942 g)) rfl ?_
  refine s_aload_n (zdk hX9_plans_1 9 rfl) rfl ?_
  refine s_getR (zdk hX9_plans_1 10 rfl) fw_X9_43 rfl (hm.1) (show _ = some 951 from (hm.r (i := 9) rfl).1) ?_
  refine s_aload_n (zdk hX9_plans_1 11 rfl) rfl ?_
  refine s_getI (zdk hX9_plans_1 12 rfl) fw_X9_300 rfl (hm.1) ?_
  refine s_topi (b := nI c) (by simp [zRB, pX2, zGp, si_I, sj_I, zI_L, zI_J, zJ_I, sl_J, sj_J, h23, h27, hpa]) ?_
  refine s_aload_n (zdk hX9_plans_1 13 rfl) rfl ?_
  refine s_getI (zdk hX9_plans_1 14 rfl) fw_X9_284 rfl (hm.1) ?_
  refine s_topi (b := nI t) (by simp [zRB, pX2, zGp, si_I, sj_I, zI_L, zI_J, zJ_I, sl_J, sj_J, h23, h27, hpa]) ?_
  refine s_iastoreN (N := 20) (j := c) (zdk hX9_plans_1 15 rfl) ((hm.r (i := 9) rfl).2.1) ((hm.r (i := 9) rfl).2.2) (hc) (by decide) ?_
  refine s_mem (M' := (zsL (zsI (zsI (zsI (zRB X (nI f, (-1), nI t, v)) 949 c (nI f)) 950 c ((-1))) 951 c (nI t)) 942 g)) rfl ?_
  refine s_aload_n (zdk hX9_plans_1 16 rfl) rfl ?_
  refine s_dupr (zdk hX9_plans_1 17 rfl) ?_
  refine s_getI (zdk hX9_plans_1 18 rfl) fw_X9_300 rfl (hm.1) ?_
  refine s_topi (b := nI c) (by simp [zRB, pX2, zGp, si_I, sj_I, zI_L, zI_J, zJ_I, sl_J, sj_J, h23, h27, hpa]) ?_
  refine s_iconstv (v := nI 1) (zdk hX9_plans_1 19 rfl) zc_iconst_1 ?_
  refine s_iadd (zdk hX9_plans_1 20 rfl) ?_
  refine s_topi (b := nI (c + 1)) (nI_add _ _) ?_
  refine s_putI (zdk hX9_plans_1 21 rfl) fw_X9_300 rfl pw_9_23 (hm.1) ?_
  refine s_mem (M' := (zsL (zsI (zsI (zsI (zsI (zRB X (nI f, (-1), nI t, v)) 949 c (nI f)) 950 c ((-1))) 951 c (nI t)) 941 23 (nI (c + 1))) 942 g)) rfl ?_
  refine s_aload_n (zdk hX9_plans_1 22 rfl) rfl ?_
  refine s_dupr (zdk hX9_plans_1 23 rfl) ?_
  refine s_getJ (zdk hX9_plans_1 24 rfl) fw_X9_303 rfl (hm.1) ?_
  refine s_topl (b := s) (by simp [zRB, pX2, zGp, si_I, sj_I, zI_L, zI_J, zJ_I, sl_J, sj_J, h23, h27, hpa]) ?_
  refine s_aload_n (zdk hX9_plans_1 25 rfl) rfl ?_
  refine s_getJ (zdk hX9_plans_1 26 rfl) fw_X9_274 rfl (hm.1) ?_
  refine s_topl (b := v) (by simp [zRB, pX2, zGp, si_I, sj_I, zI_L, zI_J, zJ_I, sl_J, sj_J, h23, h27, hpa]) ?_
  refine s_ladd (zdk hX9_plans_1 27 rfl) ?_
  refine s_putJ (zdk hX9_plans_1 28 rfl) fw_X9_303 rfl pw_9_27 (hm.1) ?_
  refine s_mem (M' := (zsL (zsJ (zsI (zsI (zsI (zsI (zRB X (nI f, (-1), nI t, v)) 949 c (nI f)) 950 c ((-1))) 951 c (nI t)) 941 23 (nI (c + 1))) 941 27 ((s) + (v))) 942 g)) (zsL_Jn (a := 942) (b := 941) (by decide)) ?_
  refine s_mem (M' := (zsL (pX2 X (nI f, (-1), nI t, v) c s) 942 g)) (by first | rfl | skip) ?_
  refine s_aload_n (zdk hX9_plans_1 29 rfl) rfl ?_
  refine s_getR (zdk hX9_plans_1 30 rfl) fw_X9_34 rfl (hm.1) (show _ = some 948 from (hm.r (i := 6) rfl).1) ?_
  refine s_aload_n (zdk hX9_plans_1 31 rfl) rfl ?_
  refine s_getI (zdk hX9_plans_1 32 rfl) fw_X9_278 rfl (hm.1) ?_
  refine s_topi (b := nI f) (by simp [zRB, pX2, zGp, si_I, sj_I, zI_L, zI_J, zJ_I, sl_J, sj_J, h23, h27, hpa]) ?_
  refine s_ialoadN (N := 20) (j := f) (zdk hX9_plans_1 33 rfl) ((hm.r (i := 6) rfl).2.1) ((hm.r (i := 6) rfl).2.2) (by omega) (by decide) ?_
  refine s_topi (b := nI a) (by simp [zRB, pX2, zGp, si_I, sj_I, zI_L, zI_J, zJ_I, sl_J, sj_J, h23, h27, hpa]) ?_
  refine s_istore (zdk hX9_plans_1 34 rfl) (Nat.le_of_ble_eq_true rfl) ?_
  refine s_ls (ls' := [some (.ref 941), some (.int (n)), some (.int (tt)), some (.int (x)), some (.int (nI a))]) rfl ?_
  refine s_aload_n (zdk hX9_plans_1 35 rfl) rfl ?_
  refine s_aload_n (zdk hX9_plans_1 36 rfl) rfl ?_
  refine s_getI (zdk hX9_plans_1 37 rfl) fw_X9_278 rfl (hm.1) ?_
  refine s_topi (b := nI f) (by simp [zRB, pX2, zGp, si_I, sj_I, zI_L, zI_J, zJ_I, sl_J, sj_J, h23, h27, hpa]) ?_
  refine s_aload_n (zdk hX9_plans_1 38 rfl) rfl ?_
  refine s_getI (zdk hX9_plans_1 39 rfl) fw_X9_284 rfl (hm.1) ?_
  refine s_topi (b := nI t) (by simp [zRB, pX2, zGp, si_I, sj_I, zI_L, zI_J, zJ_I, sl_J, sj_J, h23, h27, hpa]) ?_
  refine s_callV0 (ci := 9) [.int (nI f), .int (nI t)] (zdk hX9_plans_1 40 rfl) cw_X9_310 (hm.1) (by decide) rfl rfl rfl (Nat.le_of_ble_eq_true rfl) (by decide) (c_X9_goesOnPaper hl (M := (pX2 X (nI f, (-1), nI t, v) c s)) hm2 (f := f) (a := a) (t := t) (by omega) (by omega) (by omega) (by simp [zRB, pX2, zGp, si_I, sj_I, zI_L, zI_J, zJ_I, sl_J, sj_J, h23, h27, hpa])) ?_
  refine s_aload_n (zdk hX9_plans_1 41 rfl) rfl ?_
  refine s_getI (zdk hX9_plans_1 42 rfl) fw_X9_281 rfl (hm.1) ?_
  refine s_topi (b := (-1)) (by simp [zRB, pX2, zGp, si_I, sj_I, zI_L, zI_J, zJ_I, sl_J, sj_J, h23, h27, hpa]) ?_
  refine s_iconstv (v := (-1)) (zdk hX9_plans_1 43 rfl) zc_iconst_m1 ?_
  refine s_icmp_eq 208 (zdk hX9_plans_1 44 rfl) (by decide) (fun c195 => ?_) (fun c195 => ?_)
  · refine s_goto 98 (zdk hX9_plans_1 50 rfl) (by decide) ?_
    exact kk _
  · exact absurd rfl c195
theorem w_X9_plans_105x (hl : l.stackTraces = false) {X : zMem} (hm : mSh X) {g : Nat → Int64} {f a t c : Nat} {s v : Int64} (hc : c < 20) (hf : f < 20) (ha : a < 4) (ht : t < 4) (h23 : zI X 941 23 = nI c) (h27 : zJ X 941 27 = s) (hpa : zI X 948 f = nI a) {j a2 : Nat} (hj : j < 20) (ha2 : a2 < 4) (hpa2 : zI X 948 j = nI a2) (hjf : j ≠ f) (n tt x : Int32) (x4 : Option Value) {Q : zOut → zMem → Prop} (kk : ∀ x4, zS l G mX9_plans 6 170 0 0 98 [some (.ref 941), some (.int n), some (.int tt), some (.int x), x4] [] (zsL (zGp (zGp (pX2 X (nI f, nI j, nI t, v) c s) f a t (gf g f 0)) j a2 a (gf g j 0)) 942 g) Q) : zS l G mX9_plans 6 170 0 0 105 [some (.ref 941), some (.int (n)), some (.int (tt)), some (.int (x)), x4] [] (zsL (zRB X (nI f, nI j, nI t, v)) 942 g) Q := by
  have hm2 : mSh X := hm
  refine s_aload_n (zdk hX9_plans_0 55 rfl) rfl ?_
  refine s_getR (zdk hX9_plans_0 56 rfl) fw_X9_37 rfl (hm.1) (show _ = some 949 from (hm.r (i := 7) rfl).1) ?_
  refine s_aload_n (zdk hX9_plans_0 57 rfl) rfl ?_
  refine s_getI (zdk hX9_plans_0 58 rfl) fw_X9_300 rfl (hm.1) ?_
  refine s_topi (b := nI c) (by simp [zRB, pX2, zGp, si_I, sj_I, zI_L, zI_J, zJ_I, sl_J, sj_J, h23, h27, hpa]) ?_
  refine s_aload_n (zdk hX9_plans_0 59 rfl) rfl ?_
  refine s_getI (zdk hX9_plans_1 0 rfl) fw_X9_278 rfl (hm.1) ?_
  refine s_topi (b := nI f) (by simp [zRB, pX2, zGp, si_I, sj_I, zI_L, zI_J, zJ_I, sl_J, sj_J, h23, h27, hpa]) ?_
  refine s_iastoreN (N := 20) (j := c) (zdk hX9_plans_1 1 rfl) ((hm.r (i := 7) rfl).2.1) ((hm.r (i := 7) rfl).2.2) (hc) (by decide) ?_
  refine s_mem (M' := (zsL (zsI (zRB X (nI f, nI j, nI t, v)) 949 c (nI f)) 942 g)) rfl ?_
  refine s_aload_n (zdk hX9_plans_1 2 rfl) rfl ?_
  refine s_getR (zdk hX9_plans_1 3 rfl) fw_X9_40 rfl (hm.1) (show _ = some 950 from (hm.r (i := 8) rfl).1) ?_
  refine s_aload_n (zdk hX9_plans_1 4 rfl) rfl ?_
  refine s_getI (zdk hX9_plans_1 5 rfl) fw_X9_300 rfl (hm.1) ?_
  refine s_topi (b := nI c) (by simp [zRB, pX2, zGp, si_I, sj_I, zI_L, zI_J, zJ_I, sl_J, sj_J, h23, h27, hpa]) ?_
  refine s_aload_n (zdk hX9_plans_1 6 rfl) rfl ?_
  refine s_getI (zdk hX9_plans_1 7 rfl) fw_X9_281 rfl (hm.1) ?_
  refine s_topi (b := nI j) (by simp [zRB, pX2, zGp, si_I, sj_I, zI_L, zI_J, zJ_I, sl_J, sj_J, h23, h27, hpa]) ?_
  refine s_iastoreN (N := 20) (j := c) (zdk hX9_plans_1 8 rfl) ((hm.r (i := 8) rfl).2.1) ((hm.r (i := 8) rfl).2.2) (hc) (by decide) ?_
  refine s_mem (M' := (zsL (zsI (zsI (zRB X (nI f, nI j, nI t, v)) 949 c (nI f)) 950 c (nI j)) 942 g)) rfl ?_
  refine s_aload_n (zdk hX9_plans_1 9 rfl) rfl ?_
  refine s_getR (zdk hX9_plans_1 10 rfl) fw_X9_43 rfl (hm.1) (show _ = some 951 from (hm.r (i := 9) rfl).1) ?_
  refine s_aload_n (zdk hX9_plans_1 11 rfl) rfl ?_
  refine s_getI (zdk hX9_plans_1 12 rfl) fw_X9_300 rfl (hm.1) ?_
  refine s_topi (b := nI c) (by simp [zRB, pX2, zGp, si_I, sj_I, zI_L, zI_J, zJ_I, sl_J, sj_J, h23, h27, hpa]) ?_
  refine s_aload_n (zdk hX9_plans_1 13 rfl) rfl ?_
  refine s_getI (zdk hX9_plans_1 14 rfl) fw_X9_284 rfl (hm.1) ?_
  refine s_topi (b := nI t) (by simp [zRB, pX2, zGp, si_I, sj_I, zI_L, zI_J, zJ_I, sl_J, sj_J, h23, h27, hpa]) ?_
  refine s_iastoreN (N := 20) (j := c) (zdk hX9_plans_1 15 rfl) ((hm.r (i := 9) rfl).2.1) ((hm.r (i := 9) rfl).2.2) (hc) (by decide) ?_
  refine s_mem (M' := (zsL (zsI (zsI (zsI (zRB X (nI f, nI j, nI t, v)) 949 c (nI f)) 950 c (nI j)) 951 c (nI t)) 942 g)) rfl ?_
  refine s_aload_n (zdk hX9_plans_1 16 rfl) rfl ?_
  refine s_dupr (zdk hX9_plans_1 17 rfl) ?_
  refine s_getI (zdk hX9_plans_1 18 rfl) fw_X9_300 rfl (hm.1) ?_
  refine s_topi (b := nI c) (by simp [zRB, pX2, zGp, si_I, sj_I, zI_L, zI_J, zJ_I, sl_J, sj_J, h23, h27, hpa]) ?_
  refine s_iconstv (v := nI 1) (zdk hX9_plans_1 19 rfl) zc_iconst_1 ?_
  refine s_iadd (zdk hX9_plans_1 20 rfl) ?_
  refine s_topi (b := nI (c + 1)) (nI_add _ _) ?_
  refine s_putI (zdk hX9_plans_1 21 rfl) fw_X9_300 rfl pw_9_23 (hm.1) ?_
  refine s_mem (M' := (zsL (zsI (zsI (zsI (zsI (zRB X (nI f, nI j, nI t, v)) 949 c (nI f)) 950 c (nI j)) 951 c (nI t)) 941 23 (nI (c + 1))) 942 g)) rfl ?_
  refine s_aload_n (zdk hX9_plans_1 22 rfl) rfl ?_
  refine s_dupr (zdk hX9_plans_1 23 rfl) ?_
  refine s_getJ (zdk hX9_plans_1 24 rfl) fw_X9_303 rfl (hm.1) ?_
  refine s_topl (b := s) (by simp [zRB, pX2, zGp, si_I, sj_I, zI_L, zI_J, zJ_I, sl_J, sj_J, h23, h27, hpa]) ?_
  refine s_aload_n (zdk hX9_plans_1 25 rfl) rfl ?_
  refine s_getJ (zdk hX9_plans_1 26 rfl) fw_X9_274 rfl (hm.1) ?_
  refine s_topl (b := v) (by simp [zRB, pX2, zGp, si_I, sj_I, zI_L, zI_J, zJ_I, sl_J, sj_J, h23, h27, hpa]) ?_
  refine s_ladd (zdk hX9_plans_1 27 rfl) ?_
  refine s_putJ (zdk hX9_plans_1 28 rfl) fw_X9_303 rfl pw_9_27 (hm.1) ?_
  refine s_mem (M' := (zsL (zsJ (zsI (zsI (zsI (zsI (zRB X (nI f, nI j, nI t, v)) 949 c (nI f)) 950 c (nI j)) 951 c (nI t)) 941 23 (nI (c + 1))) 941 27 ((s) + (v))) 942 g)) (zsL_Jn (a := 942) (b := 941) (by decide)) ?_
  refine s_mem (M' := (zsL (pX2 X (nI f, nI j, nI t, v) c s) 942 g)) (by first | rfl | skip) ?_
  refine s_aload_n (zdk hX9_plans_1 29 rfl) rfl ?_
  refine s_getR (zdk hX9_plans_1 30 rfl) fw_X9_34 rfl (hm.1) (show _ = some 948 from (hm.r (i := 6) rfl).1) ?_
  refine s_aload_n (zdk hX9_plans_1 31 rfl) rfl ?_
  refine s_getI (zdk hX9_plans_1 32 rfl) fw_X9_278 rfl (hm.1) ?_
  refine s_topi (b := nI f) (by simp [zRB, pX2, zGp, si_I, sj_I, zI_L, zI_J, zJ_I, sl_J, sj_J, h23, h27, hpa]) ?_
  refine s_ialoadN (N := 20) (j := f) (zdk hX9_plans_1 33 rfl) ((hm.r (i := 6) rfl).2.1) ((hm.r (i := 6) rfl).2.2) (by omega) (by decide) ?_
  refine s_topi (b := nI a) (by simp [zRB, pX2, zGp, si_I, sj_I, zI_L, zI_J, zJ_I, sl_J, sj_J, h23, h27, hpa]) ?_
  refine s_istore (zdk hX9_plans_1 34 rfl) (Nat.le_of_ble_eq_true rfl) ?_
  refine s_ls (ls' := [some (.ref 941), some (.int (n)), some (.int (tt)), some (.int (x)), some (.int (nI a))]) rfl ?_
  refine s_aload_n (zdk hX9_plans_1 35 rfl) rfl ?_
  refine s_aload_n (zdk hX9_plans_1 36 rfl) rfl ?_
  refine s_getI (zdk hX9_plans_1 37 rfl) fw_X9_278 rfl (hm.1) ?_
  refine s_topi (b := nI f) (by simp [zRB, pX2, zGp, si_I, sj_I, zI_L, zI_J, zJ_I, sl_J, sj_J, h23, h27, hpa]) ?_
  refine s_aload_n (zdk hX9_plans_1 38 rfl) rfl ?_
  refine s_getI (zdk hX9_plans_1 39 rfl) fw_X9_284 rfl (hm.1) ?_
  refine s_topi (b := nI t) (by simp [zRB, pX2, zGp, si_I, sj_I, zI_L, zI_J, zJ_I, sl_J, sj_J, h23, h27, hpa]) ?_
  refine s_callV0 (ci := 9) [.int (nI f), .int (nI t)] (zdk hX9_plans_1 40 rfl) cw_X9_310 (hm.1) (by decide) rfl rfl rfl (Nat.le_of_ble_eq_true rfl) (by decide) (c_X9_goesOnPaper hl (M := (pX2 X (nI f, nI j, nI t, v) c s)) hm2 (f := f) (a := a) (t := t) (by omega) (by omega) (by omega) (by simp [zRB, pX2, zGp, si_I, sj_I, zI_L, zI_J, zJ_I, sl_J, sj_J, h23, h27, hpa])) ?_
  refine s_aload_n (zdk hX9_plans_1 41 rfl) rfl ?_
  refine s_getI (zdk hX9_plans_1 42 rfl) fw_X9_281 rfl (hm.1) ?_
  refine s_topi (b := nI j) (by simp [zRB, pX2, zGp, si_I, sj_I, zI_L, zI_J, zJ_I, sl_J, sj_J, h23, h27, hpa]) ?_
  refine s_iconstv (v := (-1)) (zdk hX9_plans_1 43 rfl) zc_iconst_m1 ?_
  refine s_icmp_eq 208 (zdk hX9_plans_1 44 rfl) (by decide) (fun c195 => ?_) (fun c195 => ?_)
  · exact absurd c195 (nI_ne1 (by omega))
  · refine s_aload_n (zdk hX9_plans_1 45 rfl) rfl ?_
    refine s_aload_n (zdk hX9_plans_1 46 rfl) rfl ?_
    refine s_getI (zdk hX9_plans_1 47 rfl) fw_X9_281 rfl (hm.1) ?_
    refine s_topi (b := nI j) (by simp [zRB, pX2, zGp, si_I, sj_I, zI_L, zI_J, zJ_I, sl_J, sj_J, h23, h27, hpa]) ?_
    refine s_iload (zdk hX9_plans_1 48 rfl) rfl ?_
    refine s_callV0 (ci := 9) [.int (nI j), .int (nI a)] (zdk hX9_plans_1 49 rfl) cw_X9_310 (hm.1) (by decide) rfl rfl rfl (Nat.le_of_ble_eq_true rfl) (by decide) (c_X9_goesOnPaper hl (M := (zGp (pX2 X (nI f, nI j, nI t, v) c s) f a t (gf g f 0))) hm2 (f := j) (a := a2) (t := a) (by omega) (by omega) (by omega) (by simp [zRB, pX2, zGp, si_I, sj_I, zI_L, zI_J, zJ_I, sl_J, sj_J, hjf, hpa2])) ?_
    refine s_goto 98 (zdk hX9_plans_1 50 rfl) (by decide) ?_
    exact kk _
end
