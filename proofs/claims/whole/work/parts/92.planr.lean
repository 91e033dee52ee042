/-! ===== plans: withRoom, step ===== -/
theorem zPln_le {g gn : Nat → Int64} : ∀ (k : Nat) (q : zPs), (zPln g gn k q).1 ≤ q.1 + k
  | 0, q => Nat.le_refl _
  | k + 1, q => by
    unfold zPln zStp
    by_cases c : (zBst g gn q.2.2.2.2.2.1 q.2.2.2.2.2.2).2.2.2 ≤ lN 0
    · rw [if_pos c]
      exact Nat.le_add_right _ _
    · rw [if_neg c]
      exact Nat.le_trans (zPln_le k _) (by show q.1 + 1 + k ≤ _; omega)
theorem pFr.th {M X : zMem} {a b : Int32} (h : pFr (zsI M 941 6 a) X) : pFr (zsI M 941 6 b) (zsI X 941 6 b) := by
  obtain ⟨h1, h2, h3, h4⟩ := h
  refine ⟨h1, fun c q1 q2 => ?_, h3, fun k q => ?_⟩
  · rw [zI_In q1, zI_In q1]
    have := h2 c q1 q2
    rw [zI_In q1] at this
    exact this
  · rw [si_I, if_pos rfl, si_I, if_pos rfl]
    by_cases q2 : k = 6
    · rw [if_pos q2, if_pos q2]
    · rw [if_neg q2, if_neg q2]
      have := h4 k q
      rw [si_I, if_pos rfl, if_neg q2] at this
      exact this
section
variable {l : Launch} {G : zG}
theorem c_X9_withRoom_x (hl : l.stackTraces = false) {M : zMem} (hm : mSh M) {g : Nat → Int64} (hb : gBd g) (t m n : Int32) (hx : ¬ (inN t (gN g 2) ∧ ((nI 0 ≤ m ∧ m ≤ nI 99999) ∧ (nI 1 ≤ n ∧ n ≤ nI 24)))) : zCm l G mX9_withRoom 3 70 0 0 [.ref 941, .int (t), .int (m), .int (n)] (zsL M 942 g) (zD (some (.long (lN 0))) (zsL (zsI M 941 6 (nI (t2 (inN t (gN g 2)) ((nI 0 ≤ m ∧ m ≤ nI 99999) ∧ (nI 1 ≤ n ∧ n ≤ nI 24)) 1 2))) 942 g)) := by
  refine zCd.of (ls0 := [some (.ref 941), some (.int (t)), some (.int (m)), some (.int (n)), none, none]) (by decide +kernel) rfl hl rfl (Nat.le_of_ble_eq_true rfl) rfl ?_
  have hn2 := hb.2.2.1.2
  have ht4 := hb.2.1.2
  have hcy := hb.1.2.2
  have hpe := hb.2.2.2.1.2
  refine s_aload_n (zdk hX9_withRoom 0 rfl) rfl ?_
  refine s_aload_n (zdk hX9_withRoom 1 rfl) rfl ?_
  refine s_iload_n (zdk hX9_withRoom 2 rfl) rfl ?_
  refine s_callV0 (ci := 9) [.int (t)] (zdk hX9_withRoom 3 rfl) cw_X9_245 (hm.1) (by decide) rfl rfl rfl (Nat.le_of_ble_eq_true rfl) (by decide) (c_X9_isTier hl (M := M) (g := g) hm hb (t)) ?_
  refine s_if_ne 13 (zdk hX9_withRoom 4 rfl) (by decide) (fun c6 => ?_) (fun c6 => ?_)
  · have b6 : inN (t) (gN g 2) := b01_ne c6
    refine s_iload_n (zdk hX9_withRoom 7 rfl) rfl ?_
    refine s_iconstv (v := nI 0) (zdk hX9_withRoom 8 rfl) zc_iconst_0 ?_
    refine s_ldc (zdk hX9_withRoom 9 rfl) kw_X9_173 ?_
    refine s_topi (b := nI 99999) (by decide) ?_
    refine s_callS0 [.int (m), .int (nI 0), .int (nI 99999)] (zdk hX9_withRoom 10 rfl) cw_X9_79 rfl (Nat.le_of_ble_eq_true rfl) (by decide) (c_X9_isIn hl (zsL M 942 g) (m) (nI 0) (nI 99999)) ?_
    refine s_if_eq 34 (zdk hX9_withRoom 11 rfl) (by decide) (fun c20 => ?_) (fun c20 => ?_)
    · have b20 : ¬ (nI 0 ≤ m ∧ m ≤ nI 99999) := b01_eq c20
      have hB : ¬ ((nI 0 ≤ m ∧ m ≤ nI 99999) ∧ (nI 1 ≤ n ∧ n ≤ nI 24)) := fun q => b20 q.1
      refine s_iconstv (v := nI 2) (zdk hX9_withRoom 17 rfl) zc_iconst_2 ?_
      refine s_putI (zdk hX9_withRoom 18 rfl) fw_X9_69 rfl pw_9_6 (hm.1) ?_
      refine s_mem (M' := (zsL (zsI M 941 6 (nI 2)) 942 g)) rfl ?_
      refine s_aload_n (zdk hX9_withRoom 19 rfl) rfl ?_
      refine s_getI (zdk hX9_withRoom 20 rfl) fw_X9_69 rfl (hm.1) ?_
      refine s_topi (b := nI 2) ((congrFun (zI_Ie (M := M) (a := 941) (k := 6) (v := (nI 2))) 6).trans zw1_e) ?_
      refine s_if_le 47 (zdk hX9_withRoom 21 rfl) (by decide) (fun c42 => ?_) (fun c42 => ?_)
      · exact absurd c42 (by decide)
      · refine s_lconstv (v := lN 0) (zdk hX9_withRoom 22 rfl) rfl ?_
        refine s_lreturn (zdk hX9_withRoom 23 rfl) rfl  ?_
        first | (rw [t2_2 b6 hB]; exact ⟨rfl, rfl⟩) | (rw [t2_1 b6]; exact ⟨rfl, rfl⟩)
    · have b20 : nI 0 ≤ m ∧ m ≤ nI 99999 := b01_ne c20
      refine s_iload_n (zdk hX9_withRoom 12 rfl) rfl ?_
      refine s_callS0 [.int (n)] (zdk hX9_withRoom 13 rfl) cw_X9_320 rfl (Nat.le_of_ble_eq_true rfl) (by decide) (c_X9_isSpan hl (zsL M 942 g) (n)) ?_
      refine s_if_eq 34 (zdk hX9_withRoom 14 rfl) (by decide) (fun c27 => ?_) (fun c27 => ?_)
      · have b27 : ¬ (nI 1 ≤ n ∧ n ≤ nI 24) := b01_eq c27
        have hB : ¬ ((nI 0 ≤ m ∧ m ≤ nI 99999) ∧ (nI 1 ≤ n ∧ n ≤ nI 24)) := fun q => b27 q.2
        refine s_iconstv (v := nI 2) (zdk hX9_withRoom 17 rfl) zc_iconst_2 ?_
        refine s_putI (zdk hX9_withRoom 18 rfl) fw_X9_69 rfl pw_9_6 (hm.1) ?_
        refine s_mem (M' := (zsL (zsI M 941 6 (nI 2)) 942 g)) rfl ?_
        refine s_aload_n (zdk hX9_withRoom 19 rfl) rfl ?_
        refine s_getI (zdk hX9_withRoom 20 rfl) fw_X9_69 rfl (hm.1) ?_
        refine s_topi (b := nI 2) ((congrFun (zI_Ie (M := M) (a := 941) (k := 6) (v := (nI 2))) 6).trans zw1_e) ?_
        refine s_if_le 47 (zdk hX9_withRoom 21 rfl) (by decide) (fun c42 => ?_) (fun c42 => ?_)
        · exact absurd c42 (by decide)
        · refine s_lconstv (v := lN 0) (zdk hX9_withRoom 22 rfl) rfl ?_
          refine s_lreturn (zdk hX9_withRoom 23 rfl) rfl  ?_
          first | (rw [t2_2 b6 hB]; exact ⟨rfl, rfl⟩) | (rw [t2_1 b6]; exact ⟨rfl, rfl⟩)
      · have b27 : nI 1 ≤ n ∧ n ≤ nI 24 := b01_ne c27
        have hB : (nI 0 ≤ m ∧ m ≤ nI 99999) ∧ (nI 1 ≤ n ∧ n ≤ nI 24) := ⟨b20, b27⟩
        refine s_iconstv (v := nI 0) (zdk hX9_withRoom 15 rfl) zc_iconst_0 ?_
        refine s_goto 35 (zdk hX9_withRoom 16 rfl) (by decide) ?_
        refine s_putI (zdk hX9_withRoom 18 rfl) fw_X9_69 rfl pw_9_6 (hm.1) ?_
        refine s_mem (M' := (zsL (zsI M 941 6 (nI 0)) 942 g)) rfl ?_
        refine s_aload_n (zdk hX9_withRoom 19 rfl) rfl ?_
        refine s_getI (zdk hX9_withRoom 20 rfl) fw_X9_69 rfl (hm.1) ?_
        refine s_topi (b := nI 0) ((congrFun (zI_Ie (M := M) (a := 941) (k := 6) (v := (nI 0))) 6).trans zw1_e) ?_
        refine s_if_le 47 (zdk hX9_withRoom 21 rfl) (by decide) (fun c42 => ?_) (fun c42 => ?_)
        · exact absurd ⟨b6, hB⟩ hx
        · exact absurd (by decide) c42
  · have b6 : ¬ (inN (t) (gN g 2)) := b01_eq c6
    refine s_iconstv (v := nI 1) (zdk hX9_withRoom 5 rfl) zc_iconst_1 ?_
    refine s_goto 35 (zdk hX9_withRoom 6 rfl) (by decide) ?_
    refine s_putI (zdk hX9_withRoom 18 rfl) fw_X9_69 rfl pw_9_6 (hm.1) ?_
    refine s_mem (M' := (zsL (zsI M 941 6 (nI 1)) 942 g)) rfl ?_
    refine s_aload_n (zdk hX9_withRoom 19 rfl) rfl ?_
    refine s_getI (zdk hX9_withRoom 20 rfl) fw_X9_69 rfl (hm.1) ?_
    refine s_topi (b := nI 1) ((congrFun (zI_Ie (M := M) (a := 941) (k := 6) (v := (nI 1))) 6).trans zw1_e) ?_
    refine s_if_le 47 (zdk hX9_withRoom 21 rfl) (by decide) (fun c42 => ?_) (fun c42 => ?_)
    · exact absurd c42 (by decide)
    · refine s_lconstv (v := lN 0) (zdk hX9_withRoom 22 rfl) rfl ?_
      refine s_lreturn (zdk hX9_withRoom 23 rfl) rfl  ?_
      first | (rw [t2_2 b6 hB]; exact ⟨rfl, rfl⟩) | (rw [t2_1 b6]; exact ⟨rfl, rfl⟩)
theorem c_X9_withRoom (hl : l.stackTraces = false) {M : zMem} (hm : mSh M) {g : Nat → Int64} (hb : gBd g) (hi4 : g 4 = (its g 4).toInt64) {n : Nat} (hn1 : 1 ≤ n) (hn24 : n ≤ 24) {gn : Nat → Int64} (hg : ∀ r, pGn g (rLay g n r (gN g 3)) gn) {q0 q : zPs} (hq : pS g (-1) (nI 0) q0) (hqe : zPln g gn 20 q0 = q) {t : Nat} (ht : t < gN g 2) {m : Int32} (hm9 : nI 0 ≤ m ∧ m ≤ nI 99999) {qa qb : zPs} (hqa : pS g (nI t) m qa) (hqb : zPln g gn 20 qa = qb) : zCm l G mX9_withRoom 7 220 0 0 [.ref 941, .int (nI t), .int (m), .int (nI n)] (zsL M 942 g) (rPq M g 0 (.long (qb.2.1 - q.2.1))) := by
  refine zCp.of (ls0 := [some (.ref 941), some (.int (nI t)), some (.int (m)), some (.int (nI n)), none, none]) (by decide +kernel) rfl hl rfl (Nat.le_of_ble_eq_true rfl) ?_
  have ht4 := hb.2.1.2
  refine s_aload_n (zdk hX9_withRoom 0 rfl) rfl ?_
  refine s_aload_n (zdk hX9_withRoom 1 rfl) rfl ?_
  refine s_iload_n (zdk hX9_withRoom 2 rfl) rfl ?_
  refine s_callV0 (ci := 9) [.int (nI t)] (zdk hX9_withRoom 3 rfl) cw_X9_245 (hm.1) (by decide) rfl rfl rfl (Nat.le_of_ble_eq_true rfl) (by decide) (c_X9_isTier hl (M := M) (g := g) hm hb (nI t)) ?_
  refine s_if_ne 13 (zdk hX9_withRoom 4 rfl) (by decide) (fun c6 => ?_) (fun c6 => ?_)
  · have b6 : inN (nI t) (gN g 2) := b01_ne c6
    refine s_iload_n (zdk hX9_withRoom 7 rfl) rfl ?_
    refine s_iconstv (v := nI 0) (zdk hX9_withRoom 8 rfl) zc_iconst_0 ?_
    refine s_ldc (zdk hX9_withRoom 9 rfl) kw_X9_173 ?_
    refine s_topi (b := nI 99999) (by decide) ?_
    refine s_callS0 [.int (m), .int (nI 0), .int (nI 99999)] (zdk hX9_withRoom 10 rfl) cw_X9_79 rfl (Nat.le_of_ble_eq_true rfl) (by decide) (c_X9_isIn hl (zsL M 942 g) (m) (nI 0) (nI 99999)) ?_
    refine s_if_eq 34 (zdk hX9_withRoom 11 rfl) (by decide) (fun c20 => ?_) (fun c20 => ?_)
    · have b20 : ¬ (nI 0 ≤ m ∧ m ≤ nI 99999) := b01_eq c20
      exact absurd hm9 b20
    · have b20 : nI 0 ≤ m ∧ m ≤ nI 99999 := b01_ne c20
      refine s_iload_n (zdk hX9_withRoom 12 rfl) rfl ?_
      refine s_callS0 [.int (nI n)] (zdk hX9_withRoom 13 rfl) cw_X9_320 rfl (Nat.le_of_ble_eq_true rfl) (by decide) (c_X9_isSpan hl (zsL M 942 g) (nI n)) ?_
      refine s_if_eq 34 (zdk hX9_withRoom 14 rfl) (by decide) (fun c27 => ?_) (fun c27 => ?_)
      · have b27 : ¬ (nI 1 ≤ nI n ∧ nI n ≤ nI 24) := b01_eq c27
        exact absurd ⟨nI_le hn1 (by omega), nI_le hn24 (by omega)⟩ b27
      · have b27 : nI 1 ≤ nI n ∧ nI n ≤ nI 24 := b01_ne c27
        refine s_iconstv (v := nI 0) (zdk hX9_withRoom 15 rfl) zc_iconst_0 ?_
        refine s_goto 35 (zdk hX9_withRoom 16 rfl) (by decide) ?_
        refine s_putI (zdk hX9_withRoom 18 rfl) fw_X9_69 rfl pw_9_6 (hm.1) ?_
        refine s_mem (M' := (zsL (zsI M 941 6 (nI 0)) 942 g)) rfl ?_
        refine s_aload_n (zdk hX9_withRoom 19 rfl) rfl ?_
        refine s_getI (zdk hX9_withRoom 20 rfl) fw_X9_69 rfl (hm.1) ?_
        refine s_topi (b := nI 0) ((congrFun (zI_Ie (M := M) (a := 941) (k := 6) (v := (nI 0))) 6).trans zw1_e) ?_
        refine s_if_le 47 (zdk hX9_withRoom 21 rfl) (by decide) (fun c42 => ?_) (fun c42 => ?_)
        · refine s_aload_n (zdk hX9_withRoom 24 rfl) rfl ?_
          refine s_iload_n (zdk hX9_withRoom 25 rfl) rfl ?_
          refine s_iload_n (zdk hX9_withRoom 26 rfl) rfl ?_
          refine s_iload_n (zdk hX9_withRoom 27 rfl) rfl ?_
          refine s_callV1 (ci := 9) [.int (nI n), .int (nI t), .int (m)] (zdk hX9_withRoom 28 rfl) cw_X9_323 (hm.1) (by decide) rfl rfl rfl (Nat.le_of_ble_eq_true rfl) (by decide) (c_X9_plans hl (M := (zsI M 941 6 (nI 0))) hm hb hi4 (n := n) hn24 (nI t) m (hg _) hqa hqb) ?_
          intro v1 N1 z1
          obtain ⟨y1, X1, pa1, rfl, hF1, h51, hP1⟩ := z1
          cases y1
          have hm1 := hF1.sh hm
          refine s_aload_n (zdk hX9_withRoom 29 rfl) rfl ?_
          refine s_getJ (zdk hX9_withRoom 30 rfl) fw_X9_303 rfl (hm1.1) ?_
          refine s_topl (b := qb.2.1) (hP1.2.1) ?_
          refine s_lstore (zdk hX9_withRoom 31 rfl) (Nat.le_of_ble_eq_true rfl) ?_
          refine s_ls (ls' := [some (.ref 941), some (.int (nI t)), some (.int (m)), some (.int (nI n)), some (.long (qb.2.1)), none]) rfl ?_
          refine s_aload_n (zdk hX9_withRoom 32 rfl) rfl ?_
          refine s_iload_n (zdk hX9_withRoom 33 rfl) rfl ?_
          refine s_iconstv (v := (-1)) (zdk hX9_withRoom 34 rfl) zc_iconst_m1 ?_
          refine s_iconstv (v := nI 0) (zdk hX9_withRoom 35 rfl) zc_iconst_0 ?_
          refine s_callV1 (ci := 9) [.int (nI n), .int ((-1)), .int (nI 0)] (zdk hX9_withRoom 36 rfl) cw_X9_323 (hm1.1) (by decide) rfl rfl rfl (Nat.le_of_ble_eq_true rfl) (by decide) (c_X9_plans hl (M := X1) hm1 hb hi4 (n := n) hn24 (-1) (nI 0) (hg _) hq hqe) ?_
          intro v2 N2 z2
          obtain ⟨y2, X2, pa2, rfl, hF2, h52, hP2⟩ := z2
          cases y2
          have hm2 := hF2.sh hm1
          refine s_lload (zdk hX9_withRoom 37 rfl) rfl ?_
          refine s_aload_n (zdk hX9_withRoom 38 rfl) rfl ?_
          refine s_getJ (zdk hX9_withRoom 39 rfl) fw_X9_303 rfl (hm2.1) ?_
          refine s_topl (b := q.2.1) (hP2.2.1) ?_
          refine s_lsub (zdk hX9_withRoom 40 rfl) ?_
          refine s_lreturn (zdk hX9_withRoom 41 rfl) rfl  ?_
          exact ⟨rfl, X2, rfl, hF1.trans hF2⟩
        · exact absurd (by decide) c42
  · have b6 : ¬ (inN (nI t) (gN g 2)) := b01_eq c6
    exact absurd (inN_of ht (by omega)) b6
theorem c_X9_step_x (hl : l.stackTraces = false) {M : zMem} (hm : mSh M) {g : Nat → Int64} (hb : gBd g) (n s w : Int32) (hx : ¬ ((nI 1 ≤ n ∧ n ≤ nI 24) ∧ (nI 0 ≤ w ∧ w ≤ nI 2))) : zCm l G mX9_step 3 70 0 0 [.ref 941, .int (n), .int (s), .int (w)] (zsL M 942 g) (zD (some (.int (nI 0))) (zsL (zsI M 941 6 (nI (1))) 942 g)) := by
  refine zCd.of (ls0 := [some (.ref 941), some (.int (n)), some (.int (s)), some (.int (w))]) (by decide +kernel) rfl hl rfl (Nat.le_of_ble_eq_true rfl) rfl ?_
  refine s_aload_n (zdk hX9_step_0 0 rfl) rfl ?_
  refine s_iload_n (zdk hX9_step_0 1 rfl) rfl ?_
  refine s_callS0 [.int (n)] (zdk hX9_step_0 2 rfl) cw_X9_320 rfl (Nat.le_of_ble_eq_true rfl) (by decide) (c_X9_isSpan hl (zsL M 942 g) (n)) ?_
  refine s_if_eq 21 (zdk hX9_step_0 3 rfl) (by decide) (fun c5 => ?_) (fun c5 => ?_)
  · have b5 : ¬ (nI 1 ≤ n ∧ n ≤ nI 24) := b01_eq c5
    refine s_iconstv (v := nI 1) (zdk hX9_step_0 11 rfl) zc_iconst_1 ?_
    refine s_putI (zdk hX9_step_0 12 rfl) fw_X9_69 rfl pw_9_6 (hm.1) ?_
    refine s_mem (M' := (zsL (zsI M 941 6 (nI 1)) 942 g)) rfl ?_
    refine s_aload_n (zdk hX9_step_0 13 rfl) rfl ?_
    refine s_getI (zdk hX9_step_0 14 rfl) fw_X9_69 rfl (hm.1) ?_
    refine s_topi (b := nI 1) ((congrFun (zI_Ie (M := M) (a := 941) (k := 6) (v := (nI 1))) 6).trans zw1_e) ?_
    refine s_if_le 34 (zdk hX9_step_0 15 rfl) (by decide) (fun c29 => ?_) (fun c29 => ?_)
    · exact absurd c29 (by decide)
    · refine s_iconstv (v := nI 0) (zdk hX9_step_0 16 rfl) zc_iconst_0 ?_
      refine s_ireturn (zdk hX9_step_0 17 rfl) rfl rfl ?_
      exact ⟨rfl, rfl⟩
  · have b5 : nI 1 ≤ n ∧ n ≤ nI 24 := b01_ne c5
    refine s_iload_n (zdk hX9_step_0 4 rfl) rfl ?_
    refine s_iconstv (v := nI 0) (zdk hX9_step_0 5 rfl) zc_iconst_0 ?_
    refine s_iconstv (v := nI 2) (zdk hX9_step_0 6 rfl) zc_iconst_2 ?_
    refine s_callS0 [.int (w), .int (nI 0), .int (nI 2)] (zdk hX9_step_0 7 rfl) cw_X9_79 rfl (Nat.le_of_ble_eq_true rfl) (by decide) (c_X9_isIn hl (zsL M 942 g) (w) (nI 0) (nI 2)) ?_
    refine s_if_eq 21 (zdk hX9_step_0 8 rfl) (by decide) (fun c14 => ?_) (fun c14 => ?_)
    · have b14 : ¬ (nI 0 ≤ w ∧ w ≤ nI 2) := b01_eq c14
      refine s_iconstv (v := nI 1) (zdk hX9_step_0 11 rfl) zc_iconst_1 ?_
      refine s_putI (zdk hX9_step_0 12 rfl) fw_X9_69 rfl pw_9_6 (hm.1) ?_
      refine s_mem (M' := (zsL (zsI M 941 6 (nI 1)) 942 g)) rfl ?_
      refine s_aload_n (zdk hX9_step_0 13 rfl) rfl ?_
      refine s_getI (zdk hX9_step_0 14 rfl) fw_X9_69 rfl (hm.1) ?_
      refine s_topi (b := nI 1) ((congrFun (zI_Ie (M := M) (a := 941) (k := 6) (v := (nI 1))) 6).trans zw1_e) ?_
      refine s_if_le 34 (zdk hX9_step_0 15 rfl) (by decide) (fun c29 => ?_) (fun c29 => ?_)
      · exact absurd c29 (by decide)
      · refine s_iconstv (v := nI 0) (zdk hX9_step_0 16 rfl) zc_iconst_0 ?_
        refine s_ireturn (zdk hX9_step_0 17 rfl) rfl rfl ?_
        exact ⟨rfl, rfl⟩
    · have b14 : nI 0 ≤ w ∧ w ≤ nI 2 := b01_ne c14
      refine s_iconstv (v := nI 0) (zdk hX9_step_0 9 rfl) zc_iconst_0 ?_
      refine s_goto 22 (zdk hX9_step_0 10 rfl) (by decide) ?_
      refine s_putI (zdk hX9_step_0 12 rfl) fw_X9_69 rfl pw_9_6 (hm.1) ?_
      refine s_mem (M' := (zsL (zsI M 941 6 (nI 0)) 942 g)) rfl ?_
      refine s_aload_n (zdk hX9_step_0 13 rfl) rfl ?_
      refine s_getI (zdk hX9_step_0 14 rfl) fw_X9_69 rfl (hm.1) ?_
      refine s_topi (b := nI 0) ((congrFun (zI_Ie (M := M) (a := 941) (k := 6) (v := (nI 0))) 6).trans zw1_e) ?_
      refine s_if_le 34 (zdk hX9_step_0 15 rfl) (by decide) (fun c29 => ?_) (fun c29 => ?_)
      · exact absurd ⟨b5, b14⟩ hx
      · exact absurd (by decide) c29
theorem c_X9_step_o (hl : l.stackTraces = false) {M : zMem} (hm : mSh M) {g : Nat → Int64} (hb : gBd g) (hi4 : g 4 = (its g 4).toInt64) {n : Nat} (hn1 : 1 ≤ n) (hn24 : n ≤ 24) {gn : Nat → Int64} (hg : ∀ r, pGn g (rLay g n r (gN g 3)) gn) {q0 q : zPs} (hq : pS g (-1) (nI 0) q0) (hqe : zPln g gn 20 q0 = q) (s : Int32) {w : Int32} (hw : nI 0 ≤ w ∧ w ≤ nI 2) (hs : ¬ inN s q.1) : zCm l G mX9_step 7 220 0 0 [.ref 941, .int (nI n), .int (s), .int (w)] (zsL M 942 g) (rPq M g 2 (.int (nI 0))) := by
  refine zCp.of (ls0 := [some (.ref 941), some (.int (nI n)), some (.int (s)), some (.int (w))]) (by decide +kernel) rfl hl rfl (Nat.le_of_ble_eq_true rfl) ?_
  have hq20 : q.1 ≤ 20 := by have h1 := zPln_le (g := g) (gn := gn) 20 q0; rw [hqe, hq.1] at h1; omega
  refine s_aload_n (zdk hX9_step_0 0 rfl) rfl ?_
  refine s_iload_n (zdk hX9_step_0 1 rfl) rfl ?_
  refine s_callS0 [.int (nI n)] (zdk hX9_step_0 2 rfl) cw_X9_320 rfl (Nat.le_of_ble_eq_true rfl) (by decide) (c_X9_isSpan hl (zsL M 942 g) (nI n)) ?_
  refine s_if_eq 21 (zdk hX9_step_0 3 rfl) (by decide) (fun c5 => ?_) (fun c5 => ?_)
  · have b5 : ¬ (nI 1 ≤ nI n ∧ nI n ≤ nI 24) := b01_eq c5
    exact absurd ⟨nI_le hn1 (by omega), nI_le hn24 (by omega)⟩ b5
  · have b5 : nI 1 ≤ nI n ∧ nI n ≤ nI 24 := b01_ne c5
    refine s_iload_n (zdk hX9_step_0 4 rfl) rfl ?_
    refine s_iconstv (v := nI 0) (zdk hX9_step_0 5 rfl) zc_iconst_0 ?_
    refine s_iconstv (v := nI 2) (zdk hX9_step_0 6 rfl) zc_iconst_2 ?_
    refine s_callS0 [.int (w), .int (nI 0), .int (nI 2)] (zdk hX9_step_0 7 rfl) cw_X9_79 rfl (Nat.le_of_ble_eq_true rfl) (by decide) (c_X9_isIn hl (zsL M 942 g) (w) (nI 0) (nI 2)) ?_
    refine s_if_eq 21 (zdk hX9_step_0 8 rfl) (by decide) (fun c14 => ?_) (fun c14 => ?_)
    · have b14 : ¬ (nI 0 ≤ w ∧ w ≤ nI 2) := b01_eq c14
      exact absurd hw b14
    · have b14 : nI 0 ≤ w ∧ w ≤ nI 2 := b01_ne c14
      refine s_iconstv (v := nI 0) (zdk hX9_step_0 9 rfl) zc_iconst_0 ?_
      refine s_goto 22 (zdk hX9_step_0 10 rfl) (by decide) ?_
      refine s_putI (zdk hX9_step_0 12 rfl) fw_X9_69 rfl pw_9_6 (hm.1) ?_
      refine s_mem (M' := (zsL (zsI M 941 6 (nI 0)) 942 g)) rfl ?_
      refine s_aload_n (zdk hX9_step_0 13 rfl) rfl ?_
      refine s_getI (zdk hX9_step_0 14 rfl) fw_X9_69 rfl (hm.1) ?_
      refine s_topi (b := nI 0) ((congrFun (zI_Ie (M := M) (a := 941) (k := 6) (v := (nI 0))) 6).trans zw1_e) ?_
      refine s_if_le 34 (zdk hX9_step_0 15 rfl) (by decide) (fun c29 => ?_) (fun c29 => ?_)
      · refine s_aload_n (zdk hX9_step_0 18 rfl) rfl ?_
        refine s_iload_n (zdk hX9_step_0 19 rfl) rfl ?_
        refine s_iconstv (v := (-1)) (zdk hX9_step_0 20 rfl) zc_iconst_m1 ?_
        refine s_iconstv (v := nI 0) (zdk hX9_step_0 21 rfl) zc_iconst_0 ?_
        refine s_callV1 (ci := 9) [.int (nI n), .int ((-1)), .int (nI 0)] (zdk hX9_step_0 22 rfl) cw_X9_323 (hm.1) (by decide) rfl rfl rfl (Nat.le_of_ble_eq_true rfl) (by decide) (c_X9_plans hl (M := (zsI M 941 6 (nI 0))) hm hb hi4 (n := n) hn24 (-1) (nI 0) (hg _) hq hqe) ?_
        intro v1 N1 z1
        obtain ⟨y1, X1, pa1, rfl, hF1, h51, hP1⟩ := z1
        cases y1
        have hm1 := hF1.sh hm
        refine s_aload_n (zdk hX9_step_0 23 rfl) rfl ?_
        refine s_iload_n (zdk hX9_step_0 24 rfl) rfl ?_
        refine s_iconstv (v := nI 0) (zdk hX9_step_0 25 rfl) zc_iconst_0 ?_
        refine s_aload_n (zdk hX9_step_0 26 rfl) rfl ?_
        refine s_getI (zdk hX9_step_0 27 rfl) fw_X9_300 rfl (hm1.1) ?_
        refine s_topi (b := nI q.1) (hP1.1) ?_
        refine s_iconstv (v := nI 1) (zdk hX9_step_0 28 rfl) zc_iconst_1 ?_
        refine s_isub (zdk hX9_step_0 29 rfl) ?_
        refine s_callS0 [.int (s), .int (nI 0), .int ((nI q.1) - (nI 1))] (zdk hX9_step_0 30 rfl) cw_X9_79 rfl (Nat.le_of_ble_eq_true rfl) (by decide) (c_X9_isIn hl (zsL X1 942 g) (s) (nI 0) ((nI q.1) - (nI 1))) ?_
        refine s_topi (b := if inN s q.1 then nI 1 else nI 0) (b01 (inN_le (by omega))) ?_
        refine s_if_eq 60 (zdk hX9_step_0 31 rfl) (by decide) (fun c53 => ?_) (fun c53 => ?_)
        · have b53 : ¬ (inN s q.1) := b01_eq c53
          refine s_iconstv (v := nI 2) (zdk hX9_step_0 34 rfl) zc_iconst_2 ?_
          refine s_putI (zdk hX9_step_0 35 rfl) fw_X9_69 rfl pw_9_6 (hm1.1) ?_
          refine s_mem (M' := (zsL (zsI X1 941 6 (nI 2)) 942 g)) rfl ?_
          refine s_aload_n (zdk hX9_step_0 36 rfl) rfl ?_
          refine s_getI (zdk hX9_step_0 37 rfl) fw_X9_69 rfl (hm1.1) ?_
          refine s_topi (b := nI 2) ((congrFun (zI_Ie (M := X1) (a := 941) (k := 6) (v := (nI 2))) 6).trans zw1_e) ?_
          refine s_if_le 73 (zdk hX9_step_0 38 rfl) (by decide) (fun c68 => ?_) (fun c68 => ?_)
          · exact absurd c68 (by decide)
          · refine s_iconstv (v := nI 0) (zdk hX9_step_0 39 rfl) zc_iconst_0 ?_
            refine s_ireturn (zdk hX9_step_0 40 rfl) rfl rfl ?_
            exact ⟨rfl, _, rfl, hF1.th⟩
        · have b53 : inN s q.1 := b01_ne c53
          exact absurd b53 hs
      · exact absurd (by decide) c29
theorem c_X9_step (hl : l.stackTraces = false) {M : zMem} (hm : mSh M) {g : Nat → Int64} (hb : gBd g) (hi4 : g 4 = (its g 4).toInt64) {n : Nat} (hn1 : 1 ≤ n) (hn24 : n ≤ 24) {gn : Nat → Int64} (hg : ∀ r, pGn g (rLay g n r (gN g 3)) gn) {q0 q : zPs} (hq : pS g (-1) (nI 0) q0) (hqe : zPln g gn 20 q0 = q) {s w : Nat} (hw : w < 3) (hs : s < q.1) : zCm l G mX9_step 7 220 0 0 [.ref 941, .int (nI n), .int (nI s), .int (nI w)] (zsL M 942 g) (rPq M g 0 (.int ((if w = 0 then q.2.2.1 s else if w = 1 then q.2.2.2.1 s else q.2.2.2.2.1 s)))) := by
  refine zCp.of (ls0 := [some (.ref 941), some (.int (nI n)), some (.int (nI s)), some (.int (nI w))]) (by decide +kernel) rfl hl rfl (Nat.le_of_ble_eq_true rfl) ?_
  have hq20 : q.1 ≤ 20 := by have h1 := zPln_le (g := g) (gn := gn) 20 q0; rw [hqe, hq.1] at h1; omega
  refine s_aload_n (zdk hX9_step_0 0 rfl) rfl ?_
  refine s_iload_n (zdk hX9_step_0 1 rfl) rfl ?_
  refine s_callS0 [.int (nI n)] (zdk hX9_step_0 2 rfl) cw_X9_320 rfl (Nat.le_of_ble_eq_true rfl) (by decide) (c_X9_isSpan hl (zsL M 942 g) (nI n)) ?_
  refine s_if_eq 21 (zdk hX9_step_0 3 rfl) (by decide) (fun c5 => ?_) (fun c5 => ?_)
  · have b5 : ¬ (nI 1 ≤ nI n ∧ nI n ≤ nI 24) := b01_eq c5
    exact absurd ⟨nI_le hn1 (by omega), nI_le hn24 (by omega)⟩ b5
  · have b5 : nI 1 ≤ nI n ∧ nI n ≤ nI 24 := b01_ne c5
    refine s_iload_n (zdk hX9_step_0 4 rfl) rfl ?_
    refine s_iconstv (v := nI 0) (zdk hX9_step_0 5 rfl) zc_iconst_0 ?_
    refine s_iconstv (v := nI 2) (zdk hX9_step_0 6 rfl) zc_iconst_2 ?_
    refine s_callS0 [.int (nI w), .int (nI 0), .int (nI 2)] (zdk hX9_step_0 7 rfl) cw_X9_79 rfl (Nat.le_of_ble_eq_true rfl) (by decide) (c_X9_isIn hl (zsL M 942 g) (nI w) (nI 0) (nI 2)) ?_
    refine s_if_eq 21 (zdk hX9_step_0 8 rfl) (by decide) (fun c14 => ?_) (fun c14 => ?_)
    · have b14 : ¬ (nI 0 ≤ nI w ∧ nI w ≤ nI 2) := b01_eq c14
      exact absurd ⟨nI_le (Nat.zero_le w) (by omega), nI_le (by omega) (by omega)⟩ b14
    · have b14 : nI 0 ≤ nI w ∧ nI w ≤ nI 2 := b01_ne c14
      refine s_iconstv (v := nI 0) (zdk hX9_step_0 9 rfl) zc_iconst_0 ?_
      refine s_goto 22 (zdk hX9_step_0 10 rfl) (by decide) ?_
      refine s_putI (zdk hX9_step_0 12 rfl) fw_X9_69 rfl pw_9_6 (hm.1) ?_
      refine s_mem (M' := (zsL (zsI M 941 6 (nI 0)) 942 g)) rfl ?_
      refine s_aload_n (zdk hX9_step_0 13 rfl) rfl ?_
      refine s_getI (zdk hX9_step_0 14 rfl) fw_X9_69 rfl (hm.1) ?_
      refine s_topi (b := nI 0) ((congrFun (zI_Ie (M := M) (a := 941) (k := 6) (v := (nI 0))) 6).trans zw1_e) ?_
      refine s_if_le 34 (zdk hX9_step_0 15 rfl) (by decide) (fun c29 => ?_) (fun c29 => ?_)
      · refine s_aload_n (zdk hX9_step_0 18 rfl) rfl ?_
        refine s_iload_n (zdk hX9_step_0 19 rfl) rfl ?_
        refine s_iconstv (v := (-1)) (zdk hX9_step_0 20 rfl) zc_iconst_m1 ?_
        refine s_iconstv (v := nI 0) (zdk hX9_step_0 21 rfl) zc_iconst_0 ?_
        refine s_callV1 (ci := 9) [.int (nI n), .int ((-1)), .int (nI 0)] (zdk hX9_step_0 22 rfl) cw_X9_323 (hm.1) (by decide) rfl rfl rfl (Nat.le_of_ble_eq_true rfl) (by decide) (c_X9_plans hl (M := (zsI M 941 6 (nI 0))) hm hb hi4 (n := n) hn24 (-1) (nI 0) (hg _) hq hqe) ?_
        intro v1 N1 z1
        obtain ⟨y1, X1, pa1, rfl, hF1, h51, hP1⟩ := z1
        cases y1
        have hm1 := hF1.sh hm
        refine s_aload_n (zdk hX9_step_0 23 rfl) rfl ?_
        refine s_iload_n (zdk hX9_step_0 24 rfl) rfl ?_
        refine s_iconstv (v := nI 0) (zdk hX9_step_0 25 rfl) zc_iconst_0 ?_
        refine s_aload_n (zdk hX9_step_0 26 rfl) rfl ?_
        refine s_getI (zdk hX9_step_0 27 rfl) fw_X9_300 rfl (hm1.1) ?_
        refine s_topi (b := nI q.1) (hP1.1) ?_
        refine s_iconstv (v := nI 1) (zdk hX9_step_0 28 rfl) zc_iconst_1 ?_
        refine s_isub (zdk hX9_step_0 29 rfl) ?_
        refine s_callS0 [.int (nI s), .int (nI 0), .int ((nI q.1) - (nI 1))] (zdk hX9_step_0 30 rfl) cw_X9_79 rfl (Nat.le_of_ble_eq_true rfl) (by decide) (c_X9_isIn hl (zsL X1 942 g) (nI s) (nI 0) ((nI q.1) - (nI 1))) ?_
        refine s_topi (b := if inN (nI s) q.1 then nI 1 else nI 0) (b01 (inN_le (by omega))) ?_
        refine s_if_eq 60 (zdk hX9_step_0 31 rfl) (by decide) (fun c53 => ?_) (fun c53 => ?_)
        · have b53 : ¬ (inN (nI s) q.1) := b01_eq c53
          exact absurd (inN_of hs (by omega)) b53
        · have b53 : inN (nI s) q.1 := b01_ne c53
          refine s_iconstv (v := nI 0) (zdk hX9_step_0 32 rfl) zc_iconst_0 ?_
          refine s_goto 61 (zdk hX9_step_0 33 rfl) (by decide) ?_
          refine s_putI (zdk hX9_step_0 35 rfl) fw_X9_69 rfl pw_9_6 (hm1.1) ?_
          refine s_mem (M' := (zsL (zsI X1 941 6 (nI 0)) 942 g)) rfl ?_
          refine s_aload_n (zdk hX9_step_0 36 rfl) rfl ?_
          refine s_getI (zdk hX9_step_0 37 rfl) fw_X9_69 rfl (hm1.1) ?_
          refine s_topi (b := nI 0) ((congrFun (zI_Ie (M := X1) (a := 941) (k := 6) (v := (nI 0))) 6).trans zw1_e) ?_
          refine s_if_le 73 (zdk hX9_step_0 38 rfl) (by decide) (fun c68 => ?_) (fun c68 => ?_)
          · refine s_iload_n (zdk hX9_step_0 41 rfl) rfl ?_
            refine s_if_ne 86 (zdk hX9_step_0 42 rfl) (by decide) (fun c74 => ?_) (fun c74 => ?_)
            · have n74 : ¬ w = 0 := fun e => c74 (by rw [e]; rfl)
              refine s_iload_n (zdk hX9_step_0 48 rfl) rfl ?_
              refine s_iconstv (v := nI 1) (zdk hX9_step_0 49 rfl) zc_iconst_1 ?_
              refine s_icmp_ne 100 (zdk hX9_step_0 50 rfl) (by decide) (fun c88 => ?_) (fun c88 => ?_)
              · have n88 : ¬ w = 1 := nne c88
                refine s_aload_n (zdk hX9_step_0 56 rfl) rfl ?_
                refine s_getR (zdk hX9_step_0 57 rfl) fw_X9_43 rfl (hm1.1) (show _ = some 951 from (hm1.r (i := 9) rfl).1) ?_
                refine s_iload_n (zdk hX9_step_0 58 rfl) rfl ?_
                refine s_ialoadN (N := 20) (j := s) (zdk hX9_step_0 59 rfl) ((hm1.r (i := 9) rfl).2.1) ((hm1.r (i := 9) rfl).2.2) (by omega) (by decide) ?_
                refine s_topi (b := q.2.2.2.2.1 s) (by rw [zI_L, zI_In (by decide)]; exact (hP1.2.2.1 s hs).2.2) ?_
                refine s_ireturn (zdk hX9_step_1 0 rfl) rfl rfl ?_
                exact ⟨by first | rw [if_pos (by omega)] | rw [if_neg (by omega), if_pos (by omega)] | rw [if_neg (by omega), if_neg (by omega)], _, rfl, hF1.th⟩
              · have n88 : w = 1 := neq c88 (by omega) (by omega)
                refine s_aload_n (zdk hX9_step_0 51 rfl) rfl ?_
                refine s_getR (zdk hX9_step_0 52 rfl) fw_X9_40 rfl (hm1.1) (show _ = some 950 from (hm1.r (i := 8) rfl).1) ?_
                refine s_iload_n (zdk hX9_step_0 53 rfl) rfl ?_
                refine s_ialoadN (N := 20) (j := s) (zdk hX9_step_0 54 rfl) ((hm1.r (i := 8) rfl).2.1) ((hm1.r (i := 8) rfl).2.2) (by omega) (by decide) ?_
                refine s_topi (b := q.2.2.2.1 s) (by rw [zI_L, zI_In (by decide)]; exact (hP1.2.2.1 s hs).2.1) ?_
                refine s_goto 106 (zdk hX9_step_0 55 rfl) (by decide) ?_
                refine s_ireturn (zdk hX9_step_1 0 rfl) rfl rfl ?_
                exact ⟨by first | rw [if_pos (by omega)] | rw [if_neg (by omega), if_pos (by omega)] | rw [if_neg (by omega), if_neg (by omega)], _, rfl, hF1.th⟩
            · have n74 : w = 0 := neq (show nI w = nI 0 from c74) (by omega) (by omega)
              refine s_aload_n (zdk hX9_step_0 43 rfl) rfl ?_
              refine s_getR (zdk hX9_step_0 44 rfl) fw_X9_37 rfl (hm1.1) (show _ = some 949 from (hm1.r (i := 7) rfl).1) ?_
              refine s_iload_n (zdk hX9_step_0 45 rfl) rfl ?_
              refine s_ialoadN (N := 20) (j := s) (zdk hX9_step_0 46 rfl) ((hm1.r (i := 7) rfl).2.1) ((hm1.r (i := 7) rfl).2.2) (by omega) (by decide) ?_
              refine s_topi (b := q.2.2.1 s) (by rw [zI_L, zI_In (by decide)]; exact (hP1.2.2.1 s hs).1) ?_
              refine s_goto 106 (zdk hX9_step_0 47 rfl) (by decide) ?_
              refine s_ireturn (zdk hX9_step_1 0 rfl) rfl rfl ?_
              exact ⟨by first | rw [if_pos (by omega)] | rw [if_neg (by omega), if_pos (by omega)] | rw [if_neg (by omega), if_neg (by omega)], _, rfl, hF1.th⟩
          · exact absurd (by decide) c68
      · exact absurd (by decide) c29
end
