/-! ===== act of the reference ===== -/
theorem sl_Jf {M : zMem} {a b : Nat} {g : Nat → Int64} : zJ (zsL M a g) b = if b = a then g else zJ M b := by
  funext j
  rw [sl_J]
  split <;> rfl
theorem pFr_keep {M X : zMem} {c : Nat} {g : Nat → Int64} (h : pFr (zsI M 941 6 (nI 0)) X) : pFr (KP M c g) (zsL (zsI X 941 5 (nI (min 8 (c + 1)))) 944 (kQ c (zJ X 944) g)) := by
  obtain ⟨h1, h2, h3, h4⟩ := h
  have e44 : zJ X 944 = zJ M 944 := ((h2 944 (by decide) (by decide)).2 (by decide)).trans rfl
  unfold KP
  refine ⟨h1, fun b q1 q2 => ⟨?_, fun q3 => ?_⟩, h3, fun k q => ?_⟩
  · rw [zI_L, zI_L, zI_In q1, zI_In q1]
    exact (h2 b q1 q2).1
  · rw [sl_Jf, sl_Jf, e44]
    by_cases q4 : b = 944
    · rw [if_pos q4, if_pos q4]
    · rw [if_neg q4, if_neg q4]
      exact ((h2 b q1 q2).2 q3)
  · rw [zI_L, zI_L, si_I, if_pos rfl, si_I, if_pos rfl]
    by_cases q5 : k = 5
    · rw [if_pos q5, if_pos q5]
    · rw [if_neg q5, if_neg q5]
      exact h4 k q
section
variable {l : Launch} {G : zG}
theorem w_X9_act_44 (hl : l.stackTraces = false) {K : zMem} (hm : mSh K) {g : Nat → Int64} (hb : gBd g) (h5 : g 5 = (its g 5).toInt64) {q : zPs} (hq20 : q.1 ≤ 20) {F : Nat → Nat} {O : Nat → Option Nat} {T : Nat → Nat} (hp : pOk g q F O T) (n : Nat) : ∀ (k i : Nat) (X : zMem) (x4 : Option Value), pFr K X → zI X 941 23 = nI q.1 → (∀ i, i < q.1 → zI X 949 i = q.2.2.1 i ∧ zI X 950 i = q.2.2.2.1 i ∧ zI X 951 i = q.2.2.2.2.1 i) → i ≤ q.1 → q.1 - i < k → zS l G mX9_act 7 220 0 0 44 [some (.ref 941), some (.int (nI n)), some (.int (nI (zMv O i))), some (.int (nI i)), x4] [] (zsL X 942 (zCo g F O T i)) (pAq K (zCo g F O T q.1) (zMv O q.1)) := by
  intro k
  induction k with
  | zero => intros; omega
  | succ k ih =>
    intro i X x4 hF h23 hr hi hk
    have hmX := hF.sh hm
    have hmv := zMv_le O i
    refine s_iload_n (zdk hX9_act_0 26 rfl) rfl ?_
    refine s_aload_n (zdk hX9_act_0 27 rfl) rfl ?_
    refine s_getI (zdk hX9_act_0 28 rfl) fw_X9_300 rfl hmX.1 ?_
    refine s_topi (b := nI q.1) h23 ?_
    refine s_icmp_ge 126 (zdk hX9_act_0 29 rfl) (by decide) (fun c => ?_) (fun c => ?_)
    · have n1 : q.1 ≤ i := nle c (by omega) (by omega)
      obtain rfl : i = q.1 := by omega
      refine s_iload_n (zdk hX9_act_1 10 rfl) rfl ?_
      exact s_ireturn (zdk hX9_act_1 11 rfl) rfl rfl ⟨rfl, X, rfl, hF⟩
    · have hi2 : i < q.1 := nlt c (by omega) (by omega)
      have nx : ∀ (v : Int32) (c : Nat), c ≠ 941 → zI (zsI X 941 29 v) c = zI X c := fun v c q => zI_In q
      cases hoi : O i with
      | none =>
        refine w_X9_act_52 hl hmX hb h5 hq20 hp hr hi2 hoi n x4 ?_
        refine ih (i + 1) _ _ (pFr_29 hF) ?_ ?_ (by omega) (by omega)
        · rw [si_I, if_pos rfl, if_neg (by decide)]; exact h23
        · intro j hj; rw [zI_In (by decide), zI_In (by decide), zI_In (by decide)]; exact hr j hj
      | some j =>
        refine w_X9_act_52x hl hmX hb h5 hq20 hp hr hi2 hoi n x4 ?_
        refine ih (i + 1) _ _ (pFr_29 (pFr_29 hF)) ?_ ?_ (by omega) (by omega)
        · rw [si_I, if_pos rfl, if_neg (by decide), si_I, if_pos rfl, if_neg (by decide)]; exact h23
        · intro j hj; rw [zI_In (by decide), zI_In (by decide), zI_In (by decide), zI_In (by decide), zI_In (by decide), zI_In (by decide)]; exact hr j hj
theorem c_X9_act (hl : l.stackTraces = false) {M : zMem} (hm : mSh M) {g : Nat → Int64} (hb : gBd g) (hi4 : g 4 = (its g 4).toInt64) {n : Nat} (hn1 : 1 ≤ n) (hn24 : n ≤ 24) {gn : Nat → Int64} (hg : ∀ r, pGn g (rLay g n r (gN g 3)) gn) {q0 q : zPs} (hq : pS g (-1) (nI 0) q0) (hqe : zPln g gn 20 q0 = q) {c : Nat} (hc : zI M 941 5 = nI c) (hc8 : c ≤ 8) (h5 : g 5 = (its g 5).toInt64) {F : Nat → Nat} {O : Nat → Option Nat} {T : Nat → Nat} (hp : pOk g q F O T) : zCm l G mX9_act 7 220 0 0 [.ref 941, .int (nI n)] (zsL M 942 g) (pAq (KP M c g) (zCo g F O T q.1) (zMv O q.1)) := by
  refine zCm.of0 (ls0 := [some (.ref 941), some (.int (nI n)), none, none, none]) (by decide +kernel) rfl hl rfl (Nat.le_of_ble_eq_true rfl) (fun v' M' q => by obtain ⟨-, X, rfl, h3⟩ := q; exact h3.1) (fun x M' q => by cases q.1) ?_
  have hq20 : q.1 ≤ 20 := by have h1 := zPln_le (g := g) (gn := gn) 20 q0; rw [hqe, hq.1] at h1; omega
  refine s_aload_n (zdk hX9_act_0 0 rfl) rfl ?_
  refine s_iload_n (zdk hX9_act_0 1 rfl) rfl ?_
  refine s_callS0 [.int (nI n)] (zdk hX9_act_0 2 rfl) cw_X9_320 rfl (Nat.le_of_ble_eq_true rfl) (by decide) (c_X9_isSpan hl (zsL M 942 g) (nI n)) ?_
  refine s_if_eq 12 (zdk hX9_act_0 3 rfl) (by decide) (fun c5 => ?_) (fun c5 => ?_)
  · have b5 : ¬ (nI 1 ≤ nI n ∧ nI n ≤ nI 24) := b01_eq c5
    exact absurd ⟨nI_le hn1 (by omega), nI_le hn24 (by omega)⟩ b5
  · have b5 : nI 1 ≤ nI n ∧ nI n ≤ nI 24 := b01_ne c5
    refine s_iconstv (v := nI 0) (zdk hX9_act_0 4 rfl) zc_iconst_0 ?_
    refine s_goto 13 (zdk hX9_act_0 5 rfl) (by decide) ?_
    refine s_putI (zdk hX9_act_0 7 rfl) fw_X9_69 rfl pw_9_6 (hm.1) ?_
    refine s_mem (M' := (zsL (zsI M 941 6 (nI 0)) 942 g)) rfl ?_
    refine s_aload_n (zdk hX9_act_0 8 rfl) rfl ?_
    refine s_getI (zdk hX9_act_0 9 rfl) fw_X9_69 rfl (hm.1) ?_
    refine s_topi (b := nI 0) ((congrFun (zI_Ie (M := M) (a := 941) (k := 6) (v := (nI 0))) 6).trans zw1_e) ?_
    refine s_if_le 25 (zdk hX9_act_0 10 rfl) (by decide) (fun c20 => ?_) (fun c20 => ?_)
    · refine s_aload_n (zdk hX9_act_0 13 rfl) rfl ?_
      refine s_iload_n (zdk hX9_act_0 14 rfl) rfl ?_
      refine s_iconstv (v := (-1)) (zdk hX9_act_0 15 rfl) zc_iconst_m1 ?_
      refine s_iconstv (v := nI 0) (zdk hX9_act_0 16 rfl) zc_iconst_0 ?_
      refine s_callV1 (ci := 9) [.int (nI n), .int ((-1)), .int (nI 0)] (zdk hX9_act_0 17 rfl) cw_X9_323 (hm.1) (by decide) rfl rfl rfl (Nat.le_of_ble_eq_true rfl) (by decide) (c_X9_plans hl (M := (zsI M 941 6 (nI 0))) hm hb hi4 (n := n) hn24 (-1) (nI 0) (hg _) hq hqe) ?_
      intro v1 N1 z1
      obtain ⟨y1, X1, pa1, rfl, hF1, h51, hP1⟩ := z1
      cases y1
      have hm1 := hF1.sh hm
      refine s_aload_n (zdk hX9_act_0 18 rfl) rfl ?_
      refine s_aload_n (zdk hX9_act_0 19 rfl) rfl ?_
      refine s_getR (zdk hX9_act_0 20 rfl) fw_X9_7 rfl (hm1.1) (show _ = some 942 from (hm1.r (i := 0) rfl).1) ?_
      refine s_callV0 (ci := 9) [.ref 942] (zdk hX9_act_0 21 rfl) cw_X9_83 (hm1.1) (by decide) rfl rfl rfl (Nat.le_of_ble_eq_true rfl) (by decide) (c_X9_keepsA hl (M := X1) hm1 ((hF1.2.2.2 5 (by decide)).trans (((congrFun zI_Ie 5).trans (zw1_n (by decide))).trans hc)) hc8) ?_
      refine s_iconstv (v := nI 0) (zdk hX9_act_0 22 rfl) zc_iconst_0 ?_
      refine s_istore_n (zdk hX9_act_0 23 rfl) (Nat.le_of_ble_eq_true rfl) ?_
      refine s_ls (ls' := [some (.ref 941), some (.int (nI n)), some (.int (nI 0)), none, none]) rfl ?_
      refine s_iconstv (v := nI 0) (zdk hX9_act_0 24 rfl) zc_iconst_0 ?_
      refine s_istore_n (zdk hX9_act_0 25 rfl) (Nat.le_of_ble_eq_true rfl) ?_
      refine s_ls (ls' := [some (.ref 941), some (.int (nI n)), some (.int (nI 0)), some (.int (nI 0)), none]) rfl ?_
      refine w_X9_act_44 hl (K := KP M c g) (show mSh (KP M c g) from hm) hb h5 hq20 hp n (q.1 + 1) 0 (zsL (zsI X1 941 5 (nI (min 8 (c + 1)))) 944 (kQ c (zJ X1 944) g)) _ (pFr_keep hF1) ?_ ?_ (by omega) (by omega)
      · rw [zI_L, si_I, if_pos rfl, if_neg (by decide)]; exact hP1.1
      · intro j hj; rw [zI_L, zI_In (by decide), zI_In (by decide), zI_In (by decide)]; exact hP1.2.2.1 j hj
    · exact absurd (by decide) c20
end
