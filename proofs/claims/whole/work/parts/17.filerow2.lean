theorem zc_bipush_8 : (Int8.ofInt 8).toInt32 = nI 8 := by decide
theorem zc_bipush_16 : (Int8.ofInt 16).toInt32 = nI 16 := by decide
theorem zc_iconst_2 : Int32.ofInt 2 = nI 2 := by decide
section
variable {l : Launch} {G : zG}
theorem c_X0_busiestPhase (hl : l.stackTraces = false) {M : zMem} {a : Nat} (ha : rSh M a) : zCm l G mX0_busiestPhase 0 0 0 0 [.ref a] M (zD (some (.int ((zbp (zI M (a + 2)) 12).1))) M) := by
  refine zCd.of (ls0 := [some (.ref a), none, none, none]) (by decide +kernel) rfl hl rfl (Nat.le_of_ble_eq_true rfl) rfl ?_
  refine s_iconstv (v := (-1)) (zdk hX0_busiestPhase 0 rfl) zc_iconst_m1 ?_
  refine s_istore_n (zdk hX0_busiestPhase 1 rfl) (Nat.le_of_ble_eq_true rfl) ?_
  refine s_ls (ls' := [some (.ref a), some (.int ((-1))), none, none]) rfl ?_
  refine s_iconstv (v := (-1)) (zdk hX0_busiestPhase 2 rfl) zc_iconst_m1 ?_
  refine s_istore_n (zdk hX0_busiestPhase 3 rfl) (Nat.le_of_ble_eq_true rfl) ?_
  refine s_ls (ls' := [some (.ref a), some (.int ((-1))), some (.int ((-1))), none]) rfl ?_
  refine s_iconstv (v := nI 0) (zdk hX0_busiestPhase 4 rfl) zc_iconst_0 ?_
  refine s_istore_n (zdk hX0_busiestPhase 5 rfl) (Nat.le_of_ble_eq_true rfl) ?_
  refine s_ls (ls' := [some (.ref a), some (.int ((-1))), some (.int ((-1))), some (.int (nI 0))]) rfl ?_
  exact w_X0_busiestPhase_6 ha 13 0 (by omega) (by omega)
theorem w_X0_seasonSpread_24 {M : zMem} {a : Nat} (ha : rSh M a) (x1 m : Int32) : ∀ (k : Nat) (i : Nat), i ≤ 12 → 12 - i < k → zS l G mX0_seasonSpread 1 23 0 0 24 [some (.ref a), some (.int (x1)), some (.int (m)), some (.int (zlt (zI M (a + 2)) m i)), some (.int (nI i))] [] M (zD (some (.int (m - zlt (zI M (a + 2)) m 12))) M) := by
  intro k
  induction k with
  | zero => intros; omega
  | succ k ih =>
    intro i hi hk
    refine s_iload (zdk hX0_seasonSpread 17 rfl) rfl ?_
    refine s_bipushv (v := nI 12) (zdk hX0_seasonSpread 18 rfl) zc_bipush_12 ?_
    refine s_icmp_ge 67 (zdk hX0_seasonSpread 19 rfl) (by decide) (fun c28 => ?_) (fun c28 => ?_)
    · obtain rfl : i = 12 := by have := nle c28 (by omega) (by omega); omega
      refine s_iload_n (zdk hX0_seasonSpread 39 rfl) rfl ?_
      refine s_iload_n (zdk hX0_seasonSpread 40 rfl) rfl ?_
      refine s_isub (zdk hX0_seasonSpread 41 rfl) ?_
      refine s_ireturn (zdk hX0_seasonSpread 42 rfl) rfl rfl ?_
      exact ⟨rfl, rfl⟩
    · have hi2 : i < 12 := nlt c28 (by omega) (by omega)
      refine s_aload_n (zdk hX0_seasonSpread 20 rfl) rfl ?_
      refine s_getR (zdk hX0_seasonSpread 21 rfl) fw_X0_41 rfl (ha.1) (ha.2.2.1) ?_
      refine s_iload (zdk hX0_seasonSpread 22 rfl) rfl ?_
      refine s_ialoadN (N := 12) (j := i) (zdk hX0_seasonSpread 23 rfl) (ha.2.2.2.2.2.1) (ha.2.2.2.2.2.2) (hi2) (by decide) ?_
      refine s_iconstv (v := (-1)) (zdk hX0_seasonSpread 24 rfl) zc_iconst_m1 ?_
      refine s_icmp_eq 61 (zdk hX0_seasonSpread 25 rfl) (by decide) (fun c39 => ?_) (fun c39 => ?_)
      · have e1 : zlt (zI M (a + 2)) m (i + 1) = zlt (zI M (a + 2)) m i := if_pos c39
        refine s_ls (ls' := [some (.ref a), some (.int (x1)), some (.int (m)), some (.int (zlt (zI M (a + 2)) m (i + 1))), some (.int (nI i))]) (by rw [e1]) ?_
        refine s_iinc (r := nI (i + 1)) (zdk hX0_seasonSpread 37 rfl) (Nat.le_of_ble_eq_true rfl) rfl (nI_1 i) ?_
        refine s_ls (ls' := [some (.ref a), some (.int (x1)), some (.int (m)), some (.int (zlt (zI M (a + 2)) m (i + 1))), some (.int (nI (i + 1)))]) rfl ?_
        refine s_goto 24 (zdk hX0_seasonSpread 38 rfl) (by decide) ?_
        exact ih (i + 1) (by omega) (by omega)
      · refine s_aload_n (zdk hX0_seasonSpread 26 rfl) rfl ?_
        refine s_getR (zdk hX0_seasonSpread 27 rfl) fw_X0_41 rfl (ha.1) (ha.2.2.1) ?_
        refine s_iload (zdk hX0_seasonSpread 28 rfl) rfl ?_
        refine s_ialoadN (N := 12) (j := i) (zdk hX0_seasonSpread 29 rfl) (ha.2.2.2.2.2.1) (ha.2.2.2.2.2.2) (hi2) (by decide) ?_
        refine s_iload_n (zdk hX0_seasonSpread 30 rfl) rfl ?_
        refine s_icmp_ge 61 (zdk hX0_seasonSpread 31 rfl) (by decide) (fun c50 => ?_) (fun c50 => ?_)
        · have e1 : zlt (zI M (a + 2)) m (i + 1) = zlt (zI M (a + 2)) m i := (if_neg c39).trans (if_pos c50)
          refine s_ls (ls' := [some (.ref a), some (.int (x1)), some (.int (m)), some (.int (zlt (zI M (a + 2)) m (i + 1))), some (.int (nI i))]) (by rw [e1]) ?_
          refine s_iinc (r := nI (i + 1)) (zdk hX0_seasonSpread 37 rfl) (Nat.le_of_ble_eq_true rfl) rfl (nI_1 i) ?_
          refine s_ls (ls' := [some (.ref a), some (.int (x1)), some (.int (m)), some (.int (zlt (zI M (a + 2)) m (i + 1))), some (.int (nI (i + 1)))]) rfl ?_
          refine s_goto 24 (zdk hX0_seasonSpread 38 rfl) (by decide) ?_
          exact ih (i + 1) (by omega) (by omega)
        · have e1 : zlt (zI M (a + 2)) m (i + 1) = zI M (a + 2) i := (if_neg c39).trans (if_neg c50)
          refine s_aload_n (zdk hX0_seasonSpread 32 rfl) rfl ?_
          refine s_getR (zdk hX0_seasonSpread 33 rfl) fw_X0_41 rfl (ha.1) (ha.2.2.1) ?_
          refine s_iload (zdk hX0_seasonSpread 34 rfl) rfl ?_
          refine s_ialoadN (N := 12) (j := i) (zdk hX0_seasonSpread 35 rfl) (ha.2.2.2.2.2.1) (ha.2.2.2.2.2.2) (hi2) (by decide) ?_
          refine s_istore_n (zdk hX0_seasonSpread 36 rfl) (Nat.le_of_ble_eq_true rfl) ?_
          refine s_ls (ls' := [some (.ref a), some (.int (x1)), some (.int (m)), some (.int (zI M (a + 2) (i))), some (.int (nI i))]) rfl ?_
          refine s_ls (ls' := [some (.ref a), some (.int (x1)), some (.int (m)), some (.int (zlt (zI M (a + 2)) m (i + 1))), some (.int (nI i))]) (by rw [e1]) ?_
          refine s_iinc (r := nI (i + 1)) (zdk hX0_seasonSpread 37 rfl) (Nat.le_of_ble_eq_true rfl) rfl (nI_1 i) ?_
          refine s_ls (ls' := [some (.ref a), some (.int (x1)), some (.int (m)), some (.int (zlt (zI M (a + 2)) m (i + 1))), some (.int (nI (i + 1)))]) rfl ?_
          refine s_goto 24 (zdk hX0_seasonSpread 38 rfl) (by decide) ?_
          exact ih (i + 1) (by omega) (by omega)
theorem c_X0_seasonSpread (hl : l.stackTraces = false) {M : zMem} {a : Nat} (ha : rSh M a) : zCm l G mX0_seasonSpread 1 23 0 0 [.ref a] M (zD (some (.int (zspr (zI M (a + 2))))) M) := by
  refine zCd.of (ls0 := [some (.ref a), none, none, none, none]) (by decide +kernel) rfl hl rfl (Nat.le_of_ble_eq_true rfl) rfl ?_
  refine s_aload_n (zdk hX0_seasonSpread 0 rfl) rfl ?_
  refine s_callV0 (ci := 0) [] (zdk hX0_seasonSpread 1 rfl) cw_X0_53 (ha.1) (by decide) rfl rfl rfl (Nat.le_of_ble_eq_true rfl) (by decide) (c_X0_busiestPhase hl ha) ?_
  refine s_istore_n (zdk hX0_seasonSpread 2 rfl) (Nat.le_of_ble_eq_true rfl) ?_
  refine s_ls (ls' := [some (.ref a), some (.int ((zbp (zI M (a + 2)) 12).1)), none, none, none]) rfl ?_
  refine s_iload_n (zdk hX0_seasonSpread 3 rfl) rfl ?_
  refine s_iconstv (v := (-1)) (zdk hX0_seasonSpread 4 rfl) zc_iconst_m1 ?_
  refine s_icmp_ne 12 (zdk hX0_seasonSpread 5 rfl) (by decide) (fun c7 => ?_) (fun c7 => ?_)
  · obtain ⟨j, hj, e1, e2⟩ : ∃ j, j < 12 ∧ (zbp (zI M (a + 2)) 12).1 = nI j ∧ (zbp (zI M (a + 2)) 12).2 = zI M (a + 2) j := by
      rcases zbp_at (zI M (a + 2)) 12 with q | q
      · exact absurd q.1 c7
      · exact q
    refine s_ls (ls' := [some (.ref a), some (.int (nI j)), none, none, none]) (by rw [← e1]) ?_
    refine s_aload_n (zdk hX0_seasonSpread 8 rfl) rfl ?_
    refine s_getR (zdk hX0_seasonSpread 9 rfl) fw_X0_41 rfl (ha.1) (ha.2.2.1) ?_
    refine s_iload_n (zdk hX0_seasonSpread 10 rfl) rfl ?_
    refine s_ialoadN (N := 12) (j := j) (zdk hX0_seasonSpread 11 rfl) (ha.2.2.2.2.2.1) (ha.2.2.2.2.2.2) (hj) (by decide) ?_
    refine s_istore_n (zdk hX0_seasonSpread 12 rfl) (Nat.le_of_ble_eq_true rfl) ?_
    refine s_ls (ls' := [some (.ref a), some (.int (nI j)), some (.int (zI M (a + 2) (j))), none, none]) rfl ?_
    refine s_iload_n (zdk hX0_seasonSpread 13 rfl) rfl ?_
    refine s_istore_n (zdk hX0_seasonSpread 14 rfl) (Nat.le_of_ble_eq_true rfl) ?_
    refine s_ls (ls' := [some (.ref a), some (.int (nI j)), some (.int (zI M (a + 2) (j))), some (.int (zI M (a + 2) (j))), none]) rfl ?_
    refine s_iconstv (v := nI 0) (zdk hX0_seasonSpread 15 rfl) zc_iconst_0 ?_
    refine s_istore (zdk hX0_seasonSpread 16 rfl) (Nat.le_of_ble_eq_true rfl) ?_
    refine s_ls (ls' := [some (.ref a), some (.int (nI j)), some (.int (zI M (a + 2) (j))), some (.int (zI M (a + 2) (j))), some (.int (nI 0))]) rfl ?_
    have h := w_X0_seasonSpread_24 (l := l) (G := G) ha (nI j) (zI M (a + 2) j) 13 0 (by omega) (by omega)
    have e3 : zspr (zI M (a + 2)) = zI M (a + 2) j - zlt (zI M (a + 2)) (zI M (a + 2) j) 12 := by rw [zspr, if_neg c7, e2]
    rw [e3]
    exact h
  · refine s_iconstv (v := nI 0) (zdk hX0_seasonSpread 6 rfl) zc_iconst_0 ?_
    refine s_ireturn (zdk hX0_seasonSpread 7 rfl) rfl rfl ?_
    exact ⟨by rw [zspr, if_pos c7], rfl⟩
theorem w_X0_meanSeason_6 {M : zMem} {a : Nat} (ha : rSh M a) : ∀ (k : Nat) (i : Nat), i ≤ 12 → 12 - i < k → zS l G mX0_meanSeason 0 0 0 0 6 [some (.ref a), some (.int (zsm (zI M (a + 2)) i)), some (.int (zkn (zI M (a + 2)) i)), some (.int (nI i))] [] M (zD (some (.int (zmn (zI M (a + 2))))) M) := by
  intro k
  induction k with
  | zero => intros; omega
  | succ k ih =>
    intro i hi hk
    refine s_iload_n (zdk hX0_meanSeason 6 rfl) rfl ?_
    refine s_bipushv (v := nI 12) (zdk hX0_meanSeason 7 rfl) zc_bipush_12 ?_
    refine s_icmp_ge 40 (zdk hX0_meanSeason 8 rfl) (by decide) (fun c9 => ?_) (fun c9 => ?_)
    · obtain rfl : i = 12 := by have := nle c9 (by omega) (by omega); omega
      refine s_iload_n (zdk hX0_meanSeason 25 rfl) rfl ?_
      refine s_if_ne 48 (zdk hX0_meanSeason 26 rfl) (by decide) (fun c41 => ?_) (fun c41 => ?_)
      · refine s_iload_n (zdk hX0_meanSeason 29 rfl) rfl ?_
        refine s_iload_n (zdk hX0_meanSeason 30 rfl) rfl ?_
        refine s_idiv (zdk hX0_meanSeason 31 rfl) (c41) ?_
        refine s_ireturn (zdk hX0_meanSeason 32 rfl) rfl rfl ?_
        first | exact ⟨by rw [zmn, if_pos c41], rfl⟩ | exact ⟨by rw [zmn, if_neg c41], rfl⟩
      · refine s_iconstv (v := nI 0) (zdk hX0_meanSeason 27 rfl) zc_iconst_0 ?_
        refine s_goto 51 (zdk hX0_meanSeason 28 rfl) (by decide) ?_
        refine s_ireturn (zdk hX0_meanSeason 32 rfl) rfl rfl ?_
        first | exact ⟨by rw [zmn, if_pos c41], rfl⟩ | exact ⟨by rw [zmn, if_neg c41], rfl⟩
    · have hi2 : i < 12 := nlt c9 (by omega) (by omega)
      refine s_aload_n (zdk hX0_meanSeason 9 rfl) rfl ?_
      refine s_getR (zdk hX0_meanSeason 10 rfl) fw_X0_41 rfl (ha.1) (ha.2.2.1) ?_
      refine s_iload_n (zdk hX0_meanSeason 11 rfl) rfl ?_
      refine s_ialoadN (N := 12) (j := i) (zdk hX0_meanSeason 12 rfl) (ha.2.2.2.2.2.1) (ha.2.2.2.2.2.2) (hi2) (by decide) ?_
      refine s_iconstv (v := (-1)) (zdk hX0_meanSeason 13 rfl) zc_iconst_m1 ?_
      refine s_icmp_eq 34 (zdk hX0_meanSeason 14 rfl) (by decide) (fun c19 => ?_) (fun c19 => ?_)
      · have e1 : zsm (zI M (a + 2)) (i + 1) = zsm (zI M (a + 2)) i := if_pos c19
        have e2 : zkn (zI M (a + 2)) (i + 1) = zkn (zI M (a + 2)) i := if_pos c19
        refine s_ls (ls' := [some (.ref a), some (.int (zsm (zI M (a + 2)) (i + 1))), some (.int (zkn (zI M (a + 2)) (i + 1))), some (.int (nI i))]) (by rw [e1, e2]) ?_
        refine s_iinc (r := nI (i + 1)) (zdk hX0_meanSeason 23 rfl) (Nat.le_of_ble_eq_true rfl) rfl (nI_1 i) ?_
        refine s_ls (ls' := [some (.ref a), some (.int (zsm (zI M (a + 2)) (i + 1))), some (.int (zkn (zI M (a + 2)) (i + 1))), some (.int (nI (i + 1)))]) rfl ?_
        refine s_goto 6 (zdk hX0_meanSeason 24 rfl) (by decide) ?_
        exact ih (i + 1) (by omega) (by omega)
      · have e1 : zsm (zI M (a + 2)) (i + 1) = zsm (zI M (a + 2)) i + zI M (a + 2) i := if_neg c19
        have e2 : zkn (zI M (a + 2)) (i + 1) = zkn (zI M (a + 2)) i + nI 1 := if_neg c19
        refine s_iload_n (zdk hX0_meanSeason 15 rfl) rfl ?_
        refine s_aload_n (zdk hX0_meanSeason 16 rfl) rfl ?_
        refine s_getR (zdk hX0_meanSeason 17 rfl) fw_X0_41 rfl (ha.1) (ha.2.2.1) ?_
        refine s_iload_n (zdk hX0_meanSeason 18 rfl) rfl ?_
        refine s_ialoadN (N := 12) (j := i) (zdk hX0_meanSeason 19 rfl) (ha.2.2.2.2.2.1) (ha.2.2.2.2.2.2) (hi2) (by decide) ?_
        refine s_iadd (zdk hX0_meanSeason 20 rfl) ?_
        refine s_istore_n (zdk hX0_meanSeason 21 rfl) (Nat.le_of_ble_eq_true rfl) ?_
        refine s_ls (ls' := [some (.ref a), some (.int ((zsm (zI M (a + 2)) i) + (zI M (a + 2) (i)))), some (.int (zkn (zI M (a + 2)) i)), some (.int (nI i))]) rfl ?_
        refine s_iinc (r := zkn (zI M (a + 2)) i + nI 1) (zdk hX0_meanSeason 22 rfl) (Nat.le_of_ble_eq_true rfl) rfl (rfl) ?_
        refine s_ls (ls' := [some (.ref a), some (.int ((zsm (zI M (a + 2)) i) + (zI M (a + 2) (i)))), some (.int (zkn (zI M (a + 2)) i + nI 1)), some (.int (nI i))]) rfl ?_
        refine s_ls (ls' := [some (.ref a), some (.int (zsm (zI M (a + 2)) (i + 1))), some (.int (zkn (zI M (a + 2)) (i + 1))), some (.int (nI i))]) (by rw [e1, e2]) ?_
        refine s_iinc (r := nI (i + 1)) (zdk hX0_meanSeason 23 rfl) (Nat.le_of_ble_eq_true rfl) rfl (nI_1 i) ?_
        refine s_ls (ls' := [some (.ref a), some (.int (zsm (zI M (a + 2)) (i + 1))), some (.int (zkn (zI M (a + 2)) (i + 1))), some (.int (nI (i + 1)))]) rfl ?_
        refine s_goto 6 (zdk hX0_meanSeason 24 rfl) (by decide) ?_
        exact ih (i + 1) (by omega) (by omega)
theorem c_X0_meanSeason (hl : l.stackTraces = false) {M : zMem} {a : Nat} (ha : rSh M a) : zCm l G mX0_meanSeason 0 0 0 0 [.ref a] M (zD (some (.int (zmn (zI M (a + 2))))) M) := by
  refine zCd.of (ls0 := [some (.ref a), none, none, none]) (by decide +kernel) rfl hl rfl (Nat.le_of_ble_eq_true rfl) rfl ?_
  refine s_iconstv (v := nI 0) (zdk hX0_meanSeason 0 rfl) zc_iconst_0 ?_
  refine s_istore_n (zdk hX0_meanSeason 1 rfl) (Nat.le_of_ble_eq_true rfl) ?_
  refine s_ls (ls' := [some (.ref a), some (.int (nI 0)), none, none]) rfl ?_
  refine s_iconstv (v := nI 0) (zdk hX0_meanSeason 2 rfl) zc_iconst_0 ?_
  refine s_istore_n (zdk hX0_meanSeason 3 rfl) (Nat.le_of_ble_eq_true rfl) ?_
  refine s_ls (ls' := [some (.ref a), some (.int (nI 0)), some (.int (nI 0)), none]) rfl ?_
  refine s_iconstv (v := nI 0) (zdk hX0_meanSeason 4 rfl) zc_iconst_0 ?_
  refine s_istore_n (zdk hX0_meanSeason 5 rfl) (Nat.le_of_ble_eq_true rfl) ?_
  refine s_ls (ls' := [some (.ref a), some (.int (nI 0)), some (.int (nI 0)), some (.int (nI 0))]) rfl ?_
  exact w_X0_meanSeason_6 ha 13 0 (by omega) (by omega)
theorem c_X0_forecastFor (hl : l.stackTraces = false) {M : zMem} {a : Nat} (ha : rSh M a) {ph : Nat} (hp : ph < 12) : zCm l G mX0_forecastFor 1 23 0 0 [.ref a, .int (nI ph)] M (zD (some (.int (zfc (zI M (a + 2)) ph))) M) := by
  refine zCd.of (ls0 := [some (.ref a), some (.int (nI ph))]) (by decide +kernel) rfl hl rfl (Nat.le_of_ble_eq_true rfl) rfl ?_
  refine s_aload_n (zdk hX0_forecastFor 0 rfl) rfl ?_
  refine s_getR (zdk hX0_forecastFor 1 rfl) fw_X0_41 rfl (ha.1) (ha.2.2.1) ?_
  refine s_iload_n (zdk hX0_forecastFor 2 rfl) rfl ?_
  refine s_ialoadN (N := 12) (j := ph) (zdk hX0_forecastFor 3 rfl) (ha.2.2.2.2.2.1) (ha.2.2.2.2.2.2) (hp) (by decide) ?_
  refine s_iconstv (v := (-1)) (zdk hX0_forecastFor 4 rfl) zc_iconst_m1 ?_
  refine s_icmp_eq 19 (zdk hX0_forecastFor 5 rfl) (by decide) (fun c7 => ?_) (fun c7 => ?_)
  · refine s_aload_n (zdk hX0_forecastFor 11 rfl) rfl ?_
    refine s_callV0 (ci := 0) [] (zdk hX0_forecastFor 12 rfl) cw_X0_57 (ha.1) (by decide) rfl rfl rfl (Nat.le_of_ble_eq_true rfl) (by decide) (c_X0_meanSeason hl ha) ?_
    refine s_ireturn (zdk hX0_forecastFor 13 rfl) rfl rfl ?_
    first | exact ⟨by rw [zfc, if_neg c7], rfl⟩ | exact ⟨by rw [zfc, if_pos c7], rfl⟩
  · refine s_aload_n (zdk hX0_forecastFor 6 rfl) rfl ?_
    refine s_getR (zdk hX0_forecastFor 7 rfl) fw_X0_41 rfl (ha.1) (ha.2.2.1) ?_
    refine s_iload_n (zdk hX0_forecastFor 8 rfl) rfl ?_
    refine s_ialoadN (N := 12) (j := ph) (zdk hX0_forecastFor 9 rfl) (ha.2.2.2.2.2.1) (ha.2.2.2.2.2.2) (hp) (by decide) ?_
    refine s_goto 23 (zdk hX0_forecastFor 10 rfl) (by decide) ?_
    refine s_ireturn (zdk hX0_forecastFor 13 rfl) rfl rfl ?_
    first | exact ⟨by rw [zfc, if_neg c7], rfl⟩ | exact ⟨by rw [zfc, if_pos c7], rfl⟩
theorem c_X0_learnSeason (hl : l.stackTraces = false) {M : zMem} {a : Nat} (ha : rSh M a) {ph : Nat} (hp : ph < 12) (u rate : Int32) : zCm l G mX0_learnSeason 0 0 0 0 [.ref a, .int (nI ph), .int u, .int rate] M (zD none (zsI M (a + 2) ph (zlv (zI M (a + 2) ph) u rate))) := by
  refine zCd.of (ls0 := [some (.ref a), some (.int (nI ph)), some (.int (u)), some (.int (rate)), none, none]) (by decide +kernel) rfl hl rfl (Nat.le_of_ble_eq_true rfl) rfl ?_
  refine s_bipushv (v := nI 16) (zdk hX0_learnSeason 0 rfl) zc_bipush_16 ?_
  refine s_iload_n (zdk hX0_learnSeason 1 rfl) rfl ?_
  refine s_imul (zdk hX0_learnSeason 2 rfl) ?_
  refine s_istore (zdk hX0_learnSeason 3 rfl) (Nat.le_of_ble_eq_true rfl) ?_
  refine s_ls (ls' := [some (.ref a), some (.int (nI ph)), some (.int (u)), some (.int (rate)), some (.int ((nI 16) * (u))), none]) rfl ?_
  refine s_aload_n (zdk hX0_learnSeason 4 rfl) rfl ?_
  refine s_getR (zdk hX0_learnSeason 5 rfl) fw_X0_41 rfl (ha.1) (ha.2.2.1) ?_
  refine s_iload_n (zdk hX0_learnSeason 6 rfl) rfl ?_
  refine s_ialoadN (N := 12) (j := ph) (zdk hX0_learnSeason 7 rfl) (ha.2.2.2.2.2.1) (ha.2.2.2.2.2.2) (hp) (by decide) ?_
  refine s_istore (zdk hX0_learnSeason 8 rfl) (Nat.le_of_ble_eq_true rfl) ?_
  refine s_ls (ls' := [some (.ref a), some (.int (nI ph)), some (.int (u)), some (.int (rate)), some (.int ((nI 16) * (u))), some (.int (zI M (a + 2) (ph)))]) rfl ?_
  refine s_aload_n (zdk hX0_learnSeason 9 rfl) rfl ?_
  refine s_getR (zdk hX0_learnSeason 10 rfl) fw_X0_41 rfl (ha.1) (ha.2.2.1) ?_
  refine s_iload_n (zdk hX0_learnSeason 11 rfl) rfl ?_
  refine s_iload (zdk hX0_learnSeason 12 rfl) rfl ?_
  refine s_iconstv (v := (-1)) (zdk hX0_learnSeason 13 rfl) zc_iconst_m1 ?_
  refine s_icmp_ne 30 (zdk hX0_learnSeason 14 rfl) (by decide) (fun c22 => ?_) (fun c22 => ?_)
  · refine s_iload (zdk hX0_learnSeason 17 rfl) rfl ?_
    refine s_iload (zdk hX0_learnSeason 18 rfl) rfl ?_
    refine s_iload (zdk hX0_learnSeason 19 rfl) rfl ?_
    refine s_isub (zdk hX0_learnSeason 20 rfl) ?_
    refine s_iload_n (zdk hX0_learnSeason 21 rfl) rfl ?_
    refine s_imul (zdk hX0_learnSeason 22 rfl) ?_
    refine s_bipushv (v := nI 8) (zdk hX0_learnSeason 23 rfl) zc_bipush_8 ?_
    refine s_idiv (zdk hX0_learnSeason 24 rfl) (by decide) ?_
    refine s_iadd (zdk hX0_learnSeason 25 rfl) ?_
    refine s_iastoreN (N := 12) (j := ph) (zdk hX0_learnSeason 26 rfl) (ha.2.2.2.2.2.1) (ha.2.2.2.2.2.2) (hp) (by decide) ?_
    refine s_return (zdk hX0_learnSeason 27 rfl) rfl ?_
    first | exact ⟨rfl, by rw [zlv, if_neg c22]⟩ | exact ⟨rfl, by rw [zlv, if_pos c22]⟩
  · refine s_iload (zdk hX0_learnSeason 15 rfl) rfl ?_
    refine s_goto 43 (zdk hX0_learnSeason 16 rfl) (by decide) ?_
    refine s_iastoreN (N := 12) (j := ph) (zdk hX0_learnSeason 26 rfl) (ha.2.2.2.2.2.1) (ha.2.2.2.2.2.2) (hp) (by decide) ?_
    refine s_return (zdk hX0_learnSeason 27 rfl) rfl ?_
    first | exact ⟨rfl, by rw [zlv, if_neg c22]⟩ | exact ⟨rfl, by rw [zlv, if_pos c22]⟩
theorem c_X0_scoreForecast (hl : l.stackTraces = false) {M : zMem} {a : Nat} (ha : rSh M a) {ph : Nat} (hp : ph < 12) : zCm l G mX0_scoreForecast 2 46 0 0 [.ref a, .int (nI ph)] M (zD none (if 0 < zkn (zI M (a + 2)) 12 then (zsI (zsJ M a 6 (zJ M a 6 + (zab (nI 16 * zI M a 3 - zfc (zI M (a + 2)) ph)).toInt64)) a 5 (zI M a 5 + nI 1)) else M)) := by
  refine zCd.of (ls0 := [some (.ref a), some (.int (nI ph))]) (by decide +kernel) rfl hl rfl (Nat.le_of_ble_eq_true rfl) (by split <;> rfl) ?_
  refine s_aload_n (zdk hX0_scoreForecast 0 rfl) rfl ?_
  refine s_callV0 (ci := 0) [] (zdk hX0_scoreForecast 1 rfl) cw_X0_60 (ha.1) (by decide) rfl rfl rfl (Nat.le_of_ble_eq_true rfl) (by decide) (c_X0_knownSeasons hl ha) ?_
  refine s_if_le 43 (zdk hX0_scoreForecast 2 rfl) (by decide) (fun c4 => ?_) (fun c4 => ?_)
  · rw [if_neg (ngt0 c4)]
    refine s_return (zdk hX0_scoreForecast 24 rfl) rfl ?_
    exact ⟨rfl, rfl⟩
  · rw [if_pos (Int32.not_le.mp c4)]
    refine s_aload_n (zdk hX0_scoreForecast 3 rfl) rfl ?_
    refine s_dupr (zdk hX0_scoreForecast 4 rfl) ?_
    refine s_getJ (zdk hX0_scoreForecast 5 rfl) fw_X0_31 rfl (ha.1) ?_
    refine s_bipushv (v := nI 16) (zdk hX0_scoreForecast 6 rfl) zc_bipush_16 ?_
    refine s_aload_n (zdk hX0_scoreForecast 7 rfl) rfl ?_
    refine s_getI (zdk hX0_scoreForecast 8 rfl) fw_X0_22 rfl (ha.1) ?_
    refine s_imul (zdk hX0_scoreForecast 9 rfl) ?_
    refine s_aload_n (zdk hX0_scoreForecast 10 rfl) rfl ?_
    refine s_iload_n (zdk hX0_scoreForecast 11 rfl) rfl ?_
    refine s_callV0 (ci := 0) [.int (nI ph)] (zdk hX0_scoreForecast 12 rfl) cw_X0_63 (ha.1) (by decide) rfl rfl rfl (Nat.le_of_ble_eq_true rfl) (by decide) (c_X0_forecastFor hl ha hp) ?_
    refine s_isub (zdk hX0_scoreForecast 13 rfl) ?_
    refine s_callS0 [.int (((nI 16) * (zI M a 3)) - (zfc (zI M (a + 2)) ph))] (zdk hX0_scoreForecast 14 rfl) cw_X0_67 rfl (Nat.le_of_ble_eq_true rfl) (by decide) (c_abs hl M _) ?_
    refine s_i2l (zdk hX0_scoreForecast 15 rfl) ?_
    refine s_ladd (zdk hX0_scoreForecast 16 rfl) ?_
    refine s_putJ (zdk hX0_scoreForecast 17 rfl) fw_X0_31 rfl pw_0_6 (ha.1) ?_
    refine s_aload_n (zdk hX0_scoreForecast 18 rfl) rfl ?_
    refine s_dupr (zdk hX0_scoreForecast 19 rfl) ?_
    refine s_getI (zdk hX0_scoreForecast 20 rfl) fw_X0_28 rfl (ha.1) ?_
    refine s_iconstv (v := nI 1) (zdk hX0_scoreForecast 21 rfl) zc_iconst_1 ?_
    refine s_iadd (zdk hX0_scoreForecast 22 rfl) ?_
    refine s_putI (zdk hX0_scoreForecast 23 rfl) fw_X0_28 rfl pw_0_5 (ha.1) ?_
    refine s_return (zdk hX0_scoreForecast 24 rfl) rfl ?_
    exact ⟨rfl, rfl⟩
theorem w_X0_differenceAt_4 (hl : l.stackTraces = false) {M : zMem} {a : Nat} (ha : rSh M a) {n c : Nat} (hn : zI M a 7 = nI n) (hn24 : n ≤ 24) (hc : c ≤ n) : ∀ (k : Nat) (i : Nat), i ≤ n - c → n - c - i < k → zS l G mX0_differenceAt 1 23 0 0 4 [some (.ref a), some (.int (nI c)), some (.int (zdf (zI M (a + 1)) c i)), some (.int (nI i))] [] M (zD (some (.int (zdf (zI M (a + 1)) c (n - c)))) M) := by
  intro k
  induction k with
  | zero => intros; omega
  | succ k ih =>
    intro i hi hk
    refine s_iload_n (zdk hX0_differenceAt 4 rfl) rfl ?_
    refine s_iload_n (zdk hX0_differenceAt 5 rfl) rfl ?_
    refine s_iadd (zdk hX0_differenceAt 6 rfl) ?_
    refine s_topi (b := nI (i + c)) (nI_add i c) ?_
    refine s_aload_n (zdk hX0_differenceAt 7 rfl) rfl ?_
    refine s_getI (zdk hX0_differenceAt 8 rfl) fw_X0_34 rfl (ha.1) ?_
    refine s_topi (b := nI n) (hn) ?_
    refine s_icmp_ge 41 (zdk hX0_differenceAt 9 rfl) (by decide) (fun c11 => ?_) (fun c11 => ?_)
    · obtain rfl : i = n - c := by have := nle c11 (by omega) (by omega); omega
      refine s_iload_n (zdk hX0_differenceAt 27 rfl) rfl ?_
      refine s_ireturn (zdk hX0_differenceAt 28 rfl) rfl rfl ?_
      exact ⟨rfl, rfl⟩
    · have hi2 : i + c < n := nlt c11 (by omega) (by omega)
      refine s_iload_n (zdk hX0_differenceAt 10 rfl) rfl ?_
      refine s_aload_n (zdk hX0_differenceAt 11 rfl) rfl ?_
      refine s_getR (zdk hX0_differenceAt 12 rfl) fw_X0_37 rfl (ha.1) (ha.2.1) ?_
      refine s_iload_n (zdk hX0_differenceAt 13 rfl) rfl ?_
      refine s_ialoadN (N := 24) (j := i) (zdk hX0_differenceAt 14 rfl) (ha.2.2.2.1) (ha.2.2.2.2.1) (by omega) (by decide) ?_
      refine s_aload_n (zdk hX0_differenceAt 15 rfl) rfl ?_
      refine s_getR (zdk hX0_differenceAt 16 rfl) fw_X0_37 rfl (ha.1) (ha.2.1) ?_
      refine s_iload_n (zdk hX0_differenceAt 17 rfl) rfl ?_
      refine s_iload_n (zdk hX0_differenceAt 18 rfl) rfl ?_
      refine s_iadd (zdk hX0_differenceAt 19 rfl) ?_
      refine s_topi (b := nI (i + c)) (nI_add i c) ?_
      refine s_ialoadN (N := 24) (j := (i + c)) (zdk hX0_differenceAt 20 rfl) (ha.2.2.2.1) (ha.2.2.2.2.1) (by omega) (by decide) ?_
      refine s_isub (zdk hX0_differenceAt 21 rfl) ?_
      refine s_callS0 [.int ((zI M (a + 1) (i)) - (zI M (a + 1) ((i + c))))] (zdk hX0_differenceAt 22 rfl) cw_X0_67 rfl (Nat.le_of_ble_eq_true rfl) (by decide) (c_abs hl M _) ?_
      refine s_iadd (zdk hX0_differenceAt 23 rfl) ?_
      refine s_istore_n (zdk hX0_differenceAt 24 rfl) (Nat.le_of_ble_eq_true rfl) ?_
      refine s_ls (ls' := [some (.ref a), some (.int (nI c)), some (.int ((zdf (zI M (a + 1)) c i) + (zab ((zI M (a + 1) (i)) - (zI M (a + 1) ((i + c))))))), some (.int (nI i))]) rfl ?_
      refine s_ls (ls' := [some (.ref a), some (.int (nI c)), some (.int (zdf (zI M (a + 1)) c (i + 1))), some (.int (nI i))]) rfl ?_
      refine s_iinc (r := nI (i + 1)) (zdk hX0_differenceAt 25 rfl) (Nat.le_of_ble_eq_true rfl) rfl (nI_1 i) ?_
      refine s_ls (ls' := [some (.ref a), some (.int (nI c)), some (.int (zdf (zI M (a + 1)) c (i + 1))), some (.int (nI (i + 1)))]) rfl ?_
      refine s_goto 4 (zdk hX0_differenceAt 26 rfl) (by decide) ?_
      exact ih (i + 1) (by omega) (by omega)
theorem c_X0_differenceAt (hl : l.stackTraces = false) {M : zMem} {a : Nat} (ha : rSh M a) {n c : Nat} (hn : zI M a 7 = nI n) (hn24 : n ≤ 24) (hc : c ≤ n) : zCm l G mX0_differenceAt 1 23 0 0 [.ref a, .int (nI c)] M (zD (some (.int (zdf (zI M (a + 1)) c (n - c)))) M) := by
  refine zCd.of (ls0 := [some (.ref a), some (.int (nI c)), none, none]) (by decide +kernel) rfl hl rfl (Nat.le_of_ble_eq_true rfl) rfl ?_
  refine s_iconstv (v := nI 0) (zdk hX0_differenceAt 0 rfl) zc_iconst_0 ?_
  refine s_istore_n (zdk hX0_differenceAt 1 rfl) (Nat.le_of_ble_eq_true rfl) ?_
  refine s_ls (ls' := [some (.ref a), some (.int (nI c)), some (.int (nI 0)), none]) rfl ?_
  refine s_iconstv (v := nI 0) (zdk hX0_differenceAt 2 rfl) zc_iconst_0 ?_
  refine s_istore_n (zdk hX0_differenceAt 3 rfl) (Nat.le_of_ble_eq_true rfl) ?_
  refine s_ls (ls' := [some (.ref a), some (.int (nI c)), some (.int (nI 0)), some (.int (nI 0))]) rfl ?_
  exact w_X0_differenceAt_4 hl ha hn hn24 hc 25 0 (by omega) (by omega)
/-- how far the own cycle is looked for: numbers up to 12 and less than n -/
def zon (n : Nat) : Nat := min 11 (n - 2)
theorem w_X0_ownCycle_9 (hl : l.stackTraces = false) {M : zMem} {a : Nat} (ha : rSh M a) {n : Nat} (hn : zI M a 7 = nI n) (hn24 : n ≤ 24) : ∀ (k : Nat) (i : Nat) (x5 x6 : Option Value), i ≤ zon n → zon n - i < k → zS l G mX0_ownCycle 2 46 0 0 9 [some (.ref a), some (.int ((zoc (zI M (a + 1)) n i).1)), some (.int ((zoc (zI M (a + 1)) n i).2.1)), some (.int ((zoc (zI M (a + 1)) n i).2.2)), some (.int (nI (i + 2))), x5, x6] [] M (zD (some (.int ((zoc (zI M (a + 1)) n (zon n)).1))) M) := by
  intro k
  induction k with
  | zero => intros; omega
  | succ k ih =>
    intro i x5 x6 hi hk
    refine s_iload (zdk hX0_ownCycle 8 rfl) rfl ?_
    refine s_bipushv (v := nI 12) (zdk hX0_ownCycle 9 rfl) zc_bipush_12 ?_
    refine s_icmp_gt 73 (zdk hX0_ownCycle 10 rfl) (by decide) (fun c13 => ?_) (fun c13 => ?_)
    · obtain rfl : i = zon n := by unfold zon at *; have := nlt' c13 (by omega) (by omega); omega
      refine s_iload_n (zdk hX0_ownCycle 42 rfl) rfl ?_
      refine s_ireturn (zdk hX0_ownCycle 43 rfl) rfl rfl ?_
      exact ⟨rfl, rfl⟩
    · have hi11 : i + 2 ≤ 12 := nge' c13 (by omega) (by unfold zon at *; omega)
      refine s_iload (zdk hX0_ownCycle 11 rfl) rfl ?_
      refine s_aload_n (zdk hX0_ownCycle 12 rfl) rfl ?_
      refine s_getI (zdk hX0_ownCycle 13 rfl) fw_X0_34 rfl (ha.1) ?_
      refine s_topi (b := nI n) (hn) ?_
      refine s_icmp_ge 73 (zdk hX0_ownCycle 14 rfl) (by decide) (fun c22 => ?_) (fun c22 => ?_)
      · obtain rfl : i = zon n := by unfold zon at *; have := nle c22 (by omega) (by omega); omega
        refine s_iload_n (zdk hX0_ownCycle 42 rfl) rfl ?_
        refine s_ireturn (zdk hX0_ownCycle 43 rfl) rfl rfl ?_
        exact ⟨rfl, rfl⟩
      · have hi2 : i + 2 < n := nlt c22 (by omega) (by omega)
        refine s_aload_n (zdk hX0_ownCycle 15 rfl) rfl ?_
        refine s_iload (zdk hX0_ownCycle 16 rfl) rfl ?_
        refine s_callV0 (ci := 0) [.int (nI (i + 2))] (zdk hX0_ownCycle 17 rfl) cw_X0_80 (ha.1) (by decide) rfl rfl rfl (Nat.le_of_ble_eq_true rfl) (by decide) (c_X0_differenceAt hl ha hn hn24 (by omega)) ?_
        refine s_istore (zdk hX0_ownCycle 18 rfl) (Nat.le_of_ble_eq_true rfl) ?_
        refine s_ls (ls' := [some (.ref a), some (.int ((zoc (zI M (a + 1)) n i).1)), some (.int ((zoc (zI M (a + 1)) n i).2.1)), some (.int ((zoc (zI M (a + 1)) n i).2.2)), some (.int (nI (i + 2))), some (.int (zdf (zI M (a + 1)) (i + 2) (n - (i + 2)))), x6]) rfl ?_
        refine s_aload_n (zdk hX0_ownCycle 19 rfl) rfl ?_
        refine s_getI (zdk hX0_ownCycle 20 rfl) fw_X0_34 rfl (ha.1) ?_
        refine s_topi (b := nI n) (hn) ?_
        refine s_iload (zdk hX0_ownCycle 21 rfl) rfl ?_
        refine s_isub (zdk hX0_ownCycle 22 rfl) ?_
        refine s_topi (b := nI (n - (i + 2))) (pk_sub (by omega)) ?_
        refine s_istore (zdk hX0_ownCycle 23 rfl) (Nat.le_of_ble_eq_true rfl) ?_
        refine s_ls (ls' := [some (.ref a), some (.int ((zoc (zI M (a + 1)) n i).1)), some (.int ((zoc (zI M (a + 1)) n i).2.1)), some (.int ((zoc (zI M (a + 1)) n i).2.2)), some (.int (nI (i + 2))), some (.int (zdf (zI M (a + 1)) (i + 2) (n - (i + 2)))), some (.int (nI (n - (i + 2))))]) rfl ?_
        refine s_iload_n (zdk hX0_ownCycle 24 rfl) rfl ?_
        refine s_iconstv (v := (-1)) (zdk hX0_ownCycle 25 rfl) zc_iconst_m1 ?_
        refine s_icmp_eq 58 (zdk hX0_ownCycle 26 rfl) (by decide) (fun c44 => ?_) (fun c44 => ?_)
        · have e1 : (zoc (zI M (a + 1)) n (i + 1)) = (nI (i + 2), zdf (zI M (a + 1)) (i + 2) (n - (i + 2)), nI (n - (i + 2))) := if_pos (Or.inl c44)
          refine s_iload (zdk hX0_ownCycle 34 rfl) rfl ?_
          refine s_istore_n (zdk hX0_ownCycle 35 rfl) (Nat.le_of_ble_eq_true rfl) ?_
          refine s_ls (ls' := [some (.ref a), some (.int (nI (i + 2))), some (.int ((zoc (zI M (a + 1)) n i).2.1)), some (.int ((zoc (zI M (a + 1)) n i).2.2)), some (.int (nI (i + 2))), some (.int (zdf (zI M (a + 1)) (i + 2) (n - (i + 2)))), some (.int (nI (n - (i + 2))))]) rfl ?_
          refine s_iload (zdk hX0_ownCycle 36 rfl) rfl ?_
          refine s_istore_n (zdk hX0_ownCycle 37 rfl) (Nat.le_of_ble_eq_true rfl) ?_
          refine s_ls (ls' := [some (.ref a), some (.int (nI (i + 2))), some (.int (zdf (zI M (a + 1)) (i + 2) (n - (i + 2)))), some (.int ((zoc (zI M (a + 1)) n i).2.2)), some (.int (nI (i + 2))), some (.int (zdf (zI M (a + 1)) (i + 2) (n - (i + 2)))), some (.int (nI (n - (i + 2))))]) rfl ?_
          refine s_iload (zdk hX0_ownCycle 38 rfl) rfl ?_
          refine s_istore_n (zdk hX0_ownCycle 39 rfl) (Nat.le_of_ble_eq_true rfl) ?_
          refine s_ls (ls' := [some (.ref a), some (.int (nI (i + 2))), some (.int (zdf (zI M (a + 1)) (i + 2) (n - (i + 2)))), some (.int (nI (n - (i + 2)))), some (.int (nI (i + 2))), some (.int (zdf (zI M (a + 1)) (i + 2) (n - (i + 2)))), some (.int (nI (n - (i + 2))))]) rfl ?_
          refine s_ls (ls' := [some (.ref a), some (.int ((zoc (zI M (a + 1)) n (i + 1)).1)), some (.int ((zoc (zI M (a + 1)) n (i + 1)).2.1)), some (.int ((zoc (zI M (a + 1)) n (i + 1)).2.2)), some (.int (nI (i + 2))), some (.int (zdf (zI M (a + 1)) (i + 2) (n - (i + 2)))), some (.int (nI (n - (i + 2))))]) (by rw [e1]) ?_
          refine s_iinc (r := nI (i + 1 + 2)) (zdk hX0_ownCycle 40 rfl) (Nat.le_of_ble_eq_true rfl) rfl (nI_1 (i + 2)) ?_
          refine s_ls (ls' := [some (.ref a), some (.int ((zoc (zI M (a + 1)) n (i + 1)).1)), some (.int ((zoc (zI M (a + 1)) n (i + 1)).2.1)), some (.int ((zoc (zI M (a + 1)) n (i + 1)).2.2)), some (.int (nI (i + 1 + 2))), some (.int (zdf (zI M (a + 1)) (i + 2) (n - (i + 2)))), some (.int (nI (n - (i + 2))))]) rfl ?_
          refine s_goto 9 (zdk hX0_ownCycle 41 rfl) (by decide) ?_
          exact ih (i + 1) _ _ (by unfold zon at *; omega) (by unfold zon at *; omega)
        · refine s_iload (zdk hX0_ownCycle 27 rfl) rfl ?_
          refine s_iload_n (zdk hX0_ownCycle 28 rfl) rfl ?_
          refine s_imul (zdk hX0_ownCycle 29 rfl) ?_
          refine s_iload_n (zdk hX0_ownCycle 30 rfl) rfl ?_
          refine s_iload (zdk hX0_ownCycle 31 rfl) rfl ?_
          refine s_imul (zdk hX0_ownCycle 32 rfl) ?_
          refine s_icmp_ge 67 (zdk hX0_ownCycle 33 rfl) (by decide) (fun c55 => ?_) (fun c55 => ?_)
          · have e1 : (zoc (zI M (a + 1)) n (i + 1)) = (zoc (zI M (a + 1)) n i) := if_neg (fun q => q.elim c44 (Int32.not_lt.mpr c55))
            refine s_ls (ls' := [some (.ref a), some (.int ((zoc (zI M (a + 1)) n (i + 1)).1)), some (.int ((zoc (zI M (a + 1)) n (i + 1)).2.1)), some (.int ((zoc (zI M (a + 1)) n (i + 1)).2.2)), some (.int (nI (i + 2))), some (.int (zdf (zI M (a + 1)) (i + 2) (n - (i + 2)))), some (.int (nI (n - (i + 2))))]) (by rw [e1]) ?_
            refine s_iinc (r := nI (i + 1 + 2)) (zdk hX0_ownCycle 40 rfl) (Nat.le_of_ble_eq_true rfl) rfl (nI_1 (i + 2)) ?_
            refine s_ls (ls' := [some (.ref a), some (.int ((zoc (zI M (a + 1)) n (i + 1)).1)), some (.int ((zoc (zI M (a + 1)) n (i + 1)).2.1)), some (.int ((zoc (zI M (a + 1)) n (i + 1)).2.2)), some (.int (nI (i + 1 + 2))), some (.int (zdf (zI M (a + 1)) (i + 2) (n - (i + 2)))), some (.int (nI (n - (i + 2))))]) rfl ?_
            refine s_goto 9 (zdk hX0_ownCycle 41 rfl) (by decide) ?_
            exact ih (i + 1) _ _ (by unfold zon at *; omega) (by unfold zon at *; omega)
          · have e1 : (zoc (zI M (a + 1)) n (i + 1)) = (nI (i + 2), zdf (zI M (a + 1)) (i + 2) (n - (i + 2)), nI (n - (i + 2))) := if_pos (Or.inr (Int32.not_le.mp c55))
            refine s_iload (zdk hX0_ownCycle 34 rfl) rfl ?_
            refine s_istore_n (zdk hX0_ownCycle 35 rfl) (Nat.le_of_ble_eq_true rfl) ?_
            refine s_ls (ls' := [some (.ref a), some (.int (nI (i + 2))), some (.int ((zoc (zI M (a + 1)) n i).2.1)), some (.int ((zoc (zI M (a + 1)) n i).2.2)), some (.int (nI (i + 2))), some (.int (zdf (zI M (a + 1)) (i + 2) (n - (i + 2)))), some (.int (nI (n - (i + 2))))]) rfl ?_
            refine s_iload (zdk hX0_ownCycle 36 rfl) rfl ?_
            refine s_istore_n (zdk hX0_ownCycle 37 rfl) (Nat.le_of_ble_eq_true rfl) ?_
            refine s_ls (ls' := [some (.ref a), some (.int (nI (i + 2))), some (.int (zdf (zI M (a + 1)) (i + 2) (n - (i + 2)))), some (.int ((zoc (zI M (a + 1)) n i).2.2)), some (.int (nI (i + 2))), some (.int (zdf (zI M (a + 1)) (i + 2) (n - (i + 2)))), some (.int (nI (n - (i + 2))))]) rfl ?_
            refine s_iload (zdk hX0_ownCycle 38 rfl) rfl ?_
            refine s_istore_n (zdk hX0_ownCycle 39 rfl) (Nat.le_of_ble_eq_true rfl) ?_
            refine s_ls (ls' := [some (.ref a), some (.int (nI (i + 2))), some (.int (zdf (zI M (a + 1)) (i + 2) (n - (i + 2)))), some (.int (nI (n - (i + 2)))), some (.int (nI (i + 2))), some (.int (zdf (zI M (a + 1)) (i + 2) (n - (i + 2)))), some (.int (nI (n - (i + 2))))]) rfl ?_
            refine s_ls (ls' := [some (.ref a), some (.int ((zoc (zI M (a + 1)) n (i + 1)).1)), some (.int ((zoc (zI M (a + 1)) n (i + 1)).2.1)), some (.int ((zoc (zI M (a + 1)) n (i + 1)).2.2)), some (.int (nI (i + 2))), some (.int (zdf (zI M (a + 1)) (i + 2) (n - (i + 2)))), some (.int (nI (n - (i + 2))))]) (by rw [e1]) ?_
            refine s_iinc (r := nI (i + 1 + 2)) (zdk hX0_ownCycle 40 rfl) (Nat.le_of_ble_eq_true rfl) rfl (nI_1 (i + 2)) ?_
            refine s_ls (ls' := [some (.ref a), some (.int ((zoc (zI M (a + 1)) n (i + 1)).1)), some (.int ((zoc (zI M (a + 1)) n (i + 1)).2.1)), some (.int ((zoc (zI M (a + 1)) n (i + 1)).2.2)), some (.int (nI (i + 1 + 2))), some (.int (zdf (zI M (a + 1)) (i + 2) (n - (i + 2)))), some (.int (nI (n - (i + 2))))]) rfl ?_
            refine s_goto 9 (zdk hX0_ownCycle 41 rfl) (by decide) ?_
            exact ih (i + 1) _ _ (by unfold zon at *; omega) (by unfold zon at *; omega)
theorem c_X0_ownCycle (hl : l.stackTraces = false) {M : zMem} {a : Nat} (ha : rSh M a) {n : Nat} (hn : zI M a 7 = nI n) (hn24 : n ≤ 24) : zCm l G mX0_ownCycle 2 46 0 0 [.ref a] M (zD (some (.int ((zoc (zI M (a + 1)) n (zon n)).1))) M) := by
  refine zCd.of (ls0 := [some (.ref a), none, none, none, none, none, none]) (by decide +kernel) rfl hl rfl (Nat.le_of_ble_eq_true rfl) rfl ?_
  refine s_iconstv (v := (-1)) (zdk hX0_ownCycle 0 rfl) zc_iconst_m1 ?_
  refine s_istore_n (zdk hX0_ownCycle 1 rfl) (Nat.le_of_ble_eq_true rfl) ?_
  refine s_ls (ls' := [some (.ref a), some (.int ((-1))), none, none, none, none, none]) rfl ?_
  refine s_iconstv (v := nI 0) (zdk hX0_ownCycle 2 rfl) zc_iconst_0 ?_
  refine s_istore_n (zdk hX0_ownCycle 3 rfl) (Nat.le_of_ble_eq_true rfl) ?_
  refine s_ls (ls' := [some (.ref a), some (.int ((-1))), some (.int (nI 0)), none, none, none, none]) rfl ?_
  refine s_iconstv (v := nI 1) (zdk hX0_ownCycle 4 rfl) zc_iconst_1 ?_
  refine s_istore_n (zdk hX0_ownCycle 5 rfl) (Nat.le_of_ble_eq_true rfl) ?_
  refine s_ls (ls' := [some (.ref a), some (.int ((-1))), some (.int (nI 0)), some (.int (nI 1)), none, none, none]) rfl ?_
  refine s_iconstv (v := nI 2) (zdk hX0_ownCycle 6 rfl) zc_iconst_2 ?_
  refine s_istore (zdk hX0_ownCycle 7 rfl) (Nat.le_of_ble_eq_true rfl) ?_
  refine s_ls (ls' := [some (.ref a), some (.int ((-1))), some (.int (nI 0)), some (.int (nI 1)), some (.int (nI 2)), none, none]) rfl ?_
  exact w_X0_ownCycle_9 hl ha hn hn24 12 0 none none (by omega) (by unfold zon; omega)
end
