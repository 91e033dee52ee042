/-! ===== the reference reads: names ===== -/
def rNm (u : Nat → Int32) (r : rRd) (k : Nat) : Int64 := if r.1 + k < r.2.1 then (u (r.1 + k)).toInt64 else (nI 0).toInt64
def rPn (u : Nat → Int32) (r : rRd) (g : Nat → Int64) (to k : Nat) : Nat → Int64 := fun j => if to ≤ j ∧ j < to + k then rNm u r (j - to) else g j
theorem rPn_0 {u : Nat → Int32} {r : rRd} {g : Nat → Int64} {to : Nat} : rPn u r g to 0 = g := by
  funext j
  unfold rPn
  rw [if_neg (by omega)]
theorem rPn_1 {u : Nat → Int32} {r : rRd} {g : Nat → Int64} {to k : Nat} : zwL (rPn u r g to k) (to + k) (rNm u r k) = rPn u r g to (k + 1) := by
  funext j
  unfold zwL rPn
  by_cases q : j = to + k
  · rw [if_pos q, if_pos (by omega), show j - to = k by omega]
  · rw [if_neg q]
    by_cases q2 : to ≤ j ∧ j < to + k
    · rw [if_pos q2, if_pos (by omega)]
    · rw [if_neg q2, if_neg (by omega)]
def rSm (g : Nat → Int64) (u : Nat → Int32) (r : rRd) (b : Nat) : Nat → Int32
  | 0 => nI 1
  | k + 1 => if ¬ rSm g u r b k = 0 ∧ g (b + k) = rNm u r k then nI 1 else nI 0
def rNd (g : Nat → Int64) (u : Nat → Int32) (r : rRd) (b sz : Nat) : Nat → Nat → Int32
  | 0, _ => -1
  | f + 1, i => if rSm g u r (b + sz * i) 8 = 0 then rNd g u r b sz f (i + 1) else nI i
theorem rNd_n {g : Nat → Int64} {u : Nat → Int32} {r : rRd} {b sz m i : Nat} (h : i < m) (e : rSm g u r (b + sz * i) 8 = 0) : rNd g u r b sz (m - i) i = rNd g u r b sz (m - (i + 1)) (i + 1) := by
  conv => lhs; rw [show m - i = (m - (i + 1)) + 1 by omega]
  exact if_pos e
theorem rNd_y {g : Nat → Int64} {u : Nat → Int32} {r : rRd} {b sz m i : Nat} (h : i < m) (e : ¬ rSm g u r (b + sz * i) 8 = 0) : rNd g u r b sz (m - i) i = nI i := by
  rw [show m - i = (m - (i + 1)) + 1 by omega]
  exact if_neg e
section
variable {l : Launch} {G : zG}
theorem w_X9_putsName_2 (hl : l.stackTraces = false) {M : zMem} (hm : mSh M) {g : Nat → Int64} {u : Nat → Int32} (hu : zI M 947 = u) {n : Nat} (hn : zI M 941 8 = nI n) (hn6 : n ≤ 600) {r : rRd} (ho : rOk n r) {to : Nat} (hto : to + 8 ≤ 1390) : ∀ (k : Nat) (k1 : Nat), k1 ≤ 8 → 8 - k1 < k → zS l G mX9_putsName 1 40 0 0 2 [some (.ref 941), some (.int (nI to)), some (.int (nI k1))] [] (zsL (rdM M r) 942 (rPn u r g to k1)) (zD none (zsL (rdM M r) 942 (rPn u r g to 8))) := by
  intro k
  induction k with
  | zero => intros; omega
  | succ k ih =>
    intro k1 hi hk
    have ho1 := ho.1
    have ho2 := ho.2.1
    refine s_iload_n (zdk hX9_putsName 2 rfl) rfl ?_
    refine s_bipushv (v := nI 8) (zdk hX9_putsName 3 rfl) zc_bipush_8 ?_
    refine s_icmp_ge 51 (zdk hX9_putsName 4 rfl) (by decide) (fun c5 => ?_) (fun c5 => ?_)
    · have n5 : 8 ≤ k1 := nle c5 (by omega) (by omega)
      obtain rfl : k1 = 8 := by omega
      refine s_return (zdk hX9_putsName 30 rfl) rfl ?_
      exact ⟨rfl, rfl⟩
    · have n5 : k1 < 8 := nlt c5 (by omega) (by omega)
      refine s_aload_n (zdk hX9_putsName 5 rfl) rfl ?_
      refine s_getR (zdk hX9_putsName 6 rfl) fw_X9_7 rfl (hm.1) (show _ = some 942 from (hm.r (i := 0) rfl).1) ?_
      refine s_iload_n (zdk hX9_putsName 7 rfl) rfl ?_
      refine s_iload_n (zdk hX9_putsName 8 rfl) rfl ?_
      refine s_iadd (zdk hX9_putsName 9 rfl) ?_
      refine s_topi (b := nI (to + k1)) (nI_add _ _) ?_
      refine s_aload_n (zdk hX9_putsName 10 rfl) rfl ?_
      refine s_getI (zdk hX9_putsName 11 rfl) fw_X9_104 rfl (hm.1) ?_
      refine s_topi (b := nI r.1) (show zI (rdM M r) 941 9 = _ from rd_at) ?_
      refine s_iload_n (zdk hX9_putsName 12 rfl) rfl ?_
      refine s_iadd (zdk hX9_putsName 13 rfl) ?_
      refine s_topi (b := nI (r.1 + k1)) (nI_add _ _) ?_
      refine s_aload_n (zdk hX9_putsName 14 rfl) rfl ?_
      refine s_getI (zdk hX9_putsName 15 rfl) fw_X9_101 rfl (hm.1) ?_
      refine s_topi (b := nI r.2.1) (show zI (rdM M r) 941 10 = _ from rd_be) ?_
      refine s_icmp_ge 43 (zdk hX9_putsName 16 rfl) (by decide) (fun c25 => ?_) (fun c25 => ?_)
      · have n25 : r.2.1 ≤ r.1 + k1 := nle c25 (by omega) (by omega)
        have eN : lN 0 = rNm u r k1 := ((if_neg (by omega)).trans (by decide)).symm
        refine s_lconstv (v := lN 0) (zdk hX9_putsName 26 rfl) rfl ?_
        refine s_topl (b := rNm u r k1) eN ?_
        refine s_lastoreN (N := 1390) (j := to + k1) (zdk hX9_putsName 27 rfl) ((hm.r (i := 0) rfl).2.1) ((hm.r (i := 0) rfl).2.2) (by omega) (by decide) ?_
        refine s_mem (M' := (zsL (rdM M r) 942 (zwL (rPn u r g to k1) (to + k1) (rNm u r k1)))) (zsL_1 _ _ _ _ _) ?_
        refine s_mem (M' := (zsL (rdM M r) 942 (rPn u r g to (k1 + 1)))) (by rw [rPn_1]) ?_
        refine s_iinc (r := nI (k1 + 1)) (zdk hX9_putsName 28 rfl) (Nat.le_of_ble_eq_true rfl) rfl (nI_1 _) ?_
        refine s_ls (ls' := [some (.ref 941), some (.int (nI to)), some (.int (nI (k1 + 1)))]) rfl ?_
        refine s_goto 2 (zdk hX9_putsName 29 rfl) (by decide) ?_
        exact ih (k1 + 1) (by omega) (by omega)
      · have n25 : r.1 + k1 < r.2.1 := nlt c25 (by omega) (by omega)
        have eN : (u (r.1 + k1)).toInt64 = rNm u r k1 := (if_pos n25).symm
        refine s_aload_n (zdk hX9_putsName 17 rfl) rfl ?_
        refine s_getR (zdk hX9_putsName 18 rfl) fw_X9_26 rfl (hm.1) (show _ = some 947 from (hm.r (i := 5) rfl).1) ?_
        refine s_aload_n (zdk hX9_putsName 19 rfl) rfl ?_
        refine s_getI (zdk hX9_putsName 20 rfl) fw_X9_104 rfl (hm.1) ?_
        refine s_topi (b := nI r.1) (show zI (rdM M r) 941 9 = _ from rd_at) ?_
        refine s_iload_n (zdk hX9_putsName 21 rfl) rfl ?_
        refine s_iadd (zdk hX9_putsName 22 rfl) ?_
        refine s_topi (b := nI (r.1 + k1)) (nI_add _ _) ?_
        refine s_ialoadN (N := 600) (j := r.1 + k1) (zdk hX9_putsName 23 rfl) ((hm.r (i := 5) rfl).2.1) ((hm.r (i := 5) rfl).2.2) (by omega) (by decide) ?_
        refine s_topi (b := u (r.1 + k1)) ((show zI (rdM M r) 947 (r.1 + k1) = _ from congrFun (rd_n (by decide)) _).trans (congrFun hu _)) ?_
        refine s_i2l (zdk hX9_putsName 24 rfl) ?_
        refine s_goto 44 (zdk hX9_putsName 25 rfl) (by decide) ?_
        refine s_topl (b := rNm u r k1) eN ?_
        refine s_lastoreN (N := 1390) (j := to + k1) (zdk hX9_putsName 27 rfl) ((hm.r (i := 0) rfl).2.1) ((hm.r (i := 0) rfl).2.2) (by omega) (by decide) ?_
        refine s_mem (M' := (zsL (rdM M r) 942 (zwL (rPn u r g to k1) (to + k1) (rNm u r k1)))) (zsL_1 _ _ _ _ _) ?_
        refine s_mem (M' := (zsL (rdM M r) 942 (rPn u r g to (k1 + 1)))) (by rw [rPn_1]) ?_
        refine s_iinc (r := nI (k1 + 1)) (zdk hX9_putsName 28 rfl) (Nat.le_of_ble_eq_true rfl) rfl (nI_1 _) ?_
        refine s_ls (ls' := [some (.ref 941), some (.int (nI to)), some (.int (nI (k1 + 1)))]) rfl ?_
        refine s_goto 2 (zdk hX9_putsName 29 rfl) (by decide) ?_
        exact ih (k1 + 1) (by omega) (by omega)
theorem c_X9_putsName (hl : l.stackTraces = false) {M : zMem} (hm : mSh M) {g : Nat → Int64} {u : Nat → Int32} (hu : zI M 947 = u) {n : Nat} (hn : zI M 941 8 = nI n) (hn6 : n ≤ 600) {r : rRd} (ho : rOk n r) {to : Nat} (hto : to + 8 ≤ 1390) : zCm l G mX9_putsName 1 40 0 0 [.ref 941, .int (nI to)] (zsL (rdM M r) 942 g) (zD none (zsL (rdM M r) 942 (rPn u r g to 8))) := by
  refine zCd.of (ls0 := [some (.ref 941), some (.int (nI to)), none]) (by decide +kernel) rfl hl rfl (Nat.le_of_ble_eq_true rfl) rfl ?_
  have ho1 := ho.1
  have ho2 := ho.2.1
  have ho3 := ho.2.2
  refine s_iconstv (v := nI 0) (zdk hX9_putsName 0 rfl) zc_iconst_0 ?_
  refine s_istore_n (zdk hX9_putsName 1 rfl) (Nat.le_of_ble_eq_true rfl) ?_
  refine s_ls (ls' := [some (.ref 941), some (.int (nI to)), some (.int (nI 0))]) rfl ?_
  have q := w_X9_putsName_2 (l := l) (G := G) (g := g) hl hm hu hn hn6 ho hto 9 0 (by omega) (by omega)
  rw [rPn_0] at q
  exact q
theorem w_X9_named_22 (hl : l.stackTraces = false) {M : zMem} (hm : mSh M) {g : Nat → Int64} {u : Nat → Int32} (hu : zI M 947 = u) {n : Nat} (hn : zI M 941 8 = nI n) (hn6 : n ≤ 600) {r : rRd} (ho : rOk n r) (w0 : r.2.2.2.2.1 = 0) {b0 sz m : Nat} (hm9 : m ≤ 20) (hB : ∀ i, i < m → b0 + sz * i + 8 ≤ 1390) {i : Nat} (hi9 : i < m) {Q : zOut → zMem → Prop} (kk : zS l G mX9_named 1 40 0 0 96 [some (.ref 941), some (.int (nI b0)), some (.int (nI m)), some (.int (nI sz)), some (.int (nI i)), some (.int ((rSm g u r (b0 + sz * i) 8))), some (.int (nI 8))] [] (zsL (rdM M r) 942 g) Q) : ∀ (k : Nat) (k1 : Nat), k1 ≤ 8 → 8 - k1 < k → zS l G mX9_named 1 40 0 0 22 [some (.ref 941), some (.int (nI b0)), some (.int (nI m)), some (.int (nI sz)), some (.int (nI i)), some (.int ((rSm g u r (b0 + sz * i) k1))), some (.int (nI k1))] [] (zsL (rdM M r) 942 g) Q := by
  intro k
  induction k with
  | zero => intros; omega
  | succ k ih =>
    intro k1 hi hk
    have ho1 := ho.1
    have ho2 := ho.2.1
    have hBi := hB i hi9
    refine s_iload (zdk hX9_named 12 rfl) rfl ?_
    refine s_bipushv (v := nI 8) (zdk hX9_named 13 rfl) zc_bipush_8 ?_
    refine s_icmp_ge 96 (zdk hX9_named 14 rfl) (by decide) (fun c26 => ?_) (fun c26 => ?_)
    · have n26 : 8 ≤ k1 := nle c26 (by omega) (by omega)
      obtain rfl : k1 = 8 := by omega
      exact kk
    · have n26 : k1 < 8 := nlt c26 (by omega) (by omega)
      refine s_iload (zdk hX9_named 15 rfl) rfl ?_
      refine s_if_eq 87 (zdk hX9_named 16 rfl) (by decide) (fun c31 => ?_) (fun c31 => ?_)
      · have e1 : (rSm g u r (b0 + sz * i) (k1 + 1)) = nI 0 := if_neg (fun q => q.1 c31)
        refine s_iconstv (v := nI 0) (zdk hX9_named 48 rfl) zc_iconst_0 ?_
        refine s_topi (b := (rSm g u r (b0 + sz * i) (k1 + 1))) e1.symm ?_
        refine s_istore (zdk hX9_named 49 rfl) (Nat.le_of_ble_eq_true rfl) ?_
        refine s_ls (ls' := [some (.ref 941), some (.int (nI b0)), some (.int (nI m)), some (.int (nI sz)), some (.int (nI i)), some (.int ((rSm g u r (b0 + sz * i) (k1 + 1)))), some (.int (nI k1))]) rfl ?_
        refine s_iinc (r := nI (k1 + 1)) (zdk hX9_named 50 rfl) (Nat.le_of_ble_eq_true rfl) rfl (nI_1 _) ?_
        refine s_ls (ls' := [some (.ref 941), some (.int (nI b0)), some (.int (nI m)), some (.int (nI sz)), some (.int (nI i)), some (.int ((rSm g u r (b0 + sz * i) (k1 + 1)))), some (.int (nI (k1 + 1)))]) rfl ?_
        refine s_goto 22 (zdk hX9_named 51 rfl) (by decide) ?_
        exact ih (k1 + 1) (by omega) (by omega)
      · refine s_aload_n (zdk hX9_named 17 rfl) rfl ?_
        refine s_getR (zdk hX9_named 18 rfl) fw_X9_7 rfl (hm.1) (show _ = some 942 from (hm.r (i := 0) rfl).1) ?_
        refine s_iload_n (zdk hX9_named 19 rfl) rfl ?_
        refine s_iload_n (zdk hX9_named 20 rfl) rfl ?_
        refine s_iload (zdk hX9_named 21 rfl) rfl ?_
        refine s_imul (zdk hX9_named 22 rfl) ?_
        refine s_topi (b := nI (sz * i)) (pk_mul _ _) ?_
        refine s_iadd (zdk hX9_named 23 rfl) ?_
        refine s_topi (b := nI (b0 + sz * i)) (nI_add _ _) ?_
        refine s_iload (zdk hX9_named 24 rfl) rfl ?_
        refine s_iadd (zdk hX9_named 25 rfl) ?_
        refine s_topi (b := nI (b0 + sz * i + k1)) (nI_add _ _) ?_
        refine s_laloadN (N := 1390) (j := b0 + sz * i + k1) (zdk hX9_named 26 rfl) ((hm.r (i := 0) rfl).2.1) ((hm.r (i := 0) rfl).2.2) (by omega) (by decide) ?_
        refine s_topl (b := g (b0 + sz * i + k1)) (congrFun zJ_Le _) ?_
        refine s_aload_n (zdk hX9_named 27 rfl) rfl ?_
        refine s_getI (zdk hX9_named 28 rfl) fw_X9_104 rfl (hm.1) ?_
        refine s_topi (b := nI r.1) (show zI (rdM M r) 941 9 = _ from rd_at) ?_
        refine s_iload (zdk hX9_named 29 rfl) rfl ?_
        refine s_iadd (zdk hX9_named 30 rfl) ?_
        refine s_topi (b := nI (r.1 + k1)) (nI_add _ _) ?_
        refine s_aload_n (zdk hX9_named 31 rfl) rfl ?_
        refine s_getI (zdk hX9_named 32 rfl) fw_X9_101 rfl (hm.1) ?_
        refine s_topi (b := nI r.2.1) (show zI (rdM M r) 941 10 = _ from rd_be) ?_
        refine s_icmp_ge 77 (zdk hX9_named 33 rfl) (by decide) (fun c59 => ?_) (fun c59 => ?_)
        · have n59 : r.2.1 ≤ r.1 + k1 := nle c59 (by omega) (by omega)
          have eN : (nI 0).toInt64 = rNm u r k1 := (if_neg (by omega)).symm
          refine s_iconstv (v := nI 0) (zdk hX9_named 42 rfl) zc_iconst_0 ?_
          refine s_i2l (zdk hX9_named 43 rfl) ?_
          refine s_topl (b := rNm u r k1) eN ?_
          refine s_lcmp (zdk hX9_named 44 rfl) ?_
          refine s_if_ne 87 (zdk hX9_named 45 rfl) (by decide) (fun c80 => ?_) (fun c80 => ?_)
          · have e1 : (rSm g u r (b0 + sz * i) (k1 + 1)) = nI 0 := if_neg (fun q => lcmpn c80 q.2)
            refine s_iconstv (v := nI 0) (zdk hX9_named 48 rfl) zc_iconst_0 ?_
            refine s_topi (b := (rSm g u r (b0 + sz * i) (k1 + 1))) e1.symm ?_
            refine s_istore (zdk hX9_named 49 rfl) (Nat.le_of_ble_eq_true rfl) ?_
            refine s_ls (ls' := [some (.ref 941), some (.int (nI b0)), some (.int (nI m)), some (.int (nI sz)), some (.int (nI i)), some (.int ((rSm g u r (b0 + sz * i) (k1 + 1)))), some (.int (nI k1))]) rfl ?_
            refine s_iinc (r := nI (k1 + 1)) (zdk hX9_named 50 rfl) (Nat.le_of_ble_eq_true rfl) rfl (nI_1 _) ?_
            refine s_ls (ls' := [some (.ref 941), some (.int (nI b0)), some (.int (nI m)), some (.int (nI sz)), some (.int (nI i)), some (.int ((rSm g u r (b0 + sz * i) (k1 + 1)))), some (.int (nI (k1 + 1)))]) rfl ?_
            refine s_goto 22 (zdk hX9_named 51 rfl) (by decide) ?_
            exact ih (k1 + 1) (by omega) (by omega)
          · have e1 : (rSm g u r (b0 + sz * i) (k1 + 1)) = nI 1 := if_pos ⟨c31, lcmp0 c80⟩
            refine s_iconstv (v := nI 1) (zdk hX9_named 46 rfl) zc_iconst_1 ?_
            refine s_goto 88 (zdk hX9_named 47 rfl) (by decide) ?_
            refine s_topi (b := (rSm g u r (b0 + sz * i) (k1 + 1))) e1.symm ?_
            refine s_istore (zdk hX9_named 49 rfl) (Nat.le_of_ble_eq_true rfl) ?_
            refine s_ls (ls' := [some (.ref 941), some (.int (nI b0)), some (.int (nI m)), some (.int (nI sz)), some (.int (nI i)), some (.int ((rSm g u r (b0 + sz * i) (k1 + 1)))), some (.int (nI k1))]) rfl ?_
            refine s_iinc (r := nI (k1 + 1)) (zdk hX9_named 50 rfl) (Nat.le_of_ble_eq_true rfl) rfl (nI_1 _) ?_
            refine s_ls (ls' := [some (.ref 941), some (.int (nI b0)), some (.int (nI m)), some (.int (nI sz)), some (.int (nI i)), some (.int ((rSm g u r (b0 + sz * i) (k1 + 1)))), some (.int (nI (k1 + 1)))]) rfl ?_
            refine s_goto 22 (zdk hX9_named 51 rfl) (by decide) ?_
            exact ih (k1 + 1) (by omega) (by omega)
        · have n59 : r.1 + k1 < r.2.1 := nlt c59 (by omega) (by omega)
          have eN : (u (r.1 + k1)).toInt64 = rNm u r k1 := (if_pos n59).symm
          refine s_aload_n (zdk hX9_named 34 rfl) rfl ?_
          refine s_getR (zdk hX9_named 35 rfl) fw_X9_26 rfl (hm.1) (show _ = some 947 from (hm.r (i := 5) rfl).1) ?_
          refine s_aload_n (zdk hX9_named 36 rfl) rfl ?_
          refine s_getI (zdk hX9_named 37 rfl) fw_X9_104 rfl (hm.1) ?_
          refine s_topi (b := nI r.1) (show zI (rdM M r) 941 9 = _ from rd_at) ?_
          refine s_iload (zdk hX9_named 38 rfl) rfl ?_
          refine s_iadd (zdk hX9_named 39 rfl) ?_
          refine s_topi (b := nI (r.1 + k1)) (nI_add _ _) ?_
          refine s_ialoadN (N := 600) (j := r.1 + k1) (zdk hX9_named 40 rfl) ((hm.r (i := 5) rfl).2.1) ((hm.r (i := 5) rfl).2.2) (by omega) (by decide) ?_
          refine s_topi (b := u (r.1 + k1)) ((show zI (rdM M r) 947 (r.1 + k1) = _ from congrFun (rd_n (by decide)) _).trans (congrFun hu _)) ?_
          refine s_goto 78 (zdk hX9_named 41 rfl) (by decide) ?_
          refine s_i2l (zdk hX9_named 43 rfl) ?_
          refine s_topl (b := rNm u r k1) eN ?_
          refine s_lcmp (zdk hX9_named 44 rfl) ?_
          refine s_if_ne 87 (zdk hX9_named 45 rfl) (by decide) (fun c80 => ?_) (fun c80 => ?_)
          · have e1 : (rSm g u r (b0 + sz * i) (k1 + 1)) = nI 0 := if_neg (fun q => lcmpn c80 q.2)
            refine s_iconstv (v := nI 0) (zdk hX9_named 48 rfl) zc_iconst_0 ?_
            refine s_topi (b := (rSm g u r (b0 + sz * i) (k1 + 1))) e1.symm ?_
            refine s_istore (zdk hX9_named 49 rfl) (Nat.le_of_ble_eq_true rfl) ?_
            refine s_ls (ls' := [some (.ref 941), some (.int (nI b0)), some (.int (nI m)), some (.int (nI sz)), some (.int (nI i)), some (.int ((rSm g u r (b0 + sz * i) (k1 + 1)))), some (.int (nI k1))]) rfl ?_
            refine s_iinc (r := nI (k1 + 1)) (zdk hX9_named 50 rfl) (Nat.le_of_ble_eq_true rfl) rfl (nI_1 _) ?_
            refine s_ls (ls' := [some (.ref 941), some (.int (nI b0)), some (.int (nI m)), some (.int (nI sz)), some (.int (nI i)), some (.int ((rSm g u r (b0 + sz * i) (k1 + 1)))), some (.int (nI (k1 + 1)))]) rfl ?_
            refine s_goto 22 (zdk hX9_named 51 rfl) (by decide) ?_
            exact ih (k1 + 1) (by omega) (by omega)
          · have e1 : (rSm g u r (b0 + sz * i) (k1 + 1)) = nI 1 := if_pos ⟨c31, lcmp0 c80⟩
            refine s_iconstv (v := nI 1) (zdk hX9_named 46 rfl) zc_iconst_1 ?_
            refine s_goto 88 (zdk hX9_named 47 rfl) (by decide) ?_
            refine s_topi (b := (rSm g u r (b0 + sz * i) (k1 + 1))) e1.symm ?_
            refine s_istore (zdk hX9_named 49 rfl) (Nat.le_of_ble_eq_true rfl) ?_
            refine s_ls (ls' := [some (.ref 941), some (.int (nI b0)), some (.int (nI m)), some (.int (nI sz)), some (.int (nI i)), some (.int ((rSm g u r (b0 + sz * i) (k1 + 1)))), some (.int (nI k1))]) rfl ?_
            refine s_iinc (r := nI (k1 + 1)) (zdk hX9_named 50 rfl) (Nat.le_of_ble_eq_true rfl) rfl (nI_1 _) ?_
            refine s_ls (ls' := [some (.ref 941), some (.int (nI b0)), some (.int (nI m)), some (.int (nI sz)), some (.int (nI i)), some (.int ((rSm g u r (b0 + sz * i) (k1 + 1)))), some (.int (nI (k1 + 1)))]) rfl ?_
            refine s_goto 22 (zdk hX9_named 51 rfl) (by decide) ?_
            exact ih (k1 + 1) (by omega) (by omega)
theorem w_X9_named_3 (hl : l.stackTraces = false) {M : zMem} (hm : mSh M) {g : Nat → Int64} {u : Nat → Int32} (hu : zI M 947 = u) {n : Nat} (hn : zI M 941 8 = nI n) (hn6 : n ≤ 600) {r : rRd} (ho : rOk n r) (w0 : r.2.2.2.2.1 = 0) {b0 sz m : Nat} (hm9 : m ≤ 20) (hB : ∀ i, i < m → b0 + sz * i + 8 ≤ 1390) : ∀ (k : Nat) (i : Nat) (x5 x6 : Option Value), i ≤ m → m - i < k → zS l G mX9_named 1 40 0 0 3 [some (.ref 941), some (.int (nI b0)), some (.int (nI m)), some (.int (nI sz)), some (.int (nI i)), x5, x6] [] (zsL (rdM M r) 942 g) (zD (some (.int (rNd g u r b0 sz (m - i) i))) (zsL (rdM M r) 942 g)) := by
  intro k
  induction k with
  | zero => intros; omega
  | succ k ih =>
    intro i x5 x6 hi hk
    refine s_iload (zdk hX9_named 2 rfl) rfl ?_
    refine s_iload_n (zdk hX9_named 3 rfl) rfl ?_
    refine s_icmp_ge 110 (zdk hX9_named 4 rfl) (by decide) (fun c6 => ?_) (fun c6 => ?_)
    · have n6 : m ≤ i := nle c6 (by omega) (by omega)
      have e1 : (rNd g u r b0 sz (m - i) i) = -1 := by rw [show m - i = 0 by omega]; rfl
      rw [e1]
      refine s_iconstv (v := (-1)) (zdk hX9_named 58 rfl) zc_iconst_m1 ?_
      refine s_ireturn (zdk hX9_named 59 rfl) rfl rfl ?_
      exact ⟨rfl, rfl⟩
    · have n6 : i < m := nlt c6 (by omega) (by omega)
      refine s_aload_n (zdk hX9_named 5 rfl) rfl ?_
      refine s_getI (zdk hX9_named 6 rfl) fw_X9_127 rfl (hm.1) ?_
      refine s_topi (b := r.2.2.2.2.1) (show zI (rdM M r) 941 13 = _ from rd_wr) ?_
      refine s_if_ne 110 (zdk hX9_named 7 rfl) (by decide) (fun c13 => ?_) (fun c13 => ?_)
      · exact absurd w0 c13
      · refine s_iconstv (v := nI 1) (zdk hX9_named 8 rfl) zc_iconst_1 ?_
        refine s_istore (zdk hX9_named 9 rfl) (Nat.le_of_ble_eq_true rfl) ?_
        refine s_ls (ls' := [some (.ref 941), some (.int (nI b0)), some (.int (nI m)), some (.int (nI sz)), some (.int (nI i)), some (.int (nI 1)), x6]) rfl ?_
        refine s_iconstv (v := nI 0) (zdk hX9_named 10 rfl) zc_iconst_0 ?_
        refine s_istore (zdk hX9_named 11 rfl) (Nat.le_of_ble_eq_true rfl) ?_
        refine s_ls (ls' := [some (.ref 941), some (.int (nI b0)), some (.int (nI m)), some (.int (nI sz)), some (.int (nI i)), some (.int (nI 1)), some (.int (nI 0))]) rfl ?_
        refine w_X9_named_22 hl hm hu hn hn6 ho w0 hm9 hB n6 ?_ 9 0 (by omega) (by omega)
        refine s_iload (zdk hX9_named 52 rfl) rfl ?_
        refine s_if_eq 104 (zdk hX9_named 53 rfl) (by decide) (fun c98 => ?_) (fun c98 => ?_)
        · rw [rNd_n n6 c98]
          refine s_iinc (r := nI (i + 1)) (zdk hX9_named 56 rfl) (Nat.le_of_ble_eq_true rfl) rfl (nI_1 _) ?_
          refine s_ls (ls' := [some (.ref 941), some (.int (nI b0)), some (.int (nI m)), some (.int (nI sz)), some (.int (nI (i + 1))), some (.int ((rSm g u r (b0 + sz * i) 8))), some (.int (nI 8))]) rfl ?_
          refine s_goto 3 (zdk hX9_named 57 rfl) (by decide) ?_
          exact ih (i + 1) _ _ (by omega) (by omega)
        · rw [rNd_y n6 c98]
          refine s_iload (zdk hX9_named 54 rfl) rfl ?_
          refine s_ireturn (zdk hX9_named 55 rfl) rfl rfl ?_
          exact ⟨rfl, rfl⟩
theorem c_X9_named (hl : l.stackTraces = false) {M : zMem} (hm : mSh M) {g : Nat → Int64} {u : Nat → Int32} (hu : zI M 947 = u) {n : Nat} (hn : zI M 941 8 = nI n) (hn6 : n ≤ 600) {r : rRd} (ho : rOk n r) (w0 : r.2.2.2.2.1 = 0) {b0 sz m : Nat} (hm9 : m ≤ 20) (hB : ∀ i, i < m → b0 + sz * i + 8 ≤ 1390) : zCm l G mX9_named 1 40 0 0 [.ref 941, .int (nI b0), .int (nI m), .int (nI sz)] (zsL (rdM M r) 942 g) (zD (some (.int (rNd g u r b0 sz m 0))) (zsL (rdM M r) 942 g)) := by
  refine zCd.of (ls0 := [some (.ref 941), some (.int (nI b0)), some (.int (nI m)), some (.int (nI sz)), none, none, none]) (by decide +kernel) rfl hl rfl (Nat.le_of_ble_eq_true rfl) rfl ?_
  refine s_iconstv (v := nI 0) (zdk hX9_named 0 rfl) zc_iconst_0 ?_
  refine s_istore (zdk hX9_named 1 rfl) (Nat.le_of_ble_eq_true rfl) ?_
  refine s_ls (ls' := [some (.ref 941), some (.int (nI b0)), some (.int (nI m)), some (.int (nI sz)), some (.int (nI 0)), none, none]) rfl ?_
  exact w_X9_named_3 hl hm hu hn hn6 ho w0 hm9 hB (m + 1) 0 none none (by omega) (by omega)
theorem c_X9_named_w (hl : l.stackTraces = false) {M : zMem} (hm : mSh M) {g : Nat → Int64} {u : Nat → Int32} (hu : zI M 947 = u) {n : Nat} (hn : zI M 941 8 = nI n) (hn6 : n ≤ 600) {r : rRd} (ho : rOk n r) (c0 : ¬ r.2.2.2.2.1 = 0) {b0 sz m : Nat} (hm9 : m ≤ 20) : zCm l G mX9_named 1 40 0 0 [.ref 941, .int (nI b0), .int (nI m), .int (nI sz)] (zsL (rdM M r) 942 g) (zD (some (.int (-1))) (zsL (rdM M r) 942 g)) := by
  refine zCd.of (ls0 := [some (.ref 941), some (.int (nI b0)), some (.int (nI m)), some (.int (nI sz)), none, none, none]) (by decide +kernel) rfl hl rfl (Nat.le_of_ble_eq_true rfl) rfl ?_
  refine s_iconstv (v := nI 0) (zdk hX9_named 0 rfl) zc_iconst_0 ?_
  refine s_istore (zdk hX9_named 1 rfl) (Nat.le_of_ble_eq_true rfl) ?_
  refine s_ls (ls' := [some (.ref 941), some (.int (nI b0)), some (.int (nI m)), some (.int (nI sz)), some (.int (nI 0)), none, none]) rfl ?_
  refine s_iload (zdk hX9_named 2 rfl) rfl ?_
  refine s_iload_n (zdk hX9_named 3 rfl) rfl ?_
  refine s_icmp_ge 110 (zdk hX9_named 4 rfl) (by decide) (fun c6 => ?_) (fun c6 => ?_)
  · have n6 : m ≤ 0 := nle c6 (by omega) (by omega)
    refine s_iconstv (v := (-1)) (zdk hX9_named 58 rfl) zc_iconst_m1 ?_
    refine s_ireturn (zdk hX9_named 59 rfl) rfl rfl ?_
    exact ⟨rfl, rfl⟩
  · have n6 : 0 < m := nlt c6 (by omega) (by omega)
    refine s_aload_n (zdk hX9_named 5 rfl) rfl ?_
    refine s_getI (zdk hX9_named 6 rfl) fw_X9_127 rfl (hm.1) ?_
    refine s_topi (b := r.2.2.2.2.1) (show zI (rdM M r) 941 13 = _ from rd_wr) ?_
    refine s_if_ne 110 (zdk hX9_named 7 rfl) (by decide) (fun c13 => ?_) (fun c13 => ?_)
    · refine s_iconstv (v := (-1)) (zdk hX9_named 58 rfl) zc_iconst_m1 ?_
      refine s_ireturn (zdk hX9_named 59 rfl) rfl rfl ?_
      exact ⟨rfl, rfl⟩
    · exact absurd c13 c0
end
