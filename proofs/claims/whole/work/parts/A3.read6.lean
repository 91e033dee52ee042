/-! ===== the reference reads: a tier ===== -/
def rNa (g : Nat → Int64) (u : Nat → Int32) (r : rRd) (b sz m : Nat) : Int32 := if r.2.2.2.2.1 = 0 then rNd g u r b sz m 0 else -1
/-- up to the name; from the name on -/
def rT1 (u : Nat → Int32) (n : Nat) (r : rRd) : rRd := rMn (rMu u n (rIw u 2 r) r)
def rT3 (u : Nat → Int32) (n t : Nat) (g : Nat → Int64) (r : rRd) : rRd := if rNa g u r 11 13 t = -1 then r else rFl r (-5)
def rTq (u : Nat → Int32) (n t : Nat) (x : (Nat → Int64) × rRd) : Nat → (Nat → Int64) × rRd
  | 0 => x
  | k + 1 => (zwL (rTq u n t x k).1 (6 + 13 * t + (k + 1)) (rTa u n (nI 0) (nI 99) (rTq u n t x k).2).1.toInt64, (rTa u n (nI 0) (nI 99) (rTq u n t x k).2).2)
def rT5 (u : Nat → Int32) (n t : Nat) (g : Nat → Int64) (r : rRd) : (Nat → Int64) × rRd := (zwL (rPn u r g (6 + 13 * t + 5) 8) (6 + 13 * t) (rTa u n (nI 1) (nI 99999) (rNx u n r)).1.toInt64, (rTa u n (nI 1) (nI 99999) (rNx u n r)).2)
def rEn (u : Nat → Int32) (n : Nat) (r : rRd) : rRd := rMu u n (if r.2.2.1 = 2 ∧ zrb u n r.1 = nI 59 then nI 1 else nI 0) r
def rT9 (u : Nat → Int32) (n t : Nat) (g : Nat → Int64) (r : rRd) : (Nat → Int64) × rRd := (zwL (rTq u n t (rT5 u n t g r) 4).1 2 ((rTq u n t (rT5 u n t g r) 4).1 2 + lN 1), rEn u n (rTq u n t (rT5 u n t g r) 4).2)
theorem rTq_ok {u : Nat → Int32} {n t : Nat} {x : (Nat → Int64) × rRd} (h : rOk n x.2) : ∀ k, rOk n (rTq u n t x k).2
  | 0 => h
  | k + 1 => rTa_ok (rTq_ok h k)
section
variable {l : Launch} {G : zG}
theorem w_X9_readsTier_96 (hl : l.stackTraces = false) {M : zMem} (hm : mSh M) {u : Nat → Int32} (hu : zI M 947 = u) {n : Nat} (hn : zI M 941 8 = nI n) (hn6 : n ≤ 600) {t : Nat} (ht : t ≤ 4) {x : (Nat → Int64) × rRd} (hx : rOk n x.2) {Q : zOut → zMem → Prop} (kk : zS l G mX9_readsTier 6 200 0 0 129 [some (.ref 941), some (.int (nI t)), some (.int (nI 5))] [] (zsL (rdM M (rTq u n t x 4).2) 942 (rTq u n t x 4).1) Q) : ∀ (k : Nat) (k1 : Nat), k1 ≤ 4 → 4 - k1 < k → zS l G mX9_readsTier 6 200 0 0 96 [some (.ref 941), some (.int (nI t)), some (.int (nI (k1 + 1)))] [] (zsL (rdM M (rTq u n t x k1).2) 942 (rTq u n t x k1).1) Q := by
  intro k
  induction k with
  | zero => intros; omega
  | succ k ih =>
    intro k1 hi hk
    refine s_iload_n (zdk hX9_readsTier_0 56 rfl) rfl ?_
    refine s_iconstv (v := nI 4) (zdk hX9_readsTier_0 57 rfl) zc_iconst_4 ?_
    refine s_icmp_gt 129 (zdk hX9_readsTier_0 58 rfl) (by decide) (fun c98 => ?_) (fun c98 => ?_)
    · have n98 : 4 < k1 + 1 := nlt' c98 (by omega) (by omega)
      obtain rfl : k1 = 4 := by omega
      exact kk
    · have n98 : k1 + 1 ≤ 4 := nge' c98 (by omega) (by omega)
      refine s_aload_n (zdk hX9_readsTier_0 59 rfl) rfl ?_
      refine s_getR (zdk hX9_readsTier_1 0 rfl) fw_X9_7 rfl (hm.1) (show _ = some 942 from (hm.r (i := 0) rfl).1) ?_
      refine s_bipushv (v := nI 6) (zdk hX9_readsTier_1 1 rfl) zc_bipush_6 ?_
      refine s_bipushv (v := nI 13) (zdk hX9_readsTier_1 2 rfl) zc_bipush_13 ?_
      refine s_iload_n (zdk hX9_readsTier_1 3 rfl) rfl ?_
      refine s_imul (zdk hX9_readsTier_1 4 rfl) ?_
      refine s_topi (b := nI (13 * t)) (pk_mul _ _) ?_
      refine s_iadd (zdk hX9_readsTier_1 5 rfl) ?_
      refine s_topi (b := nI (6 + 13 * t)) (nI_add _ _) ?_
      refine s_iload_n (zdk hX9_readsTier_1 6 rfl) rfl ?_
      refine s_iadd (zdk hX9_readsTier_1 7 rfl) ?_
      refine s_topi (b := nI (6 + 13 * t + (k1 + 1))) (nI_add _ _) ?_
      refine s_aload_n (zdk hX9_readsTier_1 8 rfl) rfl ?_
      refine s_iconstv (v := nI 0) (zdk hX9_readsTier_1 9 rfl) zc_iconst_0 ?_
      refine s_bipushv (v := nI 99) (zdk hX9_readsTier_1 10 rfl) zc_bipush_99 ?_
      refine s_callV0 (ci := 9) [.int (nI 0), .int (nI 99)] (zdk hX9_readsTier_1 11 rfl) cw_X9_174 (hm.1) (by decide) rfl rfl rfl (Nat.le_of_ble_eq_true rfl) (by decide) (c_X9_takes hl hm hu hn hn6 (g := (rTq u n t x k1).1) (r := (rTq u n t x k1).2) (rTq_ok hx k1) (nI 0) (nI 99)) ?_
      refine s_i2l (zdk hX9_readsTier_1 12 rfl) ?_
      refine s_lastoreN (N := 1390) (j := 6 + 13 * t + (k1 + 1)) (zdk hX9_readsTier_1 13 rfl) ((hm.r (i := 0) rfl).2.1) ((hm.r (i := 0) rfl).2.2) (by omega) (by decide) ?_
      refine s_mem (M' := (zsL (rdM M (rTa u n (nI 0) (nI 99) (rTq u n t x k1).2).2) 942 (zwL (rTq u n t x k1).1 (6 + 13 * t + (k1 + 1)) (((rTa u n (nI 0) (nI 99) (rTq u n t x k1).2).1).toInt64)))) (zsL_1 _ _ _ _ _) ?_
      refine s_iinc (r := nI (k1 + 1 + 1)) (zdk hX9_readsTier_1 14 rfl) (Nat.le_of_ble_eq_true rfl) rfl (nI_1 _) ?_
      refine s_ls (ls' := [some (.ref 941), some (.int (nI t)), some (.int (nI (k1 + 1 + 1)))]) rfl ?_
      refine s_goto 96 (zdk hX9_readsTier_1 15 rfl) (by decide) ?_
      exact ih (k1 + 1) (by omega) (by omega)
end
