theorem zc_sipush_600 : (Int16.ofInt 600).toInt32 = nI 600 := by decide
/-! ===== the text buffer ===== -/
def tPut (w : zWr) (v : Int32) : zWr := if v = 0 then w else if w.1 < 600 then (w.1 + 1, zw1 w.2 w.1 v) else w
theorem zMw_add {M : zMem} {a : Nat} {w : zWr} {v : Int32} : zsI (zsI (zMw M a w) (a + 1) w.1 v) a 0 (nI (w.1 + 1)) = zMw M a (w.1 + 1, zw1 w.2 w.1 v) := by
  unfold zMw
  rw [zsA_1]
  unfold zsI zsA
  congr 1
  funext b
  unfold zu zur
  by_cases q : b = a
  · subst q
    simp only [if_true, if_neg (show ¬ b = b + 1 by omega)]
    funext j
    by_cases r : j = 0 <;> simp [r]
  · simp [q]
theorem tPut_le {w : zWr} {v : Int32} (h : w.1 ≤ 600) : (tPut w v).1 ≤ 600 := by
  unfold tPut
  split
  · exact h
  · split
    · show w.1 + 1 ≤ 600; omega
    · exact h
/-- the k-th byte from the low end -/
def zby (v : Int32) (k : Nat) : Int32 := v >>> (nI (8 * k) &&& 31) &&& nI 255
def tPb (v : Int32) : Nat → zWr → zWr
  | 0, w => w
  | k + 1, w => tPb v k (tPut w (zby v k))
theorem tPb_le {v : Int32} : ∀ (k : Nat) (w : zWr), w.1 ≤ 600 → (tPb v k w).1 ≤ 600
  | 0, _, h => h
  | k + 1, w, h => tPb_le k _ (tPut_le h)
theorem nI_m8 (x : Int32) : x + Int32.ofInt (-8) = x - nI 8 := by rw [Int32.sub_eq_add_neg]; rfl
section
variable {l : Launch} {G : zG}
theorem w_X4_putBytesOf_3 {M : zMem} {a : Nat} (ha : eSh M a) (v : Int32) : ∀ (k : Nat) (w : zWr) (x3 : Option Value), w.1 ≤ 600 → k ≤ 4 → zS l G mX4_putBytesOf 0 0 0 0 3 [some (.ref a), some (.int v), some (.int (nI (8 * k) - nI 8)), x3] [] (zMw M a w) (zD none (zMw M a (tPb v k w))) := by
  intro k
  induction k with
  | zero =>
    intro w x3 hw hk
    refine s_iload_n (zdk hX4_putBytesOf 2 rfl) rfl ?_
    refine s_if_lt 55 (zdk hX4_putBytesOf 3 rfl) (by decide) (fun c4 => ?_) (fun c4 => ?_)
    · refine s_return (zdk hX4_putBytesOf 30 rfl) rfl ?_
      exact ⟨rfl, rfl⟩
    · exact absurd (by decide) c4
  | succ k ih =>
    intro w x3 hw hk
    rw [show nI (8 * (k + 1)) - nI 8 = nI (8 * k) from (pk_sub (by omega)).trans (by congr 1)]
    refine s_iload_n (zdk hX4_putBytesOf 2 rfl) rfl ?_
    refine s_if_lt 55 (zdk hX4_putBytesOf 3 rfl) (by decide) (fun c4 => ?_) (fun c4 => ?_)
    · exact absurd c4 (nI_pos (by omega))
    · refine s_iload_n (zdk hX4_putBytesOf 4 rfl) rfl ?_
      refine s_iload_n (zdk hX4_putBytesOf 5 rfl) rfl ?_
      refine s_ishr (zdk hX4_putBytesOf 6 rfl) ?_
      refine s_sipushv (v := nI 255) (zdk hX4_putBytesOf 7 rfl) zc_sipush_255 ?_
      refine s_iand (zdk hX4_putBytesOf 8 rfl) ?_
      refine s_topi (b := zby v k) (rfl) ?_
      refine s_istore_n (zdk hX4_putBytesOf 9 rfl) (Nat.le_of_ble_eq_true rfl) ?_
      refine s_ls (ls' := [some (.ref a), some (.int (v)), some (.int (nI (8 * k))), some (.int (zby v k))]) rfl ?_
      refine s_iload_n (zdk hX4_putBytesOf 10 rfl) rfl ?_
      refine s_if_eq 49 (zdk hX4_putBytesOf 11 rfl) (by decide) (fun c16 => ?_) (fun c16 => ?_)
      · have e1 : (tPut w (zby v k)) = w := if_pos c16
        refine s_mem (M' := (zMw M a (tPut w (zby v k)))) (by rw [e1]) ?_
        refine s_iinc (r := nI (8 * k) - nI 8) (zdk hX4_putBytesOf 28 rfl) (Nat.le_of_ble_eq_true rfl) rfl (nI_m8 _) ?_
        refine s_ls (ls' := [some (.ref a), some (.int (v)), some (.int (nI (8 * k) - nI 8)), some (.int (zby v k))]) rfl ?_
        refine s_goto 3 (zdk hX4_putBytesOf 29 rfl) (by decide) ?_
        rw [show tPb v (k + 1) w = tPb v k (tPut w (zby v k)) from rfl]
        exact ih _ _ (tPut_le hw) (by omega)
      · refine s_aload_n (zdk hX4_putBytesOf 12 rfl) rfl ?_
        refine s_getI (zdk hX4_putBytesOf 13 rfl) fw_X4_9 rfl (ha.1) ?_
        refine s_topi (b := nI w.1) (zMw_0) ?_
        refine s_sipushv (v := nI 600) (zdk hX4_putBytesOf 14 rfl) zc_sipush_600 ?_
        refine s_icmp_ge 49 (zdk hX4_putBytesOf 15 rfl) (by decide) (fun c26 => ?_) (fun c26 => ?_)
        · have e1 : (tPut w (zby v k)) = w := (if_neg c16).trans (if_neg (by have := nle c26 (by omega) (by omega); omega))
          refine s_mem (M' := (zMw M a (tPut w (zby v k)))) (by rw [e1]) ?_
          refine s_iinc (r := nI (8 * k) - nI 8) (zdk hX4_putBytesOf 28 rfl) (Nat.le_of_ble_eq_true rfl) rfl (nI_m8 _) ?_
          refine s_ls (ls' := [some (.ref a), some (.int (v)), some (.int (nI (8 * k) - nI 8)), some (.int (zby v k))]) rfl ?_
          refine s_goto 3 (zdk hX4_putBytesOf 29 rfl) (by decide) ?_
          rw [show tPb v (k + 1) w = tPb v k (tPut w (zby v k)) from rfl]
          exact ih _ _ (tPut_le hw) (by omega)
        · have hq : w.1 < 600 := nlt c26 (by omega) (by omega)
          have e1 : (tPut w (zby v k)) = (w.1 + 1, zw1 w.2 w.1 (zby v k)) := (if_neg c16).trans (if_pos hq)
          refine s_aload_n (zdk hX4_putBytesOf 16 rfl) rfl ?_
          refine s_getR (zdk hX4_putBytesOf 17 rfl) fw_X4_18 rfl (ha.1) (ha.2.1) ?_
          refine s_aload_n (zdk hX4_putBytesOf 18 rfl) rfl ?_
          refine s_getI (zdk hX4_putBytesOf 19 rfl) fw_X4_9 rfl (ha.1) ?_
          refine s_topi (b := nI w.1) (zMw_0) ?_
          refine s_iload_n (zdk hX4_putBytesOf 20 rfl) rfl ?_
          refine s_iastoreN (N := 600) (j := w.1) (zdk hX4_putBytesOf 21 rfl) (ha.2.2.1) (ha.2.2.2) (hq) (by decide) ?_
          refine s_aload_n (zdk hX4_putBytesOf 22 rfl) rfl ?_
          refine s_dupr (zdk hX4_putBytesOf 23 rfl) ?_
          refine s_getI (zdk hX4_putBytesOf 24 rfl) fw_X4_9 rfl (ha.1) ?_
          refine s_topi (b := nI w.1) ((congrFun (zI_In (show a ≠ a + 1 by omega)) 0).trans zMw_0) ?_
          refine s_iconstv (v := nI 1) (zdk hX4_putBytesOf 25 rfl) zc_iconst_1 ?_
          refine s_iadd (zdk hX4_putBytesOf 26 rfl) ?_
          refine s_topi (b := nI (w.1 + 1)) (nI_1 _) ?_
          refine s_putI (zdk hX4_putBytesOf 27 rfl) fw_X4_9 rfl pw_4_0 (ha.1) ?_
          refine s_mem (M' := (zMw M a (tPut w (zby v k)))) (by rw [e1]; exact zMw_add) ?_
          refine s_iinc (r := nI (8 * k) - nI 8) (zdk hX4_putBytesOf 28 rfl) (Nat.le_of_ble_eq_true rfl) rfl (nI_m8 _) ?_
          refine s_ls (ls' := [some (.ref a), some (.int (v)), some (.int (nI (8 * k) - nI 8)), some (.int (zby v k))]) rfl ?_
          refine s_goto 3 (zdk hX4_putBytesOf 29 rfl) (by decide) ?_
          rw [show tPb v (k + 1) w = tPb v k (tPut w (zby v k)) from rfl]
          exact ih _ _ (tPut_le hw) (by omega)
theorem c_X4_putBytesOf (hl : l.stackTraces = false) {M : zMem} {a : Nat} (ha : eSh M a) {w : zWr} (hw : w.1 ≤ 600) (v : Int32) : zCm l G mX4_putBytesOf 0 0 0 0 [.ref a, .int v] (zMw M a w) (zD none (zMw M a (tPb v 4 w))) := by
  refine zCd.of (ls0 := [some (.ref a), some (.int (v)), none, none]) (by decide +kernel) rfl hl rfl (Nat.le_of_ble_eq_true rfl) rfl ?_
  refine s_bipushv (v := nI 24) (zdk hX4_putBytesOf 0 rfl) zc_bipush_24 ?_
  refine s_istore_n (zdk hX4_putBytesOf 1 rfl) (Nat.le_of_ble_eq_true rfl) ?_
  refine s_ls (ls' := [some (.ref a), some (.int (v)), some (.int (nI 24)), none]) rfl ?_
  exact w_X4_putBytesOf_3 ha v 4 w none hw (by omega)
end
