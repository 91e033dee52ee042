theorem zc_bipush_31 : (Int8.ofInt 31).toInt32 = nI 31 := by decide
theorem zc_bipush_35 : (Int8.ofInt 35).toInt32 = nI 35 := by decide
theorem zc_bipush_45 : (Int8.ofInt 45).toInt32 = nI 45 := by decide
theorem zc_bipush_97 : (Int8.ofInt 97).toInt32 = nI 97 := by decide
theorem zc_sipush_256 : (Int16.ofInt 256).toInt32 = nI 256 := by decide
/-! ===== the writer ===== -/
def wSh (M : zMem) (a : Nat) : Prop := zK M a = 8 ∧ zR M a 1 = some (a + 1) ∧ zK M (a + 1) = 11 ∧ zN M (a + 1) = 256
/-- what is written: how much, the row -/
abbrev zWr : Type := Nat × (Nat → Int32)
def zMw (M : zMem) (a : Nat) (w : zWr) : zMem := zsA (zsI M a 0 (nI w.1)) (a + 1) w.2
def wPut (w : zWr) (v : Int32) : zWr := if w.1 < 256 then (w.1 + 1, zw1 w.2 w.1 v) else w
theorem zMw_0 {M : zMem} {a : Nat} {w : zWr} : zI (zMw M a w) a 0 = nI w.1 := by
  unfold zMw
  rw [zI_An _ _ (show a ≠ a + 1 by omega), zI_Ie, zw1_e]
theorem zMw_put {M : zMem} {a : Nat} {w : zWr} {v : Int32} (h : w.1 < 256) : zsI (zsI (zMw M a w) (a + 1) w.1 v) a 0 (nI (w.1 + 1)) = zMw M a (wPut w v) := by
  unfold wPut
  rw [if_pos h]
  unfold zMw
  rw [zsA_1]
  unfold zsI zsA
  congr 1
  funext b
  unfold zu zur
  by_cases q : b = a
  · subst q
    simp only [if_true, if_neg (show ¬ b = b + 1 by omega)]
    funext j
    by_cases r : j = 0 <;> simp [r]
  · simp [q]
theorem wPut_le {w : zWr} {v : Int32} (h : w.1 ≤ 256) : (wPut w v).1 ≤ 256 := by
  unfold wPut
  split
  · show w.1 + 1 ≤ 256; omega
  · exact h
theorem zag_Mw {M : zMem} {a : Nat} {w : zWr} : zag M (zMw M a w) (fun c => c < a ∨ a + 2 ≤ c) := by
  unfold zMw
  exact ((zag_I _ _ _ _).mono fun c hc => by omega).trans ((zag_A _ _ _).mono fun c hc => by omega)
def zLt (nm : Int64) (k : Nat) : Int32 := (nm >>> ((nI (5 * k)).toInt64 &&& 63)).toInt32 &&& nI 31
def zpn (nm : Int64) : Nat → zWr → zWr
  | 0, w => w
  | k + 1, w => zpn nm k (if zLt nm k ≤ 0 then w else wPut w (nI 97 + zLt nm k - nI 1))
theorem zpn_le {nm : Int64} : ∀ (k : Nat) (w : zWr), w.1 ≤ 256 → (zpn nm k w).1 ≤ 256
  | 0, w, h => h
  | k + 1, w, h => by
    unfold zpn
    refine zpn_le k _ ?_
    split
    · exact h
    · exact wPut_le h
def zwn (nm : Int64) (w : zWr) : zWr := zpn nm 8 (if nm = lN 0 then wPut w (nI 45) else w)
theorem zwn_le {nm : Int64} {w : zWr} (h : w.1 ≤ 256) : (zwn nm w).1 ≤ 256 := by
  unfold zwn
  refine zpn_le 8 _ ?_
  split
  · exact wPut_le h
  · exact h
theorem nI_m5 (x : Int32) : x + Int32.ofInt (-5) = x - nI 5 := by rw [Int32.sub_eq_add_neg]; rfl
section
variable {l : Launch} {G : zG}
theorem c_X7_withLetter (hl : l.stackTraces = false) (M : zMem) (nm : Int64) (v : Int32) : zCm l G mX7_withLetter 0 0 0 0 [.long nm, .int v] M (zD (some (.long ((nm <<< ((nI 5).toInt64 &&& 63)) + (v - nI 97 + nI 1).toInt64))) M) := by
  refine zCd.of (ls0 := [some (.long (nm)), none, some (.int (v))]) (by decide +kernel) rfl hl rfl (Nat.le_of_ble_eq_true rfl) rfl ?_
  refine s_lload_n (zdk hX7_withLetter 0 rfl) rfl ?_
  refine s_iconstv (v := nI 5) (zdk hX7_withLetter 1 rfl) zc_iconst_5 ?_
  refine s_lshl (zdk hX7_withLetter 2 rfl) ?_
  refine s_iload_n (zdk hX7_withLetter 3 rfl) rfl ?_
  refine s_bipushv (v := nI 97) (zdk hX7_withLetter 4 rfl) zc_bipush_97 ?_
  refine s_isub (zdk hX7_withLetter 5 rfl) ?_
  refine s_iconstv (v := nI 1) (zdk hX7_withLetter 6 rfl) zc_iconst_1 ?_
  refine s_iadd (zdk hX7_withLetter 7 rfl) ?_
  refine s_i2l (zdk hX7_withLetter 8 rfl) ?_
  refine s_ladd (zdk hX7_withLetter 9 rfl) ?_
  refine s_lreturn (zdk hX7_withLetter 10 rfl) rfl  ?_
  exact ⟨rfl, rfl⟩
theorem c_X7_putByte (hl : l.stackTraces = false) {M : zMem} {a : Nat} (ha : wSh M a) {w : zWr} (hw : w.1 ≤ 256) (v : Int32) : zCm l G mX7_putByte 0 0 0 0 [.ref a, .int v] (zMw M a w) (zD none (zMw M a (wPut w v))) := by
  refine zCd.of (ls0 := [some (.ref a), some (.int (v))]) (by decide +kernel) rfl hl rfl (Nat.le_of_ble_eq_true rfl) rfl ?_
  refine s_aload_n (zdk hX7_putByte 0 rfl) rfl ?_
  refine s_getI (zdk hX7_putByte 1 rfl) fw_X7_9 rfl (ha.1) ?_
  refine s_topi (b := nI w.1) (zMw_0) ?_
  refine s_sipushv (v := nI 256) (zdk hX7_putByte 2 rfl) zc_sipush_256 ?_
  refine s_icmp_ge 30 (zdk hX7_putByte 3 rfl) (by decide) (fun c7 => ?_) (fun c7 => ?_)
  · have hq : wPut w v = w := if_neg (by have := nle c7 (by omega) (by omega); omega)
    refine s_return (zdk hX7_putByte 16 rfl) rfl ?_
    first | exact ⟨rfl, by rw [hq]⟩ | exact ⟨rfl, by rw [← zMw_put hq, nI_add]⟩
  · have hq : w.1 < 256 := nlt c7 (by omega) (by omega)
    refine s_aload_n (zdk hX7_putByte 4 rfl) rfl ?_
    refine s_getR (zdk hX7_putByte 5 rfl) fw_X7_15 rfl (ha.1) (ha.2.1) ?_
    refine s_aload_n (zdk hX7_putByte 6 rfl) rfl ?_
    refine s_getI (zdk hX7_putByte 7 rfl) fw_X7_9 rfl (ha.1) ?_
    refine s_topi (b := nI w.1) (zMw_0) ?_
    refine s_iload_n (zdk hX7_putByte 8 rfl) rfl ?_
    refine s_iastoreN (N := 256) (j := w.1) (zdk hX7_putByte 9 rfl) (ha.2.2.1) (ha.2.2.2) (hq) (by decide) ?_
    refine s_aload_n (zdk hX7_putByte 10 rfl) rfl ?_
    refine s_dupr (zdk hX7_putByte 11 rfl) ?_
    refine s_getI (zdk hX7_putByte 12 rfl) fw_X7_9 rfl (ha.1) ?_
    refine s_topi (b := nI w.1) ((congrFun (zI_In (show a ≠ a + 1 by omega)) 0).trans zMw_0) ?_
    refine s_iconstv (v := nI 1) (zdk hX7_putByte 13 rfl) zc_iconst_1 ?_
    refine s_iadd (zdk hX7_putByte 14 rfl) ?_
    refine s_putI (zdk hX7_putByte 15 rfl) fw_X7_9 rfl pw_7_0 (ha.1) ?_
    refine s_return (zdk hX7_putByte 16 rfl) rfl ?_
    first | exact ⟨rfl, by rw [hq]⟩ | exact ⟨rfl, by rw [← zMw_put hq, nI_add]⟩
theorem w_X7_putName_15 (hl : l.stackTraces = false) {M : zMem} {a : Nat} (ha : wSh M a) (nm : Int64) : ∀ (k : Nat) (w : zWr) (x4 : Option Value), w.1 ≤ 256 → k ≤ 8 → zS l G mX7_putName 1 24 0 0 15 [some (.ref a), some (.long nm), none, some (.int (nI (5 * k) - nI 5)), x4] [] (zMw M a w) (zD none (zMw M a (zpn nm k w))) := by
  intro k
  induction k with
  | zero =>
    intro w x4 hw hk
    refine s_iload_n (zdk hX7_putName 9 rfl) rfl ?_
    refine s_if_lt 50 (zdk hX7_putName 10 rfl) (by decide) (fun c16 => ?_) (fun c16 => ?_)
    · refine s_return (zdk hX7_putName 29 rfl) rfl ?_
      exact ⟨rfl, rfl⟩
    · exact absurd (by decide) c16
  | succ k ih =>
    intro w x4 hw hk
    rw [show nI (5 * (k + 1)) - nI 5 = nI (5 * k) from (pk_sub (by omega)).trans (by congr 1)]
    refine s_iload_n (zdk hX7_putName 9 rfl) rfl ?_
    refine s_if_lt 50 (zdk hX7_putName 10 rfl) (by decide) (fun c16 => ?_) (fun c16 => ?_)
    · exact absurd c16 (nI_pos (by omega))
    · refine s_lload_n (zdk hX7_putName 11 rfl) rfl ?_
      refine s_iload_n (zdk hX7_putName 12 rfl) rfl ?_
      refine s_lshr (zdk hX7_putName 13 rfl) ?_
      refine s_l2i (zdk hX7_putName 14 rfl) ?_
      refine s_bipushv (v := nI 31) (zdk hX7_putName 15 rfl) zc_bipush_31 ?_
      refine s_iand (zdk hX7_putName 16 rfl) ?_
      refine s_topi (b := zLt nm k) (rfl) ?_
      refine s_istore (zdk hX7_putName 17 rfl) (Nat.le_of_ble_eq_true rfl) ?_
      refine s_ls (ls' := [some (.ref a), some (.long (nm)), none, some (.int (nI (5 * k))), some (.int (zLt nm k))]) rfl ?_
      refine s_iload (zdk hX7_putName 18 rfl) rfl ?_
      refine s_if_le 44 (zdk hX7_putName 19 rfl) (by decide) (fun c30 => ?_) (fun c30 => ?_)
      · have e1 : (if zLt nm k ≤ 0 then w else wPut w (nI 97 + zLt nm k - nI 1)) = w := if_pos c30
        refine s_iinc (r := nI (5 * k) - nI 5) (zdk hX7_putName 27 rfl) (Nat.le_of_ble_eq_true rfl) rfl (nI_m5 _) ?_
        refine s_ls (ls' := [some (.ref a), some (.long (nm)), none, some (.int (nI (5 * k) - nI 5)), some (.int (zLt nm k))]) rfl ?_
        refine s_goto 15 (zdk hX7_putName 28 rfl) (by decide) ?_
        rw [show zpn nm (k + 1) w = zpn nm k (if zLt nm k ≤ 0 then w else wPut w (nI 97 + zLt nm k - nI 1)) from rfl, e1]
        exact ih _ _ hw (by omega)
      · have e1 : (if zLt nm k ≤ 0 then w else wPut w (nI 97 + zLt nm k - nI 1)) = wPut w (nI 97 + zLt nm k - nI 1) := if_neg c30
        refine s_aload_n (zdk hX7_putName 20 rfl) rfl ?_
        refine s_bipushv (v := nI 97) (zdk hX7_putName 21 rfl) zc_bipush_97 ?_
        refine s_iload (zdk hX7_putName 22 rfl) rfl ?_
        refine s_iadd (zdk hX7_putName 23 rfl) ?_
        refine s_iconstv (v := nI 1) (zdk hX7_putName 24 rfl) zc_iconst_1 ?_
        refine s_isub (zdk hX7_putName 25 rfl) ?_
        refine s_callV0 (ci := 7) [.int (((nI 97) + (zLt nm k)) - (nI 1))] (zdk hX7_putName 26 rfl) cw_X7_24 (ha.1) (by decide) rfl rfl rfl (Nat.le_of_ble_eq_true rfl) (by decide) (c_X7_putByte hl ha hw _) ?_
        refine s_iinc (r := nI (5 * k) - nI 5) (zdk hX7_putName 27 rfl) (Nat.le_of_ble_eq_true rfl) rfl (nI_m5 _) ?_
        refine s_ls (ls' := [some (.ref a), some (.long (nm)), none, some (.int (nI (5 * k) - nI 5)), some (.int (zLt nm k))]) rfl ?_
        refine s_goto 15 (zdk hX7_putName 28 rfl) (by decide) ?_
        rw [show zpn nm (k + 1) w = zpn nm k (if zLt nm k ≤ 0 then w else wPut w (nI 97 + zLt nm k - nI 1)) from rfl, e1]
        exact ih _ _ (wPut_le hw) (by omega)
theorem c_X7_putName (hl : l.stackTraces = false) {M : zMem} {a : Nat} (ha : wSh M a) {w : zWr} (hw : w.1 ≤ 256) (nm : Int64) : zCm l G mX7_putName 1 24 0 0 [.ref a, .long nm] (zMw M a w) (zD none (zMw M a (zwn nm w))) := by
  refine zCd.of (ls0 := [some (.ref a), some (.long (nm)), none, none, none]) (by decide +kernel) rfl hl rfl (Nat.le_of_ble_eq_true rfl) rfl ?_
  refine s_lload_n (zdk hX7_putName 0 rfl) rfl ?_
  refine s_lconstv (v := lN 0) (zdk hX7_putName 1 rfl) rfl ?_
  refine s_lcmp (zdk hX7_putName 2 rfl) ?_
  refine s_if_ne 12 (zdk hX7_putName 3 rfl) (by decide) (fun c3 => ?_) (fun c3 => ?_)
  · have hq : zwn nm w = zpn nm 8 w := congrArg (zpn nm 8) (if_neg (lcmpn c3))
    refine s_bipushv (v := nI 35) (zdk hX7_putName 7 rfl) zc_bipush_35 ?_
    refine s_istore_n (zdk hX7_putName 8 rfl) (Nat.le_of_ble_eq_true rfl) ?_
    refine s_ls (ls' := [some (.ref a), some (.long (nm)), none, some (.int (nI 35)), none]) rfl ?_
    rw [hq]
    exact w_X7_putName_15 hl ha nm 8 _ none hw (by omega)
  · have hq : zwn nm w = zpn nm 8 (wPut w (nI 45)) := congrArg (zpn nm 8) (if_pos (lcmp0 c3))
    refine s_aload_n (zdk hX7_putName 4 rfl) rfl ?_
    refine s_bipushv (v := nI 45) (zdk hX7_putName 5 rfl) zc_bipush_45 ?_
    refine s_callV0 (ci := 7) [.int (nI 45)] (zdk hX7_putName 6 rfl) cw_X7_24 (ha.1) (by decide) rfl rfl rfl (Nat.le_of_ble_eq_true rfl) (by decide) (c_X7_putByte hl ha hw _) ?_
    refine s_bipushv (v := nI 35) (zdk hX7_putName 7 rfl) zc_bipush_35 ?_
    refine s_istore_n (zdk hX7_putName 8 rfl) (Nat.le_of_ble_eq_true rfl) ?_
    refine s_ls (ls' := [some (.ref a), some (.long (nm)), none, some (.int (nI 35)), none]) rfl ?_
    rw [hq]
    exact w_X7_putName_15 hl ha nm 8 _ none (wPut_le hw) (by omega)
end
