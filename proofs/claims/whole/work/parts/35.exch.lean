/-! ===== the planner: best exchange ===== -/
def zxG (g gn : Nat → Int64) (i j : Nat) : Int64 := gn (i * 4 + gN g (58 + 51 * j + 1)) + gn (j * 4 + gN g (58 + 51 * i + 1))
def zxJ (g gn : Nat → Int64) (op sp : Nat → Int32) (i : Nat) : Nat → zBt → zBt
  | 0, b => b
  | d + 1, b => if ¬ op (i + 1 + d) = 0 ∧ ¬ gN g (58 + 51 * i + 1) = gN g (58 + 51 * (i + 1 + d) + 1) ∧ ¬ zxG g gn i (i + 1 + d) ≤ (zxJ g gn op sp i d b).2.2.2 ∧ gf g (i + 1 + d) 0 - gf g i 0 ≤ sp (gN g (58 + 51 * i + 1)) ∧ -(gf g (i + 1 + d) 0 - gf g i 0) ≤ sp (gN g (58 + 51 * (i + 1 + d) + 1)) then (nI i, nI (i + 1 + d), nI (gN g (58 + 51 * (i + 1 + d) + 1)), zxG g gn i (i + 1 + d)) else zxJ g gn op sp i d b
def zxF (g gn : Nat → Int64) (op sp : Nat → Int32) : Nat → zBt → zBt
  | 0, b => b
  | f + 1, b => if op f = 0 then zxF g gn op sp f b else zxJ g gn op sp f (gN g 3 - (f + 1)) (zxF g gn op sp f b)
section
variable {l : Launch} {G : zG}
theorem w_X3_findExchange_19 (hl : l.stackTraces = false) {M : zMem} {a s : Nat} {g : Nat → Int64} {p : Nat → Nat} (ha : nSh M a) (h : rSt M s g p) (hd : a + 7 ≤ s ∨ s + 77 ≤ a) {i : Nat} (hi : i < gN g 3) (ho : ¬ zI M (a + 5) i = 0) (b : zBt) {Q : zOut → zMem → Prop} (hk2 : ∀ (y3 y4 y5 y6 y8 : Option Value), zS l G mX3_findExchange 1 30 0 0 171 [some (.ref a), some (.ref s), some (.int (nI i)), y3, y4, y5, y6, none, y8] [] (zMB M a (zxJ g (zJ M (a + 4)) (zI M (a + 5)) (zI M (a + 6)) i (gN g 3 - (i + 1)) b)) Q) : ∀ (k : Nat) (d : Nat) (x4 x5 x6 x8 : Option Value), i + 1 + d ≤ gN g 3 → gN g 3 - (i + 1) - d < k → zS l G mX3_findExchange 1 30 0 0 19 [some (.ref a), some (.ref s), some (.int (nI i)), some (.int (nI (i + 1 + d))), x4, x5, x6, none, x8] [] (zMB M a (zxJ g (zJ M (a + 4)) (zI M (a + 5)) (zI M (a + 6)) i d b)) Q := by
  have hF := h.b.2.2.1.2
  have hT := h.b.2.1.2
  have h2 : ∀ b, rSt (zMB M a b) s g p := fun b => h.keep (zag_MB.mono fun c hc => by omega)
  intro k
  induction k with
  | zero => intros; omega
  | succ k ih =>
    intro d x4 x5 x6 x8 hd2 hk
    refine s_aload_n (zdk hX3_findExchange_0 13 rfl) rfl ?_
    refine s_getR (zdk hX3_findExchange_0 14 rfl) fw_X3_33 rfl (ha.1) (ha.2.2.2.2.2.1.1) ?_
    refine s_iload_n (zdk hX3_findExchange_0 15 rfl) rfl ?_
    refine s_baloadN (N := 20) (j := i) (zdk hX3_findExchange_0 16 rfl) (ha.2.2.2.2.2.2.2.2.2.2.2.2.2.2.1) (ha.2.2.2.2.2.2.2.2.2.2.2.2.2.2.2.1) (by omega) (by decide) ?_
    refine s_topi (b := zI M (a + 5) i) (congrFun (zMB_In (show a + 5 ≠ a by omega)) i) ?_
    refine s_if_eq 171 (zdk hX3_findExchange_0 17 rfl) (by decide) (fun c25 => ?_) (fun c25 => ?_)
    · exact absurd c25 ho
    · refine s_iload_n (zdk hX3_findExchange_0 18 rfl) rfl ?_
      refine s_aload_n (zdk hX3_findExchange_0 19 rfl) rfl ?_
      refine s_getI (zdk hX3_findExchange_0 20 rfl) fw_X3_52 rfl ((h2 _).K) ?_
      refine s_topi (b := nI (gN g 3)) ((h2 _).v4) ?_
      refine s_icmp_ge 171 (zdk hX3_findExchange_0 21 rfl) (by decide) (fun c33 => ?_) (fun c33 => ?_)
      · obtain rfl : d = gN g 3 - (i + 1) := by have := nle c33 (by omega) (by omega); omega
        exact hk2 _ _ _ _ _
      · have hj : (i + 1 + d) < gN g 3 := nlt c33 (by omega) (by omega)
        have hA := h.b.onL hi
        have hB := h.b.onL hj
        refine s_aload_n (zdk hX3_findExchange_0 22 rfl) rfl ?_
        refine s_getR (zdk hX3_findExchange_0 23 rfl) fw_X3_80 rfl ((h2 _).K) ((h2 _).r6) ?_
        refine s_iload_n (zdk hX3_findExchange_0 24 rfl) rfl ?_
        refine s_aaloadN (N := 20) (j := i) (zdk hX3_findExchange_0 25 rfl) ((h2 _).fK) (by decide) ((h2 _).fN) (h.fL hi) (by decide) ((h2 _).rR hi) ?_
        refine s_getI (zdk hX3_findExchange_0 26 rfl) fw_X3_104 rfl (((h2 _).rS hi).1) ?_
        refine s_topi (b := nI (gN g (58 + 51 * i + 1))) (((h2 _).f2 hi).trans (h.b.on hi)) ?_
        refine s_istore (zdk hX3_findExchange_0 27 rfl) (Nat.le_of_ble_eq_true rfl) ?_
        refine s_ls (ls' := [some (.ref a), some (.ref s), some (.int (nI i)), some (.int (nI (i + 1 + d))), some (.int (nI (gN g (58 + 51 * i + 1)))), x5, x6, none, x8]) rfl ?_
        refine s_aload_n (zdk hX3_findExchange_0 28 rfl) rfl ?_
        refine s_getR (zdk hX3_findExchange_0 29 rfl) fw_X3_80 rfl ((h2 _).K) ((h2 _).r6) ?_
        refine s_iload_n (zdk hX3_findExchange_0 30 rfl) rfl ?_
        refine s_aaloadN (N := 20) (j := (i + 1 + d)) (zdk hX3_findExchange_0 31 rfl) ((h2 _).fK) (by decide) ((h2 _).fN) (h.fL hj) (by decide) ((h2 _).rR hj) ?_
        refine s_getI (zdk hX3_findExchange_0 32 rfl) fw_X3_104 rfl (((h2 _).rS hj).1) ?_
        refine s_topi (b := nI (gN g (58 + 51 * (i + 1 + d) + 1))) (((h2 _).f2 hj).trans (h.b.on hj)) ?_
        refine s_istore (zdk hX3_findExchange_0 33 rfl) (Nat.le_of_ble_eq_true rfl) ?_
        refine s_ls (ls' := [some (.ref a), some (.ref s), some (.int (nI i)), some (.int (nI (i + 1 + d))), some (.int (nI (gN g (58 + 51 * i + 1)))), some (.int (nI (gN g (58 + 51 * (i + 1 + d) + 1)))), x6, none, x8]) rfl ?_
        refine s_aload_n (zdk hX3_findExchange_0 34 rfl) rfl ?_
        refine s_getR (zdk hX3_findExchange_0 35 rfl) fw_X3_29 rfl (ha.1) (ha.2.2.2.2.1) ?_
        refine s_iload_n (zdk hX3_findExchange_0 36 rfl) rfl ?_
        refine s_iconstv (v := nI 4) (zdk hX3_findExchange_0 37 rfl) zc_iconst_4 ?_
        refine s_imul (zdk hX3_findExchange_0 38 rfl) ?_
        refine s_topi (b := nI (i * 4)) (pk_mul _ _) ?_
        refine s_iload (zdk hX3_findExchange_0 39 rfl) rfl ?_
        refine s_iadd (zdk hX3_findExchange_0 40 rfl) ?_
        refine s_topi (b := nI (i * 4 + (gN g (58 + 51 * (i + 1 + d) + 1)))) (nI_add _ _) ?_
        refine s_laloadN (N := 80) (j := (i * 4 + (gN g (58 + 51 * (i + 1 + d) + 1)))) (zdk hX3_findExchange_0 41 rfl) (ha.2.2.2.2.2.2.2.2.2.2.2.2.1) (ha.2.2.2.2.2.2.2.2.2.2.2.2.2.1) (by omega) (by decide) ?_
        refine s_topl (b := zJ M (a + 4) (i * 4 + (gN g (58 + 51 * (i + 1 + d) + 1)))) (congrFun (zMB_Jn (show a + 4 ≠ a by omega)) _) ?_
        refine s_aload_n (zdk hX3_findExchange_0 42 rfl) rfl ?_
        refine s_getR (zdk hX3_findExchange_0 43 rfl) fw_X3_29 rfl (ha.1) (ha.2.2.2.2.1) ?_
        refine s_iload_n (zdk hX3_findExchange_0 44 rfl) rfl ?_
        refine s_iconstv (v := nI 4) (zdk hX3_findExchange_0 45 rfl) zc_iconst_4 ?_
        refine s_imul (zdk hX3_findExchange_0 46 rfl) ?_
        refine s_topi (b := nI ((i + 1 + d) * 4)) (pk_mul _ _) ?_
        refine s_iload (zdk hX3_findExchange_0 47 rfl) rfl ?_
        refine s_iadd (zdk hX3_findExchange_0 48 rfl) ?_
        refine s_topi (b := nI ((i + 1 + d) * 4 + (gN g (58 + 51 * i + 1)))) (nI_add _ _) ?_
        refine s_laloadN (N := 80) (j := ((i + 1 + d) * 4 + (gN g (58 + 51 * i + 1)))) (zdk hX3_findExchange_0 49 rfl) (ha.2.2.2.2.2.2.2.2.2.2.2.2.1) (ha.2.2.2.2.2.2.2.2.2.2.2.2.2.1) (by omega) (by decide) ?_
        refine s_topl (b := zJ M (a + 4) ((i + 1 + d) * 4 + (gN g (58 + 51 * i + 1)))) (congrFun (zMB_Jn (show a + 4 ≠ a by omega)) _) ?_
        refine s_ladd (zdk hX3_findExchange_0 50 rfl) ?_
        refine s_topl (b := (zxG g (zJ M (a + 4)) i (i + 1 + d))) (rfl) ?_
        refine s_lstore (zdk hX3_findExchange_0 51 rfl) (Nat.le_of_ble_eq_true rfl) ?_
        refine s_ls (ls' := [some (.ref a), some (.ref s), some (.int (nI i)), some (.int (nI (i + 1 + d))), some (.int (nI (gN g (58 + 51 * i + 1)))), some (.int (nI (gN g (58 + 51 * (i + 1 + d) + 1)))), some (.long ((zxG g (zJ M (a + 4)) i (i + 1 + d)))), none, x8]) rfl ?_
        refine s_aload_n (zdk hX3_findExchange_0 52 rfl) rfl ?_
        refine s_getR (zdk hX3_findExchange_0 53 rfl) fw_X3_80 rfl ((h2 _).K) ((h2 _).r6) ?_
        refine s_iload_n (zdk hX3_findExchange_0 54 rfl) rfl ?_
        refine s_aaloadN (N := 20) (j := (i + 1 + d)) (zdk hX3_findExchange_0 55 rfl) ((h2 _).fK) (by decide) ((h2 _).fN) (h.fL hj) (by decide) ((h2 _).rR hj) ?_
        refine s_getI (zdk hX3_findExchange_0 56 rfl) fw_X3_123 rfl (((h2 _).rS hj).1) ?_
        refine s_topi (b := gf g ((i + 1 + d)) 0) ((h2 _).f1 hj) ?_
        refine s_aload_n (zdk hX3_findExchange_0 57 rfl) rfl ?_
        refine s_getR (zdk hX3_findExchange_0 58 rfl) fw_X3_80 rfl ((h2 _).K) ((h2 _).r6) ?_
        refine s_iload_n (zdk hX3_findExchange_0 59 rfl) rfl ?_
        refine s_aaloadN (N := 20) (j := i) (zdk hX3_findExchange_1 0 rfl) ((h2 _).fK) (by decide) ((h2 _).fN) (h.fL hi) (by decide) ((h2 _).rR hi) ?_
        refine s_getI (zdk hX3_findExchange_1 1 rfl) fw_X3_123 rfl (((h2 _).rS hi).1) ?_
        refine s_topi (b := gf g i 0) ((h2 _).f1 hi) ?_
        refine s_isub (zdk hX3_findExchange_1 2 rfl) ?_
        refine s_istore (zdk hX3_findExchange_1 3 rfl) (Nat.le_of_ble_eq_true rfl) ?_
        refine s_ls (ls' := [some (.ref a), some (.ref s), some (.int (nI i)), some (.int (nI (i + 1 + d))), some (.int (nI (gN g (58 + 51 * i + 1)))), some (.int (nI (gN g (58 + 51 * (i + 1 + d) + 1)))), some (.long ((zxG g (zJ M (a + 4)) i (i + 1 + d)))), none, some (.int ((gf g ((i + 1 + d)) 0) - (gf g i 0)))]) rfl ?_
        refine s_aload_n (zdk hX3_findExchange_1 4 rfl) rfl ?_
        refine s_getR (zdk hX3_findExchange_1 5 rfl) fw_X3_33 rfl (ha.1) (ha.2.2.2.2.2.1.1) ?_
        refine s_iload_n (zdk hX3_findExchange_1 6 rfl) rfl ?_
        refine s_baloadN (N := 20) (j := (i + 1 + d)) (zdk hX3_findExchange_1 7 rfl) (ha.2.2.2.2.2.2.2.2.2.2.2.2.2.2.1) (ha.2.2.2.2.2.2.2.2.2.2.2.2.2.2.2.1) (by omega) (by decide) ?_
        refine s_topi (b := zI M (a + 5) (i + 1 + d)) (congrFun (zMB_In (show a + 5 ≠ a by omega)) (i + 1 + d)) ?_
        refine s_if_eq 165 (zdk hX3_findExchange_1 8 rfl) (by decide) (fun c110 => ?_) (fun c110 => ?_)
        · have e1 : (zxJ g (zJ M (a + 4)) (zI M (a + 5)) (zI M (a + 6)) i (d + 1) b) = (zxJ g (zJ M (a + 4)) (zI M (a + 5)) (zI M (a + 6)) i d b) := if_neg (fun q => q.1 c110)
          refine s_mem (M' := (zMB M a (zxJ g (zJ M (a + 4)) (zI M (a + 5)) (zI M (a + 6)) i (d + 1) b))) (by rw [e1]) ?_
          refine s_iinc (r := nI (i + 1 + (d + 1))) (zdk hX3_findExchange_1 36 rfl) (Nat.le_of_ble_eq_true rfl) rfl (nI_1 (i + 1 + d)) ?_
          refine s_ls (ls' := [some (.ref a), some (.ref s), some (.int (nI i)), some (.int (nI (i + 1 + (d + 1)))), some (.int (nI (gN g (58 + 51 * i + 1)))), some (.int (nI (gN g (58 + 51 * (i + 1 + d) + 1)))), some (.long ((zxG g (zJ M (a + 4)) i (i + 1 + d)))), none, some (.int ((gf g ((i + 1 + d)) 0) - (gf g i 0)))]) rfl ?_
          refine s_goto 19 (zdk hX3_findExchange_1 37 rfl) (by decide) ?_
          exact ih (d + 1) _ _ _ _ (by omega) (by omega)
        · refine s_iload (zdk hX3_findExchange_1 9 rfl) rfl ?_
          refine s_iload (zdk hX3_findExchange_1 10 rfl) rfl ?_
          refine s_icmp_eq 165 (zdk hX3_findExchange_1 11 rfl) (by decide) (fun c117 => ?_) (fun c117 => ?_)
          · have e1 : (zxJ g (zJ M (a + 4)) (zI M (a + 5)) (zI M (a + 6)) i (d + 1) b) = (zxJ g (zJ M (a + 4)) (zI M (a + 5)) (zI M (a + 6)) i d b) := if_neg (fun q => q.2.1 (neq c117 (by omega) (by omega)))
            refine s_mem (M' := (zMB M a (zxJ g (zJ M (a + 4)) (zI M (a + 5)) (zI M (a + 6)) i (d + 1) b))) (by rw [e1]) ?_
            refine s_iinc (r := nI (i + 1 + (d + 1))) (zdk hX3_findExchange_1 36 rfl) (Nat.le_of_ble_eq_true rfl) rfl (nI_1 (i + 1 + d)) ?_
            refine s_ls (ls' := [some (.ref a), some (.ref s), some (.int (nI i)), some (.int (nI (i + 1 + (d + 1)))), some (.int (nI (gN g (58 + 51 * i + 1)))), some (.int (nI (gN g (58 + 51 * (i + 1 + d) + 1)))), some (.long ((zxG g (zJ M (a + 4)) i (i + 1 + d)))), none, some (.int ((gf g ((i + 1 + d)) 0) - (gf g i 0)))]) rfl ?_
            refine s_goto 19 (zdk hX3_findExchange_1 37 rfl) (by decide) ?_
            exact ih (d + 1) _ _ _ _ (by omega) (by omega)
          · refine s_lload (zdk hX3_findExchange_1 12 rfl) rfl ?_
            refine s_aload_n (zdk hX3_findExchange_1 13 rfl) rfl ?_
            refine s_getJ (zdk hX3_findExchange_1 14 rfl) fw_X3_49 rfl (ha.1) ?_
            refine s_topl (b := (zxJ g (zJ M (a + 4)) (zI M (a + 5)) (zI M (a + 6)) i d b).2.2.2) (zMB_J) ?_
            refine s_lcmp (zdk hX3_findExchange_1 15 rfl) ?_
            refine s_if_le 165 (zdk hX3_findExchange_1 16 rfl) (by decide) (fun c127 => ?_) (fun c127 => ?_)
            · have e1 : (zxJ g (zJ M (a + 4)) (zI M (a + 5)) (zI M (a + 6)) i (d + 1) b) = (zxJ g (zJ M (a + 4)) (zI M (a + 5)) (zI M (a + 6)) i d b) := if_neg (fun q => q.2.2.1 (lcmp_le c127))
              refine s_mem (M' := (zMB M a (zxJ g (zJ M (a + 4)) (zI M (a + 5)) (zI M (a + 6)) i (d + 1) b))) (by rw [e1]) ?_
              refine s_iinc (r := nI (i + 1 + (d + 1))) (zdk hX3_findExchange_1 36 rfl) (Nat.le_of_ble_eq_true rfl) rfl (nI_1 (i + 1 + d)) ?_
              refine s_ls (ls' := [some (.ref a), some (.ref s), some (.int (nI i)), some (.int (nI (i + 1 + (d + 1)))), some (.int (nI (gN g (58 + 51 * i + 1)))), some (.int (nI (gN g (58 + 51 * (i + 1 + d) + 1)))), some (.long ((zxG g (zJ M (a + 4)) i (i + 1 + d)))), none, some (.int ((gf g ((i + 1 + d)) 0) - (gf g i 0)))]) rfl ?_
              refine s_goto 19 (zdk hX3_findExchange_1 37 rfl) (by decide) ?_
              exact ih (d + 1) _ _ _ _ (by omega) (by omega)
            · refine s_iload (zdk hX3_findExchange_1 17 rfl) rfl ?_
              refine s_aload_n (zdk hX3_findExchange_1 18 rfl) rfl ?_
              refine s_getR (zdk hX3_findExchange_1 19 rfl) fw_X3_37 rfl (ha.1) (ha.2.2.2.2.2.1.2) ?_
              refine s_iload (zdk hX3_findExchange_1 20 rfl) rfl ?_
              refine s_ialoadN (N := 4) (j := (gN g (58 + 51 * i + 1))) (zdk hX3_findExchange_1 21 rfl) (ha.2.2.2.2.2.2.2.2.2.2.2.2.2.2.2.2.1) (ha.2.2.2.2.2.2.2.2.2.2.2.2.2.2.2.2.2) (by omega) (by decide) ?_
              refine s_topi (b := zI M (a + 6) (gN g (58 + 51 * i + 1))) (congrFun (zMB_In (show a + 6 ≠ a by omega)) (gN g (58 + 51 * i + 1))) ?_
              refine s_icmp_gt 165 (zdk hX3_findExchange_1 22 rfl) (by decide) (fun c139 => ?_) (fun c139 => ?_)
              · have e1 : (zxJ g (zJ M (a + 4)) (zI M (a + 5)) (zI M (a + 6)) i (d + 1) b) = (zxJ g (zJ M (a + 4)) (zI M (a + 5)) (zI M (a + 6)) i d b) := if_neg (fun q => absurd q.2.2.2.1 (Int32.not_le.mpr c139))
                refine s_mem (M' := (zMB M a (zxJ g (zJ M (a + 4)) (zI M (a + 5)) (zI M (a + 6)) i (d + 1) b))) (by rw [e1]) ?_
                refine s_iinc (r := nI (i + 1 + (d + 1))) (zdk hX3_findExchange_1 36 rfl) (Nat.le_of_ble_eq_true rfl) rfl (nI_1 (i + 1 + d)) ?_
                refine s_ls (ls' := [some (.ref a), some (.ref s), some (.int (nI i)), some (.int (nI (i + 1 + (d + 1)))), some (.int (nI (gN g (58 + 51 * i + 1)))), some (.int (nI (gN g (58 + 51 * (i + 1 + d) + 1)))), some (.long ((zxG g (zJ M (a + 4)) i (i + 1 + d)))), none, some (.int ((gf g ((i + 1 + d)) 0) - (gf g i 0)))]) rfl ?_
                refine s_goto 19 (zdk hX3_findExchange_1 37 rfl) (by decide) ?_
                exact ih (d + 1) _ _ _ _ (by omega) (by omega)
              · refine s_iload (zdk hX3_findExchange_1 23 rfl) rfl ?_
                refine s_ineg (zdk hX3_findExchange_1 24 rfl) ?_
                refine s_aload_n (zdk hX3_findExchange_1 25 rfl) rfl ?_
                refine s_getR (zdk hX3_findExchange_1 26 rfl) fw_X3_37 rfl (ha.1) (ha.2.2.2.2.2.1.2) ?_
                refine s_iload (zdk hX3_findExchange_1 27 rfl) rfl ?_
                refine s_ialoadN (N := 4) (j := (gN g (58 + 51 * (i + 1 + d) + 1))) (zdk hX3_findExchange_1 28 rfl) (ha.2.2.2.2.2.2.2.2.2.2.2.2.2.2.2.2.1) (ha.2.2.2.2.2.2.2.2.2.2.2.2.2.2.2.2.2) (by omega) (by decide) ?_
                refine s_topi (b := zI M (a + 6) (gN g (58 + 51 * (i + 1 + d) + 1))) (congrFun (zMB_In (show a + 6 ≠ a by omega)) (gN g (58 + 51 * (i + 1 + d) + 1))) ?_
                refine s_icmp_gt 165 (zdk hX3_findExchange_1 29 rfl) (by decide) (fun c152 => ?_) (fun c152 => ?_)
                · have e1 : (zxJ g (zJ M (a + 4)) (zI M (a + 5)) (zI M (a + 6)) i (d + 1) b) = (zxJ g (zJ M (a + 4)) (zI M (a + 5)) (zI M (a + 6)) i d b) := if_neg (fun q => absurd q.2.2.2.2 (Int32.not_le.mpr c152))
                  refine s_mem (M' := (zMB M a (zxJ g (zJ M (a + 4)) (zI M (a + 5)) (zI M (a + 6)) i (d + 1) b))) (by rw [e1]) ?_
                  refine s_iinc (r := nI (i + 1 + (d + 1))) (zdk hX3_findExchange_1 36 rfl) (Nat.le_of_ble_eq_true rfl) rfl (nI_1 (i + 1 + d)) ?_
                  refine s_ls (ls' := [some (.ref a), some (.ref s), some (.int (nI i)), some (.int (nI (i + 1 + (d + 1)))), some (.int (nI (gN g (58 + 51 * i + 1)))), some (.int (nI (gN g (58 + 51 * (i + 1 + d) + 1)))), some (.long ((zxG g (zJ M (a + 4)) i (i + 1 + d)))), none, some (.int ((gf g ((i + 1 + d)) 0) - (gf g i 0)))]) rfl ?_
                  refine s_goto 19 (zdk hX3_findExchange_1 37 rfl) (by decide) ?_
                  exact ih (d + 1) _ _ _ _ (by omega) (by omega)
                · have e1 : (zxJ g (zJ M (a + 4)) (zI M (a + 5)) (zI M (a + 6)) i (d + 1) b) = (nI i, nI (i + 1 + d), nI (gN g (58 + 51 * (i + 1 + d) + 1)), (zxG g (zJ M (a + 4)) i (i + 1 + d))) := if_pos ⟨c110, fun q => c117 (by rw [q]), fun q => absurd q (Int64.not_le.mpr (lcmp_gt c127)), Int32.not_lt.mp c139, Int32.not_lt.mp c152⟩
                  refine s_aload_n (zdk hX3_findExchange_1 30 rfl) rfl ?_
                  refine s_iload_n (zdk hX3_findExchange_1 31 rfl) rfl ?_
                  refine s_iload_n (zdk hX3_findExchange_1 32 rfl) rfl ?_
                  refine s_iload (zdk hX3_findExchange_1 33 rfl) rfl ?_
                  refine s_lload (zdk hX3_findExchange_1 34 rfl) rfl ?_
                  refine s_callV0 (ci := 3) [.int (nI i), .int (nI (i + 1 + d)), .int (nI (gN g (58 + 51 * (i + 1 + d) + 1))), .long ((zxG g (zJ M (a + 4)) i (i + 1 + d)))] (zdk hX3_findExchange_1 35 rfl) cw_X3_126 (ha.1) (by decide) rfl rfl rfl (Nat.le_of_ble_eq_true rfl) (by decide) (c_X3_setBest hl (show nSh (zMB M a _) a from ha) (nI i) (nI (i + 1 + d)) (nI (gN g (58 + 51 * (i + 1 + d) + 1))) _) ?_
                  refine s_mem (M' := (zMB M a (zxJ g (zJ M (a + 4)) (zI M (a + 5)) (zI M (a + 6)) i (d + 1) b))) (by rw [e1]; exact zMB_zMB _ _ _ _) ?_
                  refine s_iinc (r := nI (i + 1 + (d + 1))) (zdk hX3_findExchange_1 36 rfl) (Nat.le_of_ble_eq_true rfl) rfl (nI_1 (i + 1 + d)) ?_
                  refine s_ls (ls' := [some (.ref a), some (.ref s), some (.int (nI i)), some (.int (nI (i + 1 + (d + 1)))), some (.int (nI (gN g (58 + 51 * i + 1)))), some (.int (nI (gN g (58 + 51 * (i + 1 + d) + 1)))), some (.long ((zxG g (zJ M (a + 4)) i (i + 1 + d)))), none, some (.int ((gf g ((i + 1 + d)) 0) - (gf g i 0)))]) rfl ?_
                  refine s_goto 19 (zdk hX3_findExchange_1 37 rfl) (by decide) ?_
                  exact ih (d + 1) _ _ _ _ (by omega) (by omega)
theorem w_X3_findExchange_7 (hl : l.stackTraces = false) {M : zMem} {a s : Nat} {g : Nat → Int64} {p : Nat → Nat} (ha : nSh M a) (h : rSt M s g p) (hd : a + 7 ≤ s ∨ s + 77 ≤ a) : ∀ (k : Nat) (i : Nat) (x3 x4 x5 x6 x8 : Option Value), i ≤ gN g 3 → gN g 3 - i < k → zS l G mX3_findExchange 1 30 0 0 7 [some (.ref a), some (.ref s), some (.int (nI i)), x3, x4, x5, x6, none, x8] [] (zMB M a (zxF g (zJ M (a + 4)) (zI M (a + 5)) (zI M (a + 6)) i (zI M a 8, zI M a 9, zI M a 10, lN 0))) (zD (some (.int (if (zxF g (zJ M (a + 4)) (zI M (a + 5)) (zI M (a + 6)) (gN g 3) (zI M a 8, zI M a 9, zI M a 10, lN 0)).2.2.2 ≤ lN 0 then nI 0 else nI 1))) (zMB M a (zxF g (zJ M (a + 4)) (zI M (a + 5)) (zI M (a + 6)) (gN g 3) (zI M a 8, zI M a 9, zI M a 10, lN 0)))) := by
  have hF := h.b.2.2.1.2
  have hT := h.b.2.1.2
  have h2 : ∀ b, rSt (zMB M a b) s g p := fun b => h.keep (zag_MB.mono fun c hc => by omega)
  intro k
  induction k with
  | zero => intros; omega
  | succ k ih =>
    intro i x3 x4 x5 x6 x8 hi hk
    refine s_iload_n (zdk hX3_findExchange_0 5 rfl) rfl ?_
    refine s_aload_n (zdk hX3_findExchange_0 6 rfl) rfl ?_
    refine s_getI (zdk hX3_findExchange_0 7 rfl) fw_X3_52 rfl ((h2 _).K) ?_
    refine s_topi (b := nI (gN g 3)) ((h2 _).v4) ?_
    refine s_icmp_ge 177 (zdk hX3_findExchange_0 8 rfl) (by decide) (fun c12 => ?_) (fun c12 => ?_)
    · obtain rfl : i = gN g 3 := by have := nle c12 (by omega) (by omega); omega
      refine s_aload_n (zdk hX3_findExchange_1 40 rfl) rfl ?_
      refine s_getJ (zdk hX3_findExchange_1 41 rfl) fw_X3_49 rfl (ha.1) ?_
      refine s_topl (b := (zxF g (zJ M (a + 4)) (zI M (a + 5)) (zI M (a + 6)) (gN g 3) (zI M a 8, zI M a 9, zI M a 10, lN 0)).2.2.2) (zMB_J) ?_
      refine s_lconstv (v := lN 0) (zdk hX3_findExchange_1 42 rfl) rfl ?_
      refine s_lcmp (zdk hX3_findExchange_1 43 rfl) ?_
      refine s_if_le 190 (zdk hX3_findExchange_1 44 rfl) (by decide) (fun c183 => ?_) (fun c183 => ?_)
      · refine s_iconstv (v := nI 0) (zdk hX3_findExchange_1 47 rfl) zc_iconst_0 ?_
        refine s_ireturn (zdk hX3_findExchange_1 48 rfl) rfl rfl ?_
        first | exact ⟨by rw [if_pos (lcmp_le c183)], rfl⟩ | exact ⟨by rw [if_neg (Int64.not_le.mpr (lcmp_gt c183))], rfl⟩
      · refine s_iconstv (v := nI 1) (zdk hX3_findExchange_1 45 rfl) zc_iconst_1 ?_
        refine s_goto 191 (zdk hX3_findExchange_1 46 rfl) (by decide) ?_
        refine s_ireturn (zdk hX3_findExchange_1 48 rfl) rfl rfl ?_
        first | exact ⟨by rw [if_pos (lcmp_le c183)], rfl⟩ | exact ⟨by rw [if_neg (Int64.not_le.mpr (lcmp_gt c183))], rfl⟩
    · have hi2 : i < gN g 3 := nlt c12 (by omega) (by omega)
      by_cases hop : zI M (a + 5) i = 0
      · refine s_iload_n (zdk hX3_findExchange_0 9 rfl) rfl ?_
        refine s_iconstv (v := nI 1) (zdk hX3_findExchange_0 10 rfl) zc_iconst_1 ?_
        refine s_iadd (zdk hX3_findExchange_0 11 rfl) ?_
        refine s_topi (b := nI (i + 1)) (nI_1 i) ?_
        refine s_istore_n (zdk hX3_findExchange_0 12 rfl) (Nat.le_of_ble_eq_true rfl) ?_
        refine s_ls (ls' := [some (.ref a), some (.ref s), some (.int (nI i)), some (.int (nI (i + 1))), x4, x5, x6, none, x8]) rfl ?_
        refine s_aload_n (zdk hX3_findExchange_0 13 rfl) rfl ?_
        refine s_getR (zdk hX3_findExchange_0 14 rfl) fw_X3_33 rfl (ha.1) (ha.2.2.2.2.2.1.1) ?_
        refine s_iload_n (zdk hX3_findExchange_0 15 rfl) rfl ?_
        refine s_baloadN (N := 20) (j := i) (zdk hX3_findExchange_0 16 rfl) (ha.2.2.2.2.2.2.2.2.2.2.2.2.2.2.1) (ha.2.2.2.2.2.2.2.2.2.2.2.2.2.2.2.1) (by omega) (by decide) ?_
        refine s_topi (b := zI M (a + 5) i) (congrFun (zMB_In (show a + 5 ≠ a by omega)) i) ?_
        refine s_if_eq 171 (zdk hX3_findExchange_0 17 rfl) (by decide) (fun c25 => ?_) (fun c25 => ?_)
        · have e1 : (zxF g (zJ M (a + 4)) (zI M (a + 5)) (zI M (a + 6)) (i + 1) (zI M a 8, zI M a 9, zI M a 10, lN 0)) = (zxF g (zJ M (a + 4)) (zI M (a + 5)) (zI M (a + 6)) i (zI M a 8, zI M a 9, zI M a 10, lN 0)) := if_pos hop
          refine s_mem (M' := (zMB M a (zxF g (zJ M (a + 4)) (zI M (a + 5)) (zI M (a + 6)) (i + 1) (zI M a 8, zI M a 9, zI M a 10, lN 0)))) (by rw [e1]) ?_
          refine s_iinc (r := nI (i + 1)) (zdk hX3_findExchange_1 38 rfl) (Nat.le_of_ble_eq_true rfl) rfl (nI_1 i) ?_
          refine s_ls (ls' := [some (.ref a), some (.ref s), some (.int (nI (i + 1))), some (.int (nI (i + 1))), x4, x5, x6, none, x8]) rfl ?_
          refine s_goto 7 (zdk hX3_findExchange_1 39 rfl) (by decide) ?_
          exact ih (i + 1) _ _ _ _ _ (by omega) (by omega)
        · exact absurd hop c25
      · refine s_iload_n (zdk hX3_findExchange_0 9 rfl) rfl ?_
        refine s_iconstv (v := nI 1) (zdk hX3_findExchange_0 10 rfl) zc_iconst_1 ?_
        refine s_iadd (zdk hX3_findExchange_0 11 rfl) ?_
        refine s_topi (b := nI (i + 1)) (nI_1 i) ?_
        refine s_istore_n (zdk hX3_findExchange_0 12 rfl) (Nat.le_of_ble_eq_true rfl) ?_
        refine s_ls (ls' := [some (.ref a), some (.ref s), some (.int (nI i)), some (.int (nI (i + 1))), x4, x5, x6, none, x8]) rfl ?_
        refine w_X3_findExchange_19 hl ha h hd hi2 hop (zxF g (zJ M (a + 4)) (zI M (a + 5)) (zI M (a + 6)) i (zI M a 8, zI M a 9, zI M a 10, lN 0)) (fun y3 y4 y5 y6 y8 => ?_) (gN g 3 + 1) 0 _ _ _ _ (by omega) (by omega)
        have e1 : (zxF g (zJ M (a + 4)) (zI M (a + 5)) (zI M (a + 6)) (i + 1) (zI M a 8, zI M a 9, zI M a 10, lN 0)) = (zxJ g (zJ M (a + 4)) (zI M (a + 5)) (zI M (a + 6)) i (gN g 3 - (i + 1)) (zxF g (zJ M (a + 4)) (zI M (a + 5)) (zI M (a + 6)) i (zI M a 8, zI M a 9, zI M a 10, lN 0))) := if_neg hop
        refine s_mem (M' := (zMB M a (zxF g (zJ M (a + 4)) (zI M (a + 5)) (zI M (a + 6)) (i + 1) (zI M a 8, zI M a 9, zI M a 10, lN 0)))) (by rw [e1]) ?_
        refine s_iinc (r := nI (i + 1)) (zdk hX3_findExchange_1 38 rfl) (Nat.le_of_ble_eq_true rfl) rfl (nI_1 i) ?_
        refine s_ls (ls' := [some (.ref a), some (.ref s), some (.int (nI (i + 1))), y3, y4, y5, y6, none, y8]) rfl ?_
        refine s_goto 7 (zdk hX3_findExchange_1 39 rfl) (by decide) ?_
        exact ih (i + 1) _ _ _ _ _ (by omega) (by omega)
theorem c_X3_findExchange (hl : l.stackTraces = false) {M : zMem} {a s : Nat} {g : Nat → Int64} {p : Nat → Nat} (ha : nSh M a) (h : rSt M s g p) (hd : a + 7 ≤ s ∨ s + 77 ≤ a) : zCm l G mX3_findExchange 1 30 0 0 [.ref a, .ref s] M (zD (some (.int (if (zxF g (zJ M (a + 4)) (zI M (a + 5)) (zI M (a + 6)) (gN g 3) (zI M a 8, zI M a 9, zI M a 10, lN 0)).2.2.2 ≤ lN 0 then nI 0 else nI 1))) (zMB M a (zxF g (zJ M (a + 4)) (zI M (a + 5)) (zI M (a + 6)) (gN g 3) (zI M a 8, zI M a 9, zI M a 10, lN 0)))) := by
  refine zCd.of (ls0 := [some (.ref a), some (.ref s), none, none, none, none, none, none, none]) (by decide +kernel) rfl hl rfl (Nat.le_of_ble_eq_true rfl) rfl ?_
  refine s_aload_n (zdk hX3_findExchange_0 0 rfl) rfl ?_
  refine s_lconstv (v := lN 0) (zdk hX3_findExchange_0 1 rfl) rfl ?_
  refine s_putJ (zdk hX3_findExchange_0 2 rfl) fw_X3_49 rfl pw_3_11 (ha.1) ?_
  refine s_iconstv (v := nI 0) (zdk hX3_findExchange_0 3 rfl) zc_iconst_0 ?_
  refine s_istore_n (zdk hX3_findExchange_0 4 rfl) (Nat.le_of_ble_eq_true rfl) ?_
  refine s_ls (ls' := [some (.ref a), some (.ref s), some (.int (nI 0)), none, none, none, none, none, none]) rfl ?_
  refine s_mem (M' := (zMB M a (zI M a 8, zI M a 9, zI M a 10, lN 0))) (zMB_0 _ _ _) ?_
  exact w_X3_findExchange_7 hl ha h hd (gN g 3 + 1) 0 none none none none none (by omega) (by omega)
end
