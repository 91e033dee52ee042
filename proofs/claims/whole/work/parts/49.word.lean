/-! ===== the reader: a word ===== -/
theorem zew_le {u : Nat → Int32} {n : Nat} : ∀ k i, zew u n k i ≤ i + k
  | 0, i => Nat.le_refl i
  | k + 1, i => by
    unfold zew
    have := zew_le (u := u) (n := n) k (i + 1)
    split <;> omega
theorem zew_ge {u : Nat → Int32} {n : Nat} : ∀ k i, i ≤ zew u n k i
  | 0, i => Nat.le_refl i
  | k + 1, i => by
    unfold zew
    have := zew_ge (u := u) (n := n) k (i + 1)
    split <;> omega
/-- the letters of word w from x on, of f, at j -/
def zwd (u : Nat → Int32) (w j : Nat) : Nat → Nat → Int32
  | 0, _ => nI 1
  | f + 1, x => if u (j + x) = zch w x then zwd u w j f (x + 1) else nI 0
theorem zwd_y {u : Nat → Int32} {w j n x : Nat} (h : x < n) (e : u (j + x) = zch w x) : zwd u w j (n - x) x = zwd u w j (n - (x + 1)) (x + 1) := by
  conv => lhs; rw [show n - x = (n - (x + 1)) + 1 by omega]
  exact if_pos e
theorem zwd_n {u : Nat → Int32} {w j n x : Nat} (h : x < n) (e : ¬ u (j + x) = zch w x) : zwd u w j (n - x) x = nI 0 := by
  rw [show n - x = (n - (x + 1)) + 1 by omega]
  exact if_neg e
section
variable {l : Launch} {G : zG}
theorem w_X4_nextIsWord_25 (hl : l.stackTraces = false) {M : zMem} {a n : Nat} (ha : eSh M a) (hn : zI M a 0 = nI n) (hn6 : n ≤ 600) {w j : Nat} (hw : w < 6) (hj : j + (zLl.getD w 0) ≤ n) : ∀ (k : Nat) (i : Nat), i ≤ (zLl.getD w 0) → (zLl.getD w 0) - i < k → zS l G mX4_nextIsWord 4 120 0 0 25 [some (.ref a), some (.ref (1000000 + w)), some (.int (nI i))] [] (zsI M a 3 (nI j)) (zD (some (.int (zwd (zI M (a + 1)) w j ((zLl.getD w 0) - i) i))) (zsI M a 3 (nI j))) := by
  intro k
  induction k with
  | zero => intros; omega
  | succ k ih =>
    intro i hi hk
    have h6 := zLl_6 hw
    refine s_iload_n (zdk hX4_nextIsWord 15 rfl) rfl ?_
    refine s_aload_n (zdk hX4_nextIsWord 16 rfl) rfl ?_
    refine s_callVs (mc := 0) (ms := 0) (bc := 0) (bs := 0) (as := []) (zdk hX4_nextIsWord 17 rfl) cw_X4_151 hw rfl rfl (Nat.le_of_ble_eq_true rfl) (by decide) (c_slength hl _ hw) ?_
    intro v9 M9 q9
    obtain ⟨q8, rfl⟩ := q9
    cases q8
    refine s_icmp_ge 60 (zdk hX4_nextIsWord 18 rfl) (by decide) (fun c30 => ?_) (fun c30 => ?_)
    · obtain rfl : i = (zLl.getD w 0) := by have := nle c30 (by omega) (by omega); omega
      refine s_iconstv (v := nI 1) (zdk hX4_nextIsWord 34 rfl) zc_iconst_1 ?_
      refine s_ireturn (zdk hX4_nextIsWord 35 rfl) rfl rfl ?_
      exact ⟨by rw [Nat.sub_self]; rfl, rfl⟩
    · have hi2 : i < (zLl.getD w 0) := nlt c30 (by omega) (by omega)
      refine s_aload_n (zdk hX4_nextIsWord 19 rfl) rfl ?_
      refine s_getR (zdk hX4_nextIsWord 20 rfl) fw_X4_18 rfl (ha.1) (ha.2.1) ?_
      refine s_aload_n (zdk hX4_nextIsWord 21 rfl) rfl ?_
      refine s_getI (zdk hX4_nextIsWord 22 rfl) fw_X4_22 rfl (ha.1) ?_
      refine s_topi (b := nI j) ((congrFun zI_Ie 3).trans zw1_e) ?_
      refine s_iload_n (zdk hX4_nextIsWord 23 rfl) rfl ?_
      refine s_iadd (zdk hX4_nextIsWord 24 rfl) ?_
      refine s_topi (b := nI (j + i)) (nI_add _ _) ?_
      refine s_ialoadN (N := 600) (j := (j + i)) (zdk hX4_nextIsWord 25 rfl) (ha.2.2.1) (ha.2.2.2) (by omega) (by decide) ?_
      refine s_topi (b := zI M (a + 1) (j + i)) (congrFun (zI_In (show a + 1 ≠ a by omega)) _) ?_
      refine s_aload_n (zdk hX4_nextIsWord 26 rfl) rfl ?_
      refine s_iload_n (zdk hX4_nextIsWord 27 rfl) rfl ?_
      refine s_callVs (mc := 0) (ms := 0) (bc := 0) (bs := 0) (as := [.int (nI i)]) (zdk hX4_nextIsWord 28 rfl) cw_X4_155 hw rfl rfl (Nat.le_of_ble_eq_true rfl) (by decide) (c_schr hl _ hw hi2) ?_
      intro v9 M9 q9
      obtain ⟨q8, rfl⟩ := q9
      cases q8
      refine s_icmp_eq 54 (zdk hX4_nextIsWord 29 rfl) (by decide) (fun c49 => ?_) (fun c49 => ?_)
      · rw [zwd_y (u := (zI M (a + 1))) hi2 c49]
        refine s_iinc (r := nI (i + 1)) (zdk hX4_nextIsWord 32 rfl) (Nat.le_of_ble_eq_true rfl) rfl (nI_1 i) ?_
        refine s_ls (ls' := [some (.ref a), some (.ref (1000000 + w)), some (.int (nI (i + 1)))]) rfl ?_
        refine s_goto 25 (zdk hX4_nextIsWord 33 rfl) (by decide) ?_
        exact ih (i + 1) (by omega) (by omega)
      · rw [zwd_n (u := (zI M (a + 1))) hi2 c49]
        refine s_iconstv (v := nI 0) (zdk hX4_nextIsWord 30 rfl) zc_iconst_0 ?_
        refine s_ireturn (zdk hX4_nextIsWord 31 rfl) rfl rfl ?_
        exact ⟨rfl, rfl⟩
end
