theorem zc_bipush_60 : (Int8.ofInt 60).toInt32 = nI 60 := by decide
theorem zc_iconst_3 : Int32.ofInt 3 = nI 3 := by decide
theorem zc_iconst_4 : Int32.ofInt 4 = nI 4 := by decide
theorem zc_iconst_5 : Int32.ofInt 5 = nI 5 := by decide
/-! ===== TierRow, Moves ===== -/
def tSh (M : zMem) (a : Nat) : Prop := zK M a = 7 ∧ zR M a 1 = some (a + 1) ∧ zR M a 2 = some (a + 2) ∧ zK M (a + 1) = 11 ∧ zN M (a + 1) = 5 ∧ zK M (a + 2) = 12 ∧ zN M (a + 2) = 3
def vSh (M : zMem) (a : Nat) : Prop := zK M a = 3 ∧ zR M a 1 = some (a + 1) ∧ zK M (a + 1) = 11 ∧ zN M (a + 1) = 300
/-- a row of longs as a whole -/
def zsL (M : zMem) (a : Nat) (g : Nat → Int64) : zMem := (M.1, zur M.2.1 a g, M.2.2)
def zwL (g : Nat → Int64) (k : Nat) (v : Int64) : Nat → Int64 := fun j => if j = k then v else g j
theorem zsL_1 (M : zMem) (a k : Nat) (g : Nat → Int64) (v : Int64) : zsJ (zsL M a g) a k v = zsL M a (zwL g k v) := by
  unfold zsJ zsL
  congr 2
  funext b
  unfold zu zur zwL
  by_cases h : b = a
  · simp [h]
  · simp [h]
theorem zsL_id (M : zMem) (a : Nat) : zsL M a (zJ M a) = M := by
  unfold zsL
  have : zur M.2.1 a (zJ M a) = M.2.1 := by
    funext b
    unfold zur
    by_cases h : b = a
    · rw [if_pos h, h]; rfl
    · rw [if_neg h]
  rw [this]
theorem zsL_0 (M : zMem) (a k : Nat) (v : Int64) : zsJ M a k v = zsL M a (zwL (zJ M a) k v) := by
  rw [← zsL_1, zsL_id]
theorem zsL_g {M : zMem} {a : Nat} {g h : Nat → Int64} (e : g = h) : zsL M a g = zsL M a h := by rw [e]
theorem zsL_zsL (M : zMem) (a : Nat) (g h : Nat → Int64) : zsL (zsL M a g) a h = zsL M a h := by
  unfold zsL
  congr 2
  funext b
  unfold zur
  by_cases q : b = a
  · simp [q]
  · simp [q]
theorem zJ_Le {M : zMem} {a : Nat} {g : Nat → Int64} : zJ (zsL M a g) a = g := if_pos rfl
theorem zJ_Ln {M : zMem} {a b : Nat} {g : Nat → Int64} (h : b ≠ a) : zJ (zsL M a g) b = zJ M b := if_neg h
theorem zI_L {M : zMem} {a : Nat} {g : Nat → Int64} : zI (zsL M a g) = zI M := rfl
/-- the first n of f, then g's -/
def zcn {α : Type} (f g : Nat → α) (n : Nat) : Nat → α := fun j => if j < n then f j else g j
theorem zcn_0 {α : Type} (f g : Nat → α) : zcn f g 0 = g := by funext j; unfold zcn; rw [if_neg (by omega)]
theorem zcn_1 (f g : Nat → Int32) (n : Nat) : zw1 (zcn f g n) n (f n) = zcn f g (n + 1) := by
  funext j
  unfold zw1 zcn
  by_cases h : j = n
  · rw [if_pos h, if_pos (by omega), h]
  · rw [if_neg h]
    by_cases q : j < n
    · rw [if_pos q, if_pos (by omega)]
    · rw [if_neg q, if_neg (by omega)]
theorem zcn_L (f g : Nat → Int64) (n : Nat) : zwL (zcn f g n) n (f n) = zcn f g (n + 1) := by
  funext j
  unfold zwL zcn
  by_cases h : j = n
  · rw [if_pos h, if_pos (by omega), h]
  · rw [if_neg h]
    by_cases q : j < n
    · rw [if_pos q, if_pos (by omega)]
    · rw [if_neg q, if_neg (by omega)]
theorem nI_m1 (x : Int32) : x + Int32.ofInt (-1) = x - nI 1 := by rw [Int32.sub_eq_add_neg]; rfl
section
variable {l : Launch} {G : zG}
theorem w_X6_startAs_7 {M : zMem} {a : Nat} (ha : tSh M a) (nm : Int64) : ∀ (k : Nat) (i : Nat), i ≤ 3 → 3 - i < k → zS l G mX6_startAs 0 0 0 0 7 [some (.ref a), some (.long (nm)), none, some (.int (nI i))] [] (zsL (zsJ M a 0 nm) (a + 2) (zcn (fun _ => lN 0) (zJ M (a + 2)) i)) (zD none (zsL (zsJ M a 0 nm) (a + 2) (zcn (fun _ => lN 0) (zJ M (a + 2)) 3))) := by
  intro k
  induction k with
  | zero => intros; omega
  | succ k ih =>
    intro i hi hk
    refine s_iload_n (zdk hX6_startAs 5 rfl) rfl ?_
    refine s_iconstv (v := nI 3) (zdk hX6_startAs 6 rfl) zc_iconst_3 ?_
    refine s_icmp_ge 25 (zdk hX6_startAs 7 rfl) (by decide) (fun c9 => ?_) (fun c9 => ?_)
    · obtain rfl : i = 3 := by have := nle c9 (by omega) (by omega); omega
      refine s_return (zdk hX6_startAs 15 rfl) rfl ?_
      exact ⟨rfl, rfl⟩
    · have hi2 : i < 3 := nlt c9 (by omega) (by omega)
      refine s_aload_n (zdk hX6_startAs 8 rfl) rfl ?_
      refine s_getR (zdk hX6_startAs 9 rfl) fw_X6_19 rfl (ha.1) (ha.2.2.1) ?_
      refine s_iload_n (zdk hX6_startAs 10 rfl) rfl ?_
      refine s_lconstv (v := lN 0) (zdk hX6_startAs 11 rfl) rfl ?_
      refine s_lastoreN (N := 3) (j := i) (zdk hX6_startAs 12 rfl) (ha.2.2.2.2.2.1) (ha.2.2.2.2.2.2) (hi2) (by decide) ?_
      refine s_mem (M' := (zsL (zsJ M a 0 nm) (a + 2) (zcn (fun _ => lN 0) (zJ M (a + 2)) (i + 1)))) ((zsL_1 _ _ _ _ _).trans (zsL_g (zcn_L _ _ _))) ?_
      refine s_iinc (r := nI (i + 1)) (zdk hX6_startAs 13 rfl) (Nat.le_of_ble_eq_true rfl) rfl (nI_1 i) ?_
      refine s_ls (ls' := [some (.ref a), some (.long (nm)), none, some (.int (nI (i + 1)))]) rfl ?_
      refine s_goto 7 (zdk hX6_startAs 14 rfl) (by decide) ?_
      exact ih (i + 1) (by omega) (by omega)
theorem c_X6_startAs (hl : l.stackTraces = false) {M : zMem} {a : Nat} (ha : tSh M a) (nm : Int64) : zCm l G mX6_startAs 0 0 0 0 [.ref a, .long nm] M (zD none (zsL (zsJ M a 0 nm) (a + 2) (zcn (fun _ => lN 0) (zJ M (a + 2)) 3))) := by
  refine zCd.of (ls0 := [some (.ref a), some (.long (nm)), none, none]) (by decide +kernel) rfl hl rfl (Nat.le_of_ble_eq_true rfl) rfl ?_
  refine s_aload_n (zdk hX6_startAs 0 rfl) rfl ?_
  refine s_lload_n (zdk hX6_startAs 1 rfl) rfl ?_
  refine s_putJ (zdk hX6_startAs 2 rfl) fw_X6_9 rfl pw_6_0 (ha.1) ?_
  refine s_iconstv (v := nI 0) (zdk hX6_startAs 3 rfl) zc_iconst_0 ?_
  refine s_istore_n (zdk hX6_startAs 4 rfl) (Nat.le_of_ble_eq_true rfl) ?_
  refine s_ls (ls' := [some (.ref a), some (.long (nm)), none, some (.int (nI 0))]) rfl ?_
  have h := w_X6_startAs_7 (l := l) (G := G) ha nm 4 0 (by omega) (by omega)
  rw [zcn_0] at h
  rw [show zsL (zsJ M a 0 nm) (a + 2) (zJ M (a + 2)) = zsJ M a 0 nm from (zsL_g (zJ_Jn (by omega)).symm).trans (zsL_id _ _)] at h
  exact h
def zM_tcopy (M : zMem) (a b : Nat) : zMem := (zsL (zsA (zsJ M a 0 (zJ M b 0)) (a + 1) (zcn (zI M (b + 1)) (zI M (a + 1)) 5)) (a + 2) (zcn (zJ M (b + 2)) (zJ M (a + 2)) 3))
theorem w_X6_copyFrom_35 {M : zMem} {a b : Nat} (ha : tSh M a) (hb : tSh M b) (hab : b ≠ a) (h1 : b + 3 ≤ a ∨ a + 3 ≤ b) : ∀ (k : Nat) (i : Nat), i ≤ 3 → 3 - i < k → zS l G mX6_copyFrom 0 0 0 0 35 [some (.ref a), some (.ref b), some (.int (nI i))] [] (zsL (zsA (zsJ M a 0 (zJ M b 0)) (a + 1) (zcn (zI M (b + 1)) (zI M (a + 1)) 5)) (a + 2) (zcn (zJ M (b + 2)) (zJ M (a + 2)) i)) (zD none (zM_tcopy M a b)) := by
  intro k
  induction k with
  | zero => intros; omega
  | succ k ih =>
    intro i hi hk
    refine s_iload_n (zdk hX6_copyFrom 21 rfl) rfl ?_
    refine s_iconstv (v := nI 3) (zdk hX6_copyFrom 22 rfl) zc_iconst_3 ?_
    refine s_icmp_ge 58 (zdk hX6_copyFrom 23 rfl) (by decide) (fun c37 => ?_) (fun c37 => ?_)
    · obtain rfl : i = 3 := by have := nle c37 (by omega) (by omega); omega
      refine s_return (zdk hX6_copyFrom 34 rfl) rfl ?_
      exact ⟨rfl, rfl⟩
    · have hi2 : i < 3 := nlt c37 (by omega) (by omega)
      refine s_aload_n (zdk hX6_copyFrom 24 rfl) rfl ?_
      refine s_getR (zdk hX6_copyFrom 25 rfl) fw_X6_19 rfl (ha.1) (ha.2.2.1) ?_
      refine s_iload_n (zdk hX6_copyFrom 26 rfl) rfl ?_
      refine s_aload_n (zdk hX6_copyFrom 27 rfl) rfl ?_
      refine s_getR (zdk hX6_copyFrom 28 rfl) fw_X6_19 rfl (hb.1) (hb.2.2.1) ?_
      refine s_iload_n (zdk hX6_copyFrom 29 rfl) rfl ?_
      refine s_laloadN (N := 3) (j := i) (zdk hX6_copyFrom 30 rfl) (hb.2.2.2.2.2.1) (hb.2.2.2.2.2.2) (hi2) (by decide) ?_
      refine s_topl (b := zJ M (b + 2) i) ((congrFun (zJ_Ln (show b + 2 ≠ a + 2 by omega)) i).trans (congrFun (zJ_Jn (show b + 2 ≠ a by omega)) i)) ?_
      refine s_lastoreN (N := 3) (j := i) (zdk hX6_copyFrom 31 rfl) (ha.2.2.2.2.2.1) (ha.2.2.2.2.2.2) (hi2) (by decide) ?_
      refine s_mem (M' := (zsL (zsA (zsJ M a 0 (zJ M b 0)) (a + 1) (zcn (zI M (b + 1)) (zI M (a + 1)) 5)) (a + 2) (zcn (zJ M (b + 2)) (zJ M (a + 2)) (i + 1)))) ((zsL_1 _ _ _ _ _).trans (zsL_g (zcn_L _ _ _))) ?_
      refine s_iinc (r := nI (i + 1)) (zdk hX6_copyFrom 32 rfl) (Nat.le_of_ble_eq_true rfl) rfl (nI_1 i) ?_
      refine s_ls (ls' := [some (.ref a), some (.ref b), some (.int (nI (i + 1)))]) rfl ?_
      refine s_goto 35 (zdk hX6_copyFrom 33 rfl) (by decide) ?_
      exact ih (i + 1) (by omega) (by omega)
theorem w_X6_copyFrom_10 {M : zMem} {a b : Nat} (ha : tSh M a) (hb : tSh M b) (hab : b ≠ a) (h1 : b + 3 ≤ a ∨ a + 3 ≤ b) : ∀ (k : Nat) (i : Nat), i ≤ 5 → 5 - i < k → zS l G mX6_copyFrom 0 0 0 0 10 [some (.ref a), some (.ref b), some (.int (nI i))] [] (zsA (zsJ M a 0 (zJ M b 0)) (a + 1) (zcn (zI M (b + 1)) (zI M (a + 1)) i)) (zD none (zM_tcopy M a b)) := by
  intro k
  induction k with
  | zero => intros; omega
  | succ k ih =>
    intro i hi hk
    refine s_iload_n (zdk hX6_copyFrom 6 rfl) rfl ?_
    refine s_iconstv (v := nI 5) (zdk hX6_copyFrom 7 rfl) zc_iconst_5 ?_
    refine s_icmp_ge 33 (zdk hX6_copyFrom 8 rfl) (by decide) (fun c12 => ?_) (fun c12 => ?_)
    · obtain rfl : i = 5 := by have := nle c12 (by omega) (by omega); omega
      refine s_iconstv (v := nI 0) (zdk hX6_copyFrom 19 rfl) zc_iconst_0 ?_
      refine s_istore_n (zdk hX6_copyFrom 20 rfl) (Nat.le_of_ble_eq_true rfl) ?_
      refine s_ls (ls' := [some (.ref a), some (.ref b), some (.int (nI 0))]) rfl ?_
      have h := w_X6_copyFrom_35 (l := l) (G := G) ha hb hab h1 4 0 (by omega) (by omega)
      rw [zcn_0 (zJ M (b + 2))] at h
      rw [show zJ M (a + 2) = zJ (zsA (zsJ M a 0 (zJ M b 0)) (a + 1) (zcn (zI M (b + 1)) (zI M (a + 1)) 5)) (a + 2) from (zJ_Jn (show a + 2 ≠ a by omega)).symm, zsL_id] at h
      exact h
    · have hi2 : i < 5 := nlt c12 (by omega) (by omega)
      refine s_aload_n (zdk hX6_copyFrom 9 rfl) rfl ?_
      refine s_getR (zdk hX6_copyFrom 10 rfl) fw_X6_15 rfl (ha.1) (ha.2.1) ?_
      refine s_iload_n (zdk hX6_copyFrom 11 rfl) rfl ?_
      refine s_aload_n (zdk hX6_copyFrom 12 rfl) rfl ?_
      refine s_getR (zdk hX6_copyFrom 13 rfl) fw_X6_15 rfl (hb.1) (hb.2.1) ?_
      refine s_iload_n (zdk hX6_copyFrom 14 rfl) rfl ?_
      refine s_ialoadN (N := 5) (j := i) (zdk hX6_copyFrom 15 rfl) (hb.2.2.2.1) (hb.2.2.2.2.1) (hi2) (by decide) ?_
      refine s_topi (b := zI M (b + 1) i) ((congrFun (zI_An _ _ (show b + 1 ≠ a + 1 by omega)) i)) ?_
      refine s_iastoreN (N := 5) (j := i) (zdk hX6_copyFrom 16 rfl) (ha.2.2.2.1) (ha.2.2.2.2.1) (hi2) (by decide) ?_
      refine s_mem (M' := (zsA (zsJ M a 0 (zJ M b 0)) (a + 1) (zcn (zI M (b + 1)) (zI M (a + 1)) (i + 1)))) ((zsA_1 _ _ _ _ _).trans (zsA_g (zcn_1 _ _ _))) ?_
      refine s_iinc (r := nI (i + 1)) (zdk hX6_copyFrom 17 rfl) (Nat.le_of_ble_eq_true rfl) rfl (nI_1 i) ?_
      refine s_ls (ls' := [some (.ref a), some (.ref b), some (.int (nI (i + 1)))]) rfl ?_
      refine s_goto 10 (zdk hX6_copyFrom 18 rfl) (by decide) ?_
      exact ih (i + 1) (by omega) (by omega)
theorem c_X6_copyFrom (hl : l.stackTraces = false) {M : zMem} {a b : Nat} (ha : tSh M a) (hb : tSh M b) (hab : b ≠ a) (h1 : b + 3 ≤ a ∨ a + 3 ≤ b) : zCm l G mX6_copyFrom 0 0 0 0 [.ref a, .ref b] M (zD none (zM_tcopy M a b)) := by
  refine zCd.of (ls0 := [some (.ref a), some (.ref b), none]) (by decide +kernel) rfl hl rfl (Nat.le_of_ble_eq_true rfl) rfl ?_
  refine s_aload_n (zdk hX6_copyFrom 0 rfl) rfl ?_
  refine s_aload_n (zdk hX6_copyFrom 1 rfl) rfl ?_
  refine s_getJ (zdk hX6_copyFrom 2 rfl) fw_X6_9 rfl (hb.1) ?_
  refine s_putJ (zdk hX6_copyFrom 3 rfl) fw_X6_9 rfl pw_6_0 (ha.1) ?_
  refine s_iconstv (v := nI 0) (zdk hX6_copyFrom 4 rfl) zc_iconst_0 ?_
  refine s_istore_n (zdk hX6_copyFrom 5 rfl) (Nat.le_of_ble_eq_true rfl) ?_
  refine s_ls (ls' := [some (.ref a), some (.ref b), some (.int (nI 0))]) rfl ?_
  have h := w_X6_copyFrom_10 (l := l) (G := G) ha hb hab h1 6 0 (by omega) (by omega)
  rw [zcn_0] at h
  rw [show zI M (a + 1) = zI (zsJ M a 0 (zJ M b 0)) (a + 1) from rfl, zsA_id] at h
  exact h
def zpd (g : Nat → Int64) (k : Nat) : Int64 := if k = 3 then g 0 + g 1 + g 2 else g k
theorem c_X6_paidFor (hl : l.stackTraces = false) {M : zMem} {a : Nat} (ha : tSh M a) {k : Nat} (hk : k ≤ 3) : zCm l G mX6_paidFor 0 0 0 0 [.ref a, .int (nI k)] M (zD (some (.long (zpd (zJ M (a + 2)) k))) M) := by
  refine zCd.of (ls0 := [some (.ref a), some (.int (nI k))]) (by decide +kernel) rfl hl rfl (Nat.le_of_ble_eq_true rfl) rfl ?_
  refine s_iload_n (zdk hX6_paidFor 0 rfl) rfl ?_
  refine s_iconstv (v := nI 3) (zdk hX6_paidFor 1 rfl) zc_iconst_3 ?_
  refine s_icmp_ne 28 (zdk hX6_paidFor 2 rfl) (by decide) (fun c2 => ?_) (fun c2 => ?_)
  · have hk3 : k ≠ 3 := nne c2
    refine s_aload_n (zdk hX6_paidFor 18 rfl) rfl ?_
    refine s_getR (zdk hX6_paidFor 19 rfl) fw_X6_19 rfl (ha.1) (ha.2.2.1) ?_
    refine s_iload_n (zdk hX6_paidFor 20 rfl) rfl ?_
    refine s_laloadN (N := 3) (j := k) (zdk hX6_paidFor 21 rfl) (ha.2.2.2.2.2.1) (ha.2.2.2.2.2.2) (by omega) (by decide) ?_
    refine s_lreturn (zdk hX6_paidFor 22 rfl) rfl  ?_
    first | exact ⟨by rw [zpd, if_neg hk3], rfl⟩ | exact ⟨rfl, rfl⟩
  · obtain rfl : k = 3 := neq c2 (by omega) (by omega)
    refine s_aload_n (zdk hX6_paidFor 3 rfl) rfl ?_
    refine s_getR (zdk hX6_paidFor 4 rfl) fw_X6_19 rfl (ha.1) (ha.2.2.1) ?_
    refine s_iconstv (v := nI 0) (zdk hX6_paidFor 5 rfl) zc_iconst_0 ?_
    refine s_laloadN (N := 3) (j := 0) (zdk hX6_paidFor 6 rfl) (ha.2.2.2.2.2.1) (ha.2.2.2.2.2.2) (by omega) (by decide) ?_
    refine s_aload_n (zdk hX6_paidFor 7 rfl) rfl ?_
    refine s_getR (zdk hX6_paidFor 8 rfl) fw_X6_19 rfl (ha.1) (ha.2.2.1) ?_
    refine s_iconstv (v := nI 1) (zdk hX6_paidFor 9 rfl) zc_iconst_1 ?_
    refine s_laloadN (N := 3) (j := 1) (zdk hX6_paidFor 10 rfl) (ha.2.2.2.2.2.1) (ha.2.2.2.2.2.2) (by omega) (by decide) ?_
    refine s_ladd (zdk hX6_paidFor 11 rfl) ?_
    refine s_aload_n (zdk hX6_paidFor 12 rfl) rfl ?_
    refine s_getR (zdk hX6_paidFor 13 rfl) fw_X6_19 rfl (ha.1) (ha.2.2.1) ?_
    refine s_iconstv (v := nI 2) (zdk hX6_paidFor 14 rfl) zc_iconst_2 ?_
    refine s_laloadN (N := 3) (j := 2) (zdk hX6_paidFor 15 rfl) (ha.2.2.2.2.2.1) (ha.2.2.2.2.2.2) (by omega) (by decide) ?_
    refine s_ladd (zdk hX6_paidFor 16 rfl) ?_
    refine s_goto 34 (zdk hX6_paidFor 17 rfl) (by decide) ?_
    refine s_lreturn (zdk hX6_paidFor 22 rfl) rfl  ?_
    first | exact ⟨by rw [zpd, if_neg hk3], rfl⟩ | exact ⟨rfl, rfl⟩
theorem c_X2_latest (hl : l.stackTraces = false) {M : zMem} {a : Nat} (ha : vSh M a) {n k : Nat} (hn : zI M a 0 = nI n) (h0 : 0 < n) (hn2 : n ≤ 60) (hk : k < 5) : zCm l G mX2_latest 0 0 0 0 [.ref a, .int (nI k)] M (zD (some (.int (zI M (a + 1) ((n - 1) * 5 + k)))) M) := by
  refine zCd.of (ls0 := [some (.ref a), some (.int (nI k))]) (by decide +kernel) rfl hl rfl (Nat.le_of_ble_eq_true rfl) rfl ?_
  refine s_aload_n (zdk hX2_latest 0 rfl) rfl ?_
  refine s_getR (zdk hX2_latest 1 rfl) fw_X2_15 rfl (ha.1) (ha.2.1) ?_
  refine s_aload_n (zdk hX2_latest 2 rfl) rfl ?_
  refine s_getI (zdk hX2_latest 3 rfl) fw_X2_9 rfl (ha.1) ?_
  refine s_topi (b := nI n) (hn) ?_
  refine s_iconstv (v := nI 1) (zdk hX2_latest 4 rfl) zc_iconst_1 ?_
  refine s_isub (zdk hX2_latest 5 rfl) ?_
  refine s_topi (b := nI (n - 1)) (pk_sub (by omega)) ?_
  refine s_iconstv (v := nI 5) (zdk hX2_latest 6 rfl) zc_iconst_5 ?_
  refine s_imul (zdk hX2_latest 7 rfl) ?_
  refine s_topi (b := nI ((n - 1) * 5)) (pk_mul _ _) ?_
  refine s_iload_n (zdk hX2_latest 8 rfl) rfl ?_
  refine s_iadd (zdk hX2_latest 9 rfl) ?_
  refine s_topi (b := nI ((n - 1) * 5 + k)) (nI_add _ _) ?_
  refine s_ialoadN (N := 300) (j := ((n - 1) * 5 + k)) (zdk hX2_latest 10 rfl) (ha.2.2.1) (ha.2.2.2) (by omega) (by decide) ?_
  refine s_ireturn (zdk hX2_latest 11 rfl) rfl rfl ?_
  exact ⟨rfl, rfl⟩
def zM_rm (M : zMem) (a n r : Nat) : zMem := zsI (zsA M (a + 1) (va_cpy (zI M (a + 1)) (zI M (a + 1)) (r * 5 + 5) (r * 5) ((n - r - 1) * 5))) a 0 (nI (n - 1))
theorem c_X2_removeRow (hl : l.stackTraces = false) {M : zMem} {a : Nat} (ha : vSh M a) {n r : Nat} (hn : zI M a 0 = nI n) (hr : r < n) (hn2 : n ≤ 60) : zCm l G mX2_removeRow 1 18 0 0 [.ref a, .int (nI r)] M (zD none (zM_rm M a n r)) := by
  refine zCd.of (ls0 := [some (.ref a), some (.int (nI r)), none]) (by decide +kernel) rfl hl rfl (Nat.le_of_ble_eq_true rfl) rfl ?_
  refine s_iload_n (zdk hX2_removeRow 0 rfl) rfl ?_
  refine s_iconstv (v := nI 5) (zdk hX2_removeRow 1 rfl) zc_iconst_5 ?_
  refine s_imul (zdk hX2_removeRow 2 rfl) ?_
  refine s_topi (b := nI (r * 5)) (pk_mul _ _) ?_
  refine s_istore_n (zdk hX2_removeRow 3 rfl) (Nat.le_of_ble_eq_true rfl) ?_
  refine s_ls (ls' := [some (.ref a), some (.int (nI r)), some (.int (nI (r * 5)))]) rfl ?_
  refine s_aload_n (zdk hX2_removeRow 4 rfl) rfl ?_
  refine s_getR (zdk hX2_removeRow 5 rfl) fw_X2_15 rfl (ha.1) (ha.2.1) ?_
  refine s_iload_n (zdk hX2_removeRow 6 rfl) rfl ?_
  refine s_iconstv (v := nI 5) (zdk hX2_removeRow 7 rfl) zc_iconst_5 ?_
  refine s_iadd (zdk hX2_removeRow 8 rfl) ?_
  refine s_topi (b := nI (r * 5 + 5)) (nI_add _ _) ?_
  refine s_aload_n (zdk hX2_removeRow 9 rfl) rfl ?_
  refine s_getR (zdk hX2_removeRow 10 rfl) fw_X2_15 rfl (ha.1) (ha.2.1) ?_
  refine s_iload_n (zdk hX2_removeRow 11 rfl) rfl ?_
  refine s_aload_n (zdk hX2_removeRow 12 rfl) rfl ?_
  refine s_getI (zdk hX2_removeRow 13 rfl) fw_X2_9 rfl (ha.1) ?_
  refine s_topi (b := nI n) (hn) ?_
  refine s_iload_n (zdk hX2_removeRow 14 rfl) rfl ?_
  refine s_isub (zdk hX2_removeRow 15 rfl) ?_
  refine s_topi (b := nI (n - r)) (pk_sub (by omega)) ?_
  refine s_iconstv (v := nI 1) (zdk hX2_removeRow 16 rfl) zc_iconst_1 ?_
  refine s_isub (zdk hX2_removeRow 17 rfl) ?_
  refine s_topi (b := nI (n - r - 1)) (pk_sub (by omega)) ?_
  refine s_iconstv (v := nI 5) (zdk hX2_removeRow 18 rfl) zc_iconst_5 ?_
  refine s_imul (zdk hX2_removeRow 19 rfl) ?_
  refine s_topi (b := nI ((n - r - 1) * 5)) (pk_mul _ _) ?_
  refine s_copyN (sp := r * 5 + 5) (dp := r * 5) (n := (n - r - 1) * 5) (zdk hX2_removeRow 20 rfl) yw_X2_19 yw_nat yw_sta yw_ini (ha.2.2.1) (ha.2.2.1) (by omega) (by omega) (by omega) (Nat.le_trans (show r * 5 + 5 + (n - r - 1) * 5 ≤ 300 by omega) (Nat.le_of_eq (Eq.symm (ha.2.2.2)))) (Nat.le_trans (show r * 5 + (n - r - 1) * 5 ≤ 300 by omega) (Nat.le_of_eq (Eq.symm (ha.2.2.2)))) (Nat.le_of_ble_eq_true rfl) (Nat.le_of_ble_eq_true rfl) ?_
  refine s_aload_n (zdk hX2_removeRow 21 rfl) rfl ?_
  refine s_dupr (zdk hX2_removeRow 22 rfl) ?_
  refine s_getI (zdk hX2_removeRow 23 rfl) fw_X2_9 rfl (ha.1) ?_
  refine s_topi (b := nI n) ((congrFun (zI_An M _ (show a ≠ a + 1 by omega)) 0).trans hn) ?_
  refine s_iconstv (v := nI 1) (zdk hX2_removeRow 24 rfl) zc_iconst_1 ?_
  refine s_isub (zdk hX2_removeRow 25 rfl) ?_
  refine s_topi (b := nI (n - 1)) (pk_sub (by omega)) ?_
  refine s_putI (zdk hX2_removeRow 26 rfl) fw_X2_9 rfl pw_2_0 (ha.1) ?_
  refine s_return (zdk hX2_removeRow 27 rfl) rfl ?_
  exact ⟨rfl, rfl⟩
def zM_put (M : zMem) (a n : Nat) (f fr to oc ic : Int32) : zMem := zsI (zsI (zsI (zsI (zsI (zsI M (a + 1) (n * 5 + 0) f) (a + 1) (n * 5 + 1) fr) (a + 1) (n * 5 + 2) to) (a + 1) (n * 5 + 3) oc) (a + 1) (n * 5 + 4) ic) a 0 (nI (n + 1))
theorem w_X2_put_14 {M : zMem} {a : Nat} (ha : vSh M a) {n : Nat} (hn : zI M a 0 = nI n) (hn2 : n < 60)  (f fr to oc ic : Int32) : zS l G mX2_put 2 40 0 0 14 [some (.ref a), some (.int (f)), some (.int (fr)), some (.int (to)), some (.int (oc)), some (.int (ic)), none] [] M (zD none (zM_put M a n f fr to oc ic)) := by
  refine s_aload_n (zdk hX2_put 7 rfl) rfl ?_
  refine s_getI (zdk hX2_put 8 rfl) fw_X2_9 rfl (ha.1) ?_
  refine s_topi (b := nI n) (hn) ?_
  refine s_iconstv (v := nI 5) (zdk hX2_put 9 rfl) zc_iconst_5 ?_
  refine s_imul (zdk hX2_put 10 rfl) ?_
  refine s_topi (b := nI (n * 5)) (pk_mul _ _) ?_
  refine s_istore (zdk hX2_put 11 rfl) (Nat.le_of_ble_eq_true rfl) ?_
  refine s_ls (ls' := [some (.ref a), some (.int (f)), some (.int (fr)), some (.int (to)), some (.int (oc)), some (.int (ic)), some (.int (nI (n * 5)))]) rfl ?_
  refine s_aload_n (zdk hX2_put 12 rfl) rfl ?_
  refine s_getR (zdk hX2_put 13 rfl) fw_X2_15 rfl (ha.1) (ha.2.1) ?_
  refine s_iload (zdk hX2_put 14 rfl) rfl ?_
  refine s_iconstv (v := nI 0) (zdk hX2_put 15 rfl) zc_iconst_0 ?_
  refine s_iadd (zdk hX2_put 16 rfl) ?_
  refine s_topi (b := nI (n * 5 + 0)) (nI_add _ _) ?_
  refine s_iload_n (zdk hX2_put 17 rfl) rfl ?_
  refine s_iastoreN (N := 300) (j := (n * 5 + 0)) (zdk hX2_put 18 rfl) (ha.2.2.1) (ha.2.2.2) (by omega) (by decide) ?_
  refine s_aload_n (zdk hX2_put 19 rfl) rfl ?_
  refine s_getR (zdk hX2_put 20 rfl) fw_X2_15 rfl (ha.1) (ha.2.1) ?_
  refine s_iload (zdk hX2_put 21 rfl) rfl ?_
  refine s_iconstv (v := nI 1) (zdk hX2_put 22 rfl) zc_iconst_1 ?_
  refine s_iadd (zdk hX2_put 23 rfl) ?_
  refine s_topi (b := nI (n * 5 + 1)) (nI_add _ _) ?_
  refine s_iload_n (zdk hX2_put 24 rfl) rfl ?_
  refine s_iastoreN (N := 300) (j := (n * 5 + 1)) (zdk hX2_put 25 rfl) (ha.2.2.1) (ha.2.2.2) (by omega) (by decide) ?_
  refine s_aload_n (zdk hX2_put 26 rfl) rfl ?_
  refine s_getR (zdk hX2_put 27 rfl) fw_X2_15 rfl (ha.1) (ha.2.1) ?_
  refine s_iload (zdk hX2_put 28 rfl) rfl ?_
  refine s_iconstv (v := nI 2) (zdk hX2_put 29 rfl) zc_iconst_2 ?_
  refine s_iadd (zdk hX2_put 30 rfl) ?_
  refine s_topi (b := nI (n * 5 + 2)) (nI_add _ _) ?_
  refine s_iload_n (zdk hX2_put 31 rfl) rfl ?_
  refine s_iastoreN (N := 300) (j := (n * 5 + 2)) (zdk hX2_put 32 rfl) (ha.2.2.1) (ha.2.2.2) (by omega) (by decide) ?_
  refine s_aload_n (zdk hX2_put 33 rfl) rfl ?_
  refine s_getR (zdk hX2_put 34 rfl) fw_X2_15 rfl (ha.1) (ha.2.1) ?_
  refine s_iload (zdk hX2_put 35 rfl) rfl ?_
  refine s_iconstv (v := nI 3) (zdk hX2_put 36 rfl) zc_iconst_3 ?_
  refine s_iadd (zdk hX2_put 37 rfl) ?_
  refine s_topi (b := nI (n * 5 + 3)) (nI_add _ _) ?_
  refine s_iload (zdk hX2_put 38 rfl) rfl ?_
  refine s_iastoreN (N := 300) (j := (n * 5 + 3)) (zdk hX2_put 39 rfl) (ha.2.2.1) (ha.2.2.2) (by omega) (by decide) ?_
  refine s_aload_n (zdk hX2_put 40 rfl) rfl ?_
  refine s_getR (zdk hX2_put 41 rfl) fw_X2_15 rfl (ha.1) (ha.2.1) ?_
  refine s_iload (zdk hX2_put 42 rfl) rfl ?_
  refine s_iconstv (v := nI 4) (zdk hX2_put 43 rfl) zc_iconst_4 ?_
  refine s_iadd (zdk hX2_put 44 rfl) ?_
  refine s_topi (b := nI (n * 5 + 4)) (nI_add _ _) ?_
  refine s_iload (zdk hX2_put 45 rfl) rfl ?_
  refine s_iastoreN (N := 300) (j := (n * 5 + 4)) (zdk hX2_put 46 rfl) (ha.2.2.1) (ha.2.2.2) (by omega) (by decide) ?_
  refine s_aload_n (zdk hX2_put 47 rfl) rfl ?_
  refine s_dupr (zdk hX2_put 48 rfl) ?_
  refine s_getI (zdk hX2_put 49 rfl) fw_X2_9 rfl (ha.1) ?_
  refine s_topi (b := nI n) ((by rw [zI_In (show a ≠ a + 1 by omega), zI_In (show a ≠ a + 1 by omega), zI_In (show a ≠ a + 1 by omega), zI_In (show a ≠ a + 1 by omega), zI_In (show a ≠ a + 1 by omega)]; exact hn)) ?_
  refine s_iconstv (v := nI 1) (zdk hX2_put 50 rfl) zc_iconst_1 ?_
  refine s_iadd (zdk hX2_put 51 rfl) ?_
  refine s_topi (b := nI (n + 1)) (nI_1 n) ?_
  refine s_putI (zdk hX2_put 52 rfl) fw_X2_9 rfl pw_2_0 (ha.1) ?_
  refine s_return (zdk hX2_put 53 rfl) rfl ?_
  exact ⟨rfl, rfl⟩
theorem c_X2_put (hl : l.stackTraces = false) {M : zMem} {a : Nat} (ha : vSh M a) {n : Nat} (hn : zI M a 0 = nI n) (hn2 : n < 60) (f fr to oc ic : Int32) : zCm l G mX2_put 2 40 0 0 [.ref a, .int f, .int fr, .int to, .int oc, .int ic] M (zD none (zM_put M a n f fr to oc ic)) := by
  refine zCd.of (ls0 := [some (.ref a), some (.int (f)), some (.int (fr)), some (.int (to)), some (.int (oc)), some (.int (ic)), none]) (by decide +kernel) rfl hl rfl (Nat.le_of_ble_eq_true rfl) rfl ?_
  refine s_aload_n (zdk hX2_put 0 rfl) rfl ?_
  refine s_getI (zdk hX2_put 1 rfl) fw_X2_9 rfl (ha.1) ?_
  refine s_topi (b := nI n) (hn) ?_
  refine s_bipushv (v := nI 60) (zdk hX2_put 2 rfl) zc_bipush_60 ?_
  refine s_icmp_ne 14 (zdk hX2_put 3 rfl) (by decide) (fun c6 => ?_) (fun c6 => ?_)
  · exact w_X2_put_14 ha hn hn2 f fr to oc ic
  · exact absurd (neq c6 (by omega) (by omega)) (by omega)
theorem c_X2_put60 (hl : l.stackTraces = false) {M : zMem} {a : Nat} (ha : vSh M a) (hn : zI M a 0 = nI 60) (f fr to oc ic : Int32) : zCm l G mX2_put 2 40 0 0 [.ref a, .int f, .int fr, .int to, .int oc, .int ic] M (zD none (zM_put (zM_rm M a 60 0) a 59 f fr to oc ic)) := by
  refine zCd.of (ls0 := [some (.ref a), some (.int (f)), some (.int (fr)), some (.int (to)), some (.int (oc)), some (.int (ic)), none]) (by decide +kernel) rfl hl rfl (Nat.le_of_ble_eq_true rfl) rfl ?_
  refine s_aload_n (zdk hX2_put 0 rfl) rfl ?_
  refine s_getI (zdk hX2_put 1 rfl) fw_X2_9 rfl (ha.1) ?_
  refine s_topi (b := nI 60) (hn) ?_
  refine s_bipushv (v := nI 60) (zdk hX2_put 2 rfl) zc_bipush_60 ?_
  refine s_icmp_ne 14 (zdk hX2_put 3 rfl) (by decide) (fun c6 => ?_) (fun c6 => ?_)
  · exact absurd rfl c6
  · refine s_aload_n (zdk hX2_put 4 rfl) rfl ?_
    refine s_iconstv (v := nI 0) (zdk hX2_put 5 rfl) zc_iconst_0 ?_
    refine s_callV0 (ci := 2) [.int (nI 0)] (zdk hX2_put 6 rfl) cw_X2_25 (ha.1) (by decide) rfl rfl rfl (Nat.le_of_ble_eq_true rfl) (by decide) (c_X2_removeRow hl ha hn (by omega) (by omega)) ?_
    exact w_X2_put_14 (M := zM_rm M a 60 0) ha ((congrFun zI_Ie 0).trans zw1_e) (by omega) f fr to oc ic
def zM_vcopy (M : zMem) (a b n : Nat) : zMem := zsA (zsI M a 0 (nI n)) (a + 1) (va_cpy (zI M (b + 1)) (zI M (a + 1)) 0 0 (n * 5))
theorem c_X2_copyFrom (hl : l.stackTraces = false) {M : zMem} {a b n : Nat} (ha : vSh M a) (hb : vSh M b) (hab : b ≠ a) (h1 : b + 2 ≤ a ∨ a + 2 ≤ b) (hn : zI M b 0 = nI n) (hn2 : n ≤ 60) : zCm l G mX2_copyFrom 1 18 0 0 [.ref a, .ref b] M (zD none (zM_vcopy M a b n)) := by
  refine zCd.of (ls0 := [some (.ref a), some (.ref b)]) (by decide +kernel) rfl hl rfl (Nat.le_of_ble_eq_true rfl) rfl ?_
  refine s_aload_n (zdk hX2_copyFrom 0 rfl) rfl ?_
  refine s_aload_n (zdk hX2_copyFrom 1 rfl) rfl ?_
  refine s_getI (zdk hX2_copyFrom 2 rfl) fw_X2_9 rfl (hb.1) ?_
  refine s_topi (b := nI n) (hn) ?_
  refine s_putI (zdk hX2_copyFrom 3 rfl) fw_X2_9 rfl pw_2_0 (ha.1) ?_
  refine s_aload_n (zdk hX2_copyFrom 4 rfl) rfl ?_
  refine s_getR (zdk hX2_copyFrom 5 rfl) fw_X2_15 rfl (hb.1) (hb.2.1) ?_
  refine s_iconstv (v := nI 0) (zdk hX2_copyFrom 6 rfl) zc_iconst_0 ?_
  refine s_aload_n (zdk hX2_copyFrom 7 rfl) rfl ?_
  refine s_getR (zdk hX2_copyFrom 8 rfl) fw_X2_15 rfl (ha.1) (ha.2.1) ?_
  refine s_iconstv (v := nI 0) (zdk hX2_copyFrom 9 rfl) zc_iconst_0 ?_
  refine s_aload_n (zdk hX2_copyFrom 10 rfl) rfl ?_
  refine s_getI (zdk hX2_copyFrom 11 rfl) fw_X2_9 rfl (ha.1) ?_
  refine s_topi (b := nI n) ((congrFun zI_Ie 0).trans zw1_e) ?_
  refine s_iconstv (v := nI 5) (zdk hX2_copyFrom 12 rfl) zc_iconst_5 ?_
  refine s_imul (zdk hX2_copyFrom 13 rfl) ?_
  refine s_topi (b := nI (n * 5)) (pk_mul _ _) ?_
  refine s_copyN (sp := 0) (dp := 0) (n := n * 5) (zdk hX2_copyFrom 14 rfl) yw_X2_19 yw_nat yw_sta yw_ini (hb.2.2.1) (ha.2.2.1) (by omega) (by omega) (by omega) (Nat.le_trans (show 0 + n * 5 ≤ 300 by omega) (Nat.le_of_eq (Eq.symm (hb.2.2.2)))) (Nat.le_trans (show 0 + n * 5 ≤ 300 by omega) (Nat.le_of_eq (Eq.symm (ha.2.2.2)))) (Nat.le_of_ble_eq_true rfl) (Nat.le_of_ble_eq_true rfl) ?_
  refine s_mem (M' := (zM_vcopy M a b n)) ((by rw [zI_In (show b + 1 ≠ a by omega), zI_In (show a + 1 ≠ a by omega)]; rfl)) ?_
  refine s_return (zdk hX2_copyFrom 15 rfl) rfl ?_
  exact ⟨rfl, rfl⟩
/-- the moves of a file go, those behind it get new numbers: the first i rows are left -/
def zM_fg (a : Nat) (f : Int32) : Nat → Nat → zMem → zMem
  | 0, _, M => M
  | i + 1, n, M => if zI M (a + 1) (i * 5 + 0) = f then zM_fg a f i (n - 1) (zM_rm M a n i) else if zI M (a + 1) (i * 5 + 0) ≤ f then zM_fg a f i n M else zM_fg a f i n (zsI M (a + 1) (i * 5 + 0) (zI M (a + 1) (i * 5 + 0) - nI 1))
theorem zM_fg_sh (a : Nat) (f : Int32) : ∀ (i n : Nat) (M : zMem), zsh M (zM_fg a f i n M)
  | 0, n, M => rfl
  | i + 1, n, M => by
    unfold zM_fg
    split
    · exact (zM_fg_sh a f i (n - 1) (zM_rm M a n i)).trans rfl
    · split
      · exact zM_fg_sh a f i n M
      · exact (zM_fg_sh a f i n _).trans rfl
theorem w_X2_forgetFile_7 (hl : l.stackTraces = false) {a : Nat} {f : Int32} : ∀ (i n : Nat) (M : zMem) (x3 : Option Value), vSh M a → zI M a 0 = nI n → i ≤ n → n ≤ 60 → zS l G mX2_forgetFile 2 40 0 0 7 [some (.ref a), some (.int (f)), some (.int (nI i - nI 1)), x3] [] M (zD none (zM_fg a f i n M)) := by
  intro i
  induction i with
  | zero =>
    intro n M x3 ha hn h1 hn2
    refine s_iload_n (zdk hX2_forgetFile 5 rfl) rfl ?_
    refine s_if_lt 59 (zdk hX2_forgetFile 6 rfl) (by decide) (fun c8 => ?_) (fun c8 => ?_)
    · refine s_return (zdk hX2_forgetFile 39 rfl) rfl ?_
      exact ⟨rfl, rfl⟩
    · exact absurd (by decide) c8
  | succ i ih =>
    intro n M x3 ha hn h1 hn2
    rw [show nI (i + 1) - nI 1 = nI i from pk_sub (by omega)]
    refine s_iload_n (zdk hX2_forgetFile 5 rfl) rfl ?_
    refine s_if_lt 59 (zdk hX2_forgetFile 6 rfl) (by decide) (fun c8 => ?_) (fun c8 => ?_)
    · exact absurd c8 (nI_pos (by omega))
    · refine s_aload_n (zdk hX2_forgetFile 7 rfl) rfl ?_
      refine s_getR (zdk hX2_forgetFile 8 rfl) fw_X2_15 rfl (ha.1) (ha.2.1) ?_
      refine s_iload_n (zdk hX2_forgetFile 9 rfl) rfl ?_
      refine s_iconstv (v := nI 5) (zdk hX2_forgetFile 10 rfl) zc_iconst_5 ?_
      refine s_imul (zdk hX2_forgetFile 11 rfl) ?_
      refine s_topi (b := nI (i * 5)) (pk_mul _ _) ?_
      refine s_iconstv (v := nI 0) (zdk hX2_forgetFile 12 rfl) zc_iconst_0 ?_
      refine s_iadd (zdk hX2_forgetFile 13 rfl) ?_
      refine s_topi (b := nI (i * 5 + 0)) (nI_add _ _) ?_
      refine s_ialoadN (N := 300) (j := (i * 5 + 0)) (zdk hX2_forgetFile 14 rfl) (ha.2.2.1) (ha.2.2.2) (by omega) (by decide) ?_
      refine s_istore_n (zdk hX2_forgetFile 15 rfl) (Nat.le_of_ble_eq_true rfl) ?_
      refine s_ls (ls' := [some (.ref a), some (.int (f)), some (.int (nI i)), some (.int (zI M (a + 1) ((i * 5 + 0))))]) rfl ?_
      refine s_iload_n (zdk hX2_forgetFile 16 rfl) rfl ?_
      refine s_iload_n (zdk hX2_forgetFile 17 rfl) rfl ?_
      refine s_icmp_ne 35 (zdk hX2_forgetFile 18 rfl) (by decide) (fun c24 => ?_) (fun c24 => ?_)
      · refine s_iload_n (zdk hX2_forgetFile 23 rfl) rfl ?_
        refine s_iload_n (zdk hX2_forgetFile 24 rfl) rfl ?_
        refine s_icmp_le 53 (zdk hX2_forgetFile 25 rfl) (by decide) (fun c37 => ?_) (fun c37 => ?_)
        · rw [show zM_fg a f (i + 1) n M = zM_fg a f i n M from (if_neg c24).trans (if_pos c37)]
          refine s_iinc (r := nI i - nI 1) (zdk hX2_forgetFile 37 rfl) (Nat.le_of_ble_eq_true rfl) rfl (nI_m1 _) ?_
          refine s_ls (ls' := [some (.ref a), some (.int (f)), some (.int (nI i - nI 1)), some (.int (zI M (a + 1) ((i * 5 + 0))))]) rfl ?_
          refine s_goto 7 (zdk hX2_forgetFile 38 rfl) (by decide) ?_
          exact ih _ M _ ha hn (by omega) (by omega)
        · rw [show zM_fg a f (i + 1) n M = zM_fg a f i n (zsI M (a + 1) (i * 5 + 0) (zI M (a + 1) (i * 5 + 0) - nI 1)) from (if_neg c24).trans (if_neg c37)]
          refine s_aload_n (zdk hX2_forgetFile 26 rfl) rfl ?_
          refine s_getR (zdk hX2_forgetFile 27 rfl) fw_X2_15 rfl (ha.1) (ha.2.1) ?_
          refine s_iload_n (zdk hX2_forgetFile 28 rfl) rfl ?_
          refine s_iconstv (v := nI 5) (zdk hX2_forgetFile 29 rfl) zc_iconst_5 ?_
          refine s_imul (zdk hX2_forgetFile 30 rfl) ?_
          refine s_topi (b := nI (i * 5)) (pk_mul _ _) ?_
          refine s_iconstv (v := nI 0) (zdk hX2_forgetFile 31 rfl) zc_iconst_0 ?_
          refine s_iadd (zdk hX2_forgetFile 32 rfl) ?_
          refine s_topi (b := nI (i * 5 + 0)) (nI_add _ _) ?_
          refine s_iload_n (zdk hX2_forgetFile 33 rfl) rfl ?_
          refine s_iconstv (v := nI 1) (zdk hX2_forgetFile 34 rfl) zc_iconst_1 ?_
          refine s_isub (zdk hX2_forgetFile 35 rfl) ?_
          refine s_iastoreN (N := 300) (j := (i * 5 + 0)) (zdk hX2_forgetFile 36 rfl) (ha.2.2.1) (ha.2.2.2) (by omega) (by decide) ?_
          refine s_iinc (r := nI i - nI 1) (zdk hX2_forgetFile 37 rfl) (Nat.le_of_ble_eq_true rfl) rfl (nI_m1 _) ?_
          refine s_ls (ls' := [some (.ref a), some (.int (f)), some (.int (nI i - nI 1)), some (.int (zI M (a + 1) ((i * 5 + 0))))]) rfl ?_
          refine s_goto 7 (zdk hX2_forgetFile 38 rfl) (by decide) ?_
          exact ih _ (zsI M (a + 1) ((i * 5 + 0)) ((zI M (a + 1) ((i * 5 + 0))) - (nI 1))) _ ha ((congrFun (zI_In (show a ≠ a + 1 by omega)) 0).trans hn) (by omega) (by omega)
      · rw [show zM_fg a f (i + 1) n M = zM_fg a f i (n - 1) (zM_rm M a n i) from if_pos c24]
        refine s_aload_n (zdk hX2_forgetFile 19 rfl) rfl ?_
        refine s_iload_n (zdk hX2_forgetFile 20 rfl) rfl ?_
        refine s_callV0 (ci := 2) [.int (nI i)] (zdk hX2_forgetFile 21 rfl) cw_X2_25 (ha.1) (by decide) rfl rfl rfl (Nat.le_of_ble_eq_true rfl) (by decide) (c_X2_removeRow hl ha hn (by omega) hn2) ?_
        refine s_goto 53 (zdk hX2_forgetFile 22 rfl) (by decide) ?_
        refine s_iinc (r := nI i - nI 1) (zdk hX2_forgetFile 37 rfl) (Nat.le_of_ble_eq_true rfl) rfl (nI_m1 _) ?_
        refine s_ls (ls' := [some (.ref a), some (.int (f)), some (.int (nI i - nI 1)), some (.int (zI M (a + 1) ((i * 5 + 0))))]) rfl ?_
        refine s_goto 7 (zdk hX2_forgetFile 38 rfl) (by decide) ?_
        exact ih _ (zM_rm M a n i) _ ha ((congrFun zI_Ie 0).trans zw1_e) (by omega) (by omega)
theorem c_X2_forgetFile (hl : l.stackTraces = false) {M : zMem} {a : Nat} (ha : vSh M a) {n : Nat} (hn : zI M a 0 = nI n) (hn2 : n ≤ 60) (f : Int32) : zCm l G mX2_forgetFile 2 40 0 0 [.ref a, .int f] M (zD none (zM_fg a f n n M)) := by
  refine zCd.of (ls0 := [some (.ref a), some (.int (f)), none, none]) (by decide +kernel) rfl hl rfl (Nat.le_of_ble_eq_true rfl) (zM_fg_sh a f n n M) ?_
  refine s_aload_n (zdk hX2_forgetFile 0 rfl) rfl ?_
  refine s_getI (zdk hX2_forgetFile 1 rfl) fw_X2_9 rfl (ha.1) ?_
  refine s_topi (b := nI n) (hn) ?_
  refine s_iconstv (v := nI 1) (zdk hX2_forgetFile 2 rfl) zc_iconst_1 ?_
  refine s_isub (zdk hX2_forgetFile 3 rfl) ?_
  refine s_istore_n (zdk hX2_forgetFile 4 rfl) (Nat.le_of_ble_eq_true rfl) ?_
  refine s_ls (ls' := [some (.ref a), some (.int (f)), some (.int ((nI n) - (nI 1))), none]) rfl ?_
  exact w_X2_forgetFile_7 hl n n M none ha hn (Nat.le_refl _) hn2
end
