theorem zc_bipush_48 : (Int8.ofInt 48).toInt32 = nI 48 := by decide
theorem zc_bipush_57 : (Int8.ofInt 57).toInt32 = nI 57 := by decide
theorem zc_bipush_122 : (Int8.ofInt 122).toInt32 = nI 122 := by decide
/-! ===== the reader: its least steps ===== -/
def eSh (M : zMem) (a : Nat) : Prop := zK M a = 5 ∧ zR M a 2 = some (a + 1) ∧ zK M (a + 1) = 11 ∧ zN M (a + 1) = 600
theorem zsI_zsI {M : zMem} {a k : Nat} {v w : Int32} : zsI (zsI M a k v) a k w = zsI M a k w := by
  unfold zsI
  congr 1
  exact zu_zu _ _ _ _ _
theorem zsI_id {M : zMem} {a k : Nat} {v : Int32} (h : zI M a k = v) : zsI M a k v = M := by
  unfold zsI
  rw [← h]
  exact congrArg (fun q => (q, M.2)) (zu_id M.1 a k)
/-- from i over blanks; over letters -/
def zsk (u : Nat → Int32) (n : Nat) : Nat → Nat → Nat
  | 0, i => i
  | k + 1, i => if u i = nI 32 then zsk u n k (i + 1) else i
theorem zsk_y {u : Nat → Int32} {n i : Nat} (h : i < n) (e : u i = nI 32) : zsk u n (n - i) i = zsk u n (n - (i + 1)) (i + 1) := by
  conv => lhs; rw [show n - i = (n - (i + 1)) + 1 by omega]
  exact if_pos e
theorem zsk_n {u : Nat → Int32} {n i : Nat} (e : n ≤ i ∨ ¬ u i = nI 32) : zsk u n (n - i) i = i := by
  by_cases h : n ≤ i
  · rw [show n - i = 0 by omega]; rfl
  · rw [show n - i = (n - (i + 1)) + 1 by omega]
    exact if_neg (by rcases e with e | e; exact absurd e h; exact e)
def zew (u : Nat → Int32) (n : Nat) : Nat → Nat → Nat
  | 0, i => i
  | k + 1, i => if nI 97 ≤ u i ∧ u i ≤ nI 122 then zew u n k (i + 1) else i
theorem zew_y {u : Nat → Int32} {n i : Nat} (h : i < n) (e : nI 97 ≤ u i ∧ u i ≤ nI 122) : zew u n (n - i) i = zew u n (n - (i + 1)) (i + 1) := by
  conv => lhs; rw [show n - i = (n - (i + 1)) + 1 by omega]
  exact if_pos e
theorem zew_n {u : Nat → Int32} {n i : Nat} (e : n ≤ i ∨ ¬ (nI 97 ≤ u i ∧ u i ≤ nI 122)) : zew u n (n - i) i = i := by
  by_cases h : n ≤ i
  · rw [show n - i = 0 by omega]; rfl
  · rw [show n - i = (n - (i + 1)) + 1 by omega]
    exact if_neg (by rcases e with e | e; exact absurd e h; exact e)
def zrb (u : Nat → Int32) (n j : Nat) : Int32 := if j < n then u j else -1
section
variable {l : Launch} {G : zG}
theorem c_X4_isDigit (hl : l.stackTraces = false) (M : zMem) (v : Int32) : zCm l G mX4_isDigit 0 0 0 0 [.int v] M (zD (some (.int (if nI 48 ≤ v ∧ v ≤ nI 57 then nI 1 else nI 0))) M) := by
  refine zCd.of (ls0 := [some (.int (v))]) (by decide +kernel) rfl hl rfl (Nat.le_of_ble_eq_true rfl) rfl ?_
  refine s_iload_n (zdk hX4_isDigit 0 rfl) rfl ?_
  refine s_bipushv (v := nI 48) (zdk hX4_isDigit 1 rfl) zc_bipush_48 ?_
  refine s_icmp_lt 16 (zdk hX4_isDigit 2 rfl) (by decide) (fun c3 => ?_) (fun c3 => ?_)
  · refine s_iconstv (v := nI 0) (zdk hX4_isDigit 8 rfl) zc_iconst_0 ?_
    refine s_ireturn (zdk hX4_isDigit 9 rfl) rfl rfl ?_
    first | exact ⟨by rw [if_neg (fun q => absurd q.1 (Int32.not_le.mpr c3))], rfl⟩ | exact ⟨by rw [if_neg (fun q => absurd q.2 (Int32.not_le.mpr c9))], rfl⟩ | exact ⟨by rw [if_pos ⟨Int32.not_lt.mp c3, Int32.not_lt.mp c9⟩], rfl⟩
  · refine s_iload_n (zdk hX4_isDigit 3 rfl) rfl ?_
    refine s_bipushv (v := nI 57) (zdk hX4_isDigit 4 rfl) zc_bipush_57 ?_
    refine s_icmp_gt 16 (zdk hX4_isDigit 5 rfl) (by decide) (fun c9 => ?_) (fun c9 => ?_)
    · refine s_iconstv (v := nI 0) (zdk hX4_isDigit 8 rfl) zc_iconst_0 ?_
      refine s_ireturn (zdk hX4_isDigit 9 rfl) rfl rfl ?_
      first | exact ⟨by rw [if_neg (fun q => absurd q.1 (Int32.not_le.mpr c3))], rfl⟩ | exact ⟨by rw [if_neg (fun q => absurd q.2 (Int32.not_le.mpr c9))], rfl⟩ | exact ⟨by rw [if_pos ⟨Int32.not_lt.mp c3, Int32.not_lt.mp c9⟩], rfl⟩
    · refine s_iconstv (v := nI 1) (zdk hX4_isDigit 6 rfl) zc_iconst_1 ?_
      refine s_goto 17 (zdk hX4_isDigit 7 rfl) (by decide) ?_
      refine s_ireturn (zdk hX4_isDigit 9 rfl) rfl rfl ?_
      first | exact ⟨by rw [if_neg (fun q => absurd q.1 (Int32.not_le.mpr c3))], rfl⟩ | exact ⟨by rw [if_neg (fun q => absurd q.2 (Int32.not_le.mpr c9))], rfl⟩ | exact ⟨by rw [if_pos ⟨Int32.not_lt.mp c3, Int32.not_lt.mp c9⟩], rfl⟩
theorem c_X4_fail (hl : l.stackTraces = false) {M : zMem} {a : Nat} (ha : eSh M a) (c x : Int32) : zCm l G mX4_fail 0 0 0 0 [.ref a, .int c, .int x] M (zD (some (.int (nI 0))) (zsI (zsI M a 4 c) a 1 x)) := by
  refine zCd.of (ls0 := [some (.ref a), some (.int (c)), some (.int (x))]) (by decide +kernel) rfl hl rfl (Nat.le_of_ble_eq_true rfl) rfl ?_
  refine s_aload_n (zdk hX4_fail 0 rfl) rfl ?_
  refine s_iload_n (zdk hX4_fail 1 rfl) rfl ?_
  refine s_putI (zdk hX4_fail 2 rfl) fw_X4_25 rfl pw_4_4 (ha.1) ?_
  refine s_aload_n (zdk hX4_fail 3 rfl) rfl ?_
  refine s_iload_n (zdk hX4_fail 4 rfl) rfl ?_
  refine s_putI (zdk hX4_fail 5 rfl) fw_X4_15 rfl pw_4_1 (ha.1) ?_
  refine s_iconstv (v := nI 0) (zdk hX4_fail 6 rfl) zc_iconst_0 ?_
  refine s_ireturn (zdk hX4_fail 7 rfl) rfl rfl ?_
  exact ⟨rfl, rfl⟩
theorem w_X4_nextByte_0 {M : zMem} {a n : Nat} (ha : eSh M a) (hn : zI M a 0 = nI n) (hn6 : n ≤ 600) : ∀ (k : Nat) (i : Nat), i ≤ n → n - i < k → zS l G mX4_nextByte 0 0 0 0 0 [some (.ref a)] [] (zsI M a 3 (nI i)) (zD (some (.int (zrb (zI M (a + 1)) n (zsk (zI M (a + 1)) n (n - i) i)))) (zsI M a 3 (nI (zsk (zI M (a + 1)) n (n - i) i)))) := by
  intro k
  induction k with
  | zero => intros; omega
  | succ k ih =>
    intro i hi hk
    refine s_aload_n (zdk hX4_nextByte 0 rfl) rfl ?_
    refine s_getI (zdk hX4_nextByte 1 rfl) fw_X4_22 rfl (ha.1) ?_
    refine s_topi (b := nI i) ((congrFun zI_Ie 3).trans zw1_e) ?_
    refine s_aload_n (zdk hX4_nextByte 2 rfl) rfl ?_
    refine s_getI (zdk hX4_nextByte 3 rfl) fw_X4_9 rfl (ha.1) ?_
    refine s_topi (b := nI n) ((congrFun zI_Ie 0).trans ((zw1_n (by decide)).trans hn)) ?_
    refine s_icmp_ge 38 (zdk hX4_nextByte 4 rfl) (by decide) (fun c8 => ?_) (fun c8 => ?_)
    · have hi3 : n ≤ i := nle c8 (by omega) (by omega)
      have hs : (zsk (zI M (a + 1)) n (n - i) i) = i := zsk_n (Or.inl hi3)
      refine s_aload_n (zdk hX4_nextByte 19 rfl) rfl ?_
      refine s_getI (zdk hX4_nextByte 20 rfl) fw_X4_22 rfl (ha.1) ?_
      refine s_topi (b := nI i) ((congrFun zI_Ie 3).trans zw1_e) ?_
      refine s_aload_n (zdk hX4_nextByte 21 rfl) rfl ?_
      refine s_getI (zdk hX4_nextByte 22 rfl) fw_X4_9 rfl (ha.1) ?_
      refine s_topi (b := nI n) ((congrFun zI_Ie 0).trans ((zw1_n (by decide)).trans hn)) ?_
      refine s_icmp_ge 61 (zdk hX4_nextByte 23 rfl) (by decide) (fun c46 => ?_) (fun c46 => ?_)
      · have hi4 : n ≤ i := nle c46 (by omega) (by omega)
        refine s_iconstv (v := (-1)) (zdk hX4_nextByte 30 rfl) zc_iconst_m1 ?_
        refine s_ireturn (zdk hX4_nextByte 31 rfl) rfl rfl ?_
        rw [hs]
        exact ⟨by rw [zrb, if_neg (by omega)], rfl⟩
      · have hi2 : i < n := nlt c46 (by omega) (by omega)
        refine s_aload_n (zdk hX4_nextByte 24 rfl) rfl ?_
        refine s_getR (zdk hX4_nextByte 25 rfl) fw_X4_18 rfl (ha.1) (ha.2.1) ?_
        refine s_aload_n (zdk hX4_nextByte 26 rfl) rfl ?_
        refine s_getI (zdk hX4_nextByte 27 rfl) fw_X4_22 rfl (ha.1) ?_
        refine s_topi (b := nI i) ((congrFun zI_Ie 3).trans zw1_e) ?_
        refine s_ialoadN (N := 600) (j := i) (zdk hX4_nextByte 28 rfl) (ha.2.2.1) (ha.2.2.2) (by omega) (by decide) ?_
        refine s_topi (b := zI M (a + 1) i) (congrFun (zI_In (show a + 1 ≠ a by omega)) i) ?_
        refine s_goto 62 (zdk hX4_nextByte 29 rfl) (by decide) ?_
        refine s_ireturn (zdk hX4_nextByte 31 rfl) rfl rfl ?_
        rw [hs]
        exact ⟨by rw [zrb, if_pos hi2], rfl⟩
    · have hi2 : i < n := nlt c8 (by omega) (by omega)
      refine s_aload_n (zdk hX4_nextByte 5 rfl) rfl ?_
      refine s_getR (zdk hX4_nextByte 6 rfl) fw_X4_18 rfl (ha.1) (ha.2.1) ?_
      refine s_aload_n (zdk hX4_nextByte 7 rfl) rfl ?_
      refine s_getI (zdk hX4_nextByte 8 rfl) fw_X4_22 rfl (ha.1) ?_
      refine s_topi (b := nI i) ((congrFun zI_Ie 3).trans zw1_e) ?_
      refine s_ialoadN (N := 600) (j := i) (zdk hX4_nextByte 9 rfl) (ha.2.2.1) (ha.2.2.2) (by omega) (by decide) ?_
      refine s_topi (b := zI M (a + 1) i) (congrFun (zI_In (show a + 1 ≠ a by omega)) i) ?_
      refine s_bipushv (v := nI 32) (zdk hX4_nextByte 10 rfl) zc_bipush_32 ?_
      refine s_icmp_ne 38 (zdk hX4_nextByte 11 rfl) (by decide) (fun c22 => ?_) (fun c22 => ?_)
      · have hs : (zsk (zI M (a + 1)) n (n - i) i) = i := zsk_n (Or.inr c22)
        refine s_aload_n (zdk hX4_nextByte 19 rfl) rfl ?_
        refine s_getI (zdk hX4_nextByte 20 rfl) fw_X4_22 rfl (ha.1) ?_
        refine s_topi (b := nI i) ((congrFun zI_Ie 3).trans zw1_e) ?_
        refine s_aload_n (zdk hX4_nextByte 21 rfl) rfl ?_
        refine s_getI (zdk hX4_nextByte 22 rfl) fw_X4_9 rfl (ha.1) ?_
        refine s_topi (b := nI n) ((congrFun zI_Ie 0).trans ((zw1_n (by decide)).trans hn)) ?_
        refine s_icmp_ge 61 (zdk hX4_nextByte 23 rfl) (by decide) (fun c46 => ?_) (fun c46 => ?_)
        · have hi4 : n ≤ i := nle c46 (by omega) (by omega)
          refine s_iconstv (v := (-1)) (zdk hX4_nextByte 30 rfl) zc_iconst_m1 ?_
          refine s_ireturn (zdk hX4_nextByte 31 rfl) rfl rfl ?_
          rw [hs]
          exact ⟨by rw [zrb, if_neg (by omega)], rfl⟩
        · have hi2 : i < n := nlt c46 (by omega) (by omega)
          refine s_aload_n (zdk hX4_nextByte 24 rfl) rfl ?_
          refine s_getR (zdk hX4_nextByte 25 rfl) fw_X4_18 rfl (ha.1) (ha.2.1) ?_
          refine s_aload_n (zdk hX4_nextByte 26 rfl) rfl ?_
          refine s_getI (zdk hX4_nextByte 27 rfl) fw_X4_22 rfl (ha.1) ?_
          refine s_topi (b := nI i) ((congrFun zI_Ie 3).trans zw1_e) ?_
          refine s_ialoadN (N := 600) (j := i) (zdk hX4_nextByte 28 rfl) (ha.2.2.1) (ha.2.2.2) (by omega) (by decide) ?_
          refine s_topi (b := zI M (a + 1) i) (congrFun (zI_In (show a + 1 ≠ a by omega)) i) ?_
          refine s_goto 62 (zdk hX4_nextByte 29 rfl) (by decide) ?_
          refine s_ireturn (zdk hX4_nextByte 31 rfl) rfl rfl ?_
          rw [hs]
          exact ⟨by rw [zrb, if_pos hi2], rfl⟩
      · have hs := zsk_y (u := (zI M (a + 1))) hi2 c22
        refine s_aload_n (zdk hX4_nextByte 12 rfl) rfl ?_
        refine s_dupr (zdk hX4_nextByte 13 rfl) ?_
        refine s_getI (zdk hX4_nextByte 14 rfl) fw_X4_22 rfl (ha.1) ?_
        refine s_topi (b := nI i) ((congrFun zI_Ie 3).trans zw1_e) ?_
        refine s_iconstv (v := nI 1) (zdk hX4_nextByte 15 rfl) zc_iconst_1 ?_
        refine s_iadd (zdk hX4_nextByte 16 rfl) ?_
        refine s_topi (b := nI (i + 1)) (nI_1 i) ?_
        refine s_putI (zdk hX4_nextByte 17 rfl) fw_X4_22 rfl pw_4_3 (ha.1) ?_
        refine s_mem (M' := (zsI M a 3 (nI (i + 1)))) (zsI_zsI) ?_
        refine s_goto 0 (zdk hX4_nextByte 18 rfl) (by decide) ?_
        rw [hs]
        exact ih (i + 1) (by omega) (by omega)
theorem c_X4_nextByte (hl : l.stackTraces = false) {M : zMem} {a n : Nat} (ha : eSh M a) (hn : zI M a 0 = nI n) (hn6 : n ≤ 600) {i : Nat} (hi : zI M a 3 = nI i) (hin : i ≤ n) : zCm l G mX4_nextByte 0 0 0 0 [.ref a] M (zD (some (.int (zrb (zI M (a + 1)) n (zsk (zI M (a + 1)) n (n - i) i)))) (zsI M a 3 (nI (zsk (zI M (a + 1)) n (n - i) i)))) := by
  refine zCd.of (ls0 := [some (.ref a)]) (by decide +kernel) rfl hl rfl (Nat.le_of_ble_eq_true rfl) rfl ?_
  have h := w_X4_nextByte_0 (l := l) (G := G) ha hn hn6 (n + 1) i hin (by omega)
  rw [zsI_id hi] at h
  exact h
theorem w_X4_endOfWord_5 {M : zMem} {a n : Nat} (ha : eSh M a) (hn : zI M a 0 = nI n) (hn6 : n ≤ 600) : ∀ (k : Nat) (i : Nat), i ≤ n → n - i < k → zS l G mX4_endOfWord 0 0 0 0 5 [some (.ref a), some (.int (nI i))] [] M (zD (some (.int (nI (zew (zI M (a + 1)) n (n - i) i)))) M) := by
  intro k
  induction k with
  | zero => intros; omega
  | succ k ih =>
    intro i hi hk
    refine s_iload_n (zdk hX4_endOfWord 3 rfl) rfl ?_
    refine s_aload_n (zdk hX4_endOfWord 4 rfl) rfl ?_
    refine s_getI (zdk hX4_endOfWord 5 rfl) fw_X4_9 rfl (ha.1) ?_
    refine s_topi (b := nI n) (hn) ?_
    refine s_icmp_ge 41 (zdk hX4_endOfWord 6 rfl) (by decide) (fun c10 => ?_) (fun c10 => ?_)
    · have hi3 : n ≤ i := nle c10 (by omega) (by omega)
      have hs : (zew (zI M (a + 1)) n (n - i) i) = i := zew_n (Or.inl hi3)
      refine s_iload_n (zdk hX4_endOfWord 21 rfl) rfl ?_
      refine s_ireturn (zdk hX4_endOfWord 22 rfl) rfl rfl ?_
      rw [hs]
      exact ⟨rfl, rfl⟩
    · have hi2 : i < n := nlt c10 (by omega) (by omega)
      refine s_aload_n (zdk hX4_endOfWord 7 rfl) rfl ?_
      refine s_getR (zdk hX4_endOfWord 8 rfl) fw_X4_18 rfl (ha.1) (ha.2.1) ?_
      refine s_iload_n (zdk hX4_endOfWord 9 rfl) rfl ?_
      refine s_ialoadN (N := 600) (j := i) (zdk hX4_endOfWord 10 rfl) (ha.2.2.1) (ha.2.2.2) (by omega) (by decide) ?_
      refine s_bipushv (v := nI 97) (zdk hX4_endOfWord 11 rfl) zc_bipush_97 ?_
      refine s_icmp_lt 41 (zdk hX4_endOfWord 12 rfl) (by decide) (fun c21 => ?_) (fun c21 => ?_)
      · have hs : (zew (zI M (a + 1)) n (n - i) i) = i := zew_n (Or.inr fun q => absurd q.1 (Int32.not_le.mpr c21))
        refine s_iload_n (zdk hX4_endOfWord 21 rfl) rfl ?_
        refine s_ireturn (zdk hX4_endOfWord 22 rfl) rfl rfl ?_
        rw [hs]
        exact ⟨rfl, rfl⟩
      · refine s_aload_n (zdk hX4_endOfWord 13 rfl) rfl ?_
        refine s_getR (zdk hX4_endOfWord 14 rfl) fw_X4_18 rfl (ha.1) (ha.2.1) ?_
        refine s_iload_n (zdk hX4_endOfWord 15 rfl) rfl ?_
        refine s_ialoadN (N := 600) (j := i) (zdk hX4_endOfWord 16 rfl) (ha.2.2.1) (ha.2.2.2) (by omega) (by decide) ?_
        refine s_bipushv (v := nI 122) (zdk hX4_endOfWord 17 rfl) zc_bipush_122 ?_
        refine s_icmp_gt 41 (zdk hX4_endOfWord 18 rfl) (by decide) (fun c32 => ?_) (fun c32 => ?_)
        · have hs : (zew (zI M (a + 1)) n (n - i) i) = i := zew_n (Or.inr fun q => absurd q.2 (Int32.not_le.mpr c32))
          refine s_iload_n (zdk hX4_endOfWord 21 rfl) rfl ?_
          refine s_ireturn (zdk hX4_endOfWord 22 rfl) rfl rfl ?_
          rw [hs]
          exact ⟨rfl, rfl⟩
        · have hs := zew_y (u := (zI M (a + 1))) hi2 ⟨Int32.not_lt.mp c21, Int32.not_lt.mp c32⟩
          refine s_iinc (r := nI (i + 1)) (zdk hX4_endOfWord 19 rfl) (Nat.le_of_ble_eq_true rfl) rfl (nI_1 i) ?_
          refine s_ls (ls' := [some (.ref a), some (.int (nI (i + 1)))]) rfl ?_
          refine s_goto 5 (zdk hX4_endOfWord 20 rfl) (by decide) ?_
          rw [hs]
          exact ih (i + 1) (by omega) (by omega)
theorem c_X4_endOfWord (hl : l.stackTraces = false) {M : zMem} {a n : Nat} (ha : eSh M a) (hn : zI M a 0 = nI n) (hn6 : n ≤ 600) {i : Nat} (hi : zI M a 3 = nI i) (hin : i ≤ n) : zCm l G mX4_endOfWord 0 0 0 0 [.ref a] M (zD (some (.int (nI (zew (zI M (a + 1)) n (n - i) i)))) M) := by
  refine zCd.of (ls0 := [some (.ref a), none]) (by decide +kernel) rfl hl rfl (Nat.le_of_ble_eq_true rfl) rfl ?_
  refine s_aload_n (zdk hX4_endOfWord 0 rfl) rfl ?_
  refine s_getI (zdk hX4_endOfWord 1 rfl) fw_X4_22 rfl (ha.1) ?_
  refine s_topi (b := nI i) (hi) ?_
  refine s_istore_n (zdk hX4_endOfWord 2 rfl) (Nat.le_of_ble_eq_true rfl) ?_
  refine s_ls (ls' := [some (.ref a), some (.int (nI i))]) rfl ?_
  exact w_X4_endOfWord_5 ha hn hn6 (n + 1) i hin (by omega)
end
