theorem zc_sipush_1390 : (Int16.ofInt 1390).toInt32 = nI 1390 := by decide
theorem zc_sipush_9730 : (Int16.ofInt 9730).toInt32 = nI 9730 := by decide
/-! ===== the reference: counts, rows that are copied ===== -/
theorem cpL_1 (F K : Nat → Int64) (q p i : Nat) : zwL (va_cpy F K q p i) (p + i) (F (q + i)) = va_cpy F K q p (i + 1) := by
  funext j
  unfold zwL va_cpy
  by_cases h : j = p + i
  · rw [if_pos h, if_pos (by omega)]; congr 1; omega
  · rw [if_neg h]
    by_cases h2 : p ≤ j ∧ j < p + i
    · rw [if_pos h2, if_pos (by omega)]
    · rw [if_neg h2, if_neg (by omega)]
theorem cpL_0 (F K : Nat → Int64) (q p : Nat) : va_cpy F K q p 0 = K := by funext j; unfold va_cpy; rw [if_neg (by omega)]
theorem zsL_c {M : zMem} {a b : Nat} {f g : Nat → Int64} (h : a ≠ b) : zsL (zsL M a f) b g = zsL (zsL M b g) a f := by
  unfold zsL
  congr 2
  funext c
  show (if c = b then g else (if c = a then f else M.2.1 c)) = (if c = a then f else (if c = b then g else M.2.1 c))
  by_cases q : c = b
  · rw [if_pos q, if_neg (by omega), if_pos q]
  · rw [if_neg q, if_neg q]
def kSh (K : Nat → Int64) (n : Nat) : Nat → Int64 := fun k => if k < n then K (k + 1390) else K k
theorem kSh_1 (K : Nat → Int64) (i : Nat) : zwL (kSh K i) i (K (i + 1390)) = kSh K (i + 1) := by
  funext j
  unfold zwL kSh
  by_cases h : j = i
  · rw [if_pos h, if_pos (by omega), h]
  · rw [if_neg h]
    by_cases h2 : j < i
    · rw [if_pos h2, if_pos (by omega)]
    · rw [if_neg h2, if_neg (by omega)]
theorem kSh_0 (K : Nat → Int64) : kSh K 0 = K := by funext j; unfold kSh; rw [if_neg (by omega)]
theorem kSh_u (K : Nat → Int64) (i k : Nat) (h : i ≤ k) : kSh K i k = K k := if_neg (by omega)
/-- what is kept, with one more row -/
def kQ (c : Nat) (K row : Nat → Int64) : Nat → Int64 := if c = 8 then va_cpy row (kSh K 9730) 0 (1390 * 7) 1390 else va_cpy row K 0 (1390 * c) 1390
def zfoR (g : Nat → Int64) (x : Int32) (n : Nat) : Int32 := zfo g x n
section
variable {l : Launch} {G : zG}
theorem w_X9_pinned_4 (hl : l.stackTraces = false) {M : zMem} (hm : mSh M) {g : Nat → Int64} (hb : gBd g) (hi4 : g 4 = (its g 4).toInt64) : ∀ (k : Nat) (i : Nat), i ≤ gN g 3 → gN g 3 - i < k → zS l G mX9_pinned 3 70 0 0 4 [some (.ref 941), some (.int (zpin g i)), some (.int (nI i))] [] (zsL M 942 g) (zD (some (.int (zpin g (gN g 3)))) (zsL M 942 g)) := by
  intro k
  induction k with
  | zero => intros; omega
  | succ k ih =>
    intro i hi hk
    have hn := hb.2.2.1.2
    have hc := hb.1.2.2
    have ht4 := hb.2.1.2
    refine s_iload_n (zdk hX9_pinned 4 rfl) rfl ?_
    refine s_aload_n (zdk hX9_pinned 5 rfl) rfl ?_
    refine s_callV0 (ci := 9) [] (zdk hX9_pinned 6 rfl) cw_X9_180 (hm.1) (by decide) rfl rfl rfl (Nat.le_of_ble_eq_true rfl) (by decide) (c_X9_files hl (M := M) (g := g) hm hb) ?_
    refine s_icmp_ge 34 (zdk hX9_pinned 7 rfl) (by decide) (fun c9 => ?_) (fun c9 => ?_)
    · have n9 : gN g 3 ≤ i := nle c9 (by omega) (by omega)
      obtain rfl : i = gN g 3 := by omega
      refine s_iload_n (zdk hX9_pinned 20 rfl) rfl ?_
      refine s_ireturn (zdk hX9_pinned 21 rfl) rfl rfl ?_
      exact ⟨rfl, rfl⟩
    · have n9 : i < gN g 3 := nlt c9 (by omega) (by omega)
      refine s_iload_n (zdk hX9_pinned 8 rfl) rfl ?_
      refine s_aload_n (zdk hX9_pinned 9 rfl) rfl ?_
      refine s_iload_n (zdk hX9_pinned 10 rfl) rfl ?_
      refine s_callV0 (ci := 9) [.int (nI i)] (zdk hX9_pinned 11 rfl) cw_X9_233 (hm.1) (by decide) rfl rfl rfl (Nat.le_of_ble_eq_true rfl) (by decide) (c_X9_isPinned hl (M := M) (g := g) hm hb (h4 := hi4) (f := i) (by omega)) ?_
      refine s_if_eq 25 (zdk hX9_pinned 12 rfl) (by decide) (fun c18 => ?_) (fun c18 => ?_)
      · have b18 : ¬ (nI (gN g 4) < gf g i 3) := b01_eq c18
        have e1 : zpin g (i + 1) = zpin g i + nI 0 := (if_neg b18).trans (Int32.add_zero _).symm
        refine s_iconstv (v := nI 0) (zdk hX9_pinned 15 rfl) zc_iconst_0 ?_
        refine s_iadd (zdk hX9_pinned 16 rfl) ?_
        refine s_istore_n (zdk hX9_pinned 17 rfl) (Nat.le_of_ble_eq_true rfl) ?_
        refine s_ls (ls' := [some (.ref 941), some (.int ((zpin g i) + (nI 0))), some (.int (nI i))]) rfl ?_
        refine s_ls (ls' := [some (.ref 941), some (.int (zpin g (i + 1))), some (.int (nI i))]) (by rw [e1]) ?_
        refine s_iinc (r := nI (i + 1)) (zdk hX9_pinned 18 rfl) (Nat.le_of_ble_eq_true rfl) rfl (nI_1 _) ?_
        refine s_ls (ls' := [some (.ref 941), some (.int (zpin g (i + 1))), some (.int (nI (i + 1)))]) rfl ?_
        refine s_goto 4 (zdk hX9_pinned 19 rfl) (by decide) ?_
        exact ih (i + 1) (by omega) (by omega)
      · have b18 : nI (gN g 4) < gf g i 3 := b01_ne c18
        have e1 : zpin g (i + 1) = zpin g i + nI 1 := if_pos b18
        refine s_iconstv (v := nI 1) (zdk hX9_pinned 13 rfl) zc_iconst_1 ?_
        refine s_goto 26 (zdk hX9_pinned 14 rfl) (by decide) ?_
        refine s_iadd (zdk hX9_pinned 16 rfl) ?_
        refine s_istore_n (zdk hX9_pinned 17 rfl) (Nat.le_of_ble_eq_true rfl) ?_
        refine s_ls (ls' := [some (.ref 941), some (.int ((zpin g i) + (nI 1))), some (.int (nI i))]) rfl ?_
        refine s_ls (ls' := [some (.ref 941), some (.int (zpin g (i + 1))), some (.int (nI i))]) (by rw [e1]) ?_
        refine s_iinc (r := nI (i + 1)) (zdk hX9_pinned 18 rfl) (Nat.le_of_ble_eq_true rfl) rfl (nI_1 _) ?_
        refine s_ls (ls' := [some (.ref 941), some (.int (zpin g (i + 1))), some (.int (nI (i + 1)))]) rfl ?_
        refine s_goto 4 (zdk hX9_pinned 19 rfl) (by decide) ?_
        exact ih (i + 1) (by omega) (by omega)
theorem c_X9_pinned (hl : l.stackTraces = false) {M : zMem} (hm : mSh M) {g : Nat → Int64} (hb : gBd g) (hi4 : g 4 = (its g 4).toInt64) : zCm l G mX9_pinned 3 70 0 0 [.ref 941] (zsL M 942 g) (zD (some (.int (zpin g (gN g 3)))) (zsL M 942 g)) := by
  refine zCd.of (ls0 := [some (.ref 941), none, none]) (by decide +kernel) rfl hl rfl (Nat.le_of_ble_eq_true rfl) rfl ?_
  refine s_iconstv (v := nI 0) (zdk hX9_pinned 0 rfl) zc_iconst_0 ?_
  refine s_istore_n (zdk hX9_pinned 1 rfl) (Nat.le_of_ble_eq_true rfl) ?_
  refine s_ls (ls' := [some (.ref 941), some (.int (nI 0)), none]) rfl ?_
  refine s_iconstv (v := nI 0) (zdk hX9_pinned 2 rfl) zc_iconst_0 ?_
  refine s_istore_n (zdk hX9_pinned 3 rfl) (Nat.le_of_ble_eq_true rfl) ?_
  refine s_ls (ls' := [some (.ref 941), some (.int (nI 0)), some (.int (nI 0))]) rfl ?_
  exact w_X9_pinned_4 hl hm hb hi4 (gN g 3 + 1) 0 (by omega) (by omega)
theorem w_X9_sizes_4 (hl : l.stackTraces = false) {M : zMem} (hm : mSh M) {g : Nat → Int64} (hb : gBd g) : ∀ (k : Nat) (i : Nat), i ≤ gN g 2 → gN g 2 - i < k → zS l G mX9_sizes 3 70 0 0 4 [some (.ref 941), some (.int (zszT g i)), some (.int (nI i))] [] (zsL M 942 g) (zD (some (.int (zszT g (gN g 2)))) (zsL M 942 g)) := by
  intro k
  induction k with
  | zero => intros; omega
  | succ k ih =>
    intro i hi hk
    have hn := hb.2.2.1.2
    have hc := hb.1.2.2
    have ht4 := hb.2.1.2
    refine s_iload_n (zdk hX9_sizes 4 rfl) rfl ?_
    refine s_aload_n (zdk hX9_sizes 5 rfl) rfl ?_
    refine s_callV0 (ci := 9) [] (zdk hX9_sizes 6 rfl) cw_X9_154 (hm.1) (by decide) rfl rfl rfl (Nat.le_of_ble_eq_true rfl) (by decide) (c_X9_tiers hl (M := M) (g := g) hm hb) ?_
    refine s_icmp_ge 26 (zdk hX9_sizes 7 rfl) (by decide) (fun c9 => ?_) (fun c9 => ?_)
    · have n9 : gN g 2 ≤ i := nle c9 (by omega) (by omega)
      obtain rfl : i = gN g 2 := by omega
      refine s_iload_n (zdk hX9_sizes 16 rfl) rfl ?_
      refine s_ireturn (zdk hX9_sizes 17 rfl) rfl rfl ?_
      exact ⟨rfl, rfl⟩
    · have n9 : i < gN g 2 := nlt c9 (by omega) (by omega)
      refine s_iload_n (zdk hX9_sizes 8 rfl) rfl ?_
      refine s_aload_n (zdk hX9_sizes 9 rfl) rfl ?_
      refine s_iload_n (zdk hX9_sizes 10 rfl) rfl ?_
      refine s_callV0 (ci := 9) [.int (nI i)] (zdk hX9_sizes 11 rfl) cw_X9_217 (hm.1) (by decide) rfl rfl rfl (Nat.le_of_ble_eq_true rfl) (by decide) (c_X9_fullOf hl (M := M) (g := g) hm hb (nI i)) ?_
      refine s_iadd (zdk hX9_sizes 12 rfl) ?_
      refine s_istore_n (zdk hX9_sizes 13 rfl) (Nat.le_of_ble_eq_true rfl) ?_
      refine s_ls (ls' := [some (.ref 941), some (.int ((zszT g i) + (zfull g (nI i) (gN g 3)))), some (.int (nI i))]) rfl ?_
      refine s_ls (ls' := [some (.ref 941), some (.int (zszT g (i + 1))), some (.int (nI i))]) (by rw [show zszT g (i + 1) = zszT g i + zfull g (nI i) (gN g 3) from rfl]) ?_
      refine s_iinc (r := nI (i + 1)) (zdk hX9_sizes 14 rfl) (Nat.le_of_ble_eq_true rfl) rfl (nI_1 _) ?_
      refine s_ls (ls' := [some (.ref 941), some (.int (zszT g (i + 1))), some (.int (nI (i + 1)))]) rfl ?_
      refine s_goto 4 (zdk hX9_sizes 15 rfl) (by decide) ?_
      exact ih (i + 1) (by omega) (by omega)
theorem c_X9_sizes (hl : l.stackTraces = false) {M : zMem} (hm : mSh M) {g : Nat → Int64} (hb : gBd g) : zCm l G mX9_sizes 3 70 0 0 [.ref 941] (zsL M 942 g) (zD (some (.int (zszT g (gN g 2)))) (zsL M 942 g)) := by
  refine zCd.of (ls0 := [some (.ref 941), none, none]) (by decide +kernel) rfl hl rfl (Nat.le_of_ble_eq_true rfl) rfl ?_
  refine s_iconstv (v := nI 0) (zdk hX9_sizes 0 rfl) zc_iconst_0 ?_
  refine s_istore_n (zdk hX9_sizes 1 rfl) (Nat.le_of_ble_eq_true rfl) ?_
  refine s_ls (ls' := [some (.ref 941), some (.int (nI 0)), none]) rfl ?_
  refine s_iconstv (v := nI 0) (zdk hX9_sizes 2 rfl) zc_iconst_0 ?_
  refine s_istore_n (zdk hX9_sizes 3 rfl) (Nat.le_of_ble_eq_true rfl) ?_
  refine s_ls (ls' := [some (.ref 941), some (.int (nI 0)), some (.int (nI 0))]) rfl ?_
  exact w_X9_sizes_4 hl hm hb (gN g 2 + 1) 0 (by omega) (by omega)
theorem w_X9_filesOn_4 (hl : l.stackTraces = false) {M : zMem} (hm : mSh M) {g : Nat → Int64} (hb : gBd g) (x : Int32) : ∀ (k : Nat) (i : Nat), i ≤ gN g 3 → gN g 3 - i < k → zS l G mX9_filesOn 2 44 0 0 4 [some (.ref 941), some (.int (x)), some (.int (zfo g x i)), some (.int (nI i))] [] (zsL M 942 g) (zD (some (.int (zfo g x (gN g 3)))) (zsL M 942 g)) := by
  intro k
  induction k with
  | zero => intros; omega
  | succ k ih =>
    intro i hi hk
    have hn := hb.2.2.1.2
    have hc := hb.1.2.2
    have ht4 := hb.2.1.2
    refine s_iload_n (zdk hX9_filesOn 4 rfl) rfl ?_
    refine s_aload_n (zdk hX9_filesOn 5 rfl) rfl ?_
    refine s_callV0 (ci := 9) [] (zdk hX9_filesOn 6 rfl) cw_X9_180 (hm.1) (by decide) rfl rfl rfl (Nat.le_of_ble_eq_true rfl) (by decide) (c_X9_files hl (M := M) (g := g) hm hb) ?_
    refine s_icmp_ge 36 (zdk hX9_filesOn 7 rfl) (by decide) (fun c9 => ?_) (fun c9 => ?_)
    · have n9 : gN g 3 ≤ i := nle c9 (by omega) (by omega)
      obtain rfl : i = gN g 3 := by omega
      refine s_iload_n (zdk hX9_filesOn 22 rfl) rfl ?_
      refine s_ireturn (zdk hX9_filesOn 23 rfl) rfl rfl ?_
      exact ⟨rfl, rfl⟩
    · have n9 : i < gN g 3 := nlt c9 (by omega) (by omega)
      refine s_iload_n (zdk hX9_filesOn 8 rfl) rfl ?_
      refine s_aload_n (zdk hX9_filesOn 9 rfl) rfl ?_
      refine s_iload_n (zdk hX9_filesOn 10 rfl) rfl ?_
      refine s_iconstv (v := nI 1) (zdk hX9_filesOn 11 rfl) zc_iconst_1 ?_
      refine s_callV0 (ci := 9) [.int (nI i), .int (nI 1)] (zdk hX9_filesOn 12 rfl) cw_X9_211 (hm.1) (by decide) rfl rfl rfl (Nat.le_of_ble_eq_true rfl) (by decide) (c_X9_of hl (M := M) (g := g) hm (f := i) (k := 1) (by omega)) ?_
      refine s_iload_n (zdk hX9_filesOn 13 rfl) rfl ?_
      refine s_icmp_ne 27 (zdk hX9_filesOn 14 rfl) (by decide) (fun c20 => ?_) (fun c20 => ?_)
      · have e1 : zfo g x (i + 1) = zfo g x i + nI 0 := (if_neg c20).trans (Int32.add_zero _).symm
        refine s_iconstv (v := nI 0) (zdk hX9_filesOn 17 rfl) zc_iconst_0 ?_
        refine s_iadd (zdk hX9_filesOn 18 rfl) ?_
        refine s_istore_n (zdk hX9_filesOn 19 rfl) (Nat.le_of_ble_eq_true rfl) ?_
        refine s_ls (ls' := [some (.ref 941), some (.int (x)), some (.int ((zfo g x i) + (nI 0))), some (.int (nI i))]) rfl ?_
        refine s_ls (ls' := [some (.ref 941), some (.int (x)), some (.int (zfo g x (i + 1))), some (.int (nI i))]) (by rw [e1]) ?_
        refine s_iinc (r := nI (i + 1)) (zdk hX9_filesOn 20 rfl) (Nat.le_of_ble_eq_true rfl) rfl (nI_1 _) ?_
        refine s_ls (ls' := [some (.ref 941), some (.int (x)), some (.int (zfo g x (i + 1))), some (.int (nI (i + 1)))]) rfl ?_
        refine s_goto 4 (zdk hX9_filesOn 21 rfl) (by decide) ?_
        exact ih (i + 1) (by omega) (by omega)
      · have e1 : zfo g x (i + 1) = zfo g x i + nI 1 := if_pos c20
        refine s_iconstv (v := nI 1) (zdk hX9_filesOn 15 rfl) zc_iconst_1 ?_
        refine s_goto 28 (zdk hX9_filesOn 16 rfl) (by decide) ?_
        refine s_iadd (zdk hX9_filesOn 18 rfl) ?_
        refine s_istore_n (zdk hX9_filesOn 19 rfl) (Nat.le_of_ble_eq_true rfl) ?_
        refine s_ls (ls' := [some (.ref 941), some (.int (x)), some (.int ((zfo g x i) + (nI 1))), some (.int (nI i))]) rfl ?_
        refine s_ls (ls' := [some (.ref 941), some (.int (x)), some (.int (zfo g x (i + 1))), some (.int (nI i))]) (by rw [e1]) ?_
        refine s_iinc (r := nI (i + 1)) (zdk hX9_filesOn 20 rfl) (Nat.le_of_ble_eq_true rfl) rfl (nI_1 _) ?_
        refine s_ls (ls' := [some (.ref 941), some (.int (x)), some (.int (zfo g x (i + 1))), some (.int (nI (i + 1)))]) rfl ?_
        refine s_goto 4 (zdk hX9_filesOn 21 rfl) (by decide) ?_
        exact ih (i + 1) (by omega) (by omega)
theorem c_X9_filesOn (hl : l.stackTraces = false) {M : zMem} (hm : mSh M) {g : Nat → Int64} (hb : gBd g) (x : Int32) : zCm l G mX9_filesOn 2 44 0 0 [.ref 941, .int (x)] (zsL M 942 g) (zD (some (.int (zfo g x (gN g 3)))) (zsL M 942 g)) := by
  refine zCd.of (ls0 := [some (.ref 941), some (.int (x)), none, none]) (by decide +kernel) rfl hl rfl (Nat.le_of_ble_eq_true rfl) rfl ?_
  refine s_iconstv (v := nI 0) (zdk hX9_filesOn 0 rfl) zc_iconst_0 ?_
  refine s_istore_n (zdk hX9_filesOn 1 rfl) (Nat.le_of_ble_eq_true rfl) ?_
  refine s_ls (ls' := [some (.ref 941), some (.int (x)), some (.int (nI 0)), none]) rfl ?_
  refine s_iconstv (v := nI 0) (zdk hX9_filesOn 2 rfl) zc_iconst_0 ?_
  refine s_istore_n (zdk hX9_filesOn 3 rfl) (Nat.le_of_ble_eq_true rfl) ?_
  refine s_ls (ls' := [some (.ref 941), some (.int (x)), some (.int (nI 0)), some (.int (nI 0))]) rfl ?_
  exact w_X9_filesOn_4 hl hm hb x (gN g 3 + 1) 0 (by omega) (by omega)
theorem w_X9_busiest_4 (hl : l.stackTraces = false) {M : zMem} (hm : mSh M) {g : Nat → Int64} (hb : gBd g) (x : Int32) : ∀ (k : Nat) (i : Nat), i ≤ gN g 3 → gN g 3 - i < k → zS l G mX9_busiest 4 100 0 0 4 [some (.ref 941), some (.int (x)), some (.int (zbu g x i)), some (.int (nI i))] [] (zsL M 942 g) (zD (some (.int (zbu g x (gN g 3)))) (zsL M 942 g)) := by
  intro k
  induction k with
  | zero => intros; omega
  | succ k ih =>
    intro i hi hk
    have hn := hb.2.2.1.2
    have hc := hb.1.2.2
    have ht4 := hb.2.1.2
    refine s_iload_n (zdk hX9_busiest 4 rfl) rfl ?_
    refine s_aload_n (zdk hX9_busiest 5 rfl) rfl ?_
    refine s_callV0 (ci := 9) [] (zdk hX9_busiest 6 rfl) cw_X9_180 (hm.1) (by decide) rfl rfl rfl (Nat.le_of_ble_eq_true rfl) (by decide) (c_X9_files hl (M := M) (g := g) hm hb) ?_
    refine s_icmp_ge 50 (zdk hX9_busiest 7 rfl) (by decide) (fun c9 => ?_) (fun c9 => ?_)
    · have n9 : gN g 3 ≤ i := nle c9 (by omega) (by omega)
      obtain rfl : i = gN g 3 := by omega
      refine s_iload_n (zdk hX9_busiest 30 rfl) rfl ?_
      refine s_ireturn (zdk hX9_busiest 31 rfl) rfl rfl ?_
      exact ⟨rfl, rfl⟩
    · have n9 : i < gN g 3 := nlt c9 (by omega) (by omega)
      refine s_aload_n (zdk hX9_busiest 8 rfl) rfl ?_
      refine s_iload_n (zdk hX9_busiest 9 rfl) rfl ?_
      refine s_iconstv (v := nI 1) (zdk hX9_busiest 10 rfl) zc_iconst_1 ?_
      refine s_callV0 (ci := 9) [.int (nI i), .int (nI 1)] (zdk hX9_busiest 11 rfl) cw_X9_211 (hm.1) (by decide) rfl rfl rfl (Nat.le_of_ble_eq_true rfl) (by decide) (c_X9_of hl (M := M) (g := g) hm (f := i) (k := 1) (by omega)) ?_
      refine s_iload_n (zdk hX9_busiest 12 rfl) rfl ?_
      refine s_icmp_ne 44 (zdk hX9_busiest 13 rfl) (by decide) (fun c19 => ?_) (fun c19 => ?_)
      · have e1 : zbu g x (i + 1) = zbu g x i := if_neg (fun q => c19 q.1)
        refine s_ls (ls' := [some (.ref 941), some (.int (x)), some (.int (zbu g x (i + 1))), some (.int (nI i))]) (by rw [e1]) ?_
        refine s_iinc (r := nI (i + 1)) (zdk hX9_busiest 28 rfl) (Nat.le_of_ble_eq_true rfl) rfl (nI_1 _) ?_
        refine s_ls (ls' := [some (.ref 941), some (.int (x)), some (.int (zbu g x (i + 1))), some (.int (nI (i + 1)))]) rfl ?_
        refine s_goto 4 (zdk hX9_busiest 29 rfl) (by decide) ?_
        exact ih (i + 1) (by omega) (by omega)
      · refine s_iload_n (zdk hX9_busiest 14 rfl) rfl ?_
        refine s_iconstv (v := (-1)) (zdk hX9_busiest 15 rfl) zc_iconst_m1 ?_
        refine s_icmp_eq 42 (zdk hX9_busiest 16 rfl) (by decide) (fun c25 => ?_) (fun c25 => ?_)
        · have e1 : zbu g x (i + 1) = nI i := if_pos ⟨c19, Or.inl c25⟩
          refine s_iload_n (zdk hX9_busiest 26 rfl) rfl ?_
          refine s_istore_n (zdk hX9_busiest 27 rfl) (Nat.le_of_ble_eq_true rfl) ?_
          refine s_ls (ls' := [some (.ref 941), some (.int (x)), some (.int (nI i)), some (.int (nI i))]) rfl ?_
          refine s_ls (ls' := [some (.ref 941), some (.int (x)), some (.int (zbu g x (i + 1))), some (.int (nI i))]) (by rw [e1]) ?_
          refine s_iinc (r := nI (i + 1)) (zdk hX9_busiest 28 rfl) (Nat.le_of_ble_eq_true rfl) rfl (nI_1 _) ?_
          refine s_ls (ls' := [some (.ref 941), some (.int (x)), some (.int (zbu g x (i + 1))), some (.int (nI (i + 1)))]) rfl ?_
          refine s_goto 4 (zdk hX9_busiest 29 rfl) (by decide) ?_
          exact ih (i + 1) (by omega) (by omega)
        · obtain ⟨j, hj, ej⟩ := (zbu_at g x i).resolve_left c25
          refine s_ls (ls' := [some (.ref 941), some (.int x), some (.int (nI j)), some (.int (nI i))]) (by rw [ej]) ?_
          refine s_aload_n (zdk hX9_busiest 17 rfl) rfl ?_
          refine s_iload_n (zdk hX9_busiest 18 rfl) rfl ?_
          refine s_iconstv (v := nI 0) (zdk hX9_busiest 19 rfl) zc_iconst_0 ?_
          refine s_callV0 (ci := 9) [.int (nI i), .int (nI 0)] (zdk hX9_busiest 20 rfl) cw_X9_242 (hm.1) (by decide) rfl rfl rfl (Nat.le_of_ble_eq_true rfl) (by decide) (c_X9_forecastOf hl (M := M) (g := g) hm hb (f := i) (by omega) (a := 0) (by omega)) ?_
          refine s_aload_n (zdk hX9_busiest 21 rfl) rfl ?_
          refine s_iload_n (zdk hX9_busiest 22 rfl) rfl ?_
          refine s_iconstv (v := nI 0) (zdk hX9_busiest 23 rfl) zc_iconst_0 ?_
          refine s_callV0 (ci := 9) [.int (nI j), .int (nI 0)] (zdk hX9_busiest 24 rfl) cw_X9_242 (hm.1) (by decide) rfl rfl rfl (Nat.le_of_ble_eq_true rfl) (by decide) (c_X9_forecastOf hl (M := M) (g := g) hm hb (f := j) (by omega) (a := 0) (by omega)) ?_
          refine s_icmp_le 44 (zdk hX9_busiest 25 rfl) (by decide) (fun c39 => ?_) (fun c39 => ?_)
          · have e1 : zbu g x (i + 1) = nI j := (if_neg (fun q => by rcases q.2 with q | q; exact c25 q; rw [ej, nI_clamp (by omega)] at q; exact q c39)).trans ej
            refine s_ls (ls' := [some (.ref 941), some (.int (x)), some (.int (zbu g x (i + 1))), some (.int (nI i))]) (by rw [e1]) ?_
            refine s_iinc (r := nI (i + 1)) (zdk hX9_busiest 28 rfl) (Nat.le_of_ble_eq_true rfl) rfl (nI_1 _) ?_
            refine s_ls (ls' := [some (.ref 941), some (.int (x)), some (.int (zbu g x (i + 1))), some (.int (nI (i + 1)))]) rfl ?_
            refine s_goto 4 (zdk hX9_busiest 29 rfl) (by decide) ?_
            exact ih (i + 1) (by omega) (by omega)
          · have e1 : zbu g x (i + 1) = nI i := if_pos ⟨c19, Or.inr (by rw [ej, nI_clamp (by omega)]; exact c39)⟩
            refine s_iload_n (zdk hX9_busiest 26 rfl) rfl ?_
            refine s_istore_n (zdk hX9_busiest 27 rfl) (Nat.le_of_ble_eq_true rfl) ?_
            refine s_ls (ls' := [some (.ref 941), some (.int (x)), some (.int (nI i)), some (.int (nI i))]) rfl ?_
            refine s_ls (ls' := [some (.ref 941), some (.int (x)), some (.int (zbu g x (i + 1))), some (.int (nI i))]) (by rw [e1]) ?_
            refine s_iinc (r := nI (i + 1)) (zdk hX9_busiest 28 rfl) (Nat.le_of_ble_eq_true rfl) rfl (nI_1 _) ?_
            refine s_ls (ls' := [some (.ref 941), some (.int (x)), some (.int (zbu g x (i + 1))), some (.int (nI (i + 1)))]) rfl ?_
            refine s_goto 4 (zdk hX9_busiest 29 rfl) (by decide) ?_
            exact ih (i + 1) (by omega) (by omega)
theorem c_X9_busiest (hl : l.stackTraces = false) {M : zMem} (hm : mSh M) {g : Nat → Int64} (hb : gBd g) (x : Int32) : zCm l G mX9_busiest 4 100 0 0 [.ref 941, .int (x)] (zsL M 942 g) (zD (some (.int (zbu g x (gN g 3)))) (zsL M 942 g)) := by
  refine zCd.of (ls0 := [some (.ref 941), some (.int (x)), none, none]) (by decide +kernel) rfl hl rfl (Nat.le_of_ble_eq_true rfl) rfl ?_
  refine s_iconstv (v := (-1)) (zdk hX9_busiest 0 rfl) zc_iconst_m1 ?_
  refine s_istore_n (zdk hX9_busiest 1 rfl) (Nat.le_of_ble_eq_true rfl) ?_
  refine s_ls (ls' := [some (.ref 941), some (.int (x)), some (.int ((-1))), none]) rfl ?_
  refine s_iconstv (v := nI 0) (zdk hX9_busiest 2 rfl) zc_iconst_0 ?_
  refine s_istore_n (zdk hX9_busiest 3 rfl) (Nat.le_of_ble_eq_true rfl) ?_
  refine s_ls (ls' := [some (.ref 941), some (.int (x)), some (.int ((-1))), some (.int (nI 0))]) rfl ?_
  exact w_X9_busiest_4 hl hm hb x (gN g 3 + 1) 0 (by omega) (by omega)
theorem w_X9_copies_3 (hl : l.stackTraces = false) {M : zMem} {A B p q NA NB : Nat} (hA : zK M A = 12) (hB : zK M B = 12) (hAn : zN M A = NA) (hBn : zN M B = NB) (hne : B ≠ A) (hp : p + 1390 ≤ NA) (hq : q + 1390 ≤ NB) (hA9 : NA < 100000) (hB9 : NB < 100000) : ∀ (k : Nat) (i : Nat), i ≤ 1390 → 1390 - i < k → zS l G mX9_copies 0 0 0 0 3 [some (.ref A), some (.int (nI p)), some (.ref B), some (.int (nI q)), some (.int (nI i))] [] (zsL M A (va_cpy (zJ M B) (zJ M A) q p i)) (zD none (zsL M A (va_cpy (zJ M B) (zJ M A) q p 1390))) := by
  intro k
  induction k with
  | zero => intros; omega
  | succ k ih =>
    intro i hi hk
    refine s_iload (zdk hX9_copies 2 rfl) rfl ?_
    refine s_sipushv (v := nI 1390) (zdk hX9_copies 3 rfl) zc_sipush_1390 ?_
    refine s_icmp_ge 29 (zdk hX9_copies 4 rfl) (by decide) (fun c8 => ?_) (fun c8 => ?_)
    · have n8 : 1390 ≤ i := nle c8 (by omega) (by omega)
      obtain rfl : i = 1390 := by omega
      refine s_return (zdk hX9_copies 17 rfl) rfl ?_
      exact ⟨rfl, rfl⟩
    · have n8 : i < 1390 := nlt c8 (by omega) (by omega)
      refine s_aload_n (zdk hX9_copies 5 rfl) rfl ?_
      refine s_iload_n (zdk hX9_copies 6 rfl) rfl ?_
      refine s_iload (zdk hX9_copies 7 rfl) rfl ?_
      refine s_iadd (zdk hX9_copies 8 rfl) ?_
      refine s_topi (b := nI (p + i)) (nI_add _ _) ?_
      refine s_aload_n (zdk hX9_copies 9 rfl) rfl ?_
      refine s_iload_n (zdk hX9_copies 10 rfl) rfl ?_
      refine s_iload (zdk hX9_copies 11 rfl) rfl ?_
      refine s_iadd (zdk hX9_copies 12 rfl) ?_
      refine s_topi (b := nI (q + i)) (nI_add _ _) ?_
      refine s_laloadN (N := NB) (j := q + i) (zdk hX9_copies 13 rfl) (hB) (hBn) (by omega) (by omega) ?_
      refine s_topl (b := zJ M B (q + i)) (congrFun (zJ_Ln hne) _) ?_
      refine s_lastoreN (N := NA) (j := p + i) (zdk hX9_copies 14 rfl) (hA) (hAn) (by omega) (by omega) ?_
      refine s_mem (M' := (zsL M A (va_cpy (zJ M B) (zJ M A) q p (i + 1)))) ((zsL_1 _ _ _ _ _).trans (zsL_g (cpL_1 _ _ _ _ _))) ?_
      refine s_iinc (r := nI (i + 1)) (zdk hX9_copies 15 rfl) (Nat.le_of_ble_eq_true rfl) rfl (nI_1 _) ?_
      refine s_ls (ls' := [some (.ref A), some (.int (nI p)), some (.ref B), some (.int (nI q)), some (.int (nI (i + 1)))]) rfl ?_
      refine s_goto 3 (zdk hX9_copies 16 rfl) (by decide) ?_
      exact ih (i + 1) (by omega) (by omega)
theorem c_X9_copies (hl : l.stackTraces = false)  {M : zMem} {A B p q NA NB : Nat} (hA : zK M A = 12) (hB : zK M B = 12) (hAn : zN M A = NA) (hBn : zN M B = NB) (hne : B ≠ A) (hp : p + 1390 ≤ NA) (hq : q + 1390 ≤ NB) (hA9 : NA < 100000) (hB9 : NB < 100000) : zCm l G mX9_copies 0 0 0 0 [.ref A, .int (nI p), .ref B, .int (nI q)] M (zD none (zsL M A (va_cpy (zJ M B) (zJ M A) q p 1390))) := by
  refine zCd.of (ls0 := [some (.ref A), some (.int (nI p)), some (.ref B), some (.int (nI q)), none]) (by decide +kernel) rfl hl rfl (Nat.le_of_ble_eq_true rfl) rfl ?_
  refine s_iconstv (v := nI 0) (zdk hX9_copies 0 rfl) zc_iconst_0 ?_
  refine s_istore (zdk hX9_copies 1 rfl) (Nat.le_of_ble_eq_true rfl) ?_
  refine s_ls (ls' := [some (.ref A), some (.int (nI p)), some (.ref B), some (.int (nI q)), some (.int (nI 0))]) rfl ?_
  have h := w_X9_copies_3 (l := l) (G := G) hl hA hB hAn hBn hne hp hq hA9 hB9 1391 0 (by omega) (by omega)
  rw [cpL_0, zsL_id] at h
  exact h
theorem w_X9_keeps_11 (hl : l.stackTraces = false) {M : zMem} (hm : mSh M) {r : Nat} (hr : zK M r = 12) (hrn : zN M r = 1390) (hr4 : r ≠ 944) (hc : zI M 941 5 = nI 8) : ∀ (k : Nat) (i : Nat), i ≤ 9730 → 9730 - i < k → zS l G mX9_keeps 1 30 0 0 11 [some (.ref 941), some (.ref r), some (.int (nI i))] [] (zsL M 944 (kSh (zJ M 944) i)) (zD none (zsL (zsI M 941 5 (nI 8)) 944 (va_cpy (zJ M r) (kSh (zJ M 944) 9730) 0 (1390 * 7) 1390))) := by
  intro k
  induction k with
  | zero => intros; omega
  | succ k ih =>
    intro i hi hk
    refine s_iload_n (zdk hX9_keeps 6 rfl) rfl ?_
    refine s_sipushv (v := nI 9730) (zdk hX9_keeps 7 rfl) zc_sipush_9730 ?_
    refine s_icmp_ge 40 (zdk hX9_keeps 8 rfl) (by decide) (fun c15 => ?_) (fun c15 => ?_)
    · have n15 : 9730 ≤ i := nle c15 (by omega) (by omega)
      obtain rfl : i = 9730 := by omega
      refine s_aload_n (zdk hX9_keeps 21 rfl) rfl ?_
      refine s_dupr (zdk hX9_keeps 22 rfl) ?_
      refine s_getI (zdk hX9_keeps 23 rfl) fw_X9_72 rfl (hm.1) ?_
      refine s_topi (b := nI 8) (hc) ?_
      refine s_iconstv (v := nI 1) (zdk hX9_keeps 24 rfl) zc_iconst_1 ?_
      refine s_isub (zdk hX9_keeps 25 rfl) ?_
      refine s_topi (b := nI (8 - 1)) (pk_sub (by omega)) ?_
      refine s_putI (zdk hX9_keeps 26 rfl) fw_X9_72 rfl pw_9_5 (hm.1) ?_
      refine s_aload_n (zdk hX9_keeps 27 rfl) rfl ?_
      refine s_getR (zdk hX9_keeps 28 rfl) fw_X9_16 rfl (hm.1) ((hm.r (i := 2) rfl).1) ?_
      refine s_sipushv (v := nI 1390) (zdk hX9_keeps 29 rfl) zc_sipush_1390 ?_
      refine s_aload_n (zdk hX9_keeps 30 rfl) rfl ?_
      refine s_getI (zdk hX9_keeps 31 rfl) fw_X9_72 rfl (hm.1) ?_
      refine s_topi (b := nI 7) ((congrFun (zI_Ie (M := (zsL M 944 (kSh (zJ M 944) 9730))) (a := 941) (k := 5) (v := nI 7)) 5).trans zw1_e) ?_
      refine s_imul (zdk hX9_keeps 32 rfl) ?_
      refine s_topi (b := nI (1390 * 7)) (pk_mul _ _) ?_
      refine s_aload_n (zdk hX9_keeps 33 rfl) rfl ?_
      refine s_iconstv (v := nI 0) (zdk hX9_keeps 34 rfl) zc_iconst_0 ?_
      refine s_callS0 [.ref 944, .int (nI (1390 * 7)), .ref r, .int (nI 0)] (zdk hX9_keeps 35 rfl) cw_X9_75 rfl (Nat.le_of_ble_eq_true rfl) (by decide) (c_X9_copies hl (M := (zsI (zsL M 944 (kSh (zJ M 944) 9730)) 941 5 (nI 7))) (A := 944) (B := r) (p := 1390 * 7) (q := 0) (NA := 11120) (NB := 1390) (hm.r (i := 2) rfl).2.1 hr (hm.r (i := 2) rfl).2.2 hrn hr4 (by omega) (by omega) (by omega) (by omega)) ?_
      refine s_aload_n (zdk hX9_keeps 36 rfl) rfl ?_
      refine s_dupr (zdk hX9_keeps 37 rfl) ?_
      refine s_getI (zdk hX9_keeps 38 rfl) fw_X9_72 rfl (hm.1) ?_
      refine s_topi (b := nI 7) ((congrFun (zI_Ie (M := (zsL M 944 (kSh (zJ M 944) 9730))) (a := 941) (k := 5) (v := nI 7)) 5).trans zw1_e) ?_
      refine s_iconstv (v := nI 1) (zdk hX9_keeps 39 rfl) zc_iconst_1 ?_
      refine s_iadd (zdk hX9_keeps 40 rfl) ?_
      refine s_topi (b := nI (7 + 1)) (nI_add _ _) ?_
      refine s_putI (zdk hX9_keeps 41 rfl) fw_X9_72 rfl pw_9_5 (hm.1) ?_
      refine s_return (zdk hX9_keeps 42 rfl) rfl ?_
      refine ⟨rfl, ?_⟩
      rw [show zJ (zsI (zsL M 944 (kSh (zJ M 944) 9730)) 941 5 (nI 7)) r = zJ M r from zJ_Ln hr4, show zJ (zsI (zsL M 944 (kSh (zJ M 944) 9730)) 941 5 (nI 7)) 944 = kSh (zJ M 944) 9730 from zJ_Le]
      exact (congrArg (fun q => zsI q 941 5 (nI 8)) (zsL_zsL (zsI M 941 5 (nI 7)) 944 _ _)).trans (congrArg (fun q => zsL q 944 _) zsI_zsI)
    · have n15 : i < 9730 := nlt c15 (by omega) (by omega)
      refine s_aload_n (zdk hX9_keeps 9 rfl) rfl ?_
      refine s_getR (zdk hX9_keeps 10 rfl) fw_X9_16 rfl (hm.1) ((hm.r (i := 2) rfl).1) ?_
      refine s_iload_n (zdk hX9_keeps 11 rfl) rfl ?_
      refine s_aload_n (zdk hX9_keeps 12 rfl) rfl ?_
      refine s_getR (zdk hX9_keeps 13 rfl) fw_X9_16 rfl (hm.1) ((hm.r (i := 2) rfl).1) ?_
      refine s_iload_n (zdk hX9_keeps 14 rfl) rfl ?_
      refine s_sipushv (v := nI 1390) (zdk hX9_keeps 15 rfl) zc_sipush_1390 ?_
      refine s_iadd (zdk hX9_keeps 16 rfl) ?_
      refine s_topi (b := nI (i + 1390)) (nI_add _ _) ?_
      refine s_laloadN (N := 11120) (j := i + 1390) (zdk hX9_keeps 17 rfl) ((hm.r (i := 2) rfl).2.1) ((hm.r (i := 2) rfl).2.2) (by omega) (by decide) ?_
      refine s_topl (b := zJ M 944 (i + 1390)) ((congrFun zJ_Le _).trans (kSh_u _ _ _ (by omega))) ?_
      refine s_lastoreN (N := 11120) (j := i) (zdk hX9_keeps 18 rfl) ((hm.r (i := 2) rfl).2.1) ((hm.r (i := 2) rfl).2.2) (by omega) (by decide) ?_
      refine s_mem (M' := (zsL M 944 (kSh (zJ M 944) (i + 1)))) ((zsL_1 _ _ _ _ _).trans (zsL_g (kSh_1 _ _))) ?_
      refine s_iinc (r := nI (i + 1)) (zdk hX9_keeps 19 rfl) (Nat.le_of_ble_eq_true rfl) rfl (nI_1 _) ?_
      refine s_ls (ls' := [some (.ref 941), some (.ref r), some (.int (nI (i + 1)))]) rfl ?_
      refine s_goto 11 (zdk hX9_keeps 20 rfl) (by decide) ?_
      exact ih (i + 1) (by omega) (by omega)
theorem c_X9_keeps (hl : l.stackTraces = false)  {M : zMem} (hm : mSh M) {r : Nat} (hr : zK M r = 12) (hrn : zN M r = 1390) (hr4 : r ≠ 944) {c : Nat} (hc : zI M 941 5 = nI c) (hc8 : c ≤ 8) : zCm l G mX9_keeps 1 30 0 0 [.ref 941, .ref r] M (zD none (zsL (zsI M 941 5 (nI (min 8 (c + 1)))) 944 (kQ c (zJ M 944) (zJ M r)))) := by
  refine zCd.of (ls0 := [some (.ref 941), some (.ref r), none]) (by decide +kernel) rfl hl rfl (Nat.le_of_ble_eq_true rfl) rfl ?_
  refine s_aload_n (zdk hX9_keeps 0 rfl) rfl ?_
  refine s_getI (zdk hX9_keeps 1 rfl) fw_X9_72 rfl (hm.1) ?_
  refine s_topi (b := nI c) (hc) ?_
  refine s_bipushv (v := nI 8) (zdk hX9_keeps 2 rfl) zc_bipush_8 ?_
  refine s_icmp_ne 50 (zdk hX9_keeps 3 rfl) (by decide) (fun c6 => ?_) (fun c6 => ?_)
  · have n6 : ¬ c = 8 := nne c6
    have hc8 : c < 8 := by omega
    refine s_aload_n (zdk hX9_keeps 27 rfl) rfl ?_
    refine s_getR (zdk hX9_keeps 28 rfl) fw_X9_16 rfl (hm.1) ((hm.r (i := 2) rfl).1) ?_
    refine s_sipushv (v := nI 1390) (zdk hX9_keeps 29 rfl) zc_sipush_1390 ?_
    refine s_aload_n (zdk hX9_keeps 30 rfl) rfl ?_
    refine s_getI (zdk hX9_keeps 31 rfl) fw_X9_72 rfl (hm.1) ?_
    refine s_topi (b := nI c) (hc) ?_
    refine s_imul (zdk hX9_keeps 32 rfl) ?_
    refine s_topi (b := nI (1390 * c)) (pk_mul _ _) ?_
    refine s_aload_n (zdk hX9_keeps 33 rfl) rfl ?_
    refine s_iconstv (v := nI 0) (zdk hX9_keeps 34 rfl) zc_iconst_0 ?_
    refine s_callS0 [.ref 944, .int (nI (1390 * c)), .ref r, .int (nI 0)] (zdk hX9_keeps 35 rfl) cw_X9_75 rfl (Nat.le_of_ble_eq_true rfl) (by decide) (c_X9_copies hl (M := M) (A := 944) (B := r) (p := 1390 * c) (q := 0) (NA := 11120) (NB := 1390) (hm.r (i := 2) rfl).2.1 hr (hm.r (i := 2) rfl).2.2 hrn hr4 (by omega) (by omega) (by omega) (by omega)) ?_
    refine s_aload_n (zdk hX9_keeps 36 rfl) rfl ?_
    refine s_dupr (zdk hX9_keeps 37 rfl) ?_
    refine s_getI (zdk hX9_keeps 38 rfl) fw_X9_72 rfl (hm.1) ?_
    refine s_topi (b := nI c) (hc) ?_
    refine s_iconstv (v := nI 1) (zdk hX9_keeps 39 rfl) zc_iconst_1 ?_
    refine s_iadd (zdk hX9_keeps 40 rfl) ?_
    refine s_topi (b := nI (c + 1)) (nI_add _ _) ?_
    refine s_putI (zdk hX9_keeps 41 rfl) fw_X9_72 rfl pw_9_5 (hm.1) ?_
    refine s_return (zdk hX9_keeps 42 rfl) rfl ?_
    refine ⟨rfl, ?_⟩
    rw [show min 8 (c + 1) = c + 1 by omega, kQ, if_neg (show ¬ c = 8 by omega)]
    rfl
  · have n6 : c = 8 := neq c6 (by omega) (by omega)
    subst n6
    refine s_iconstv (v := nI 0) (zdk hX9_keeps 4 rfl) zc_iconst_0 ?_
    refine s_istore_n (zdk hX9_keeps 5 rfl) (Nat.le_of_ble_eq_true rfl) ?_
    refine s_ls (ls' := [some (.ref 941), some (.ref r), some (.int (nI 0))]) rfl ?_
    have h := w_X9_keeps_11 (l := l) (G := G) hl hm hr hrn hr4 hc 9731 0 (by omega) (by omega)
    rw [kSh_0, zsL_id] at h
    exact h
theorem c_X9_keepsA (hl : l.stackTraces = false) {M : zMem} (hm : mSh M) {g : Nat → Int64} {c : Nat} (hc : zI M 941 5 = nI c) (hc8 : c ≤ 8) : zCm l G mX9_keeps 1 30 0 0 [.ref 941, .ref 942] (zsL M 942 g) (zD none (zsL (zsL (zsI M 941 5 (nI (min 8 (c + 1)))) 944 (kQ c (zJ M 944) g)) 942 g)) := by
  have h := c_X9_keeps (l := l) (G := G) hl (M := zsL M 942 g) hm (r := 942) (hm.r (i := 0) rfl).2.1 (hm.r (i := 0) rfl).2.2 (by decide) hc hc8
  rw [zJ_Le, show zJ (zsL M 942 g) 944 = zJ M 944 from zJ_Ln (by decide)] at h
  rw [zsL_c (show (944 : Nat) ≠ 942 by decide)]
  exact h
end
