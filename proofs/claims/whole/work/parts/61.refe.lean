theorem zc_sipush_1078 : (Int16.ofInt 1078).toInt32 = nI 1078 := by decide
theorem zc_sipush_1373 : (Int16.ofInt 1373).toInt32 = nI 1373 := by decide
theorem zc_sipush_1378 : (Int16.ofInt 1378).toInt32 = nI 1378 := by decide
/-! ===== the reference: its changes of one file, its moves ===== -/
def oZeN (g : Nat → Int64) (f n : Nat) : Nat → Int64 := fun k => if 58 + 51 * f ≤ k ∧ k < 58 + 51 * f + n then lN 0 else g k
theorem oZeN_1 {g : Nat → Int64} {f i E : Nat} (hE : 58 + 51 * f + i = E) : zwL (oZeN g f i) E (lN 0) = oZeN g f (i + 1) := by
  subst hE
  funext k
  unfold zwL oZeN
  by_cases q : k = 58 + 51 * f + i
  · rw [if_pos q, if_pos (by omega)]
  · rw [if_neg q]
    by_cases q2 : 58 + 51 * f ≤ k ∧ k < 58 + 51 * f + i
    · rw [if_pos q2, if_pos (by omega)]
    · rw [if_neg q2, if_neg (by omega)]
theorem oZeN_0 {g : Nat → Int64} {f : Nat} : oZeN g f 0 = g := by funext k; unfold oZeN; rw [if_neg (by omega)]
def oB0 (g : Nat → Int64) (f : Nat) : Nat → Int64 := oFoN (oZeN g f 51) f 12
def zAll (g : Nat → Int64) (n : Nat) : Nat → Int64 := fun k => if k < n then lN 0 else g k
theorem zAll_1 {g : Nat → Int64} {i : Nat} : zwL (zAll g i) i (lN 0) = zAll g (i + 1) := by
  funext k
  unfold zwL zAll
  by_cases q : k = i
  · rw [if_pos q, if_pos (by omega)]
  · rw [if_neg q]
    by_cases q2 : k < i
    · rw [if_pos q2, if_pos (by omega)]
    · rw [if_neg q2, if_neg (by omega)]
theorem zAll_0 {g : Nat → Int64} : zAll g 0 = g := by funext k; unfold zAll; rw [if_neg (by omega)]
def oBeg (g : Nat → Int64) : Nat → Int64 := zwL (zAll g 1390) 1 (lN 4)
/-- the places of ints hold ints -/
def gIp (g : Nat → Int64) : Prop := ∀ k, k < 1378 → (∀ f, f < 20 → k ≠ 58 + 51 * f + 50) → g k = (its g k).toInt64
theorem gIp.h {g : Nat → Int64} (h : gIp g) {k : Nat} (hk : k < 58) : g k = (its g k).toInt64 := h k (by omega) (fun f _ => by omega)
theorem inc64 {n : Nat} (h : n < 100000) : (nI n).toInt64 + lN 1 = (nI (n + 1)).toInt64 := by rw [nI_l (by omega), nI_l (by omega), lN_add]
theorem dec64 {n : Nat} (h : n < 100000) (h0 : 0 < n) : (nI n).toInt64 - lN 1 = (nI (n - 1)).toInt64 := by rw [nI_l (by omega), nI_l (by omega), lN_sub (by omega)]
def oShW (g : Nat → Int64) (i : Nat) : Nat → Int64 := fun k => if 1078 ≤ k ∧ k < i then g (k + 5) else g k
theorem oShW_1 {g : Nat → Int64} {i : Nat} (h : 1078 ≤ i) : zwL (oShW g i) i (g (i + 5)) = oShW g (i + 1) := by
  funext k
  unfold zwL oShW
  by_cases q : k = i
  · rw [if_pos q, if_pos (by omega), q]
  · rw [if_neg q]
    by_cases q2 : 1078 ≤ k ∧ k < i
    · rw [if_pos q2, if_pos (by omega)]
    · rw [if_neg q2, if_neg (by omega)]
theorem oShW_0 {g : Nat → Int64} : oShW g 1078 = g := by funext k; unfold oShW; rw [if_neg (by omega)]
theorem oShW_u {g : Nat → Int64} {i k : Nat} (h : i ≤ k) : oShW g i k = g k := if_neg (by omega)
theorem lcmp60 {g : Nat → Int64} {n : Nat} (h5 : g 5 = (its g 5).toInt64) (h : its g 5 = nI n) (hn : n < 100000) (m : Nat) (hm : m < 100000) : lg_cmp (g 5) (nI m).toInt64 = 0 ↔ n = m := by
  rw [h5, h]
  constructor
  · intro q
    have q1 := lcmp0 q
    rw [nI_l (by omega), nI_l (by omega)] at q1
    exact (lN_eq (by omega) (by omega)).mp q1
  · intro q
    rw [q]
    unfold lg_cmp
    rw [if_neg (fun z => by rw [gt_iff_lt, Int64.lt_iff_toInt_lt] at z; omega), if_pos rfl]
theorem rd5 {g : Nat → Int64} {t : Nat} {v a b c d e : Int64} (h : 5 < t) : zwL (zwL (zwL (zwL (zwL (zwL g 5 v) t a) (t + 1) b) (t + 2) c) (t + 3) d) (t + 4) e 5 = v := by
  rw [zwL_n (by omega), zwL_n (by omega), zwL_n (by omega), zwL_n (by omega), zwL_n (by omega), zwL_e]
theorem rd5' {g g0 : Nat → Int64} {t n : Nat} {a b c d e : Int64} (e5 : g 5 = g0 5) (hp : g0 5 = (its g0 5).toInt64) (hn : its g0 5 = nI n) (h : 5 < t) : zwL (zwL (zwL (zwL (zwL g t a) (t + 1) b) (t + 2) c) (t + 3) d) (t + 4) e 5 = (nI n).toInt64 := by
  rw [zwL_n (by omega), zwL_n (by omega), zwL_n (by omega), zwL_n (by omega), zwL_n (by omega), e5, hp, hn]
section
variable {l : Launch} {G : zG}
theorem c_X9_puts (hl : l.stackTraces = false) {M : zMem} (hm : mSh M) {g : Nat → Int64} {t : Nat} (ht : t + 4 < 1390) (v0 v1 v2 v3 v4 : Int32) : zCm l G mX9_puts 0 0 0 0 [.ref 941, .int (nI t), .int (v0), .int (v1), .int (v2), .int (v3), .int (v4)] (zsL M 942 g) (zD none (zsL M 942 (zwL (zwL (zwL (zwL (zwL g t v0.toInt64) (t + 1) v1.toInt64) (t + 2) v2.toInt64) (t + 3) v3.toInt64) (t + 4) v4.toInt64))) := by
  refine zCd.of (ls0 := [some (.ref 941), some (.int (nI t)), some (.int (v0)), some (.int (v1)), some (.int (v2)), some (.int (v3)), some (.int (v4))]) (by decide +kernel) rfl hl rfl (Nat.le_of_ble_eq_true rfl) rfl ?_
  refine s_aload_n (zdk hX9_puts 0 rfl) rfl ?_
  refine s_getR (zdk hX9_puts 1 rfl) fw_X9_7 rfl (hm.1) ((hm.r (i := 0) rfl).1) ?_
  refine s_iload_n (zdk hX9_puts 2 rfl) rfl ?_
  refine s_iload_n (zdk hX9_puts 3 rfl) rfl ?_
  refine s_i2l (zdk hX9_puts 4 rfl) ?_
  refine s_lastoreN (N := 1390) (j := t) (zdk hX9_puts 5 rfl) ((hm.r (i := 0) rfl).2.1) ((hm.r (i := 0) rfl).2.2) (by omega) (by decide) ?_
  refine s_mem (M' := (zsL M 942 (zwL g t ((v0).toInt64)))) (zsL_1 _ _ _ _ _) ?_
  refine s_aload_n (zdk hX9_puts 6 rfl) rfl ?_
  refine s_getR (zdk hX9_puts 7 rfl) fw_X9_7 rfl (hm.1) ((hm.r (i := 0) rfl).1) ?_
  refine s_iload_n (zdk hX9_puts 8 rfl) rfl ?_
  refine s_iconstv (v := nI 1) (zdk hX9_puts 9 rfl) zc_iconst_1 ?_
  refine s_iadd (zdk hX9_puts 10 rfl) ?_
  refine s_topi (b := nI (t + 1)) (nI_add _ _) ?_
  refine s_iload_n (zdk hX9_puts 11 rfl) rfl ?_
  refine s_i2l (zdk hX9_puts 12 rfl) ?_
  refine s_lastoreN (N := 1390) (j := t + 1) (zdk hX9_puts 13 rfl) ((hm.r (i := 0) rfl).2.1) ((hm.r (i := 0) rfl).2.2) (by omega) (by decide) ?_
  refine s_mem (M' := (zsL M 942 (zwL (zwL g t ((v0).toInt64)) (t + 1) ((v1).toInt64)))) (zsL_1 _ _ _ _ _) ?_
  refine s_aload_n (zdk hX9_puts 14 rfl) rfl ?_
  refine s_getR (zdk hX9_puts 15 rfl) fw_X9_7 rfl (hm.1) ((hm.r (i := 0) rfl).1) ?_
  refine s_iload_n (zdk hX9_puts 16 rfl) rfl ?_
  refine s_iconstv (v := nI 2) (zdk hX9_puts 17 rfl) zc_iconst_2 ?_
  refine s_iadd (zdk hX9_puts 18 rfl) ?_
  refine s_topi (b := nI (t + 2)) (nI_add _ _) ?_
  refine s_iload (zdk hX9_puts 19 rfl) rfl ?_
  refine s_i2l (zdk hX9_puts 20 rfl) ?_
  refine s_lastoreN (N := 1390) (j := t + 2) (zdk hX9_puts 21 rfl) ((hm.r (i := 0) rfl).2.1) ((hm.r (i := 0) rfl).2.2) (by omega) (by decide) ?_
  refine s_mem (M' := (zsL M 942 (zwL (zwL (zwL g t ((v0).toInt64)) (t + 1) ((v1).toInt64)) (t + 2) ((v2).toInt64)))) (zsL_1 _ _ _ _ _) ?_
  refine s_aload_n (zdk hX9_puts 22 rfl) rfl ?_
  refine s_getR (zdk hX9_puts 23 rfl) fw_X9_7 rfl (hm.1) ((hm.r (i := 0) rfl).1) ?_
  refine s_iload_n (zdk hX9_puts 24 rfl) rfl ?_
  refine s_iconstv (v := nI 3) (zdk hX9_puts 25 rfl) zc_iconst_3 ?_
  refine s_iadd (zdk hX9_puts 26 rfl) ?_
  refine s_topi (b := nI (t + 3)) (nI_add _ _) ?_
  refine s_iload (zdk hX9_puts 27 rfl) rfl ?_
  refine s_i2l (zdk hX9_puts 28 rfl) ?_
  refine s_lastoreN (N := 1390) (j := t + 3) (zdk hX9_puts 29 rfl) ((hm.r (i := 0) rfl).2.1) ((hm.r (i := 0) rfl).2.2) (by omega) (by decide) ?_
  refine s_mem (M' := (zsL M 942 (zwL (zwL (zwL (zwL g t ((v0).toInt64)) (t + 1) ((v1).toInt64)) (t + 2) ((v2).toInt64)) (t + 3) ((v3).toInt64)))) (zsL_1 _ _ _ _ _) ?_
  refine s_aload_n (zdk hX9_puts 30 rfl) rfl ?_
  refine s_getR (zdk hX9_puts 31 rfl) fw_X9_7 rfl (hm.1) ((hm.r (i := 0) rfl).1) ?_
  refine s_iload_n (zdk hX9_puts 32 rfl) rfl ?_
  refine s_iconstv (v := nI 4) (zdk hX9_puts 33 rfl) zc_iconst_4 ?_
  refine s_iadd (zdk hX9_puts 34 rfl) ?_
  refine s_topi (b := nI (t + 4)) (nI_add _ _) ?_
  refine s_iload (zdk hX9_puts 35 rfl) rfl ?_
  refine s_i2l (zdk hX9_puts 36 rfl) ?_
  refine s_lastoreN (N := 1390) (j := t + 4) (zdk hX9_puts 37 rfl) ((hm.r (i := 0) rfl).2.1) ((hm.r (i := 0) rfl).2.2) (by omega) (by decide) ?_
  refine s_mem (M' := (zsL M 942 (zwL (zwL (zwL (zwL (zwL g t ((v0).toInt64)) (t + 1) ((v1).toInt64)) (t + 2) ((v2).toInt64)) (t + 3) ((v3).toInt64)) (t + 4) ((v4).toInt64)))) (zsL_1 _ _ _ _ _) ?_
  refine s_return (zdk hX9_puts 38 rfl) rfl ?_
  exact ⟨rfl, rfl⟩
theorem c_X9_pays (hl : l.stackTraces = false) {M : zMem} (hm : mSh M) {g : Nat → Int64} {t k : Nat} (ht : t < 4) (hk : k < 3) (x : Int64) : zCm l G mX9_pays 0 0 0 0 [.ref 941, .int (nI t), .int (nI k), .long (x)] (zsL M 942 g) (zD none (zsL M 942 (oPays g t k x))) := by
  refine zCd.of (ls0 := [some (.ref 941), some (.int (nI t)), some (.int (nI k)), some (.long (x)), none]) (by decide +kernel) rfl hl rfl (Nat.le_of_ble_eq_true rfl) rfl ?_
  refine s_aload_n (zdk hX9_pays 0 rfl) rfl ?_
  refine s_getR (zdk hX9_pays 1 rfl) fw_X9_7 rfl (hm.1) ((hm.r (i := 0) rfl).1) ?_
  refine s_sipushv (v := nI 1378) (zdk hX9_pays 2 rfl) zc_sipush_1378 ?_
  refine s_iconstv (v := nI 3) (zdk hX9_pays 3 rfl) zc_iconst_3 ?_
  refine s_iload_n (zdk hX9_pays 4 rfl) rfl ?_
  refine s_imul (zdk hX9_pays 5 rfl) ?_
  refine s_topi (b := nI (3 * t)) (pk_mul _ _) ?_
  refine s_iadd (zdk hX9_pays 6 rfl) ?_
  refine s_topi (b := nI (1378 + 3 * t)) (nI_add _ _) ?_
  refine s_iload_n (zdk hX9_pays 7 rfl) rfl ?_
  refine s_iadd (zdk hX9_pays 8 rfl) ?_
  refine s_topi (b := nI (1378 + 3 * t + k)) (nI_add _ _) ?_
  refine s_dup2ir (zdk hX9_pays 9 rfl) ?_
  refine s_laloadN (N := 1390) (j := 1378 + 3 * t + k) (zdk hX9_pays 10 rfl) ((hm.r (i := 0) rfl).2.1) ((hm.r (i := 0) rfl).2.2) (by omega) (by decide) ?_
  refine s_topl (b := g (1378 + 3 * t + k)) (congrFun zJ_Le _) ?_
  refine s_lload_n (zdk hX9_pays 11 rfl) rfl ?_
  refine s_ladd (zdk hX9_pays 12 rfl) ?_
  refine s_lastoreN (N := 1390) (j := 1378 + 3 * t + k) (zdk hX9_pays 13 rfl) ((hm.r (i := 0) rfl).2.1) ((hm.r (i := 0) rfl).2.2) (by omega) (by decide) ?_
  refine s_mem (M' := (zsL M 942 (zwL g (1378 + 3 * t + k) ((g (1378 + 3 * t + k)) + (x))))) (zsL_1 _ _ _ _ _) ?_
  refine s_return (zdk hX9_pays 14 rfl) rfl ?_
  exact ⟨rfl, rfl⟩
theorem w_X9_begins0_b (hl : l.stackTraces = false) {M : zMem} (hm : mSh M) {g : Nat → Int64} {f : Nat} (hf : f < 20) : ∀ (k : Nat) (i : Nat), i ≤ 12 → 12 - i < k → zS l G mX9_begins0 1 30 0 0 23 [some (.ref 941), some (.int (nI f)), some (.int (nI i))] [] (zsL M 942 (oFoN g f i)) (zD none (zsL M 942 (oFoN g f 12))) := by
  intro k
  induction k with
  | zero => intros; omega
  | succ k ih =>
    intro i hi hk
    refine s_iload_n (zdk hX9_begins0 14 rfl) rfl ?_
    refine s_bipushv (v := nI 12) (zdk hX9_begins0 15 rfl) zc_bipush_12 ?_
    refine s_icmp_ge 47 (zdk hX9_begins0 16 rfl) (by decide) (fun c26 => ?_) (fun c26 => ?_)
    · have n26 : 12 ≤ i := nle c26 (by omega) (by omega)
      obtain rfl : i = 12 := by omega
      refine s_return (zdk hX9_begins0 26 rfl) rfl ?_
      exact ⟨rfl, rfl⟩
    · have n26 : i < 12 := nlt c26 (by omega) (by omega)
      refine s_aload_n (zdk hX9_begins0 17 rfl) rfl ?_
      refine s_iload_n (zdk hX9_begins0 18 rfl) rfl ?_
      refine s_bipushv (v := nI 14) (zdk hX9_begins0 19 rfl) zc_bipush_14 ?_
      refine s_iload_n (zdk hX9_begins0 20 rfl) rfl ?_
      refine s_iadd (zdk hX9_begins0 21 rfl) ?_
      refine s_topi (b := nI (14 + i)) (nI_add _ _) ?_
      refine s_ldc2 (zdk hX9_begins0 22 rfl) kw_X9_197 ?_
      refine s_topl (b := (-1 : Int32).toInt64) (by decide) ?_
      refine s_callV0 (ci := 9) [.int (nI f), .int (nI (14 + i)), .long ((-1 : Int32).toInt64)] (zdk hX9_begins0 23 rfl) cw_X9_193 (hm.1) (by decide) rfl rfl rfl (Nat.le_of_ble_eq_true rfl) (by decide) (c_X9_sets hl (M := M) (g := (oFoN g f i)) hm (f := f) (k := (14 + i)) (E := 58 + 51 * f + 14 + i) (by omega) (by omega) ((-1 : Int32).toInt64)) ?_
      refine s_mem (M' := (zsL M 942 (oFoN g f (i + 1)))) (zsL_g (oFoN_1 rfl)) ?_
      refine s_iinc (r := nI (i + 1)) (zdk hX9_begins0 24 rfl) (Nat.le_of_ble_eq_true rfl) rfl (nI_1 _) ?_
      refine s_ls (ls' := [some (.ref 941), some (.int (nI f)), some (.int (nI (i + 1)))]) rfl ?_
      refine s_goto 23 (zdk hX9_begins0 25 rfl) (by decide) ?_
      exact ih (i + 1) (by omega) (by omega)
theorem w_X9_begins0_a (hl : l.stackTraces = false) {M : zMem} (hm : mSh M) {g : Nat → Int64} {f : Nat} (hf : f < 20) : ∀ (k : Nat) (i : Nat), i ≤ 51 → 51 - i < k → zS l G mX9_begins0 1 30 0 0 2 [some (.ref 941), some (.int (nI f)), some (.int (nI i))] [] (zsL M 942 (oZeN g f i)) (zD none (zsL M 942 (oB0 g f))) := by
  intro k
  induction k with
  | zero => intros; omega
  | succ k ih =>
    intro i hi hk
    refine s_iload_n (zdk hX9_begins0 2 rfl) rfl ?_
    refine s_bipushv (v := nI 51) (zdk hX9_begins0 3 rfl) zc_bipush_51 ?_
    refine s_icmp_ge 21 (zdk hX9_begins0 4 rfl) (by decide) (fun c5 => ?_) (fun c5 => ?_)
    · have n5 : 51 ≤ i := nle c5 (by omega) (by omega)
      obtain rfl : i = 51 := by omega
      refine s_iconstv (v := nI 0) (zdk hX9_begins0 12 rfl) zc_iconst_0 ?_
      refine s_istore_n (zdk hX9_begins0 13 rfl) (Nat.le_of_ble_eq_true rfl) ?_
      refine s_ls (ls' := [some (.ref 941), some (.int (nI f)), some (.int (nI 0))]) rfl ?_
      have h := w_X9_begins0_b (l := l) (G := G) hl hm (g := oZeN g f 51) hf 13 0 (by omega) (by omega)
      rw [oFoN_0] at h
      exact h
    · have n5 : i < 51 := nlt c5 (by omega) (by omega)
      refine s_aload_n (zdk hX9_begins0 5 rfl) rfl ?_
      refine s_iload_n (zdk hX9_begins0 6 rfl) rfl ?_
      refine s_iload_n (zdk hX9_begins0 7 rfl) rfl ?_
      refine s_lconstv (v := lN 0) (zdk hX9_begins0 8 rfl) rfl ?_
      refine s_callV0 (ci := 9) [.int (nI f), .int (nI i), .long (lN 0)] (zdk hX9_begins0 9 rfl) cw_X9_193 (hm.1) (by decide) rfl rfl rfl (Nat.le_of_ble_eq_true rfl) (by decide) (c_X9_sets hl (M := M) (g := (oZeN g f i)) hm (f := f) (k := i) (E := 58 + 51 * f + i) (by omega) (by omega) (lN 0)) ?_
      refine s_mem (M' := (zsL M 942 (oZeN g f (i + 1)))) (zsL_g (oZeN_1 rfl)) ?_
      refine s_iinc (r := nI (i + 1)) (zdk hX9_begins0 10 rfl) (Nat.le_of_ble_eq_true rfl) rfl (nI_1 _) ?_
      refine s_ls (ls' := [some (.ref 941), some (.int (nI f)), some (.int (nI (i + 1)))]) rfl ?_
      refine s_goto 2 (zdk hX9_begins0 11 rfl) (by decide) ?_
      exact ih (i + 1) (by omega) (by omega)
theorem c_X9_begins0 (hl : l.stackTraces = false) {M : zMem} (hm : mSh M) {g : Nat → Int64} {f : Nat} (hf : f < 20) : zCm l G mX9_begins0 1 30 0 0 [.ref 941, .int (nI f)] (zsL M 942 g) (zD none (zsL M 942 (oB0 g f))) := by
  refine zCd.of (ls0 := [some (.ref 941), some (.int (nI f)), none]) (by decide +kernel) rfl hl rfl (Nat.le_of_ble_eq_true rfl) rfl ?_
  refine s_iconstv (v := nI 0) (zdk hX9_begins0 0 rfl) zc_iconst_0 ?_
  refine s_istore_n (zdk hX9_begins0 1 rfl) (Nat.le_of_ble_eq_true rfl) ?_
  refine s_ls (ls' := [some (.ref 941), some (.int (nI f)), some (.int (nI 0))]) rfl ?_
  have h := w_X9_begins0_a (l := l) (G := G) hl hm (g := g) hf 52 0 (by omega) (by omega)
  rw [oZeN_0] at h
  exact h
theorem w_X9_begins_2 (hl : l.stackTraces = false) {M : zMem} (hm : mSh M) {g : Nat → Int64} : ∀ (k : Nat) (i : Nat), i ≤ 1390 → 1390 - i < k → zS l G mX9_begins 0 0 0 0 2 [some (.ref 941), some (.int (nI i))] [] (zsL M 942 (zAll g i)) (zD none (zsL M 942 (oBeg g))) := by
  intro k
  induction k with
  | zero => intros; omega
  | succ k ih =>
    intro i hi hk
    refine s_iload_n (zdk hX9_begins 2 rfl) rfl ?_
    refine s_sipushv (v := nI 1390) (zdk hX9_begins 3 rfl) zc_sipush_1390 ?_
    refine s_icmp_ge 22 (zdk hX9_begins 4 rfl) (by decide) (fun c6 => ?_) (fun c6 => ?_)
    · have n6 : 1390 ≤ i := nle c6 (by omega) (by omega)
      obtain rfl : i = 1390 := by omega
      refine s_aload_n (zdk hX9_begins 12 rfl) rfl ?_
      refine s_getR (zdk hX9_begins 13 rfl) fw_X9_7 rfl (hm.1) ((hm.r (i := 0) rfl).1) ?_
      refine s_iconstv (v := nI 1) (zdk hX9_begins 14 rfl) zc_iconst_1 ?_
      refine s_ldc2 (zdk hX9_begins 15 rfl) kw_X9_67 ?_
      refine s_topl (b := lN 4) (by decide) ?_
      refine s_lastoreN (N := 1390) (j := 1) (zdk hX9_begins 16 rfl) ((hm.r (i := 0) rfl).2.1) ((hm.r (i := 0) rfl).2.2) (by omega) (by decide) ?_
      refine s_mem (M' := (zsL M 942 (zwL (zAll g 1390) 1 (lN 4)))) (zsL_1 _ _ _ _ _) ?_
      refine s_return (zdk hX9_begins 17 rfl) rfl ?_
      exact ⟨rfl, rfl⟩
    · have n6 : i < 1390 := nlt c6 (by omega) (by omega)
      refine s_aload_n (zdk hX9_begins 5 rfl) rfl ?_
      refine s_getR (zdk hX9_begins 6 rfl) fw_X9_7 rfl (hm.1) ((hm.r (i := 0) rfl).1) ?_
      refine s_iload_n (zdk hX9_begins 7 rfl) rfl ?_
      refine s_lconstv (v := lN 0) (zdk hX9_begins 8 rfl) rfl ?_
      refine s_lastoreN (N := 1390) (j := i) (zdk hX9_begins 9 rfl) ((hm.r (i := 0) rfl).2.1) ((hm.r (i := 0) rfl).2.2) (by omega) (by decide) ?_
      refine s_mem (M' := (zsL M 942 (zwL (zAll g i) i (lN 0)))) (zsL_1 _ _ _ _ _) ?_
      refine s_mem (M' := (zsL M 942 (zAll g (i + 1)))) (zsL_g zAll_1) ?_
      refine s_iinc (r := nI (i + 1)) (zdk hX9_begins 10 rfl) (Nat.le_of_ble_eq_true rfl) rfl (nI_1 _) ?_
      refine s_ls (ls' := [some (.ref 941), some (.int (nI (i + 1)))]) rfl ?_
      refine s_goto 2 (zdk hX9_begins 11 rfl) (by decide) ?_
      exact ih (i + 1) (by omega) (by omega)
theorem c_X9_begins (hl : l.stackTraces = false) {M : zMem} (hm : mSh M) {g : Nat → Int64} : zCm l G mX9_begins 0 0 0 0 [.ref 941] (zsL M 942 g) (zD none (zsL M 942 (oBeg g))) := by
  refine zCd.of (ls0 := [some (.ref 941), none]) (by decide +kernel) rfl hl rfl (Nat.le_of_ble_eq_true rfl) rfl ?_
  refine s_iconstv (v := nI 0) (zdk hX9_begins 0 rfl) zc_iconst_0 ?_
  refine s_istore_n (zdk hX9_begins 1 rfl) (Nat.le_of_ble_eq_true rfl) ?_
  refine s_ls (ls' := [some (.ref 941), some (.int (nI 0))]) rfl ?_
  have h := w_X9_begins_2 (l := l) (G := G) hl hm (g := g) 1391 0 (by omega) (by omega)
  rw [zAll_0] at h
  exact h
theorem w_X9_keepsUses_15 (hl : l.stackTraces = false) {M : zMem} (hm : mSh M) {g : Nat → Int64} {f : Nat} (hf : f < 20) (hk : gf g f 4 = nI (gN g (58 + 51 * f + 4))) (hn : (gN g (58 + 51 * f + 4)) = 24) : ∀ (k : Nat) (i : Nat), i ≤ 23 → 23 - i < k → zS l G mX9_keepsUses 2 52 0 0 15 [some (.ref 941), some (.int (nI f)), some (.int (nI (gN g (58 + 51 * f + 4)))), some (.int (nI i))] [] (zsL M 942 (oShN g (58 + 51 * f + 26) i)) (zD none (zsL M 942 (oKeep g f))) := by
  intro k
  induction k with
  | zero => intros; omega
  | succ k ih =>
    intro i hi hk
    refine s_iload_n (zdk hX9_keepsUses 10 rfl) rfl ?_
    refine s_bipushv (v := nI 23) (zdk hX9_keepsUses 11 rfl) zc_bipush_23 ?_
    refine s_icmp_ge 48 (zdk hX9_keepsUses 12 rfl) (by decide) (fun c18 => ?_) (fun c18 => ?_)
    · have n18 : 23 ≤ i := nle c18 (by omega) (by omega)
      obtain rfl : i = 23 := by omega
      refine s_iinc (r := nI 23) (zdk hX9_keepsUses 30 rfl) (Nat.le_of_ble_eq_true rfl) rfl (by rw [hn]; decide) ?_
      refine s_ls (ls' := [some (.ref 941), some (.int (nI f)), some (.int (nI 23)), some (.int (nI 23))]) rfl ?_
      refine s_aload_n (zdk hX9_keepsUses 31 rfl) rfl ?_
      refine s_iload_n (zdk hX9_keepsUses 32 rfl) rfl ?_
      refine s_bipushv (v := nI 26) (zdk hX9_keepsUses 33 rfl) zc_bipush_26 ?_
      refine s_iload_n (zdk hX9_keepsUses 34 rfl) rfl ?_
      refine s_iadd (zdk hX9_keepsUses 35 rfl) ?_
      refine s_topi (b := nI (26 + 23)) (nI_add _ _) ?_
      refine s_aload_n (zdk hX9_keepsUses 36 rfl) rfl ?_
      refine s_iload_n (zdk hX9_keepsUses 37 rfl) rfl ?_
      refine s_iconstv (v := nI 2) (zdk hX9_keepsUses 38 rfl) zc_iconst_2 ?_
      refine s_callV0 (ci := 9) [.int (nI f), .int (nI 2)] (zdk hX9_keepsUses 39 rfl) cw_X9_211 (hm.1) (by decide) rfl rfl rfl (Nat.le_of_ble_eq_true rfl) (by decide) (c_X9_of hl (M := M) (g := (oShN g (58 + 51 * f + 26) 23)) hm (f := f) (k := 2) (by omega)) ?_
      refine s_i2l (zdk hX9_keepsUses 40 rfl) ?_
      refine s_callV0 (ci := 9) [.int (nI f), .int (nI (26 + 23)), .long ((gf (oShN g (58 + 51 * f + 26) 23) f 2).toInt64)] (zdk hX9_keepsUses 41 rfl) cw_X9_193 (hm.1) (by decide) rfl rfl rfl (Nat.le_of_ble_eq_true rfl) (by decide) (c_X9_sets hl (M := M) (g := (oShN g (58 + 51 * f + 26) 23)) hm (f := f) (k := (26 + 23)) (E := 58 + 51 * f + 26 + 23) (by omega) (by omega) ((gf (oShN g (58 + 51 * f + 26) 23) f 2).toInt64)) ?_
      refine s_aload_n (zdk hX9_keepsUses 42 rfl) rfl ?_
      refine s_iload_n (zdk hX9_keepsUses 43 rfl) rfl ?_
      refine s_iconstv (v := nI 4) (zdk hX9_keepsUses 44 rfl) zc_iconst_4 ?_
      refine s_iload_n (zdk hX9_keepsUses 45 rfl) rfl ?_
      refine s_iconstv (v := nI 1) (zdk hX9_keepsUses 46 rfl) zc_iconst_1 ?_
      refine s_iadd (zdk hX9_keepsUses 47 rfl) ?_
      refine s_topi (b := nI (23 + 1)) (nI_add _ _) ?_
      refine s_i2l (zdk hX9_keepsUses 48 rfl) ?_
      refine s_callV0 (ci := 9) [.int (nI f), .int (nI 4), .long ((nI (23 + 1)).toInt64)] (zdk hX9_keepsUses 49 rfl) cw_X9_193 (hm.1) (by decide) rfl rfl rfl (Nat.le_of_ble_eq_true rfl) (by decide) (c_X9_sets hl (M := M) (g := (zwL (oShN g (58 + 51 * f + 26) 23) (58 + 51 * f + 26 + 23) ((gf (oShN g (58 + 51 * f + 26) 23) f 2).toInt64))) hm (f := f) (k := 4) (E := 58 + 51 * f + 4) (by omega) (by omega) ((nI (23 + 1)).toInt64)) ?_
      refine s_aload_n (zdk hX9_keepsUses 50 rfl) rfl ?_
      refine s_iload_n (zdk hX9_keepsUses 51 rfl) rfl ?_
      refine s_iconstv (v := nI 2) (zdk hX9_keepsUses 52 rfl) zc_iconst_2 ?_
      refine s_lconstv (v := (nI 0).toInt64) (zdk hX9_keepsUses 53 rfl) (by decide) ?_
      refine s_callV0 (ci := 9) [.int (nI f), .int (nI 2), .long ((nI 0).toInt64)] (zdk hX9_keepsUses 54 rfl) cw_X9_193 (hm.1) (by decide) rfl rfl rfl (Nat.le_of_ble_eq_true rfl) (by decide) (c_X9_sets hl (M := M) (g := (zwL (zwL (oShN g (58 + 51 * f + 26) 23) (58 + 51 * f + 26 + 23) ((gf (oShN g (58 + 51 * f + 26) 23) f 2).toInt64)) (58 + 51 * f + 4) ((nI (23 + 1)).toInt64))) hm (f := f) (k := 2) (E := 58 + 51 * f + 2) (by omega) (by omega) ((nI 0).toInt64)) ?_
      refine s_return (zdk hX9_keepsUses 55 rfl) rfl ?_
      rw [oKeep, if_pos hn]
      exact ⟨rfl, rfl⟩
    · have n18 : i < 23 := nlt c18 (by omega) (by omega)
      refine s_aload_n (zdk hX9_keepsUses 13 rfl) rfl ?_
      refine s_iload_n (zdk hX9_keepsUses 14 rfl) rfl ?_
      refine s_bipushv (v := nI 26) (zdk hX9_keepsUses 15 rfl) zc_bipush_26 ?_
      refine s_iload_n (zdk hX9_keepsUses 16 rfl) rfl ?_
      refine s_iadd (zdk hX9_keepsUses 17 rfl) ?_
      refine s_topi (b := nI (26 + i)) (nI_add _ _) ?_
      refine s_aload_n (zdk hX9_keepsUses 18 rfl) rfl ?_
      refine s_iload_n (zdk hX9_keepsUses 19 rfl) rfl ?_
      refine s_bipushv (v := nI 26) (zdk hX9_keepsUses 20 rfl) zc_bipush_26 ?_
      refine s_iload_n (zdk hX9_keepsUses 21 rfl) rfl ?_
      refine s_iadd (zdk hX9_keepsUses 22 rfl) ?_
      refine s_topi (b := nI (26 + i)) (nI_add _ _) ?_
      refine s_iconstv (v := nI 1) (zdk hX9_keepsUses 23 rfl) zc_iconst_1 ?_
      refine s_iadd (zdk hX9_keepsUses 24 rfl) ?_
      refine s_topi (b := nI (26 + i + 1)) (nI_add _ _) ?_
      refine s_callV0 (ci := 9) [.int (nI f), .int (nI (26 + i + 1))] (zdk hX9_keepsUses 25 rfl) cw_X9_211 (hm.1) (by decide) rfl rfl rfl (Nat.le_of_ble_eq_true rfl) (by decide) (c_X9_ofU hl (M := M) (g := (oShN g (58 + 51 * f + 26) i)) hm (f := f) (j := (i + 1)) (by omega)) ?_
      refine s_topi (b := its g (58 + 51 * f + 26 + i + 1)) ((congrArg (its _) (by omega : 58 + 51 * f + 26 + (i + 1) = 58 + 51 * f + 26 + i + 1)).trans (its_eq (oShN_u (by omega)))) ?_
      refine s_i2l (zdk hX9_keepsUses 26 rfl) ?_
      refine s_callV0 (ci := 9) [.int (nI f), .int (nI (26 + i)), .long ((its g (58 + 51 * f + 26 + i + 1)).toInt64)] (zdk hX9_keepsUses 27 rfl) cw_X9_193 (hm.1) (by decide) rfl rfl rfl (Nat.le_of_ble_eq_true rfl) (by decide) (c_X9_sets hl (M := M) (g := (oShN g (58 + 51 * f + 26) i)) hm (f := f) (k := (26 + i)) (E := 58 + 51 * f + 26 + i) (by omega) (by omega) ((its g (58 + 51 * f + 26 + i + 1)).toInt64)) ?_
      refine s_mem (M' := (zsL M 942 (oShN g (58 + 51 * f + 26) (i + 1)))) (zsL_g (oShN_1 rfl)) ?_
      refine s_iinc (r := nI (i + 1)) (zdk hX9_keepsUses 28 rfl) (Nat.le_of_ble_eq_true rfl) rfl (nI_1 _) ?_
      refine s_ls (ls' := [some (.ref 941), some (.int (nI f)), some (.int (nI (gN g (58 + 51 * f + 4)))), some (.int (nI (i + 1)))]) rfl ?_
      refine s_goto 15 (zdk hX9_keepsUses 29 rfl) (by decide) ?_
      exact ih (i + 1) (by omega) (by omega)
theorem c_X9_keepsUses (hl : l.stackTraces = false) {M : zMem} (hm : mSh M) {g : Nat → Int64} {f : Nat} (hf : f < 20) (hk : gf g f 4 = nI (gN g (58 + 51 * f + 4))) (hk24 : (gN g (58 + 51 * f + 4)) ≤ 24) : zCm l G mX9_keepsUses 2 52 0 0 [.ref 941, .int (nI f)] (zsL M 942 g) (zD none (zsL M 942 (oKeep g f))) := by
  refine zCd.of (ls0 := [some (.ref 941), some (.int (nI f)), none, none]) (by decide +kernel) rfl hl rfl (Nat.le_of_ble_eq_true rfl) rfl ?_
  refine s_aload_n (zdk hX9_keepsUses 0 rfl) rfl ?_
  refine s_iload_n (zdk hX9_keepsUses 1 rfl) rfl ?_
  refine s_iconstv (v := nI 4) (zdk hX9_keepsUses 2 rfl) zc_iconst_4 ?_
  refine s_callV0 (ci := 9) [.int (nI f), .int (nI 4)] (zdk hX9_keepsUses 3 rfl) cw_X9_211 (hm.1) (by decide) rfl rfl rfl (Nat.le_of_ble_eq_true rfl) (by decide) (c_X9_of hl (M := M) (g := g) hm (f := f) (k := 4) (by omega)) ?_
  refine s_topi (b := nI (gN g (58 + 51 * f + 4))) (hk) ?_
  refine s_istore_n (zdk hX9_keepsUses 4 rfl) (Nat.le_of_ble_eq_true rfl) ?_
  refine s_ls (ls' := [some (.ref 941), some (.int (nI f)), some (.int (nI (gN g (58 + 51 * f + 4)))), none]) rfl ?_
  refine s_iload_n (zdk hX9_keepsUses 5 rfl) rfl ?_
  refine s_bipushv (v := nI 24) (zdk hX9_keepsUses 6 rfl) zc_bipush_24 ?_
  refine s_icmp_ne 51 (zdk hX9_keepsUses 7 rfl) (by decide) (fun c10 => ?_) (fun c10 => ?_)
  · have n10 : ¬ (gN g (58 + 51 * f + 4)) = 24 := nne c10
    refine s_aload_n (zdk hX9_keepsUses 31 rfl) rfl ?_
    refine s_iload_n (zdk hX9_keepsUses 32 rfl) rfl ?_
    refine s_bipushv (v := nI 26) (zdk hX9_keepsUses 33 rfl) zc_bipush_26 ?_
    refine s_iload_n (zdk hX9_keepsUses 34 rfl) rfl ?_
    refine s_iadd (zdk hX9_keepsUses 35 rfl) ?_
    refine s_topi (b := nI (26 + gN g (58 + 51 * f + 4))) (nI_add _ _) ?_
    refine s_aload_n (zdk hX9_keepsUses 36 rfl) rfl ?_
    refine s_iload_n (zdk hX9_keepsUses 37 rfl) rfl ?_
    refine s_iconstv (v := nI 2) (zdk hX9_keepsUses 38 rfl) zc_iconst_2 ?_
    refine s_callV0 (ci := 9) [.int (nI f), .int (nI 2)] (zdk hX9_keepsUses 39 rfl) cw_X9_211 (hm.1) (by decide) rfl rfl rfl (Nat.le_of_ble_eq_true rfl) (by decide) (c_X9_of hl (M := M) (g := g) hm (f := f) (k := 2) (by omega)) ?_
    refine s_i2l (zdk hX9_keepsUses 40 rfl) ?_
    refine s_callV0 (ci := 9) [.int (nI f), .int (nI (26 + gN g (58 + 51 * f + 4))), .long ((gf g f 2).toInt64)] (zdk hX9_keepsUses 41 rfl) cw_X9_193 (hm.1) (by decide) rfl rfl rfl (Nat.le_of_ble_eq_true rfl) (by decide) (c_X9_sets hl (M := M) (g := g) hm (f := f) (k := (26 + gN g (58 + 51 * f + 4))) (E := 58 + 51 * f + 26 + gN g (58 + 51 * f + 4)) (by omega) (by omega) ((gf g f 2).toInt64)) ?_
    refine s_aload_n (zdk hX9_keepsUses 42 rfl) rfl ?_
    refine s_iload_n (zdk hX9_keepsUses 43 rfl) rfl ?_
    refine s_iconstv (v := nI 4) (zdk hX9_keepsUses 44 rfl) zc_iconst_4 ?_
    refine s_iload_n (zdk hX9_keepsUses 45 rfl) rfl ?_
    refine s_iconstv (v := nI 1) (zdk hX9_keepsUses 46 rfl) zc_iconst_1 ?_
    refine s_iadd (zdk hX9_keepsUses 47 rfl) ?_
    refine s_topi (b := nI (gN g (58 + 51 * f + 4) + 1)) (nI_add _ _) ?_
    refine s_i2l (zdk hX9_keepsUses 48 rfl) ?_
    refine s_callV0 (ci := 9) [.int (nI f), .int (nI 4), .long ((nI (gN g (58 + 51 * f + 4) + 1)).toInt64)] (zdk hX9_keepsUses 49 rfl) cw_X9_193 (hm.1) (by decide) rfl rfl rfl (Nat.le_of_ble_eq_true rfl) (by decide) (c_X9_sets hl (M := M) (g := (zwL g (58 + 51 * f + 26 + gN g (58 + 51 * f + 4)) ((gf g f 2).toInt64))) hm (f := f) (k := 4) (E := 58 + 51 * f + 4) (by omega) (by omega) ((nI (gN g (58 + 51 * f + 4) + 1)).toInt64)) ?_
    refine s_aload_n (zdk hX9_keepsUses 50 rfl) rfl ?_
    refine s_iload_n (zdk hX9_keepsUses 51 rfl) rfl ?_
    refine s_iconstv (v := nI 2) (zdk hX9_keepsUses 52 rfl) zc_iconst_2 ?_
    refine s_lconstv (v := (nI 0).toInt64) (zdk hX9_keepsUses 53 rfl) (by decide) ?_
    refine s_callV0 (ci := 9) [.int (nI f), .int (nI 2), .long ((nI 0).toInt64)] (zdk hX9_keepsUses 54 rfl) cw_X9_193 (hm.1) (by decide) rfl rfl rfl (Nat.le_of_ble_eq_true rfl) (by decide) (c_X9_sets hl (M := M) (g := (zwL (zwL g (58 + 51 * f + 26 + gN g (58 + 51 * f + 4)) ((gf g f 2).toInt64)) (58 + 51 * f + 4) ((nI (gN g (58 + 51 * f + 4) + 1)).toInt64))) hm (f := f) (k := 2) (E := 58 + 51 * f + 2) (by omega) (by omega) ((nI 0).toInt64)) ?_
    refine s_return (zdk hX9_keepsUses 55 rfl) rfl ?_
    rw [oKeep, if_neg n10]
    exact ⟨rfl, rfl⟩
  · have n10 : gN g (58 + 51 * f + 4) = 24 := neq c10 (by omega) (by omega)
    refine s_iconstv (v := nI 0) (zdk hX9_keepsUses 8 rfl) zc_iconst_0 ?_
    refine s_istore_n (zdk hX9_keepsUses 9 rfl) (Nat.le_of_ble_eq_true rfl) ?_
    refine s_ls (ls' := [some (.ref 941), some (.int (nI f)), some (.int (nI (gN g (58 + 51 * f + 4)))), some (.int (nI 0))]) rfl ?_
    have h := w_X9_keepsUses_15 (l := l) (G := G) hl hm hf hk n10 24 0 (by omega) (by omega)
    rw [oShN_0] at h
    exact h
theorem w_X9_relearns_35 (hl : l.stackTraces = false) {M : zMem} (hm : mSh M) {g : Nat → Int64} (hb : gBd g) {f : Nat} (hf : f < 20) (hk : gf g f 4 = nI (gN g (58 + 51 * f + 4))) (hk24 : (gN g (58 + 51 * f + 4)) ≤ 24) (hkP : (gN g (58 + 51 * f + 4)) ≤ gN g 4) : ∀ (k : Nat) (i : Nat), i ≤ (gN g (58 + 51 * f + 4)) → (gN g (58 + 51 * f + 4)) - i < k → zS l G mX9_relearns 3 74 0 0 35 [some (.ref 941), some (.int (nI f)), some (.int (nI (gN g (58 + 51 * f + 4)))), some (.int (nI i))] [] (zsL M 942 (oRe g f (gN g (58 + 51 * f + 4)) i)) (zD none (zsL M 942 (oRe g f (gN g (58 + 51 * f + 4)) (gN g (58 + 51 * f + 4))))) := by
  intro k
  induction k with
  | zero => intros; omega
  | succ k ih =>
    intro i hi hk9
    have hc := hb.1.2.2
    have hp9 := hb.2.2.2.1.2
    have hcc : 0 < gN g 0 ∧ gN g 0 ≤ 12 := ⟨by have := hb.1.2.1; omega, hc⟩
    have hph : ((gN g 4 - (gN g (58 + 51 * f + 4)) + i) % (gN g 0)) < 12 := Nat.lt_of_lt_of_le (Nat.mod_lt _ hcc.1) hc
    refine s_iload_n (zdk hX9_relearns 21 rfl) rfl ?_
    refine s_iload_n (zdk hX9_relearns 22 rfl) rfl ?_
    refine s_icmp_ge 75 (zdk hX9_relearns 23 rfl) (by decide) (fun c37 => ?_) (fun c37 => ?_)
    · have n37 : gN g (58 + 51 * f + 4) ≤ i := nle c37 (by omega) (by omega)
      obtain rfl : i = (gN g (58 + 51 * f + 4)) := by omega
      refine s_return (zdk hX9_relearns 46 rfl) rfl ?_
      exact ⟨rfl, rfl⟩
    · have n37 : i < gN g (58 + 51 * f + 4) := nlt c37 (by omega) (by omega)
      refine s_aload_n (zdk hX9_relearns 24 rfl) rfl ?_
      refine s_iload_n (zdk hX9_relearns 25 rfl) rfl ?_
      refine s_aload_n (zdk hX9_relearns 26 rfl) rfl ?_
      refine s_iconstv (v := nI 4) (zdk hX9_relearns 27 rfl) zc_iconst_4 ?_
      refine s_callV0 (ci := 9) [.int (nI 4)] (zdk hX9_relearns 28 rfl) cw_X9_87 (hm.1) (by decide) rfl rfl rfl (Nat.le_of_ble_eq_true rfl) (by decide) (c_X9_its hl (M := M) (g := (oRe g f (gN g (58 + 51 * f + 4)) i)) hm (k := 4) (by omega)) ?_
      refine s_topi (b := nI (gN g 4)) ((its_eq (oRe_n (by omega) hcc i)).trans hb.h4) ?_
      refine s_iload_n (zdk hX9_relearns 29 rfl) rfl ?_
      refine s_isub (zdk hX9_relearns 30 rfl) ?_
      refine s_topi (b := nI (gN g 4 - gN g (58 + 51 * f + 4))) (pk_sub (by omega)) ?_
      refine s_iload_n (zdk hX9_relearns 31 rfl) rfl ?_
      refine s_iadd (zdk hX9_relearns 32 rfl) ?_
      refine s_topi (b := nI (gN g 4 - gN g (58 + 51 * f + 4) + i)) (nI_add _ _) ?_
      refine s_aload_n (zdk hX9_relearns 33 rfl) rfl ?_
      refine s_iconstv (v := nI 0) (zdk hX9_relearns 34 rfl) zc_iconst_0 ?_
      refine s_callV0 (ci := 9) [.int (nI 0)] (zdk hX9_relearns 35 rfl) cw_X9_87 (hm.1) (by decide) rfl rfl rfl (Nat.le_of_ble_eq_true rfl) (by decide) (c_X9_its hl (M := M) (g := (oRe g f (gN g (58 + 51 * f + 4)) i)) hm (k := 0) (by omega)) ?_
      refine s_topi (b := nI (gN g 0)) ((its_eq (oRe_n (by omega) hcc i)).trans hb.h0) ?_
      refine s_irem (zdk hX9_relearns 36 rfl) ((fun q => nI_ne0 (by omega) (by omega) q)) ?_
      refine s_topi (b := nI ((gN g 4 - gN g (58 + 51 * f + 4) + i) % (gN g 0))) (pk_rem (by omega) (by omega) (by omega)) ?_
      refine s_aload_n (zdk hX9_relearns 37 rfl) rfl ?_
      refine s_iload_n (zdk hX9_relearns 38 rfl) rfl ?_
      refine s_bipushv (v := nI 26) (zdk hX9_relearns 39 rfl) zc_bipush_26 ?_
      refine s_iload_n (zdk hX9_relearns 40 rfl) rfl ?_
      refine s_iadd (zdk hX9_relearns 41 rfl) ?_
      refine s_topi (b := nI (26 + i)) (nI_add _ _) ?_
      refine s_callV0 (ci := 9) [.int (nI f), .int (nI (26 + i))] (zdk hX9_relearns 42 rfl) cw_X9_211 (hm.1) (by decide) rfl rfl rfl (Nat.le_of_ble_eq_true rfl) (by decide) (c_X9_ofU hl (M := M) (g := (oRe g f (gN g (58 + 51 * f + 4)) i)) hm (f := f) (j := i) (by omega)) ?_
      refine s_topi (b := gu g f i) (its_eq (oRe_n (by omega) hcc i)) ?_
      refine s_callV0 (ci := 9) [.int (nI f), .int (nI ((gN g 4 - gN g (58 + 51 * f + 4) + i) % (gN g 0))), .int (gu g f i)] (zdk hX9_relearns 43 rfl) cw_X9_226 (hm.1) (by decide) rfl rfl rfl (Nat.le_of_ble_eq_true rfl) (by decide) (c_X9_learns hl (M := M) (g := (oRe g f (gN g (58 + 51 * f + 4)) i)) hm (f := f) (ph := ((gN g 4 - (gN g (58 + 51 * f + 4)) + i) % (gN g 0))) hf hph (gu g f i)) ?_
      refine s_iinc (r := nI (i + 1)) (zdk hX9_relearns 44 rfl) (Nat.le_of_ble_eq_true rfl) rfl (nI_1 _) ?_
      refine s_ls (ls' := [some (.ref 941), some (.int (nI f)), some (.int (nI (gN g (58 + 51 * f + 4)))), some (.int (nI (i + 1)))]) rfl ?_
      refine s_goto 35 (zdk hX9_relearns 45 rfl) (by decide) ?_
      exact ih (i + 1) (by omega) (by omega)
theorem w_X9_relearns_2 (hl : l.stackTraces = false) {M : zMem} (hm : mSh M) {g : Nat → Int64} (hb : gBd g) {f : Nat} (hf : f < 20) (hk : gf g f 4 = nI (gN g (58 + 51 * f + 4))) (hk24 : (gN g (58 + 51 * f + 4)) ≤ 24) (hkP : (gN g (58 + 51 * f + 4)) ≤ gN g 4) : ∀ (k : Nat) (i : Nat), i ≤ 12 → 12 - i < k → zS l G mX9_relearns 3 74 0 0 2 [some (.ref 941), some (.int (nI f)), some (.int (nI i)), none] [] (zsL M 942 (oFoN g f i)) (zD none (zsL M 942 (oRe g f (gN g (58 + 51 * f + 4)) (gN g (58 + 51 * f + 4))))) := by
  intro k
  induction k with
  | zero => intros; omega
  | succ k ih =>
    intro i hi hk9
    refine s_iload_n (zdk hX9_relearns 2 rfl) rfl ?_
    refine s_bipushv (v := nI 12) (zdk hX9_relearns 3 rfl) zc_bipush_12 ?_
    refine s_icmp_ge 26 (zdk hX9_relearns 4 rfl) (by decide) (fun c5 => ?_) (fun c5 => ?_)
    · have n5 : 12 ≤ i := nle c5 (by omega) (by omega)
      obtain rfl : i = 12 := by omega
      refine s_mem (M' := (zsL M 942 (oForget g f))) (zsL_g oFoN_12) ?_
      refine s_aload_n (zdk hX9_relearns 14 rfl) rfl ?_
      refine s_iload_n (zdk hX9_relearns 15 rfl) rfl ?_
      refine s_iconstv (v := nI 4) (zdk hX9_relearns 16 rfl) zc_iconst_4 ?_
      refine s_callV0 (ci := 9) [.int (nI f), .int (nI 4)] (zdk hX9_relearns 17 rfl) cw_X9_211 (hm.1) (by decide) rfl rfl rfl (Nat.le_of_ble_eq_true rfl) (by decide) (c_X9_of hl (M := M) (g := (oForget g f)) hm (f := f) (k := 4) (by omega)) ?_
      refine s_topi (b := nI (gN g (58 + 51 * f + 4))) ((its_eq (oForget_n (by omega))).trans hk) ?_
      refine s_istore_n (zdk hX9_relearns 18 rfl) (Nat.le_of_ble_eq_true rfl) ?_
      refine s_ls (ls' := [some (.ref 941), some (.int (nI f)), some (.int (nI (gN g (58 + 51 * f + 4)))), none]) rfl ?_
      refine s_iconstv (v := nI 0) (zdk hX9_relearns 19 rfl) zc_iconst_0 ?_
      refine s_istore_n (zdk hX9_relearns 20 rfl) (Nat.le_of_ble_eq_true rfl) ?_
      refine s_ls (ls' := [some (.ref 941), some (.int (nI f)), some (.int (nI (gN g (58 + 51 * f + 4)))), some (.int (nI 0))]) rfl ?_
      exact w_X9_relearns_35 hl hm hb hf hk hk24 hkP ((gN g (58 + 51 * f + 4)) + 1) 0 (by omega) (by omega)
    · have n5 : i < 12 := nlt c5 (by omega) (by omega)
      refine s_aload_n (zdk hX9_relearns 5 rfl) rfl ?_
      refine s_iload_n (zdk hX9_relearns 6 rfl) rfl ?_
      refine s_bipushv (v := nI 14) (zdk hX9_relearns 7 rfl) zc_bipush_14 ?_
      refine s_iload_n (zdk hX9_relearns 8 rfl) rfl ?_
      refine s_iadd (zdk hX9_relearns 9 rfl) ?_
      refine s_topi (b := nI (14 + i)) (nI_add _ _) ?_
      refine s_ldc2 (zdk hX9_relearns 10 rfl) kw_X9_197 ?_
      refine s_topl (b := (-1 : Int32).toInt64) (by decide) ?_
      refine s_callV0 (ci := 9) [.int (nI f), .int (nI (14 + i)), .long ((-1 : Int32).toInt64)] (zdk hX9_relearns 11 rfl) cw_X9_193 (hm.1) (by decide) rfl rfl rfl (Nat.le_of_ble_eq_true rfl) (by decide) (c_X9_sets hl (M := M) (g := (oFoN g f i)) hm (f := f) (k := (14 + i)) (E := 58 + 51 * f + 14 + i) (by omega) (by omega) ((-1 : Int32).toInt64)) ?_
      refine s_mem (M' := (zsL M 942 (oFoN g f (i + 1)))) (zsL_g (oFoN_1 rfl)) ?_
      refine s_iinc (r := nI (i + 1)) (zdk hX9_relearns 12 rfl) (Nat.le_of_ble_eq_true rfl) rfl (nI_1 _) ?_
      refine s_ls (ls' := [some (.ref 941), some (.int (nI f)), some (.int (nI (i + 1))), none]) rfl ?_
      refine s_goto 2 (zdk hX9_relearns 13 rfl) (by decide) ?_
      exact ih (i + 1) (by omega) (by omega)
theorem c_X9_relearns (hl : l.stackTraces = false) {M : zMem} (hm : mSh M) {g : Nat → Int64} (hb : gBd g) {f : Nat} (hf : f < 20) (hk : gf g f 4 = nI (gN g (58 + 51 * f + 4))) (hk24 : (gN g (58 + 51 * f + 4)) ≤ 24) (hkP : (gN g (58 + 51 * f + 4)) ≤ gN g 4) : zCm l G mX9_relearns 3 74 0 0 [.ref 941, .int (nI f)] (zsL M 942 g) (zD none (zsL M 942 (oRe g f (gN g (58 + 51 * f + 4)) (gN g (58 + 51 * f + 4))))) := by
  refine zCd.of (ls0 := [some (.ref 941), some (.int (nI f)), none, none]) (by decide +kernel) rfl hl rfl (Nat.le_of_ble_eq_true rfl) rfl ?_
  refine s_iconstv (v := nI 0) (zdk hX9_relearns 0 rfl) zc_iconst_0 ?_
  refine s_istore_n (zdk hX9_relearns 1 rfl) (Nat.le_of_ble_eq_true rfl) ?_
  refine s_ls (ls' := [some (.ref 941), some (.int (nI f)), some (.int (nI 0)), none]) rfl ?_
  have h := w_X9_relearns_2 (l := l) (G := G) hl hm hb hf hk hk24 hkP 13 0 (by omega) (by omega)
  rw [oFoN_0] at h
  exact h
theorem w_X9_goes_81 (hl : l.stackTraces = false) {M : zMem} (hm : mSh M) {g : Nat → Int64} (hb : gBd g) (hp5 : g 5 = (its g 5).toInt64) {f t : Nat} (hf : f < gN g 3) (ht : t < gN g 2) {g3 : Nat → Int64} (hg3 : g3 = (oPays (oPays (zwL g (58 + 51 * f + 1) (nI t).toInt64) (gN g (58 + 51 * f + 1)) 2 (oOut g f).toInt64) t 2 (oInc g f t).toInt64)) (hN : gN g 5 = 60) : ∀ (k : Nat) (i : Nat), 1078 ≤ i → i ≤ 1373 → 1373 - i < k → zS l G mX9_goes 2 52 0 0 81 [some (.ref 941), some (.int (nI f)), some (.int (nI t)), some (.int (nI (gN g (58 + 51 * f + 1)))), some (.int (oOut g f)), some (.int (oInc g f t)), some (.int (nI i))] [] (zsL M 942 (oShW g3 i)) (zD (some (.int (oOut g f + oInc g f t))) (zsL M 942 (oGo g f t))) := by
  intro k
  induction k with
  | zero => intros; omega
  | succ k ih =>
    intro i h1 hi hk
    have hn := hb.2.2.1.2
    have ht4 := hb.2.1.2
    have e5 : g3 5 = g 5 := by rw [hg3, oPays_n (by omega), oPays_n (by omega), zwL_n (by omega)]
    have hN3 : gN g3 5 = 60 := (gN_eq e5).trans hN
    refine s_iload (zdk hX9_goes_0 52 rfl) rfl ?_
    refine s_sipushv (v := nI 1373) (zdk hX9_goes_0 53 rfl) zc_sipush_1373 ?_
    refine s_icmp_ge 111 (zdk hX9_goes_0 54 rfl) (by decide) (fun c86 => ?_) (fun c86 => ?_)
    · have n86 : 1373 ≤ i := nle c86 (by omega) (by omega)
      obtain rfl : i = 1373 := by omega
      refine s_aload_n (zdk hX9_goes_1 7 rfl) rfl ?_
      refine s_getR (zdk hX9_goes_1 8 rfl) fw_X9_7 rfl (hm.1) ((hm.r (i := 0) rfl).1) ?_
      refine s_iconstv (v := nI 5) (zdk hX9_goes_1 9 rfl) zc_iconst_5 ?_
      refine s_dup2ir (zdk hX9_goes_1 10 rfl) ?_
      refine s_laloadN (N := 1390) (j := 5) (zdk hX9_goes_1 11 rfl) ((hm.r (i := 0) rfl).2.1) ((hm.r (i := 0) rfl).2.2) (by omega) (by decide) ?_
      refine s_topl (b := (oShW g3 1373) 5) (congrFun zJ_Le _) ?_
      refine s_lconstv (v := lN 1) (zdk hX9_goes_1 12 rfl) rfl ?_
      refine s_lsub (zdk hX9_goes_1 13 rfl) ?_
      refine s_topl (b := (nI 59).toInt64) (by rw [show oShW g3 1373 5 = g3 5 from if_neg (by omega), e5, hp5, hb.h5, hN]; exact dec64 (by omega) (by omega)) ?_
      refine s_lastoreN (N := 1390) (j := 5) (zdk hX9_goes_1 14 rfl) ((hm.r (i := 0) rfl).2.1) ((hm.r (i := 0) rfl).2.2) (by omega) (by decide) ?_
      refine s_mem (M' := (zsL M 942 (zwL (oShW g3 1373) 5 ((nI 59).toInt64)))) (zsL_1 _ _ _ _ _) ?_
      refine s_aload_n (zdk hX9_goes_1 15 rfl) rfl ?_
      refine s_sipushv (v := nI 1078) (zdk hX9_goes_1 16 rfl) zc_sipush_1078 ?_
      refine s_iconstv (v := nI 5) (zdk hX9_goes_1 17 rfl) zc_iconst_5 ?_
      refine s_aload_n (zdk hX9_goes_1 18 rfl) rfl ?_
      refine s_iconstv (v := nI 5) (zdk hX9_goes_1 19 rfl) zc_iconst_5 ?_
      refine s_callV0 (ci := 9) [.int (nI 5)] (zdk hX9_goes_1 20 rfl) cw_X9_87 (hm.1) (by decide) rfl rfl rfl (Nat.le_of_ble_eq_true rfl) (by decide) (c_X9_its hl (M := M) (g := (zwL (oShW g3 1373) 5 ((nI 59).toInt64))) hm (k := 5) (by omega)) ?_
      refine s_topi (b := nI 59) ((its_e).trans (i64 _)) ?_
      refine s_imul (zdk hX9_goes_1 21 rfl) ?_
      refine s_topi (b := nI (5 * 59)) (pk_mul _ _) ?_
      refine s_iadd (zdk hX9_goes_1 22 rfl) ?_
      refine s_topi (b := nI (1078 + 5 * 59)) (nI_add _ _) ?_
      refine s_iload_n (zdk hX9_goes_1 23 rfl) rfl ?_
      refine s_iload_n (zdk hX9_goes_1 24 rfl) rfl ?_
      refine s_iload_n (zdk hX9_goes_1 25 rfl) rfl ?_
      refine s_iload (zdk hX9_goes_1 26 rfl) rfl ?_
      refine s_iload (zdk hX9_goes_1 27 rfl) rfl ?_
      refine s_callV0 (ci := 9) [.int (nI (1078 + 5 * 59)), .int (nI f), .int (nI (gN g (58 + 51 * f + 1))), .int (nI t), .int (oOut g f), .int (oInc g f t)] (zdk hX9_goes_1 28 rfl) cw_X9_63 (hm.1) (by decide) rfl rfl rfl (Nat.le_of_ble_eq_true rfl) (by decide) (c_X9_puts hl (M := M) (g := (zwL (oShW g3 1373) 5 ((nI 59).toInt64))) hm (t := (1078 + 5 * 59)) (by omega) (nI f) (nI (gN g (58 + 51 * f + 1))) (nI t) (oOut g f) (oInc g f t)) ?_
      refine s_aload_n (zdk hX9_goes_1 29 rfl) rfl ?_
      refine s_getR (zdk hX9_goes_1 30 rfl) fw_X9_7 rfl (hm.1) ((hm.r (i := 0) rfl).1) ?_
      refine s_iconstv (v := nI 5) (zdk hX9_goes_1 31 rfl) zc_iconst_5 ?_
      refine s_dup2ir (zdk hX9_goes_1 32 rfl) ?_
      refine s_laloadN (N := 1390) (j := 5) (zdk hX9_goes_1 33 rfl) ((hm.r (i := 0) rfl).2.1) ((hm.r (i := 0) rfl).2.2) (by omega) (by decide) ?_
      refine s_topl (b := (zwL (zwL (zwL (zwL (zwL (zwL (oShW g3 1373) 5 ((nI 59).toInt64)) (1078 + 5 * 59) (nI f).toInt64) ((1078 + 5 * 59) + 1) (nI (gN g (58 + 51 * f + 1))).toInt64) ((1078 + 5 * 59) + 2) (nI t).toInt64) ((1078 + 5 * 59) + 3) (oOut g f).toInt64) ((1078 + 5 * 59) + 4) (oInc g f t).toInt64) 5) (congrFun zJ_Le _) ?_
      refine s_lconstv (v := lN 1) (zdk hX9_goes_1 34 rfl) rfl ?_
      refine s_ladd (zdk hX9_goes_1 35 rfl) ?_
      refine s_topl (b := (nI (59 + 1)).toInt64) ((congrArg (fun q : Int64 => q + lN 1) (rd5 (by omega))).trans (inc64 (by omega))) ?_
      refine s_lastoreN (N := 1390) (j := 5) (zdk hX9_goes_1 36 rfl) ((hm.r (i := 0) rfl).2.1) ((hm.r (i := 0) rfl).2.2) (by omega) (by decide) ?_
      refine s_mem (M' := (zsL M 942 (zwL (zwL (zwL (zwL (zwL (zwL (zwL (oShW g3 1373) 5 ((nI 59).toInt64)) (1078 + 5 * 59) (nI f).toInt64) ((1078 + 5 * 59) + 1) (nI (gN g (58 + 51 * f + 1))).toInt64) ((1078 + 5 * 59) + 2) (nI t).toInt64) ((1078 + 5 * 59) + 3) (oOut g f).toInt64) ((1078 + 5 * 59) + 4) (oInc g f t).toInt64) 5 ((nI (59 + 1)).toInt64)))) (zsL_1 _ _ _ _ _) ?_
      refine s_iload (zdk hX9_goes_1 37 rfl) rfl ?_
      refine s_iload (zdk hX9_goes_1 38 rfl) rfl ?_
      refine s_iadd (zdk hX9_goes_1 39 rfl) ?_
      refine s_ireturn (zdk hX9_goes_1 40 rfl) rfl rfl ?_
      refine ⟨rfl, ?_⟩
      unfold oGo
      rw [← hg3, oPut, if_pos hN3]
      rfl
    · have n86 : i < 1373 := nlt c86 (by omega) (by omega)
      refine s_aload_n (zdk hX9_goes_0 55 rfl) rfl ?_
      refine s_getR (zdk hX9_goes_0 56 rfl) fw_X9_7 rfl (hm.1) ((hm.r (i := 0) rfl).1) ?_
      refine s_iload (zdk hX9_goes_0 57 rfl) rfl ?_
      refine s_aload_n (zdk hX9_goes_0 58 rfl) rfl ?_
      refine s_getR (zdk hX9_goes_0 59 rfl) fw_X9_7 rfl (hm.1) ((hm.r (i := 0) rfl).1) ?_
      refine s_iload (zdk hX9_goes_1 0 rfl) rfl ?_
      refine s_iconstv (v := nI 5) (zdk hX9_goes_1 1 rfl) zc_iconst_5 ?_
      refine s_iadd (zdk hX9_goes_1 2 rfl) ?_
      refine s_topi (b := nI (i + 5)) (nI_add _ _) ?_
      refine s_laloadN (N := 1390) (j := i + 5) (zdk hX9_goes_1 3 rfl) ((hm.r (i := 0) rfl).2.1) ((hm.r (i := 0) rfl).2.2) (by omega) (by decide) ?_
      refine s_topl (b := (oShW g3 i) (i + 5)) (congrFun zJ_Le _) ?_
      refine s_topl (b := g3 (i + 5)) (oShW_u (by omega)) ?_
      refine s_lastoreN (N := 1390) (j := i) (zdk hX9_goes_1 4 rfl) ((hm.r (i := 0) rfl).2.1) ((hm.r (i := 0) rfl).2.2) (by omega) (by decide) ?_
      refine s_mem (M' := (zsL M 942 (zwL (oShW g3 i) i (g3 (i + 5))))) (zsL_1 _ _ _ _ _) ?_
      refine s_mem (M' := (zsL M 942 (oShW g3 (i + 1)))) (zsL_g (oShW_1 h1)) ?_
      refine s_iinc (r := nI (i + 1)) (zdk hX9_goes_1 5 rfl) (Nat.le_of_ble_eq_true rfl) rfl (nI_1 _) ?_
      refine s_ls (ls' := [some (.ref 941), some (.int (nI f)), some (.int (nI t)), some (.int (nI (gN g (58 + 51 * f + 1)))), some (.int (oOut g f)), some (.int (oInc g f t)), some (.int (nI (i + 1)))]) rfl ?_
      refine s_goto 81 (zdk hX9_goes_1 6 rfl) (by decide) ?_
      exact ih (i + 1) (by omega) (by omega) (by omega)
theorem c_X9_goes (hl : l.stackTraces = false) {M : zMem} (hm : mSh M) {g : Nat → Int64} (hb : gBd g) (hp5 : g 5 = (its g 5).toInt64) {f t : Nat} (hf : f < gN g 3) (ht : t < gN g 2) : zCm l G mX9_goes 2 52 0 0 [.ref 941, .int (nI f), .int (nI t)] (zsL M 942 g) (zD (some (.int (oOut g f + oInc g f t))) (zsL M 942 (oGo g f t))) := by
  refine zCd.of (ls0 := [some (.ref 941), some (.int (nI f)), some (.int (nI t)), none, none, none, none]) (by decide +kernel) rfl hl rfl (Nat.le_of_ble_eq_true rfl) rfl ?_
  have hn := hb.2.2.1.2
  have ht4 := hb.2.1.2
  have hn60 := hb.2.2.2.2.1.2
  have hon := hb.onL hf
  refine s_aload_n (zdk hX9_goes_0 0 rfl) rfl ?_
  refine s_iload_n (zdk hX9_goes_0 1 rfl) rfl ?_
  refine s_iconstv (v := nI 1) (zdk hX9_goes_0 2 rfl) zc_iconst_1 ?_
  refine s_callV0 (ci := 9) [.int (nI f), .int (nI 1)] (zdk hX9_goes_0 3 rfl) cw_X9_211 (hm.1) (by decide) rfl rfl rfl (Nat.le_of_ble_eq_true rfl) (by decide) (c_X9_of hl (M := M) (g := g) hm (f := f) (k := 1) (by omega)) ?_
  refine s_topi (b := nI (gN g (58 + 51 * f + 1))) (hb.on hf) ?_
  refine s_istore_n (zdk hX9_goes_0 4 rfl) (Nat.le_of_ble_eq_true rfl) ?_
  refine s_ls (ls' := [some (.ref 941), some (.int (nI f)), some (.int (nI t)), some (.int (nI (gN g (58 + 51 * f + 1)))), none, none, none]) rfl ?_
  refine s_aload_n (zdk hX9_goes_0 5 rfl) rfl ?_
  refine s_iload_n (zdk hX9_goes_0 6 rfl) rfl ?_
  refine s_iconstv (v := nI 0) (zdk hX9_goes_0 7 rfl) zc_iconst_0 ?_
  refine s_callV0 (ci := 9) [.int (nI f), .int (nI 0)] (zdk hX9_goes_0 8 rfl) cw_X9_211 (hm.1) (by decide) rfl rfl rfl (Nat.le_of_ble_eq_true rfl) (by decide) (c_X9_of hl (M := M) (g := g) hm (f := f) (k := 0) (by omega)) ?_
  refine s_aload_n (zdk hX9_goes_0 9 rfl) rfl ?_
  refine s_iload_n (zdk hX9_goes_0 10 rfl) rfl ?_
  refine s_iconstv (v := nI 4) (zdk hX9_goes_0 11 rfl) zc_iconst_4 ?_
  refine s_callV0 (ci := 9) [.int (nI (gN g (58 + 51 * f + 1))), .int (nI 4)] (zdk hX9_goes_0 12 rfl) cw_X9_214 (hm.1) (by decide) rfl rfl rfl (Nat.le_of_ble_eq_true rfl) (by decide) (c_X9_ofTier hl (M := M) (g := g) hm (t := (gN g (58 + 51 * f + 1))) (k := 4) (by omega)) ?_
  refine s_imul (zdk hX9_goes_0 13 rfl) ?_
  refine s_istore (zdk hX9_goes_0 14 rfl) (Nat.le_of_ble_eq_true rfl) ?_
  refine s_ls (ls' := [some (.ref 941), some (.int (nI f)), some (.int (nI t)), some (.int (nI (gN g (58 + 51 * f + 1)))), some (.int (oOut g f)), none, none]) rfl ?_
  refine s_aload_n (zdk hX9_goes_0 15 rfl) rfl ?_
  refine s_iload_n (zdk hX9_goes_0 16 rfl) rfl ?_
  refine s_iconstv (v := nI 0) (zdk hX9_goes_0 17 rfl) zc_iconst_0 ?_
  refine s_callV0 (ci := 9) [.int (nI f), .int (nI 0)] (zdk hX9_goes_0 18 rfl) cw_X9_211 (hm.1) (by decide) rfl rfl rfl (Nat.le_of_ble_eq_true rfl) (by decide) (c_X9_of hl (M := M) (g := g) hm (f := f) (k := 0) (by omega)) ?_
  refine s_aload_n (zdk hX9_goes_0 19 rfl) rfl ?_
  refine s_iload_n (zdk hX9_goes_0 20 rfl) rfl ?_
  refine s_iconstv (v := nI 3) (zdk hX9_goes_0 21 rfl) zc_iconst_3 ?_
  refine s_callV0 (ci := 9) [.int (nI t), .int (nI 3)] (zdk hX9_goes_0 22 rfl) cw_X9_214 (hm.1) (by decide) rfl rfl rfl (Nat.le_of_ble_eq_true rfl) (by decide) (c_X9_ofTier hl (M := M) (g := g) hm (t := t) (k := 3) (by omega)) ?_
  refine s_imul (zdk hX9_goes_0 23 rfl) ?_
  refine s_istore (zdk hX9_goes_0 24 rfl) (Nat.le_of_ble_eq_true rfl) ?_
  refine s_ls (ls' := [some (.ref 941), some (.int (nI f)), some (.int (nI t)), some (.int (nI (gN g (58 + 51 * f + 1)))), some (.int (oOut g f)), some (.int (oInc g f t)), none]) rfl ?_
  refine s_aload_n (zdk hX9_goes_0 25 rfl) rfl ?_
  refine s_iload_n (zdk hX9_goes_0 26 rfl) rfl ?_
  refine s_iconstv (v := nI 1) (zdk hX9_goes_0 27 rfl) zc_iconst_1 ?_
  refine s_iload_n (zdk hX9_goes_0 28 rfl) rfl ?_
  refine s_i2l (zdk hX9_goes_0 29 rfl) ?_
  refine s_callV0 (ci := 9) [.int (nI f), .int (nI 1), .long ((nI t).toInt64)] (zdk hX9_goes_0 30 rfl) cw_X9_193 (hm.1) (by decide) rfl rfl rfl (Nat.le_of_ble_eq_true rfl) (by decide) (c_X9_sets hl (M := M) (g := g) hm (f := f) (k := 1) (E := 58 + 51 * f + 1) (by omega) (by omega) ((nI t).toInt64)) ?_
  refine s_aload_n (zdk hX9_goes_0 31 rfl) rfl ?_
  refine s_iload_n (zdk hX9_goes_0 32 rfl) rfl ?_
  refine s_iconstv (v := nI 2) (zdk hX9_goes_0 33 rfl) zc_iconst_2 ?_
  refine s_iload (zdk hX9_goes_0 34 rfl) rfl ?_
  refine s_i2l (zdk hX9_goes_0 35 rfl) ?_
  refine s_callV0 (ci := 9) [.int (nI (gN g (58 + 51 * f + 1))), .int (nI 2), .long ((oOut g f).toInt64)] (zdk hX9_goes_0 36 rfl) cw_X9_329 (hm.1) (by decide) rfl rfl rfl (Nat.le_of_ble_eq_true rfl) (by decide) (c_X9_pays hl (M := M) (g := (zwL g (58 + 51 * f + 1) ((nI t).toInt64))) hm (t := (gN g (58 + 51 * f + 1))) (k := 2) (by omega) (by omega) ((oOut g f).toInt64)) ?_
  refine s_aload_n (zdk hX9_goes_0 37 rfl) rfl ?_
  refine s_iload_n (zdk hX9_goes_0 38 rfl) rfl ?_
  refine s_iconstv (v := nI 2) (zdk hX9_goes_0 39 rfl) zc_iconst_2 ?_
  refine s_iload (zdk hX9_goes_0 40 rfl) rfl ?_
  refine s_i2l (zdk hX9_goes_0 41 rfl) ?_
  refine s_callV0 (ci := 9) [.int (nI t), .int (nI 2), .long ((oInc g f t).toInt64)] (zdk hX9_goes_0 42 rfl) cw_X9_329 (hm.1) (by decide) rfl rfl rfl (Nat.le_of_ble_eq_true rfl) (by decide) (c_X9_pays hl (M := M) (g := (oPays (zwL g (58 + 51 * f + 1) ((nI t).toInt64)) (gN g (58 + 51 * f + 1)) 2 ((oOut g f).toInt64))) hm (t := t) (k := 2) (by omega) (by omega) ((oInc g f t).toInt64)) ?_
  obtain ⟨g3, hg3⟩ : ∃ g3, g3 = (oPays (oPays (zwL g (58 + 51 * f + 1) (nI t).toInt64) (gN g (58 + 51 * f + 1)) 2 (oOut g f).toInt64) t 2 (oInc g f t).toInt64) := ⟨_, rfl⟩
  refine s_mem (M' := (zsL M 942 g3)) (zsL_g hg3.symm) ?_
  have e5 : g3 5 = g 5 := by rw [hg3, oPays_n (by omega), oPays_n (by omega), zwL_n (by omega)]
  refine s_aload_n (zdk hX9_goes_0 43 rfl) rfl ?_
  refine s_getR (zdk hX9_goes_0 44 rfl) fw_X9_7 rfl (hm.1) ((hm.r (i := 0) rfl).1) ?_
  refine s_iconstv (v := nI 5) (zdk hX9_goes_0 45 rfl) zc_iconst_5 ?_
  refine s_laloadN (N := 1390) (j := 5) (zdk hX9_goes_0 46 rfl) ((hm.r (i := 0) rfl).2.1) ((hm.r (i := 0) rfl).2.2) (by omega) (by decide) ?_
  refine s_topl (b := g3 5) (congrFun zJ_Le _) ?_
  refine s_ldc2 (zdk hX9_goes_0 47 rfl) kw_X9_340 ?_
  refine s_topl (b := (nI 60).toInt64) (by decide) ?_
  refine s_lcmp (zdk hX9_goes_0 48 rfl) ?_
  refine s_if_ne 121 (zdk hX9_goes_0 49 rfl) (by decide) (fun c73 => ?_) (fun c73 => ?_)
  · have hN : ¬ gN g 5 = 60 := fun q => c73 ((lcmp60 (by rw [e5, hp5, its_eq e5]) ((its_eq e5).trans hb.h5) (by omega) 60 (by omega)).mpr q)
    have hN3 : ¬ gN g3 5 = 60 := fun q => hN ((gN_eq e5).symm.trans q)
    refine s_aload_n (zdk hX9_goes_1 15 rfl) rfl ?_
    refine s_sipushv (v := nI 1078) (zdk hX9_goes_1 16 rfl) zc_sipush_1078 ?_
    refine s_iconstv (v := nI 5) (zdk hX9_goes_1 17 rfl) zc_iconst_5 ?_
    refine s_aload_n (zdk hX9_goes_1 18 rfl) rfl ?_
    refine s_iconstv (v := nI 5) (zdk hX9_goes_1 19 rfl) zc_iconst_5 ?_
    refine s_callV0 (ci := 9) [.int (nI 5)] (zdk hX9_goes_1 20 rfl) cw_X9_87 (hm.1) (by decide) rfl rfl rfl (Nat.le_of_ble_eq_true rfl) (by decide) (c_X9_its hl (M := M) (g := g3) hm (k := 5) (by omega)) ?_
    refine s_topi (b := nI (gN g 5)) ((its_eq e5).trans hb.h5) ?_
    refine s_imul (zdk hX9_goes_1 21 rfl) ?_
    refine s_topi (b := nI (5 * (gN g 5))) (pk_mul _ _) ?_
    refine s_iadd (zdk hX9_goes_1 22 rfl) ?_
    refine s_topi (b := nI (1078 + 5 * (gN g 5))) (nI_add _ _) ?_
    refine s_iload_n (zdk hX9_goes_1 23 rfl) rfl ?_
    refine s_iload_n (zdk hX9_goes_1 24 rfl) rfl ?_
    refine s_iload_n (zdk hX9_goes_1 25 rfl) rfl ?_
    refine s_iload (zdk hX9_goes_1 26 rfl) rfl ?_
    refine s_iload (zdk hX9_goes_1 27 rfl) rfl ?_
    refine s_callV0 (ci := 9) [.int (nI (1078 + 5 * (gN g 5))), .int (nI f), .int (nI (gN g (58 + 51 * f + 1))), .int (nI t), .int (oOut g f), .int (oInc g f t)] (zdk hX9_goes_1 28 rfl) cw_X9_63 (hm.1) (by decide) rfl rfl rfl (Nat.le_of_ble_eq_true rfl) (by decide) (c_X9_puts hl (M := M) (g := g3) hm (t := (1078 + 5 * (gN g 5))) (by omega) (nI f) (nI (gN g (58 + 51 * f + 1))) (nI t) (oOut g f) (oInc g f t)) ?_
    refine s_aload_n (zdk hX9_goes_1 29 rfl) rfl ?_
    refine s_getR (zdk hX9_goes_1 30 rfl) fw_X9_7 rfl (hm.1) ((hm.r (i := 0) rfl).1) ?_
    refine s_iconstv (v := nI 5) (zdk hX9_goes_1 31 rfl) zc_iconst_5 ?_
    refine s_dup2ir (zdk hX9_goes_1 32 rfl) ?_
    refine s_laloadN (N := 1390) (j := 5) (zdk hX9_goes_1 33 rfl) ((hm.r (i := 0) rfl).2.1) ((hm.r (i := 0) rfl).2.2) (by omega) (by decide) ?_
    refine s_topl (b := (zwL (zwL (zwL (zwL (zwL g3 (1078 + 5 * (gN g 5)) (nI f).toInt64) ((1078 + 5 * (gN g 5)) + 1) (nI (gN g (58 + 51 * f + 1))).toInt64) ((1078 + 5 * (gN g 5)) + 2) (nI t).toInt64) ((1078 + 5 * (gN g 5)) + 3) (oOut g f).toInt64) ((1078 + 5 * (gN g 5)) + 4) (oInc g f t).toInt64) 5) (congrFun zJ_Le _) ?_
    refine s_lconstv (v := lN 1) (zdk hX9_goes_1 34 rfl) rfl ?_
    refine s_ladd (zdk hX9_goes_1 35 rfl) ?_
    refine s_topl (b := (nI (gN g 5 + 1)).toInt64) ((congrArg (fun q : Int64 => q + lN 1) (rd5' e5 hp5 hb.h5 (by omega))).trans (inc64 (by omega))) ?_
    refine s_lastoreN (N := 1390) (j := 5) (zdk hX9_goes_1 36 rfl) ((hm.r (i := 0) rfl).2.1) ((hm.r (i := 0) rfl).2.2) (by omega) (by decide) ?_
    refine s_mem (M' := (zsL M 942 (zwL (zwL (zwL (zwL (zwL (zwL g3 (1078 + 5 * (gN g 5)) (nI f).toInt64) ((1078 + 5 * (gN g 5)) + 1) (nI (gN g (58 + 51 * f + 1))).toInt64) ((1078 + 5 * (gN g 5)) + 2) (nI t).toInt64) ((1078 + 5 * (gN g 5)) + 3) (oOut g f).toInt64) ((1078 + 5 * (gN g 5)) + 4) (oInc g f t).toInt64) 5 ((nI (gN g 5 + 1)).toInt64)))) (zsL_1 _ _ _ _ _) ?_
    refine s_iload (zdk hX9_goes_1 37 rfl) rfl ?_
    refine s_iload (zdk hX9_goes_1 38 rfl) rfl ?_
    refine s_iadd (zdk hX9_goes_1 39 rfl) ?_
    refine s_ireturn (zdk hX9_goes_1 40 rfl) rfl rfl ?_
    refine ⟨rfl, ?_⟩
    unfold oGo
    rw [← hg3, oPut, if_neg hN3, gN_eq e5]
    rfl
  · have hN : gN g 5 = 60 := (lcmp60 (by rw [e5, hp5, its_eq e5]) ((its_eq e5).trans hb.h5) (by omega) 60 (by omega)).mp c73
    refine s_sipushv (v := nI 1078) (zdk hX9_goes_0 50 rfl) zc_sipush_1078 ?_
    refine s_istore (zdk hX9_goes_0 51 rfl) (Nat.le_of_ble_eq_true rfl) ?_
    refine s_ls (ls' := [some (.ref 941), some (.int (nI f)), some (.int (nI t)), some (.int (nI (gN g (58 + 51 * f + 1)))), some (.int (oOut g f)), some (.int (oInc g f t)), some (.int (nI 1078))]) rfl ?_
    have h := w_X9_goes_81 (l := l) (G := G) hl hm hb hp5 hf ht hg3 hN 296 1078 (by omega) (by omega) (by omega)
    rw [oShW_0] at h
    exact h
end
