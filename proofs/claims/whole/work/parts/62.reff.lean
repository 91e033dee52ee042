/-! ===== the reference: costs, what a step finds ===== -/
def zfsR (g : Nat → Int64) (f : Nat) : Nat → Int64
  | 0 => lN 0
  | i + 1 => zfsR g f i + (zfR g f i).toInt64
def rCo (g : Nat → Int64) (f t n : Nat) : Int64 := zco g f t (nI n) (zfsR g f n)
def rSv (g ot : Nat → Int64) (f a b : Nat) : Int64 := ot (4 * f + a) - ot (4 * f + b) - (gf g f 0).toInt64 * (gt g a 4 + gt g b 3).toInt64
def rLayT (g : Nat → Int64) (n f : Nat) (r : Nat → Int64) : Nat → Nat → Int64
  | 0 => r
  | t + 1 => zwL (rLayT g n f r t) (4 * f + t) (rCo g f t n)
def rLay (g : Nat → Int64) (n : Nat) (r : Nat → Int64) : Nat → Nat → Int64
  | 0 => r
  | f + 1 => rLayT g n f (rLay g n r f) (gN g 2)
/-- what was found -/
def zRB (M : zMem) (b : zBt) : zMem := zsJ (zsI (zsI (zsI M 941 24 b.1) 941 25 b.2.1) 941 26 b.2.2.1) 941 28 b.2.2.2
def rFd (b : zBt) (f o t : Int32) (s : Int64) : zBt := if s ≤ b.2.2.2 then b else (f, o, t, s)
theorem zRB_I {M : zMem} {b : zBt} {g : Nat → Int64} {c : Nat} (h : c ≠ 941) : zI (zsL (zRB M b) 942 g) c = zI M c := by
  unfold zRB
  rw [zI_L, zI_J, zI_In h, zI_In h, zI_In h]
theorem zRB_J {M : zMem} {b : zBt} {g : Nat → Int64} {c : Nat} (h : c ≠ 941) (h2 : c ≠ 942) : zJ (zsL (zRB M b) 942 g) c = zJ M c := by
  unfold zRB
  rw [zJ_Ln h2, zJ_Jn h]
  rfl
theorem zRB_S {M : zMem} {b : zBt} {g : Nat → Int64} : zJ (zsL (zRB M b) 942 g) 941 28 = b.2.2.2 := by
  unfold zRB
  rw [zJ_Ln (by decide), zJ_Jw, zwL_e]
theorem zRB_RB {M : zMem} {b c : zBt} : zRB (zRB M b) c = zRB M c := by
  unfold zRB zsI zsJ
  congr 1
  · funext d k
    by_cases q : d = 941
    · subst q
      by_cases h1 : k = 26 <;> by_cases h2 : k = 25 <;> by_cases h3 : k = 24 <;> simp [zu, h1, h2, h3]
    · simp [zu, q]
  · congr 1
    exact zu_zu _ _ _ _ _
def rmT (g ot : Nat → Int64) (pa : Nat → Nat) (inn fr : Nat → Int32) (f : Nat) : Nat → zBt → zBt
  | 0, b => b
  | t + 1, b => if (¬ nI (gN g 4) < gf g f 3 ∧ inn f = 0) ∧ ¬ t = pa f ∧ ¬ fr t < gf g f 0 then rFd (rmT g ot pa inn fr f t b) (nI f) (-1) (nI t) (rSv g ot f (pa f) t) else rmT g ot pa inn fr f t b
def rmF (g ot : Nat → Int64) (pa : Nat → Nat) (inn fr : Nat → Int32) : Nat → zBt → zBt
  | 0, b => b
  | f + 1, b => rmT g ot pa inn fr f (gN g 2) (rmF g ot pa inn fr f b)
def rxJ (g ot : Nat → Int64) (pa : Nat → Nat) (inn fr : Nat → Int32) (i : Nat) : Nat → zBt → zBt
  | 0, b => b
  | k + 1, b => if (¬ nI (gN g 4) < gf g i 3 ∧ inn i = 0) ∧ (¬ nI (gN g 4) < gf g (i + 1 + k) 3 ∧ inn (i + 1 + k) = 0) ∧ ¬ pa i = pa (i + 1 + k) ∧ ¬ fr (pa i) < gf g (i + 1 + k) 0 - gf g i 0 ∧ ¬ fr (pa (i + 1 + k)) < -(gf g (i + 1 + k) 0 - gf g i 0)
      then rFd (rxJ g ot pa inn fr i k b) (nI i) (nI (i + 1 + k)) (nI (pa (i + 1 + k))) (rSv g ot i (pa i) (pa (i + 1 + k)) + rSv g ot (i + 1 + k) (pa (i + 1 + k)) (pa i)) else rxJ g ot pa inn fr i k b
def rxF (g ot : Nat → Int64) (pa : Nat → Nat) (inn fr : Nat → Int32) : Nat → zBt → zBt
  | 0, b => b
  | i + 1, b => rxJ g ot pa inn fr i (gN g 3 - (i + 1)) (rxF g ot pa inn fr i b)
theorem lcmp_gt' {a b : Int64} (h : 0 < lg_cmp a b) : ¬ a ≤ b := Int64.not_le.mpr (lcmp_gt (Int32.not_le.mpr h))
theorem lcmp_le' {a b : Int64} (h : ¬ 0 < lg_cmp a b) : a ≤ b := lcmp_le (Int32.not_lt.mp h)
section
variable {l : Launch} {G : zG}
theorem w_X9_costOn_6 (hl : l.stackTraces = false) {M : zMem} (hm : mSh M) {g : Nat → Int64} (hb : gBd g) {f t n : Nat} (hf : f < 20) (ht : t < 4) (hn : n ≤ 24) : ∀ (k : Nat) (i : Nat), i ≤ n → n - i < k → zS l G mX9_costOn 4 100 0 0 6 [some (.ref 941), some (.int (nI f)), some (.int (nI t)), some (.int (nI n)), some (.long (zfsR g f i)), none, some (.int (nI i))] [] (zsL M 942 g) (zD (some (.long (rCo g f t n))) (zsL M 942 g)) := by
  intro k
  induction k with
  | zero => intros; omega
  | succ k ih =>
    intro i hi hk
    refine s_iload (zdk hX9_costOn 4 rfl) rfl ?_
    refine s_iload_n (zdk hX9_costOn 5 rfl) rfl ?_
    refine s_icmp_ge 31 (zdk hX9_costOn 6 rfl) (by decide) (fun c9 => ?_) (fun c9 => ?_)
    · have n9 : n ≤ i := nle c9 (by omega) (by omega)
      obtain rfl : i = n := by omega
      refine s_iload_n (zdk hX9_costOn 17 rfl) rfl ?_
      refine s_i2l (zdk hX9_costOn 18 rfl) ?_
      refine s_aload_n (zdk hX9_costOn 19 rfl) rfl ?_
      refine s_iload_n (zdk hX9_costOn 20 rfl) rfl ?_
      refine s_iconstv (v := nI 0) (zdk hX9_costOn 21 rfl) zc_iconst_0 ?_
      refine s_callV0 (ci := 9) [.int (nI f), .int (nI 0)] (zdk hX9_costOn 22 rfl) cw_X9_211 (hm.1) (by decide) rfl rfl rfl (Nat.le_of_ble_eq_true rfl) (by decide) (c_X9_of hl (M := M) (g := g) hm (f := f) (k := 0) (by omega)) ?_
      refine s_i2l (zdk hX9_costOn 23 rfl) ?_
      refine s_lmul (zdk hX9_costOn 24 rfl) ?_
      refine s_aload_n (zdk hX9_costOn 25 rfl) rfl ?_
      refine s_iload_n (zdk hX9_costOn 26 rfl) rfl ?_
      refine s_iconstv (v := nI 1) (zdk hX9_costOn 27 rfl) zc_iconst_1 ?_
      refine s_callV0 (ci := 9) [.int (nI t), .int (nI 1)] (zdk hX9_costOn 28 rfl) cw_X9_214 (hm.1) (by decide) rfl rfl rfl (Nat.le_of_ble_eq_true rfl) (by decide) (c_X9_ofTier hl (M := M) (g := g) hm (t := t) (k := 1) (by omega)) ?_
      refine s_i2l (zdk hX9_costOn 29 rfl) ?_
      refine s_lmul (zdk hX9_costOn 30 rfl) ?_
      refine s_aload_n (zdk hX9_costOn 31 rfl) rfl ?_
      refine s_iload_n (zdk hX9_costOn 32 rfl) rfl ?_
      refine s_iconstv (v := nI 0) (zdk hX9_costOn 33 rfl) zc_iconst_0 ?_
      refine s_callV0 (ci := 9) [.int (nI f), .int (nI 0)] (zdk hX9_costOn 34 rfl) cw_X9_211 (hm.1) (by decide) rfl rfl rfl (Nat.le_of_ble_eq_true rfl) (by decide) (c_X9_of hl (M := M) (g := g) hm (f := f) (k := 0) (by omega)) ?_
      refine s_i2l (zdk hX9_costOn 35 rfl) ?_
      refine s_aload_n (zdk hX9_costOn 36 rfl) rfl ?_
      refine s_iload_n (zdk hX9_costOn 37 rfl) rfl ?_
      refine s_iconstv (v := nI 2) (zdk hX9_costOn 38 rfl) zc_iconst_2 ?_
      refine s_callV0 (ci := 9) [.int (nI t), .int (nI 2)] (zdk hX9_costOn 39 rfl) cw_X9_214 (hm.1) (by decide) rfl rfl rfl (Nat.le_of_ble_eq_true rfl) (by decide) (c_X9_ofTier hl (M := M) (g := g) hm (t := t) (k := 2) (by omega)) ?_
      refine s_i2l (zdk hX9_costOn 40 rfl) ?_
      refine s_lmul (zdk hX9_costOn 41 rfl) ?_
      refine s_lload (zdk hX9_costOn 42 rfl) rfl ?_
      refine s_lmul (zdk hX9_costOn 43 rfl) ?_
      refine s_ldc2 (zdk hX9_costOn 44 rfl) kw_X9_268 ?_
      refine s_topl (b := lN 16) (by decide) ?_
      refine s_ldiv (zdk hX9_costOn 45 rfl) (by decide) ?_
      refine s_ladd (zdk hX9_costOn 46 rfl) ?_
      refine s_lreturn (zdk hX9_costOn 47 rfl) rfl  ?_
      exact ⟨rfl, rfl⟩
    · have n9 : i < n := nlt c9 (by omega) (by omega)
      refine s_lload (zdk hX9_costOn 7 rfl) rfl ?_
      refine s_aload_n (zdk hX9_costOn 8 rfl) rfl ?_
      refine s_iload_n (zdk hX9_costOn 9 rfl) rfl ?_
      refine s_iload (zdk hX9_costOn 10 rfl) rfl ?_
      refine s_callV0 (ci := 9) [.int (nI f), .int (nI i)] (zdk hX9_costOn 11 rfl) cw_X9_242 (hm.1) (by decide) rfl rfl rfl (Nat.le_of_ble_eq_true rfl) (by decide) (c_X9_forecastOf hl (M := M) (g := g) hm hb (f := f) (by omega) (a := i) (by omega)) ?_
      refine s_i2l (zdk hX9_costOn 12 rfl) ?_
      refine s_ladd (zdk hX9_costOn 13 rfl) ?_
      refine s_lstore (zdk hX9_costOn 14 rfl) (Nat.le_of_ble_eq_true rfl) ?_
      refine s_ls (ls' := [some (.ref 941), some (.int (nI f)), some (.int (nI t)), some (.int (nI n)), some (.long ((zfsR g f i) + ((zfR g f i).toInt64))), none, some (.int (nI i))]) rfl ?_
      refine s_ls (ls' := [some (.ref 941), some (.int (nI f)), some (.int (nI t)), some (.int (nI n)), some (.long (zfsR g f (i + 1))), none, some (.int (nI i))]) (by rw [show zfsR g f (i + 1) = zfsR g f i + (zfR g f i).toInt64 from rfl]) ?_
      refine s_iinc (r := nI (i + 1)) (zdk hX9_costOn 15 rfl) (Nat.le_of_ble_eq_true rfl) rfl (nI_1 _) ?_
      refine s_ls (ls' := [some (.ref 941), some (.int (nI f)), some (.int (nI t)), some (.int (nI n)), some (.long (zfsR g f (i + 1))), none, some (.int (nI (i + 1)))]) rfl ?_
      refine s_goto 6 (zdk hX9_costOn 16 rfl) (by decide) ?_
      exact ih (i + 1) (by omega) (by omega)
theorem c_X9_costOn (hl : l.stackTraces = false) {M : zMem} (hm : mSh M) {g : Nat → Int64} (hb : gBd g) {f t n : Nat} (hf : f < 20) (ht : t < 4) (hn : n ≤ 24) : zCm l G mX9_costOn 4 100 0 0 [.ref 941, .int (nI f), .int (nI t), .int (nI n)] (zsL M 942 g) (zD (some (.long (rCo g f t n))) (zsL M 942 g)) := by
  refine zCd.of (ls0 := [some (.ref 941), some (.int (nI f)), some (.int (nI t)), some (.int (nI n)), none, none, none]) (by decide +kernel) rfl hl rfl (Nat.le_of_ble_eq_true rfl) rfl ?_
  refine s_lconstv (v := lN 0) (zdk hX9_costOn 0 rfl) rfl ?_
  refine s_lstore (zdk hX9_costOn 1 rfl) (Nat.le_of_ble_eq_true rfl) ?_
  refine s_ls (ls' := [some (.ref 941), some (.int (nI f)), some (.int (nI t)), some (.int (nI n)), some (.long (lN 0)), none, none]) rfl ?_
  refine s_iconstv (v := nI 0) (zdk hX9_costOn 2 rfl) zc_iconst_0 ?_
  refine s_istore (zdk hX9_costOn 3 rfl) (Nat.le_of_ble_eq_true rfl) ?_
  refine s_ls (ls' := [some (.ref 941), some (.int (nI f)), some (.int (nI t)), some (.int (nI n)), some (.long (lN 0)), none, some (.int (nI 0))]) rfl ?_
  exact w_X9_costOn_6 hl hm hb hf ht hn (n + 1) 0 (by omega) (by omega)
theorem w_X9_laysCosts_12 (hl : l.stackTraces = false) {M : zMem} (hm : mSh M) {g : Nat → Int64} (hb : gBd g) {n : Nat} (hn : n ≤ 24) {f : Nat} (hf : f < gN g 3) {Q : zOut → zMem → Prop} (kk : zS l G mX9_laysCosts 5 130 0 0 43 [some (.ref 941), some (.int (nI n)), some (.int (nI f)), some (.int (nI (gN g 2)))] [] (zsL (zsL M 954 (rLayT g n f (rLay g n (zJ M 954) f) (gN g 2))) 942 g) Q) : ∀ (k : Nat) (t : Nat), t ≤ gN g 2 → gN g 2 - t < k → zS l G mX9_laysCosts 5 130 0 0 12 [some (.ref 941), some (.int (nI n)), some (.int (nI f)), some (.int (nI t))] [] (zsL (zsL M 954 (rLayT g n f (rLay g n (zJ M 954) f) t)) 942 g) Q := by
  intro k
  induction k with
  | zero => intros; omega
  | succ k ih =>
    intro t hi hk
    have hn2 := hb.2.2.1.2
    have ht4 := hb.2.1.2
    refine s_iload_n (zdk hX9_laysCosts 8 rfl) rfl ?_
    refine s_aload_n (zdk hX9_laysCosts 9 rfl) rfl ?_
    refine s_callV0 (ci := 9) [] (zdk hX9_laysCosts 10 rfl) cw_X9_154 (hm.1) (by decide) rfl rfl rfl (Nat.le_of_ble_eq_true rfl) (by decide) (c_X9_tiers hl (M := (zsL M 954 (rLayT g n f (rLay g n (zJ M 954) f) t))) (g := g) hm hb) ?_
    refine s_icmp_ge 43 (zdk hX9_laysCosts 11 rfl) (by decide) (fun c17 => ?_) (fun c17 => ?_)
    · have n17 : gN g 2 ≤ t := nle c17 (by omega) (by omega)
      obtain rfl : t = gN g 2 := by omega
      exact kk
    · have n17 : t < gN g 2 := nlt c17 (by omega) (by omega)
      refine s_aload_n (zdk hX9_laysCosts 12 rfl) rfl ?_
      refine s_getR (zdk hX9_laysCosts 13 rfl) fw_X9_52 rfl (hm.1) ((hm.r (i := 12) rfl).1) ?_
      refine s_iconstv (v := nI 4) (zdk hX9_laysCosts 14 rfl) zc_iconst_4 ?_
      refine s_iload_n (zdk hX9_laysCosts 15 rfl) rfl ?_
      refine s_imul (zdk hX9_laysCosts 16 rfl) ?_
      refine s_topi (b := nI (4 * f)) (pk_mul _ _) ?_
      refine s_iload_n (zdk hX9_laysCosts 17 rfl) rfl ?_
      refine s_iadd (zdk hX9_laysCosts 18 rfl) ?_
      refine s_topi (b := nI (4 * f + t)) (nI_add _ _) ?_
      refine s_aload_n (zdk hX9_laysCosts 19 rfl) rfl ?_
      refine s_iload_n (zdk hX9_laysCosts 20 rfl) rfl ?_
      refine s_iload_n (zdk hX9_laysCosts 21 rfl) rfl ?_
      refine s_iload_n (zdk hX9_laysCosts 22 rfl) rfl ?_
      refine s_callV0 (ci := 9) [.int (nI f), .int (nI t), .int (nI n)] (zdk hX9_laysCosts 23 rfl) cw_X9_270 (hm.1) (by decide) rfl rfl rfl (Nat.le_of_ble_eq_true rfl) (by decide) (c_X9_costOn hl (M := (zsL M 954 (rLayT g n f (rLay g n (zJ M 954) f) t))) (g := g) hm hb (f := f) (t := t) (n := n) (by omega) (by omega) (by omega)) ?_
      refine s_lastoreN (N := 80) (j := 4 * f + t) (zdk hX9_laysCosts 24 rfl) ((hm.r (i := 12) rfl).2.1) ((hm.r (i := 12) rfl).2.2) (by omega) (by decide) ?_
      refine s_mem (M' := (zsL (zsJ (zsL M 954 (rLayT g n f (rLay g n (zJ M 954) f) t)) 954 (4 * f + t) (rCo g f t n)) 942 g)) (zsL_Jn (a := 942) (b := 954) (by decide)) ?_
      refine s_mem (M' := (zsL (zsL M 954 (rLayT g n f (rLay g n (zJ M 954) f) (t + 1))) 942 g)) (congrArg (fun q => zsL q 942 g) (zsL_1 _ _ _ _ _)) ?_
      refine s_iinc (r := nI (t + 1)) (zdk hX9_laysCosts 25 rfl) (Nat.le_of_ble_eq_true rfl) rfl (nI_1 _) ?_
      refine s_ls (ls' := [some (.ref 941), some (.int (nI n)), some (.int (nI f)), some (.int (nI (t + 1)))]) rfl ?_
      refine s_goto 12 (zdk hX9_laysCosts 26 rfl) (by decide) ?_
      exact ih (t + 1) (by omega) (by omega)
theorem w_X9_laysCosts_2 (hl : l.stackTraces = false) {M : zMem} (hm : mSh M) {g : Nat → Int64} (hb : gBd g) {n : Nat} (hn : n ≤ 24) : ∀ (k : Nat) (f : Nat) (x3 : Option Value), f ≤ gN g 3 → gN g 3 - f < k → zS l G mX9_laysCosts 5 130 0 0 2 [some (.ref 941), some (.int (nI n)), some (.int (nI f)), x3] [] (zsL (zsL M 954 (rLay g n (zJ M 954) f)) 942 g) (zD none (zsL (zsL M 954 (rLay g n (zJ M 954) (gN g 3))) 942 g)) := by
  intro k
  induction k with
  | zero => intros; omega
  | succ k ih =>
    intro f x3 hi hk
    have hn2 := hb.2.2.1.2
    have ht4 := hb.2.1.2
    refine s_iload_n (zdk hX9_laysCosts 2 rfl) rfl ?_
    refine s_aload_n (zdk hX9_laysCosts 3 rfl) rfl ?_
    refine s_callV0 (ci := 9) [] (zdk hX9_laysCosts 4 rfl) cw_X9_180 (hm.1) (by decide) rfl rfl rfl (Nat.le_of_ble_eq_true rfl) (by decide) (c_X9_files hl (M := (zsL M 954 (rLay g n (zJ M 954) f))) (g := g) hm hb) ?_
    refine s_icmp_ge 49 (zdk hX9_laysCosts 5 rfl) (by decide) (fun c7 => ?_) (fun c7 => ?_)
    · have n7 : gN g 3 ≤ f := nle c7 (by omega) (by omega)
      obtain rfl : f = gN g 3 := by omega
      refine s_return (zdk hX9_laysCosts 29 rfl) rfl ?_
      exact ⟨rfl, rfl⟩
    · have n7 : f < gN g 3 := nlt c7 (by omega) (by omega)
      refine s_iconstv (v := nI 0) (zdk hX9_laysCosts 6 rfl) zc_iconst_0 ?_
      refine s_istore_n (zdk hX9_laysCosts 7 rfl) (Nat.le_of_ble_eq_true rfl) ?_
      refine s_ls (ls' := [some (.ref 941), some (.int (nI n)), some (.int (nI f)), some (.int (nI 0))]) rfl ?_
      refine w_X9_laysCosts_12 hl hm hb hn (f := f) (by omega) ?_ (gN g 2 + 1) 0 (by omega) (by omega)
      refine s_iinc (r := nI (f + 1)) (zdk hX9_laysCosts 27 rfl) (Nat.le_of_ble_eq_true rfl) rfl (nI_1 _) ?_
      refine s_ls (ls' := [some (.ref 941), some (.int (nI n)), some (.int (nI (f + 1))), some (.int (nI (gN g 2)))]) rfl ?_
      refine s_goto 2 (zdk hX9_laysCosts 28 rfl) (by decide) ?_
      exact ih (f + 1) _ (by omega) (by omega)
theorem c_X9_laysCosts (hl : l.stackTraces = false) {M : zMem} (hm : mSh M) {g : Nat → Int64} (hb : gBd g) {n : Nat} (hn : n ≤ 24) : zCm l G mX9_laysCosts 5 130 0 0 [.ref 941, .int (nI n)] (zsL M 942 g) (zD none (zsL (zsL M 954 (rLay g n (zJ M 954) (gN g 3))) 942 g)) := by
  refine zCd.of (ls0 := [some (.ref 941), some (.int (nI n)), none, none]) (by decide +kernel) rfl hl rfl (Nat.le_of_ble_eq_true rfl) rfl ?_
  refine s_iconstv (v := nI 0) (zdk hX9_laysCosts 0 rfl) zc_iconst_0 ?_
  refine s_istore_n (zdk hX9_laysCosts 1 rfl) (Nat.le_of_ble_eq_true rfl) ?_
  refine s_ls (ls' := [some (.ref 941), some (.int (nI n)), some (.int (nI 0)), none]) rfl ?_
  have h := w_X9_laysCosts_2 (l := l) (G := G) hl hm hb hn (gN g 3 + 1) 0 none (by omega) (by omega)
  rw [show rLay g n (zJ M 954) 0 = zJ M 954 from rfl, zsL_id] at h
  exact h
end
