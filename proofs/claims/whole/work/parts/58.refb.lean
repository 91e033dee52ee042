theorem zc_bipush_14 : (Int8.ofInt 14).toInt32 = nI 14 := by decide
/-! ===== the reference: what it asks of files ===== -/
def zmx (a b : Int32) : Int32 := if b ≤ a then a else b
def zmi (a b : Int32) : Int32 := if a ≤ b then a else b
def zsx (u : Nat → Int32) : Nat → Int32
  | 0 => nI 0
  | n + 1 => zsx u n + zmx (nI 0) (u n)
def zfR (g : Nat → Int64) (f a : Nat) : Int32 := if gs g f (zph g a) = (-1) then (if zkn (gs g f) (gN g 0) = 0 then nI 0 else zsx (gs g f) (gN g 0) / zkn (gs g f) (gN g 0)) else gs g f (zph g a)
def zso (u : Nat → Int32) : Nat → Int32 × Int32
  | 0 => (-1, -1)
  | n + 1 => if u n = (-1) then zso u n else (if (zso u n).1 = (-1) ∨ ¬ u n ≤ u (zso u n).1.toNatClampNeg then nI n else (zso u n).1, if (zso u n).2 = (-1) then u n else zmi (zso u n).2 (u n))
theorem zso_at (u : Nat → Int32) : ∀ n, (zso u n).1 = (-1) ∨ ∃ j, j < n ∧ (zso u n).1 = nI j
  | 0 => Or.inl rfl
  | n + 1 => by
    unfold zso
    by_cases h : u n = (-1)
    · rw [if_pos h]
      rcases zso_at u n with q | ⟨j, h1, h2⟩
      · exact Or.inl q
      · exact Or.inr ⟨j, by omega, h2⟩
    · rw [if_neg h]
      by_cases h2 : (zso u n).1 = (-1) ∨ ¬ u n ≤ u (zso u n).1.toNatClampNeg
      · rw [if_pos h2]; exact Or.inr ⟨n, by omega, rfl⟩
      · rw [if_neg h2]
        rcases zso_at u n with q | ⟨j, h1, h2⟩
        · exact Or.inl q
        · exact Or.inr ⟨j, by omega, h2⟩
def zsoR (u : Nat → Int32) (n : Nat) (b : Bool) : Int32 := if b then (zso u n).1 else if (zso u n).1 = (-1) then nI 0 else u (zso u n).1.toNatClampNeg - (zso u n).2
def zdR (u : Nat → Int32) (c : Nat) : Nat → Int32
  | 0 => nI 0
  | i + 1 => zdR u c i + zab (u (c + i) - u i)
def zoS (u : Nat → Int32) (n : Nat) (c : Nat) : Int64 := (zdR u c (n - c)).toInt64
def zoR (u : Nat → Int32) (n : Nat) : Nat → Int32
  | 0 => -1
  | k + 1 => if zoR u n k = (-1) ∨ zoS u n (k + 2) * ((nI n).toInt64 - (zoR u n k).toInt64) < zoS u n (zoR u n k).toNatClampNeg * ((nI n).toInt64 - (nI (k + 2)).toInt64) then nI (k + 2) else zoR u n k
theorem zoR_at (u : Nat → Int32) (n : Nat) : ∀ k, zoR u n k = (-1) ∨ ∃ j, 2 ≤ j ∧ j < k + 2 ∧ zoR u n k = nI j
  | 0 => Or.inl rfl
  | k + 1 => by
    unfold zoR
    split
    · exact Or.inr ⟨k + 2, by omega, by omega, rfl⟩
    · rcases zoR_at u n k with q | ⟨j, h1, h2, h3⟩
      · exact Or.inl q
      · exact Or.inr ⟨j, h1, by omega, h3⟩
def zszT (g : Nat → Int64) : Nat → Int32
  | 0 => nI 0
  | t + 1 => zszT g t + zfull g (nI t) (gN g 3)
def zbu (g : Nat → Int64) (x : Int32) : Nat → Int32
  | 0 => -1
  | f + 1 => if gf g f 1 = x ∧ (zbu g x f = (-1) ∨ ¬ zfR g f 0 ≤ zfR g (zbu g x f).toNatClampNeg 0) then nI f else zbu g x f
theorem zbu_at (g : Nat → Int64) (x : Int32) : ∀ k, zbu g x k = (-1) ∨ ∃ j, j < k ∧ zbu g x k = nI j
  | 0 => Or.inl rfl
  | k + 1 => by
    unfold zbu
    split
    · exact Or.inr ⟨k, by omega, rfl⟩
    · rcases zbu_at g x k with q | ⟨j, h1, h2⟩
      · exact Or.inl q
      · exact Or.inr ⟨j, by omega, h2⟩
theorem lcmp_ge {a b : Int64} (h : 0 ≤ lg_cmp a b) : ¬ a < b := lcmp_i.mp h
theorem lcmp_lt {a b : Int64} (h : ¬ 0 ≤ lg_cmp a b) : a < b := Classical.byContradiction fun q => h (lcmp_i.mpr q)
theorem nI_lt64 {a b : Nat} (ha : a < 100000) (hb : b < 100000) : (nI a).toInt64 < (nI b).toInt64 ↔ a < b := i64_lt.trans (nI_ltI (by omega) (by omega))
section
variable {l : Launch} {G : zG}
theorem c_max (hl : l.stackTraces = false) (M : zMem) (x z : Int32) : zCm l G mJ9_max_7cf53 0 0 0 0 [.int x, .int z] M (zD (some (.int (zmx x z))) M) := by
  refine zCd.ofF (ls0 := [some (.int (x)), some (.int (z))]) (by decide +kernel) rfl hl rfl (Nat.le_of_ble_eq_true rfl) rfl ?_
  refine s_iload_n (zdk hJ9_max_7cf53 0 rfl) rfl ?_
  refine s_iload_n (zdk hJ9_max_7cf53 1 rfl) rfl ?_
  refine s_icmp_lt 9 (zdk hJ9_max_7cf53 2 rfl) (by decide) (fun c2 => ?_) (fun c2 => ?_)
  · refine s_iload_n (zdk hJ9_max_7cf53 5 rfl) rfl ?_
    refine s_ireturn (zdk hJ9_max_7cf53 6 rfl) rfl rfl ?_
    first | (unfold zmx; rw [if_pos (by first | assumption | exact Int32.not_lt.mp (by assumption))]; exact ⟨rfl, rfl⟩) | (unfold zmx; rw [if_neg (by first | assumption | exact Int32.not_le.mpr (by assumption))]; exact ⟨rfl, rfl⟩)
  · refine s_iload_n (zdk hJ9_max_7cf53 3 rfl) rfl ?_
    refine s_goto 10 (zdk hJ9_max_7cf53 4 rfl) (by decide) ?_
    refine s_ireturn (zdk hJ9_max_7cf53 6 rfl) rfl rfl ?_
    first | (unfold zmx; rw [if_pos (by first | assumption | exact Int32.not_lt.mp (by assumption))]; exact ⟨rfl, rfl⟩) | (unfold zmx; rw [if_neg (by first | assumption | exact Int32.not_le.mpr (by assumption))]; exact ⟨rfl, rfl⟩)
theorem c_min (hl : l.stackTraces = false) (M : zMem) (x z : Int32) : zCm l G mJ9_min_7cf53 0 0 0 0 [.int x, .int z] M (zD (some (.int (zmi x z))) M) := by
  refine zCd.ofF (ls0 := [some (.int (x)), some (.int (z))]) (by decide +kernel) rfl hl rfl (Nat.le_of_ble_eq_true rfl) rfl ?_
  refine s_iload_n (zdk hJ9_min_7cf53 0 rfl) rfl ?_
  refine s_iload_n (zdk hJ9_min_7cf53 1 rfl) rfl ?_
  refine s_icmp_gt 9 (zdk hJ9_min_7cf53 2 rfl) (by decide) (fun c2 => ?_) (fun c2 => ?_)
  · refine s_iload_n (zdk hJ9_min_7cf53 5 rfl) rfl ?_
    refine s_ireturn (zdk hJ9_min_7cf53 6 rfl) rfl rfl ?_
    first | (unfold zmi; rw [if_pos (by first | assumption | exact Int32.not_lt.mp (by assumption))]; exact ⟨rfl, rfl⟩) | (unfold zmi; rw [if_neg (by first | assumption | exact Int32.not_le.mpr (by assumption))]; exact ⟨rfl, rfl⟩)
  · refine s_iload_n (zdk hJ9_min_7cf53 3 rfl) rfl ?_
    refine s_goto 10 (zdk hJ9_min_7cf53 4 rfl) (by decide) ?_
    refine s_ireturn (zdk hJ9_min_7cf53 6 rfl) rfl rfl ?_
    first | (unfold zmi; rw [if_pos (by first | assumption | exact Int32.not_lt.mp (by assumption))]; exact ⟨rfl, rfl⟩) | (unfold zmi; rw [if_neg (by first | assumption | exact Int32.not_le.mpr (by assumption))]; exact ⟨rfl, rfl⟩)
theorem w_X9_knownOf_4 (hl : l.stackTraces = false) {M : zMem} (hm : mSh M) {g : Nat → Int64} (hb : gBd g) {f : Nat} (hf : f < 20) : ∀ (k : Nat) (i : Nat), i ≤ gN g 0 → gN g 0 - i < k → zS l G mX9_knownOf 2 44 0 0 4 [some (.ref 941), some (.int (nI f)), some (.int (zkn (gs g f) i)), some (.int (nI i))] [] (zsL M 942 g) (zD (some (.int (zkn (gs g f) (gN g 0)))) (zsL M 942 g)) := by
  intro k
  induction k with
  | zero => intros; omega
  | succ k ih =>
    intro i hi hk
    have hn := hb.2.2.1.2
    have hc := hb.1.2.2
    have ht4 := hb.2.1.2
    refine s_iload_n (zdk hX9_knownOf 4 rfl) rfl ?_
    refine s_aload_n (zdk hX9_knownOf 5 rfl) rfl ?_
    refine s_iconstv (v := nI 0) (zdk hX9_knownOf 6 rfl) zc_iconst_0 ?_
    refine s_callV0 (ci := 9) [.int (nI 0)] (zdk hX9_knownOf 7 rfl) cw_X9_87 (hm.1) (by decide) rfl rfl rfl (Nat.le_of_ble_eq_true rfl) (by decide) (c_X9_itsN hl (M := M) (g := g) hm (k := 0) (by decide) (hb.h0)) ?_
    refine s_icmp_ge 40 (zdk hX9_knownOf 8 rfl) (by decide) (fun c10 => ?_) (fun c10 => ?_)
    · have n10 : gN g 0 ≤ i := nle c10 (by omega) (by omega)
      obtain rfl : i = gN g 0 := by omega
      refine s_iload_n (zdk hX9_knownOf 25 rfl) rfl ?_
      refine s_ireturn (zdk hX9_knownOf 26 rfl) rfl rfl ?_
      exact ⟨rfl, rfl⟩
    · have n10 : i < gN g 0 := nlt c10 (by omega) (by omega)
      refine s_iload_n (zdk hX9_knownOf 9 rfl) rfl ?_
      refine s_aload_n (zdk hX9_knownOf 10 rfl) rfl ?_
      refine s_iload_n (zdk hX9_knownOf 11 rfl) rfl ?_
      refine s_bipushv (v := nI 14) (zdk hX9_knownOf 12 rfl) zc_bipush_14 ?_
      refine s_iload_n (zdk hX9_knownOf 13 rfl) rfl ?_
      refine s_iadd (zdk hX9_knownOf 14 rfl) ?_
      refine s_topi (b := nI (14 + i)) (nI_add _ _) ?_
      refine s_callV0 (ci := 9) [.int (nI f), .int (nI (14 + i))] (zdk hX9_knownOf 15 rfl) cw_X9_211 (hm.1) (by decide) rfl rfl rfl (Nat.le_of_ble_eq_true rfl) (by decide) (c_X9_ofS hl (M := M) (g := g) hm (f := f) (p := i) (by omega)) ?_
      refine s_iconstv (v := (-1)) (zdk hX9_knownOf 16 rfl) zc_iconst_m1 ?_
      refine s_icmp_ne 31 (zdk hX9_knownOf 17 rfl) (by decide) (fun c24 => ?_) (fun c24 => ?_)
      · have e1 : zkn (gs g f) (i + 1) = zkn (gs g f) i + nI 1 := if_neg c24
        refine s_iconstv (v := nI 1) (zdk hX9_knownOf 20 rfl) zc_iconst_1 ?_
        refine s_iadd (zdk hX9_knownOf 21 rfl) ?_
        refine s_istore_n (zdk hX9_knownOf 22 rfl) (Nat.le_of_ble_eq_true rfl) ?_
        refine s_ls (ls' := [some (.ref 941), some (.int (nI f)), some (.int ((zkn (gs g f) i) + (nI 1))), some (.int (nI i))]) rfl ?_
        refine s_ls (ls' := [some (.ref 941), some (.int (nI f)), some (.int (zkn (gs g f) (i + 1))), some (.int (nI i))]) (by rw [e1]) ?_
        refine s_iinc (r := nI (i + 1)) (zdk hX9_knownOf 23 rfl) (Nat.le_of_ble_eq_true rfl) rfl (nI_1 _) ?_
        refine s_ls (ls' := [some (.ref 941), some (.int (nI f)), some (.int (zkn (gs g f) (i + 1))), some (.int (nI (i + 1)))]) rfl ?_
        refine s_goto 4 (zdk hX9_knownOf 24 rfl) (by decide) ?_
        exact ih (i + 1) (by omega) (by omega)
      · have e1 : zkn (gs g f) (i + 1) = zkn (gs g f) i + nI 0 := (if_pos c24).trans (Int32.add_zero _).symm
        refine s_iconstv (v := nI 0) (zdk hX9_knownOf 18 rfl) zc_iconst_0 ?_
        refine s_goto 32 (zdk hX9_knownOf 19 rfl) (by decide) ?_
        refine s_iadd (zdk hX9_knownOf 21 rfl) ?_
        refine s_istore_n (zdk hX9_knownOf 22 rfl) (Nat.le_of_ble_eq_true rfl) ?_
        refine s_ls (ls' := [some (.ref 941), some (.int (nI f)), some (.int ((zkn (gs g f) i) + (nI 0))), some (.int (nI i))]) rfl ?_
        refine s_ls (ls' := [some (.ref 941), some (.int (nI f)), some (.int (zkn (gs g f) (i + 1))), some (.int (nI i))]) (by rw [e1]) ?_
        refine s_iinc (r := nI (i + 1)) (zdk hX9_knownOf 23 rfl) (Nat.le_of_ble_eq_true rfl) rfl (nI_1 _) ?_
        refine s_ls (ls' := [some (.ref 941), some (.int (nI f)), some (.int (zkn (gs g f) (i + 1))), some (.int (nI (i + 1)))]) rfl ?_
        refine s_goto 4 (zdk hX9_knownOf 24 rfl) (by decide) ?_
        exact ih (i + 1) (by omega) (by omega)
theorem c_X9_knownOf (hl : l.stackTraces = false) {M : zMem} (hm : mSh M) {g : Nat → Int64} (hb : gBd g) {f : Nat} (hf : f < 20) : zCm l G mX9_knownOf 2 44 0 0 [.ref 941, .int (nI f)] (zsL M 942 g) (zD (some (.int (zkn (gs g f) (gN g 0)))) (zsL M 942 g)) := by
  refine zCd.of (ls0 := [some (.ref 941), some (.int (nI f)), none, none]) (by decide +kernel) rfl hl rfl (Nat.le_of_ble_eq_true rfl) rfl ?_
  refine s_iconstv (v := nI 0) (zdk hX9_knownOf 0 rfl) zc_iconst_0 ?_
  refine s_istore_n (zdk hX9_knownOf 1 rfl) (Nat.le_of_ble_eq_true rfl) ?_
  refine s_ls (ls' := [some (.ref 941), some (.int (nI f)), some (.int (nI 0)), none]) rfl ?_
  refine s_iconstv (v := nI 0) (zdk hX9_knownOf 2 rfl) zc_iconst_0 ?_
  refine s_istore_n (zdk hX9_knownOf 3 rfl) (Nat.le_of_ble_eq_true rfl) ?_
  refine s_ls (ls' := [some (.ref 941), some (.int (nI f)), some (.int (nI 0)), some (.int (nI 0))]) rfl ?_
  exact w_X9_knownOf_4 hl hm hb hf (gN g 0 + 1) 0 (by omega) (by omega)
theorem w_X9_forecastOf_42 (hl : l.stackTraces = false) {M : zMem} (hm : mSh M) {g : Nat → Int64} (hb : gBd g) {f : Nat} (hf : f < 20) {a : Nat} (ha : a ≤ 24) (hown : gs g f (zph g a) = (-1)) (own : Int32) : ∀ (k : Nat) (i : Nat), i ≤ gN g 0 → gN g 0 - i < k → zS l G mX9_forecastOf 3 70 0 0 42 [some (.ref 941), some (.int (nI f)), some (.int (nI a)), some (.int (own)), some (.int (zkn (gs g f) (gN g 0))), some (.int (zsx (gs g f) i)), some (.int (nI i))] [] (zsL M 942 g) (zD (some (.int (zfR g f a))) (zsL M 942 g)) := by
  intro k
  induction k with
  | zero => intros; omega
  | succ k ih =>
    intro i hi hk
    have hn := hb.2.2.1.2
    have hc := hb.1.2.2
    have ht4 := hb.2.1.2
    refine s_iload (zdk hX9_forecastOf 28 rfl) rfl ?_
    refine s_aload_n (zdk hX9_forecastOf 29 rfl) rfl ?_
    refine s_iconstv (v := nI 0) (zdk hX9_forecastOf 30 rfl) zc_iconst_0 ?_
    refine s_callV0 (ci := 9) [.int (nI 0)] (zdk hX9_forecastOf 31 rfl) cw_X9_87 (hm.1) (by decide) rfl rfl rfl (Nat.le_of_ble_eq_true rfl) (by decide) (c_X9_itsN hl (M := M) (g := g) hm (k := 0) (by decide) (hb.h0)) ?_
    refine s_icmp_ge 77 (zdk hX9_forecastOf 32 rfl) (by decide) (fun c49 => ?_) (fun c49 => ?_)
    · have n49 : gN g 0 ≤ i := nle c49 (by omega) (by omega)
      obtain rfl : i = gN g 0 := by omega
      refine s_iload (zdk hX9_forecastOf 46 rfl) rfl ?_
      refine s_if_ne 86 (zdk hX9_forecastOf 47 rfl) (by decide) (fun c79 => ?_) (fun c79 => ?_)
      · unfold zfR
        rw [if_pos hown, if_neg c79]
        refine s_iload (zdk hX9_forecastOf 50 rfl) rfl ?_
        refine s_iload (zdk hX9_forecastOf 51 rfl) rfl ?_
        refine s_idiv (zdk hX9_forecastOf 52 rfl) (c79) ?_
        refine s_ireturn (zdk hX9_forecastOf 53 rfl) rfl rfl ?_
        exact ⟨rfl, rfl⟩
      · unfold zfR
        rw [if_pos hown, if_pos c79]
        refine s_iconstv (v := nI 0) (zdk hX9_forecastOf 48 rfl) zc_iconst_0 ?_
        refine s_goto 91 (zdk hX9_forecastOf 49 rfl) (by decide) ?_
        refine s_ireturn (zdk hX9_forecastOf 53 rfl) rfl rfl ?_
        exact ⟨rfl, rfl⟩
    · have n49 : i < gN g 0 := nlt c49 (by omega) (by omega)
      refine s_iload (zdk hX9_forecastOf 33 rfl) rfl ?_
      refine s_iconstv (v := nI 0) (zdk hX9_forecastOf 34 rfl) zc_iconst_0 ?_
      refine s_aload_n (zdk hX9_forecastOf 35 rfl) rfl ?_
      refine s_iload_n (zdk hX9_forecastOf 36 rfl) rfl ?_
      refine s_bipushv (v := nI 14) (zdk hX9_forecastOf 37 rfl) zc_bipush_14 ?_
      refine s_iload (zdk hX9_forecastOf 38 rfl) rfl ?_
      refine s_iadd (zdk hX9_forecastOf 39 rfl) ?_
      refine s_topi (b := nI (14 + i)) (nI_add _ _) ?_
      refine s_callV0 (ci := 9) [.int (nI f), .int (nI (14 + i))] (zdk hX9_forecastOf 40 rfl) cw_X9_211 (hm.1) (by decide) rfl rfl rfl (Nat.le_of_ble_eq_true rfl) (by decide) (c_X9_ofS hl (M := M) (g := g) hm (f := f) (p := i) (by omega)) ?_
      refine s_callS0 [.int (nI 0), .int (gs g f i)] (zdk hX9_forecastOf 41 rfl) cw_X9_223 rfl (Nat.le_of_ble_eq_true rfl) (by decide) (c_max hl (zsL M 942 g) (nI 0) (gs g f i)) ?_
      refine s_iadd (zdk hX9_forecastOf 42 rfl) ?_
      refine s_istore (zdk hX9_forecastOf 43 rfl) (Nat.le_of_ble_eq_true rfl) ?_
      refine s_ls (ls' := [some (.ref 941), some (.int (nI f)), some (.int (nI a)), some (.int (own)), some (.int (zkn (gs g f) (gN g 0))), some (.int ((zsx (gs g f) i) + (zmx (nI 0) (gs g f i)))), some (.int (nI i))]) rfl ?_
      refine s_ls (ls' := [some (.ref 941), some (.int (nI f)), some (.int (nI a)), some (.int (own)), some (.int (zkn (gs g f) (gN g 0))), some (.int (zsx (gs g f) (i + 1))), some (.int (nI i))]) (by rw [show zsx (gs g f) (i + 1) = zsx (gs g f) i + zmx (nI 0) (gs g f i) from rfl]) ?_
      refine s_iinc (r := nI (i + 1)) (zdk hX9_forecastOf 44 rfl) (Nat.le_of_ble_eq_true rfl) rfl (nI_1 _) ?_
      refine s_ls (ls' := [some (.ref 941), some (.int (nI f)), some (.int (nI a)), some (.int (own)), some (.int (zkn (gs g f) (gN g 0))), some (.int (zsx (gs g f) (i + 1))), some (.int (nI (i + 1)))]) rfl ?_
      refine s_goto 42 (zdk hX9_forecastOf 45 rfl) (by decide) ?_
      exact ih (i + 1) (by omega) (by omega)
theorem c_X9_forecastOf (hl : l.stackTraces = false) {M : zMem} (hm : mSh M) {g : Nat → Int64} (hb : gBd g) {f : Nat} (hf : f < 20) {a : Nat} (ha : a ≤ 24) : zCm l G mX9_forecastOf 3 70 0 0 [.ref 941, .int (nI f), .int (nI a)] (zsL M 942 g) (zD (some (.int (zfR g f a))) (zsL M 942 g)) := by
  refine zCd.of (ls0 := [some (.ref 941), some (.int (nI f)), some (.int (nI a)), none, none, none, none]) (by decide +kernel) rfl hl rfl (Nat.le_of_ble_eq_true rfl) rfl ?_
  have hc := hb.1.2.2
  have hc2 := hb.1.2.1
  have hp4 := hb.2.2.2.1.2
  have hph : zph g a < gN g 0 := Nat.mod_lt _ (by omega)
  refine s_aload_n (zdk hX9_forecastOf 0 rfl) rfl ?_
  refine s_iload_n (zdk hX9_forecastOf 1 rfl) rfl ?_
  refine s_bipushv (v := nI 14) (zdk hX9_forecastOf 2 rfl) zc_bipush_14 ?_
  refine s_aload_n (zdk hX9_forecastOf 3 rfl) rfl ?_
  refine s_iconstv (v := nI 4) (zdk hX9_forecastOf 4 rfl) zc_iconst_4 ?_
  refine s_callV0 (ci := 9) [.int (nI 4)] (zdk hX9_forecastOf 5 rfl) cw_X9_87 (hm.1) (by decide) rfl rfl rfl (Nat.le_of_ble_eq_true rfl) (by decide) (c_X9_itsN hl (M := M) (g := g) hm (k := 4) (by decide) (hb.h4)) ?_
  refine s_iload_n (zdk hX9_forecastOf 6 rfl) rfl ?_
  refine s_iadd (zdk hX9_forecastOf 7 rfl) ?_
  refine s_topi (b := nI (gN g 4 + a)) (nI_add _ _) ?_
  refine s_aload_n (zdk hX9_forecastOf 8 rfl) rfl ?_
  refine s_iconstv (v := nI 0) (zdk hX9_forecastOf 9 rfl) zc_iconst_0 ?_
  refine s_callV0 (ci := 9) [.int (nI 0)] (zdk hX9_forecastOf 10 rfl) cw_X9_87 (hm.1) (by decide) rfl rfl rfl (Nat.le_of_ble_eq_true rfl) (by decide) (c_X9_itsN hl (M := M) (g := g) hm (k := 0) (by decide) (hb.h0)) ?_
  refine s_irem (zdk hX9_forecastOf 11 rfl) ((fun q => nI_ne0 (by omega) (by omega) q)) ?_
  refine s_topi (b := nI ((gN g 4 + a) % (gN g 0))) (pk_rem (by omega) (by omega) (by omega)) ?_
  refine s_iadd (zdk hX9_forecastOf 12 rfl) ?_
  refine s_topi (b := nI (14 + zph g a)) (nI_add _ _) ?_
  refine s_callV0 (ci := 9) [.int (nI f), .int (nI (14 + zph g a))] (zdk hX9_forecastOf 13 rfl) cw_X9_211 (hm.1) (by decide) rfl rfl rfl (Nat.le_of_ble_eq_true rfl) (by decide) (c_X9_ofS hl (M := M) (g := g) hm (f := f) (p := (zph g a)) (by omega)) ?_
  refine s_istore_n (zdk hX9_forecastOf 14 rfl) (Nat.le_of_ble_eq_true rfl) ?_
  refine s_ls (ls' := [some (.ref 941), some (.int (nI f)), some (.int (nI a)), some (.int (gs g f (zph g a))), none, none, none]) rfl ?_
  refine s_iload_n (zdk hX9_forecastOf 15 rfl) rfl ?_
  refine s_iconstv (v := (-1)) (zdk hX9_forecastOf 16 rfl) zc_iconst_m1 ?_
  refine s_icmp_eq 29 (zdk hX9_forecastOf 17 rfl) (by decide) (fun c24 => ?_) (fun c24 => ?_)
  · refine s_aload_n (zdk hX9_forecastOf 20 rfl) rfl ?_
    refine s_iload_n (zdk hX9_forecastOf 21 rfl) rfl ?_
    refine s_callV0 (ci := 9) [.int (nI f)] (zdk hX9_forecastOf 22 rfl) cw_X9_220 (hm.1) (by decide) rfl rfl rfl (Nat.le_of_ble_eq_true rfl) (by decide) (c_X9_knownOf hl (M := M) (g := g) hm hb (f := f) (by omega)) ?_
    refine s_istore (zdk hX9_forecastOf 23 rfl) (Nat.le_of_ble_eq_true rfl) ?_
    refine s_ls (ls' := [some (.ref 941), some (.int (nI f)), some (.int (nI a)), some (.int (gs g f (zph g a))), some (.int (zkn (gs g f) (gN g 0))), none, none]) rfl ?_
    refine s_iconstv (v := nI 0) (zdk hX9_forecastOf 24 rfl) zc_iconst_0 ?_
    refine s_istore (zdk hX9_forecastOf 25 rfl) (Nat.le_of_ble_eq_true rfl) ?_
    refine s_ls (ls' := [some (.ref 941), some (.int (nI f)), some (.int (nI a)), some (.int (gs g f (zph g a))), some (.int (zkn (gs g f) (gN g 0))), some (.int (nI 0)), none]) rfl ?_
    refine s_iconstv (v := nI 0) (zdk hX9_forecastOf 26 rfl) zc_iconst_0 ?_
    refine s_istore (zdk hX9_forecastOf 27 rfl) (Nat.le_of_ble_eq_true rfl) ?_
    refine s_ls (ls' := [some (.ref 941), some (.int (nI f)), some (.int (nI a)), some (.int (gs g f (zph g a))), some (.int (zkn (gs g f) (gN g 0))), some (.int (nI 0)), some (.int (nI 0))]) rfl ?_
    exact w_X9_forecastOf_42 hl hm hb hf ha c24 _ (gN g 0 + 1) 0 (by omega) (by omega)
  · have e : zfR g f a = gs g f (zph g a) := if_neg c24
    rw [e]
    refine s_iload_n (zdk hX9_forecastOf 18 rfl) rfl ?_
    refine s_ireturn (zdk hX9_forecastOf 19 rfl) rfl rfl ?_
    exact ⟨rfl, rfl⟩
theorem c_X9_learns (hl : l.stackTraces = false) {M : zMem} (hm : mSh M) {g : Nat → Int64} {f ph : Nat} (hf : f < 20) (hp : ph < 12) (u : Int32) : zCm l G mX9_learns 2 44 0 0 [.ref 941, .int (nI f), .int (nI ph), .int (u)] (zsL M 942 g) (zD none (zsL M 942 (oLearn g f ph u))) := by
  refine zCd.of (ls0 := [some (.ref 941), some (.int (nI f)), some (.int (nI ph)), some (.int (u)), none]) (by decide +kernel) rfl hl rfl (Nat.le_of_ble_eq_true rfl) (by unfold oLearn; exact (zsL_1 _ _ _ _ _) ▸ rfl) ?_
  refine s_aload_n (zdk hX9_learns 0 rfl) rfl ?_
  refine s_iload_n (zdk hX9_learns 1 rfl) rfl ?_
  refine s_bipushv (v := nI 14) (zdk hX9_learns 2 rfl) zc_bipush_14 ?_
  refine s_iload_n (zdk hX9_learns 3 rfl) rfl ?_
  refine s_iadd (zdk hX9_learns 4 rfl) ?_
  refine s_topi (b := nI (14 + ph)) (nI_add _ _) ?_
  refine s_callV0 (ci := 9) [.int (nI f), .int (nI (14 + ph))] (zdk hX9_learns 5 rfl) cw_X9_211 (hm.1) (by decide) rfl rfl rfl (Nat.le_of_ble_eq_true rfl) (by decide) (c_X9_ofS hl (M := M) (g := g) hm (f := f) (p := ph) (by omega)) ?_
  refine s_istore (zdk hX9_learns 6 rfl) (Nat.le_of_ble_eq_true rfl) ?_
  refine s_ls (ls' := [some (.ref 941), some (.int (nI f)), some (.int (nI ph)), some (.int (u)), some (.int (gs g f ph))]) rfl ?_
  refine s_aload_n (zdk hX9_learns 7 rfl) rfl ?_
  refine s_iload_n (zdk hX9_learns 8 rfl) rfl ?_
  refine s_bipushv (v := nI 14) (zdk hX9_learns 9 rfl) zc_bipush_14 ?_
  refine s_iload_n (zdk hX9_learns 10 rfl) rfl ?_
  refine s_iadd (zdk hX9_learns 11 rfl) ?_
  refine s_topi (b := nI (14 + ph)) (nI_add _ _) ?_
  refine s_iload (zdk hX9_learns 12 rfl) rfl ?_
  refine s_iconstv (v := (-1)) (zdk hX9_learns 13 rfl) zc_iconst_m1 ?_
  refine s_icmp_ne 31 (zdk hX9_learns 14 rfl) (by decide) (fun c20 => ?_) (fun c20 => ?_)
  · refine s_iload (zdk hX9_learns 20 rfl) rfl ?_
    refine s_bipushv (v := nI 16) (zdk hX9_learns 21 rfl) zc_bipush_16 ?_
    refine s_iload_n (zdk hX9_learns 22 rfl) rfl ?_
    refine s_imul (zdk hX9_learns 23 rfl) ?_
    refine s_iload (zdk hX9_learns 24 rfl) rfl ?_
    refine s_isub (zdk hX9_learns 25 rfl) ?_
    refine s_aload_n (zdk hX9_learns 26 rfl) rfl ?_
    refine s_iconstv (v := nI 1) (zdk hX9_learns 27 rfl) zc_iconst_1 ?_
    refine s_callV0 (ci := 9) [.int (nI 1)] (zdk hX9_learns 28 rfl) cw_X9_87 (hm.1) (by decide) rfl rfl rfl (Nat.le_of_ble_eq_true rfl) (by decide) (c_X9_its hl (M := M) (g := g) hm (k := 1) (by omega)) ?_
    refine s_imul (zdk hX9_learns 29 rfl) ?_
    refine s_bipushv (v := nI 8) (zdk hX9_learns 30 rfl) zc_bipush_8 ?_
    refine s_idiv (zdk hX9_learns 31 rfl) (by decide) ?_
    refine s_iadd (zdk hX9_learns 32 rfl) ?_
    refine s_i2l (zdk hX9_learns 33 rfl) ?_
    refine s_callV0 (ci := 9) [.int (nI f), .int (nI (14 + ph)), .long (((gs g f ph) + (((((nI 16) * (u)) - (gs g f ph)) * (its g 1)) / (nI 8))).toInt64)] (zdk hX9_learns 34 rfl) cw_X9_193 (hm.1) (by decide) rfl rfl rfl (Nat.le_of_ble_eq_true rfl) (by decide) (c_X9_sets hl (M := M) (g := g) hm (f := f) (k := (14 + ph)) (E := 58 + 51 * f + 14 + ph) (by omega) (by omega) (((gs g f ph) + (((((nI 16) * (u)) - (gs g f ph)) * (its g 1)) / (nI 8))).toInt64)) ?_
    refine s_return (zdk hX9_learns 35 rfl) rfl ?_
    first | (unfold oLearn zlv; rw [if_pos c20]; exact ⟨rfl, rfl⟩) | (unfold oLearn zlv; rw [if_neg c20]; exact ⟨rfl, rfl⟩)
  · refine s_bipushv (v := nI 16) (zdk hX9_learns 15 rfl) zc_bipush_16 ?_
    refine s_iload_n (zdk hX9_learns 16 rfl) rfl ?_
    refine s_imul (zdk hX9_learns 17 rfl) ?_
    refine s_i2l (zdk hX9_learns 18 rfl) ?_
    refine s_goto 51 (zdk hX9_learns 19 rfl) (by decide) ?_
    refine s_callV0 (ci := 9) [.int (nI f), .int (nI (14 + ph)), .long (((nI 16) * (u)).toInt64)] (zdk hX9_learns 34 rfl) cw_X9_193 (hm.1) (by decide) rfl rfl rfl (Nat.le_of_ble_eq_true rfl) (by decide) (c_X9_sets hl (M := M) (g := g) hm (f := f) (k := (14 + ph)) (E := 58 + 51 * f + 14 + ph) (by omega) (by omega) (((nI 16) * (u)).toInt64)) ?_
    refine s_return (zdk hX9_learns 35 rfl) rfl ?_
    first | (unfold oLearn zlv; rw [if_pos c20]; exact ⟨rfl, rfl⟩) | (unfold oLearn zlv; rw [if_neg c20]; exact ⟨rfl, rfl⟩)
end
