theorem zc_bipush_12 : (Int8.ofInt 12).toInt32 = nI 12 := by decide
theorem zc_iconst_m1 : Int32.ofInt (-1) = (-1) := by decide
theorem zc_iconst_0 : Int32.ofInt 0 = nI 0 := by decide
theorem zc_iconst_1 : Int32.ofInt 1 = nI 1 := by decide
/-! ===== FileRow ===== -/
/-- a file's row: its kind, its two rows of numbers -/
def rSh (M : zMem) (a : Nat) : Prop := zK M a = 1 ∧ zR M a 8 = some (a + 1) ∧ zR M a 9 = some (a + 2) ∧ zK M (a + 1) = 11 ∧ zN M (a + 1) = 24 ∧ zK M (a + 2) = 11 ∧ zN M (a + 2) = 12
theorem nle {a b : Nat} (h : nI a ≤ nI b) (ha : a < 100000) (hb : b < 100000) : a ≤ b := (nI_leI (by omega) (by omega)).mp h
theorem nlt {a b : Nat} (h : ¬ nI a ≤ nI b) (ha : a < 100000) (hb : b < 100000) : b < a := by
  rcases Nat.lt_or_ge b a with q | q
  · exact q
  · exact absurd (nI_le q (by omega)) h
theorem nlt' {a b : Nat} (h : nI a < nI b) (ha : a < 100000) (hb : b < 100000) : a < b := (nI_ltI (by omega) (by omega)).mp h
theorem nge' {a b : Nat} (h : ¬ nI a < nI b) (ha : a < 100000) (hb : b < 100000) : b ≤ a := by
  rcases Nat.lt_or_ge a b with q | q
  · exact absurd (nI_lt q (by omega)) h
  · exact q
theorem neq {a b : Nat} (h : nI a = nI b) (ha : a < 100000) (hb : b < 100000) : a = b := (nI_eq (by omega) (by omega)).mp h
theorem nne {a b : Nat} (h : ¬ nI a = nI b) : a ≠ b := fun q => h (by rw [q])
theorem ngt0 {x : Int32} (h : x ≤ 0) : ¬ 0 < x := Int32.not_lt.mpr h
/-- how many of the first n are known -/
def zkn (g : Nat → Int32) : Nat → Int32
  | 0 => nI 0
  | n + 1 => if g n = (-1) then zkn g n else zkn g n + nI 1
/-- the sum of those that are known -/
def zsm (g : Nat → Int32) : Nat → Int32
  | 0 => nI 0
  | n + 1 => if g n = (-1) then zsm g n else zsm g n + g n
/-- the greatest so far: where, what -/
def zbp (g : Nat → Int32) : Nat → Int32 × Int32
  | 0 => (-1, -1)
  | n + 1 => if g n ≤ (zbp g n).2 then zbp g n else (nI n, g n)
/-- the least of the known, from m -/
def zlt (g : Nat → Int32) (m : Int32) : Nat → Int32
  | 0 => m
  | n + 1 => if g n = (-1) then zlt g m n else if zlt g m n ≤ g n then zlt g m n else g n
def zspr (g : Nat → Int32) : Int32 := if (zbp g 12).1 = (-1) then nI 0 else (zbp g 12).2 - zlt g (zbp g 12).2 12
def zmn (g : Nat → Int32) : Int32 := if zkn g 12 = 0 then nI 0 else zsm g 12 / zkn g 12
def zfc (g : Nat → Int32) (ph : Nat) : Int32 := if g ph = (-1) then zmn g else g ph
def zlv (old u rate : Int32) : Int32 := if old = (-1) then nI 16 * u else old + (nI 16 * u - old) * rate / nI 8
def zab (x : Int32) : Int32 := if x < 0 then -x else x
/-- differences at a distance -/
def zdf (u : Nat → Int32) (c : Nat) : Nat → Int32
  | 0 => nI 0
  | i + 1 => zdf u c i + zab (u i - u (i + c))
/-- the own cycle, over the numbers from 2 to 1 + k: the best, its sum, its pairs -/
def zoc (u : Nat → Int32) (n : Nat) : Nat → Int32 × Int32 × Int32
  | 0 => (-1, nI 0, nI 1)
  | k + 1 => if (zoc u n k).1 = (-1) ∨ zdf u (k + 2) (n - (k + 2)) * (zoc u n k).2.2 < (zoc u n k).2.1 * nI (n - (k + 2)) then (nI (k + 2), zdf u (k + 2) (n - (k + 2)), nI (n - (k + 2))) else zoc u n k
theorem zbp_at (g : Nat → Int32) : ∀ n, (zbp g n).1 = (-1) ∧ (zbp g n).2 = (-1) ∨ ∃ j, j < n ∧ (zbp g n).1 = nI j ∧ (zbp g n).2 = g j
  | 0 => Or.inl ⟨rfl, rfl⟩
  | n + 1 => by
    unfold zbp
    by_cases h : g n ≤ (zbp g n).2
    · rw [if_pos h]
      rcases zbp_at g n with q | ⟨j, h1, h2, h3⟩
      · exact Or.inl q
      · exact Or.inr ⟨j, by omega, h2, h3⟩
    · rw [if_neg h]
      exact Or.inr ⟨n, by omega, rfl, rfl⟩
/-- a row's contents as they were, but for one place -/
def zw1 (g : Nat → Int32) (k : Nat) (v : Int32) : Nat → Int32 := fun j => if j = k then v else g j
theorem zsA_1 (M : zMem) (a k : Nat) (g : Nat → Int32) (v : Int32) : zsI (zsA M a g) a k v = zsA M a (zw1 g k v) := by
  unfold zsI zsA
  congr 1
  funext b
  unfold zu zur zw1
  by_cases h : b = a
  · simp [h]
  · simp [h]
theorem zsA_0 (M : zMem) (a k : Nat) (v : Int32) : zsI M a k v = zsA M a (zw1 (zI M a) k v) := by
  unfold zsI zsA
  congr 1
theorem zsA_id (M : zMem) (a : Nat) : zsA M a (zI M a) = M := by
  unfold zsA
  have : zur M.1 a (zI M a) = M.1 := by
    funext b
    unfold zur
    by_cases h : b = a
    · rw [if_pos h, h]; rfl
    · rw [if_neg h]
  rw [this]
theorem zsA_g {M : zMem} {a : Nat} {g h : Nat → Int32} (e : g = h) : zsA M a g = zsA M a h := by rw [e]
theorem zsA_zsA (M : zMem) (a : Nat) (g h : Nat → Int32) : zsA (zsA M a g) a h = zsA M a h := by
  unfold zsA
  congr 1
  funext b
  unfold zur
  by_cases q : b = a
  · simp [q]
  · simp [q]
theorem zI_A (M : zMem) (a : Nat) (g : Nat → Int32) : zI (zsA M a g) a = g := if_pos rfl
theorem zI_An (M : zMem) {a b : Nat} (g : Nat → Int32) (h : b ≠ a) : zI (zsA M a g) b = zI M b := if_neg h
/-- unknown in the first n -/
def zuk (g : Nat → Int32) (n : Nat) : Nat → Int32 := fun j => if j < n then (-1) else g j
theorem zuk_0 (g : Nat → Int32) : zuk g 0 = g := by funext j; unfold zuk; rw [if_neg (by omega)]
theorem zuk_1 (g : Nat → Int32) (n : Nat) : zw1 (zuk g n) n (-1) = zuk g (n + 1) := by
  funext j
  unfold zw1 zuk
  by_cases h : j = n
  · rw [if_pos h, if_pos (by omega)]
  · rw [if_neg h]
    by_cases q : j < n
    · rw [if_pos q, if_pos (by omega)]
    · rw [if_neg q, if_neg (by omega)]
section
variable {l : Launch} {G : zG}
theorem c_abs (hl : l.stackTraces = false) (M : zMem) (x : Int32) : zCm l G mJ9_abs_0f7a4 0 0 0 0 [.int x] M (zD (some (.int (zab x))) M) := by
  refine zCd.ofF (ls0 := [some (.int (x))]) (by decide +kernel) rfl hl rfl (Nat.le_of_ble_eq_true rfl) rfl ?_
  refine s_iload_n (zdk hJ9_abs_0f7a4 0 rfl) rfl ?_
  refine s_if_ge 9 (zdk hJ9_abs_0f7a4 1 rfl) (by decide) (fun c1 => ?_) (fun c1 => ?_)
  · refine s_iload_n (zdk hJ9_abs_0f7a4 5 rfl) rfl ?_
    refine s_ireturn (zdk hJ9_abs_0f7a4 6 rfl) rfl rfl ?_
    first | exact ⟨by rw [zab, if_neg (Int32.not_lt.mpr c1)], rfl⟩ | exact ⟨by rw [zab, if_pos (Int32.not_le.mp c1)], rfl⟩
  · refine s_iload_n (zdk hJ9_abs_0f7a4 2 rfl) rfl ?_
    refine s_ineg (zdk hJ9_abs_0f7a4 3 rfl) ?_
    refine s_goto 10 (zdk hJ9_abs_0f7a4 4 rfl) (by decide) ?_
    refine s_ireturn (zdk hJ9_abs_0f7a4 6 rfl) rfl rfl ?_
    first | exact ⟨by rw [zab, if_neg (Int32.not_lt.mpr c1)], rfl⟩ | exact ⟨by rw [zab, if_pos (Int32.not_le.mp c1)], rfl⟩
theorem c_floorMod (hl : l.stackTraces = false) (M : zMem) {x c : Nat} (hx : x < 100000) (hc0 : 0 < c) (hc : c < 100000) : zCm l G mJ9_floorMod_7cf53 0 0 0 0 [.int (nI x), .int (nI c)] M (zD (some (.int (nI (x % c)))) M) := by
  refine zCd.ofF (ls0 := [some (.int (nI x)), some (.int (nI c)), none]) (by decide +kernel) rfl hl rfl (Nat.le_of_ble_eq_true rfl) rfl ?_
  have hxor : 0 ≤ nI x ^^^ nI c := by
    have h1 : (nI x ^^^ nI c).toBitVec.toNat < 2 ^ 31 := by
      have e1 : (nI x).toBitVec.toNat = x := pk_tn (by omega)
      have e2 : (nI c).toBitVec.toNat = c := pk_tn (by omega)
      show ((nI x).toBitVec ^^^ (nI c).toBitVec).toNat < _
      rw [BitVec.toNat_xor, e1, e2]
      exact Nat.xor_lt_two_pow (by omega) (by omega)
    rw [Int32.le_iff_toInt_le]
    show (0 : Int) ≤ (nI x ^^^ nI c).toBitVec.toInt
    rw [BitVec.toInt_eq_toNat_cond, if_pos (by omega)]
    omega
  refine s_iload_n (zdk hJ9_floorMod_7cf53 0 rfl) rfl ?_
  refine s_iload_n (zdk hJ9_floorMod_7cf53 1 rfl) rfl ?_
  refine s_irem (zdk hJ9_floorMod_7cf53 2 rfl) (fun q => by have := nI_ne0 hc0 (by omega); exact this q) ?_
  refine s_topi (b := nI (x % c)) (pk_rem (by omega) hc0 (by omega)) ?_
  refine s_istore_n (zdk hJ9_floorMod_7cf53 3 rfl) (Nat.le_of_ble_eq_true rfl) ?_
  refine s_ls (ls' := [some (.int (nI x)), some (.int (nI c)), some (.int (nI (x % c)))]) rfl ?_
  refine s_iload_n (zdk hJ9_floorMod_7cf53 4 rfl) rfl ?_
  refine s_iload_n (zdk hJ9_floorMod_7cf53 5 rfl) rfl ?_
  refine s_ixor (zdk hJ9_floorMod_7cf53 6 rfl) ?_
  refine s_if_ge 18 (zdk hJ9_floorMod_7cf53 7 rfl) (by decide) (fun c7 => ?_) (fun c7 => ?_)
  · refine s_iload_n (zdk hJ9_floorMod_7cf53 14 rfl) rfl ?_
    refine s_ireturn (zdk hJ9_floorMod_7cf53 15 rfl) rfl rfl ?_
    exact ⟨rfl, rfl⟩
  · exact absurd hxor c7
theorem c_X0_isPinnedIn (hl : l.stackTraces = false) {M : zMem} {a : Nat} (ha : rSh M a) (per : Int32) : zCm l G mX0_isPinnedIn 0 0 0 0 [.ref a, .int per] M (zD (some (.int (if per < zI M a 4 then nI 1 else nI 0))) M) := by
  refine zCd.of (ls0 := [some (.ref a), some (.int (per))]) (by decide +kernel) rfl hl rfl (Nat.le_of_ble_eq_true rfl) rfl ?_
  refine s_iload_n (zdk hX0_isPinnedIn 0 rfl) rfl ?_
  refine s_aload_n (zdk hX0_isPinnedIn 1 rfl) rfl ?_
  refine s_getI (zdk hX0_isPinnedIn 2 rfl) fw_X0_25 rfl (ha.1) ?_
  refine s_icmp_ge 12 (zdk hX0_isPinnedIn 3 rfl) (by decide) (fun c5 => ?_) (fun c5 => ?_)
  · refine s_iconstv (v := nI 0) (zdk hX0_isPinnedIn 6 rfl) zc_iconst_0 ?_
    refine s_ireturn (zdk hX0_isPinnedIn 7 rfl) rfl rfl ?_
    first | (rw [if_neg (Int32.not_lt.mpr c5)]; exact ⟨rfl, rfl⟩) | (rw [if_pos (Int32.not_le.mp c5)]; exact ⟨rfl, rfl⟩)
  · refine s_iconstv (v := nI 1) (zdk hX0_isPinnedIn 4 rfl) zc_iconst_1 ?_
    refine s_goto 13 (zdk hX0_isPinnedIn 5 rfl) (by decide) ?_
    refine s_ireturn (zdk hX0_isPinnedIn 7 rfl) rfl rfl ?_
    first | (rw [if_neg (Int32.not_lt.mpr c5)]; exact ⟨rfl, rfl⟩) | (rw [if_pos (Int32.not_le.mp c5)]; exact ⟨rfl, rfl⟩)
theorem w_X0_forgetSeasons_2 {M : zMem} {a : Nat} (ha : rSh M a) : ∀ (k : Nat) (i : Nat), i ≤ 12 → 12 - i < k → zS l G mX0_forgetSeasons 0 0 0 0 2 [some (.ref a), some (.int (nI i))] [] (zsA M (a + 2) (zuk (zI M (a + 2)) i)) (zD none (zsA M (a + 2) (zuk (zI M (a + 2)) 12))) := by
  intro k
  induction k with
  | zero => intros; omega
  | succ k ih =>
    intro i hi hk
    refine s_iload_n (zdk hX0_forgetSeasons 2 rfl) rfl ?_
    refine s_bipushv (v := nI 12) (zdk hX0_forgetSeasons 3 rfl) zc_bipush_12 ?_
    refine s_icmp_ge 21 (zdk hX0_forgetSeasons 4 rfl) (by decide) (fun c5 => ?_) (fun c5 => ?_)
    · obtain rfl : i = 12 := by have := nle c5 (by omega) (by omega); omega
      refine s_return (zdk hX0_forgetSeasons 12 rfl) rfl ?_
      exact ⟨rfl, rfl⟩
    · have hi2 : i < 12 := nlt c5 (by omega) (by omega)
      refine s_aload_n (zdk hX0_forgetSeasons 5 rfl) rfl ?_
      refine s_getR (zdk hX0_forgetSeasons 6 rfl) fw_X0_41 rfl (ha.1) (ha.2.2.1) ?_
      refine s_iload_n (zdk hX0_forgetSeasons 7 rfl) rfl ?_
      refine s_iconstv (v := (-1)) (zdk hX0_forgetSeasons 8 rfl) zc_iconst_m1 ?_
      refine s_iastoreN (N := 12) (j := i) (zdk hX0_forgetSeasons 9 rfl) (ha.2.2.2.2.2.1) (ha.2.2.2.2.2.2) (hi2) (by decide) ?_
      refine s_mem (M' := (zsA M (a + 2) (zuk (zI M (a + 2)) (i + 1)))) ((zsA_1 M (a + 2) i _ _).trans (zsA_g (zuk_1 _ _))) ?_
      refine s_iinc (r := nI (i + 1)) (zdk hX0_forgetSeasons 10 rfl) (Nat.le_of_ble_eq_true rfl) rfl (nI_1 i) ?_
      refine s_ls (ls' := [some (.ref a), some (.int (nI (i + 1)))]) rfl ?_
      refine s_goto 2 (zdk hX0_forgetSeasons 11 rfl) (by decide) ?_
      exact ih (i + 1) (by omega) (by omega)
theorem c_X0_forgetSeasons (hl : l.stackTraces = false) {M : zMem} {a : Nat} (ha : rSh M a) : zCm l G mX0_forgetSeasons 0 0 0 0 [.ref a] M (zD none (zsA M (a + 2) (zuk (zI M (a + 2)) 12))) := by
  refine zCd.of (ls0 := [some (.ref a), none]) (by decide +kernel) rfl hl rfl (Nat.le_of_ble_eq_true rfl) rfl ?_
  refine s_iconstv (v := nI 0) (zdk hX0_forgetSeasons 0 rfl) zc_iconst_0 ?_
  refine s_istore_n (zdk hX0_forgetSeasons 1 rfl) (Nat.le_of_ble_eq_true rfl) ?_
  refine s_ls (ls' := [some (.ref a), some (.int (nI 0))]) rfl ?_
  have h := w_X0_forgetSeasons_2 (l := l) (G := G) ha 13 0 (by omega) (by omega)
  rw [zuk_0, zsA_id] at h
  exact h
theorem w_X0_knownSeasons_4 {M : zMem} {a : Nat} (ha : rSh M a) : ∀ (k : Nat) (i : Nat), i ≤ 12 → 12 - i < k → zS l G mX0_knownSeasons 0 0 0 0 4 [some (.ref a), some (.int (zkn (zI M (a + 2)) i)), some (.int (nI i))] [] M (zD (some (.int (zkn (zI M (a + 2)) 12))) M) := by
  intro k
  induction k with
  | zero => intros; omega
  | succ k ih =>
    intro i hi hk
    refine s_iload_n (zdk hX0_knownSeasons 4 rfl) rfl ?_
    refine s_bipushv (v := nI 12) (zdk hX0_knownSeasons 5 rfl) zc_bipush_12 ?_
    refine s_icmp_ge 29 (zdk hX0_knownSeasons 6 rfl) (by decide) (fun c7 => ?_) (fun c7 => ?_)
    · obtain rfl : i = 12 := by have := nle c7 (by omega) (by omega); omega
      refine s_iload_n (zdk hX0_knownSeasons 16 rfl) rfl ?_
      refine s_ireturn (zdk hX0_knownSeasons 17 rfl) rfl rfl ?_
      exact ⟨rfl, rfl⟩
    · have hi2 : i < 12 := nlt c7 (by omega) (by omega)
      refine s_aload_n (zdk hX0_knownSeasons 7 rfl) rfl ?_
      refine s_getR (zdk hX0_knownSeasons 8 rfl) fw_X0_41 rfl (ha.1) (ha.2.2.1) ?_
      refine s_iload_n (zdk hX0_knownSeasons 9 rfl) rfl ?_
      refine s_ialoadN (N := 12) (j := i) (zdk hX0_knownSeasons 10 rfl) (ha.2.2.2.2.2.1) (ha.2.2.2.2.2.2) (hi2) (by decide) ?_
      refine s_iconstv (v := (-1)) (zdk hX0_knownSeasons 11 rfl) zc_iconst_m1 ?_
      refine s_icmp_eq 23 (zdk hX0_knownSeasons 12 rfl) (by decide) (fun c17 => ?_) (fun c17 => ?_)
      · have e1 : zkn (zI M (a + 2)) (i + 1) = zkn (zI M (a + 2)) i := if_pos c17
        rw [← e1]
        refine s_iinc (r := nI (i + 1)) (zdk hX0_knownSeasons 14 rfl) (Nat.le_of_ble_eq_true rfl) rfl (nI_1 i) ?_
        refine s_ls (ls' := [some (.ref a), some (.int (zkn (zI M (a + 2)) (i + 1))), some (.int (nI (i + 1)))]) rfl ?_
        refine s_goto 4 (zdk hX0_knownSeasons 15 rfl) (by decide) ?_
        exact ih (i + 1) (by omega) (by omega)
      · have e1 : zkn (zI M (a + 2)) (i + 1) = zkn (zI M (a + 2)) i + nI 1 := if_neg c17
        refine s_iinc (r := zkn (zI M (a + 2)) i + nI 1) (zdk hX0_knownSeasons 13 rfl) (Nat.le_of_ble_eq_true rfl) rfl (rfl) ?_
        refine s_ls (ls' := [some (.ref a), some (.int (zkn (zI M (a + 2)) i + nI 1)), some (.int (nI i))]) rfl ?_
        rw [← e1]
        refine s_iinc (r := nI (i + 1)) (zdk hX0_knownSeasons 14 rfl) (Nat.le_of_ble_eq_true rfl) rfl (nI_1 i) ?_
        refine s_ls (ls' := [some (.ref a), some (.int (zkn (zI M (a + 2)) (i + 1))), some (.int (nI (i + 1)))]) rfl ?_
        refine s_goto 4 (zdk hX0_knownSeasons 15 rfl) (by decide) ?_
        exact ih (i + 1) (by omega) (by omega)
theorem c_X0_knownSeasons (hl : l.stackTraces = false) {M : zMem} {a : Nat} (ha : rSh M a) : zCm l G mX0_knownSeasons 0 0 0 0 [.ref a] M (zD (some (.int (zkn (zI M (a + 2)) 12))) M) := by
  refine zCd.of (ls0 := [some (.ref a), none, none]) (by decide +kernel) rfl hl rfl (Nat.le_of_ble_eq_true rfl) rfl ?_
  refine s_iconstv (v := nI 0) (zdk hX0_knownSeasons 0 rfl) zc_iconst_0 ?_
  refine s_istore_n (zdk hX0_knownSeasons 1 rfl) (Nat.le_of_ble_eq_true rfl) ?_
  refine s_ls (ls' := [some (.ref a), some (.int (nI 0)), none]) rfl ?_
  refine s_iconstv (v := nI 0) (zdk hX0_knownSeasons 2 rfl) zc_iconst_0 ?_
  refine s_istore_n (zdk hX0_knownSeasons 3 rfl) (Nat.le_of_ble_eq_true rfl) ?_
  refine s_ls (ls' := [some (.ref a), some (.int (nI 0)), some (.int (nI 0))]) rfl ?_
  exact w_X0_knownSeasons_4 ha 13 0 (by omega) (by omega)
theorem w_X0_busiestPhase_6 {M : zMem} {a : Nat} (ha : rSh M a) : ∀ (k : Nat) (i : Nat), i ≤ 12 → 12 - i < k → zS l G mX0_busiestPhase 0 0 0 0 6 [some (.ref a), some (.int ((zbp (zI M (a + 2)) i).1)), some (.int ((zbp (zI M (a + 2)) i).2)), some (.int (nI i))] [] M (zD (some (.int ((zbp (zI M (a + 2)) 12).1))) M) := by
  intro k
  induction k with
  | zero => intros; omega
  | succ k ih =>
    intro i hi hk
    refine s_iload_n (zdk hX0_busiestPhase 6 rfl) rfl ?_
    refine s_bipushv (v := nI 12) (zdk hX0_busiestPhase 7 rfl) zc_bipush_12 ?_
    refine s_icmp_ge 37 (zdk hX0_busiestPhase 8 rfl) (by decide) (fun c9 => ?_) (fun c9 => ?_)
    · obtain rfl : i = 12 := by have := nle c9 (by omega) (by omega); omega
      refine s_iload_n (zdk hX0_busiestPhase 24 rfl) rfl ?_
      refine s_ireturn (zdk hX0_busiestPhase 25 rfl) rfl rfl ?_
      exact ⟨rfl, rfl⟩
    · have hi2 : i < 12 := nlt c9 (by omega) (by omega)
      refine s_aload_n (zdk hX0_busiestPhase 9 rfl) rfl ?_
      refine s_getR (zdk hX0_busiestPhase 10 rfl) fw_X0_41 rfl (ha.1) (ha.2.2.1) ?_
      refine s_iload_n (zdk hX0_busiestPhase 11 rfl) rfl ?_
      refine s_ialoadN (N := 12) (j := i) (zdk hX0_busiestPhase 12 rfl) (ha.2.2.2.2.2.1) (ha.2.2.2.2.2.2) (hi2) (by decide) ?_
      refine s_iload_n (zdk hX0_busiestPhase 13 rfl) rfl ?_
      refine s_icmp_le 31 (zdk hX0_busiestPhase 14 rfl) (by decide) (fun c19 => ?_) (fun c19 => ?_)
      · have e1 : zbp (zI M (a + 2)) (i + 1) = zbp (zI M (a + 2)) i := if_pos c19
        refine s_ls (ls' := [some (.ref a), some (.int ((zbp (zI M (a + 2)) (i + 1)).1)), some (.int ((zbp (zI M (a + 2)) (i + 1)).2)), some (.int (nI i))]) (by rw [e1]) ?_
        refine s_iinc (r := nI (i + 1)) (zdk hX0_busiestPhase 22 rfl) (Nat.le_of_ble_eq_true rfl) rfl (nI_1 i) ?_
        refine s_ls (ls' := [some (.ref a), some (.int ((zbp (zI M (a + 2)) (i + 1)).1)), some (.int ((zbp (zI M (a + 2)) (i + 1)).2)), some (.int (nI (i + 1)))]) rfl ?_
        refine s_goto 6 (zdk hX0_busiestPhase 23 rfl) (by decide) ?_
        exact ih (i + 1) (by omega) (by omega)
      · have e1 : zbp (zI M (a + 2)) (i + 1) = (nI i, zI M (a + 2) i) := if_neg c19
        refine s_aload_n (zdk hX0_busiestPhase 15 rfl) rfl ?_
        refine s_getR (zdk hX0_busiestPhase 16 rfl) fw_X0_41 rfl (ha.1) (ha.2.2.1) ?_
        refine s_iload_n (zdk hX0_busiestPhase 17 rfl) rfl ?_
        refine s_ialoadN (N := 12) (j := i) (zdk hX0_busiestPhase 18 rfl) (ha.2.2.2.2.2.1) (ha.2.2.2.2.2.2) (hi2) (by decide) ?_
        refine s_istore_n (zdk hX0_busiestPhase 19 rfl) (Nat.le_of_ble_eq_true rfl) ?_
        refine s_ls (ls' := [some (.ref a), some (.int ((zbp (zI M (a + 2)) i).1)), some (.int (zI M (a + 2) (i))), some (.int (nI i))]) rfl ?_
        refine s_iload_n (zdk hX0_busiestPhase 20 rfl) rfl ?_
        refine s_istore_n (zdk hX0_busiestPhase 21 rfl) (Nat.le_of_ble_eq_true rfl) ?_
        refine s_ls (ls' := [some (.ref a), some (.int (nI i)), some (.int (zI M (a + 2) (i))), some (.int (nI i))]) rfl ?_
        refine s_ls (ls' := [some (.ref a), some (.int ((zbp (zI M (a + 2)) (i + 1)).1)), some (.int ((zbp (zI M (a + 2)) (i + 1)).2)), some (.int (nI i))]) (by rw [e1]) ?_
        refine s_iinc (r := nI (i + 1)) (zdk hX0_busiestPhase 22 rfl) (Nat.le_of_ble_eq_true rfl) rfl (nI_1 i) ?_
        refine s_ls (ls' := [some (.ref a), some (.int ((zbp (zI M (a + 2)) (i + 1)).1)), some (.int ((zbp (zI M (a + 2)) (i + 1)).2)), some (.int (nI (i + 1)))]) rfl ?_
        refine s_goto 6 (zdk hX0_busiestPhase 23 rfl) (by decide) ?_
        exact ih (i + 1) (by omega) (by omega)
end
