theorem zc_bipush_12 : (Int8.ofInt 12).toInt32 = nI 12 := by decide
theorem zc_iconst_m1 : Int32.ofInt (-1) = (-1) := by decide
theorem zc_iconst_0 : Int32.ofInt 0 = nI 0 := by decide
theorem zc_iconst_1 : Int32.ofInt 1 = nI 1 := by decide
/-! ===== FileRow ===== -/
/-- a file's row: its kind, its two rows of numbers -/
def rSh (M : zMem) (a : Nat) : Prop := zK M a = 1 ∧ zR M a 8 = some (a + 1) ∧ zR M a 9 = some (a + 2) ∧ zK M (a + 1) = 11 ∧ zN M (a + 1) = 24 ∧ zK M (a + 2) = 11 ∧ zN M (a + 2) = 12
theorem nle {a b : Nat} (h : nI a ≤ nI b) (ha : a < 100000) (hb : b < 100000) : a ≤ b := (nI_leI (by omega) (by omega)).mp h
theorem nlt {a b : Nat} (h : ¬ nI a ≤ nI b) (ha : a < 100000) (hb : b < 100000) : b < a := by
  rcases Nat.lt_or_ge b a with q | q
  · exact q
  · exact absurd (nI_le q (by omega)) h
theorem nlt' {a b : Nat} (h : nI a < nI b) (ha : a < 100000) (hb : b < 100000) : a < b := (nI_ltI (by omega) (by omega)).mp h
theorem nge' {a b : Nat} (h : ¬ nI a < nI b) (ha : a < 100000) (hb : b < 100000) : b ≤ a := by
  rcases Nat.lt_or_ge a b with q | q
  · exact absurd (nI_lt q (by omega)) h
  · exact q
theorem neq {a b : Nat} (h : nI a = nI b) (ha : a < 100000) (hb : b < 100000) : a = b := (nI_eq (by omega) (by omega)).mp h
theorem nne {a b : Nat} (h : ¬ nI a = nI b) : a ≠ b := fun q => h (by rw [q])
/-- how many of the first n are known -/
def zkn (g : Nat → Int32) : Nat → Int32
  | 0 => nI 0
  | n + 1 => if g n = (-1) then zkn g n else zkn g n + Int32.ofInt 1
section
variable {l : Launch} {G : zG}
theorem c_X0_isPinnedIn (hl : l.stackTraces = false) {M : zMem} {a : Nat} (ha : rSh M a) (per : Int32) : zCm l G mX0_isPinnedIn 0 0 0 0 [.ref a, .int per] M (zD (some (.int (if per < zI M a 4 then nI 1 else nI 0))) M) := by
  refine zCd.of (ls0 := [some (.ref a), some (.int (per))]) (by decide +kernel) rfl hl rfl (Nat.le_of_ble_eq_true rfl) rfl ?_
  refine s_iload_n (zdk hX0_isPinnedIn 0 rfl) rfl ?_
  refine s_aload_n (zdk hX0_isPinnedIn 1 rfl) rfl ?_
  refine s_getI (zdk hX0_isPinnedIn 2 rfl) fw_X0_25 rfl (ha.1) ?_
  refine s_icmp_ge 12 (zdk hX0_isPinnedIn 3 rfl) (by decide) (fun c5 => ?_) (fun c5 => ?_)
  · refine s_iconstv (v := nI 0) (zdk hX0_isPinnedIn 6 rfl) zc_iconst_0 ?_
    refine s_ireturn (zdk hX0_isPinnedIn 7 rfl) rfl rfl ?_
    first | (rw [if_neg (Int32.not_lt.mpr c5)]; exact ⟨rfl, rfl⟩) | (rw [if_pos (Int32.not_le.mp c5)]; exact ⟨rfl, rfl⟩)
  · refine s_iconstv (v := nI 1) (zdk hX0_isPinnedIn 4 rfl) zc_iconst_1 ?_
    refine s_goto 13 (zdk hX0_isPinnedIn 5 rfl) (by decide) ?_
    refine s_ireturn (zdk hX0_isPinnedIn 7 rfl) rfl rfl ?_
    first | (rw [if_neg (Int32.not_lt.mpr c5)]; exact ⟨rfl, rfl⟩) | (rw [if_pos (Int32.not_le.mp c5)]; exact ⟨rfl, rfl⟩)
theorem w_X0_knownSeasons_4 {M : zMem} {a : Nat} (ha : rSh M a) : ∀ k i : Nat, i ≤ 12 → 12 - i < k → zS l G mX0_knownSeasons 0 0 0 0 4 [some (.ref a), some (.int (zkn (zI M (a + 2)) i)), some (.int (nI i))] [] M (zD (some (.int (zkn (zI M (a + 2)) 12))) M) := by
  intro k
  induction k with
  | zero => intro i _ h; omega
  | succ k ih =>
    intro i hi hk
    refine s_iload_n (zdk hX0_knownSeasons 4 rfl) rfl ?_
    refine s_bipushv (v := nI 12) (zdk hX0_knownSeasons 5 rfl) zc_bipush_12 ?_
    refine s_icmp_ge 29 (zdk hX0_knownSeasons 6 rfl) (by decide) (fun c7 => ?_) (fun c7 => ?_)
    · obtain rfl : i = 12 := by have := nle c7 (by omega) (by omega); omega
      refine s_iload_n (zdk hX0_knownSeasons 16 rfl) rfl ?_
      refine s_ireturn (zdk hX0_knownSeasons 17 rfl) rfl rfl ?_
      exact ⟨rfl, rfl⟩
    · have hi2 : i < 12 := nlt c7 (by omega) (by omega)
      refine s_aload_n (zdk hX0_knownSeasons 7 rfl) rfl ?_
      refine s_getR (zdk hX0_knownSeasons 8 rfl) fw_X0_41 rfl (ha.1) (ha.2.2.1) ?_
      refine s_iload_n (zdk hX0_knownSeasons 9 rfl) rfl ?_
      refine s_ialoadN (N := 12) (j := i) (zdk hX0_knownSeasons 10 rfl) (ha.2.2.2.2.2.1) (ha.2.2.2.2.2.2) (hi2) (by decide) ?_
      refine s_iconstv (v := (-1)) (zdk hX0_knownSeasons 11 rfl) zc_iconst_m1 ?_
      refine s_icmp_eq 23 (zdk hX0_knownSeasons 12 rfl) (by decide) (fun c17 => ?_) (fun c17 => ?_)
      · have e1 : zkn (zI M (a + 2)) (i + 1) = zkn (zI M (a + 2)) i := if_pos c17
        rw [← e1]
        refine s_iinc (r := nI (i + 1)) (zdk hX0_knownSeasons 14 rfl) (Nat.le_of_ble_eq_true rfl) rfl (nI_1 i) ?_
        refine s_ls (ls' := [some (.ref a), some (.int (zkn (zI M (a + 2)) (i + 1))), some (.int (nI (i + 1)))]) rfl ?_
        refine s_goto 4 (zdk hX0_knownSeasons 15 rfl) (by decide) ?_
        exact ih (i + 1) (by omega) (by omega)
      · have e1 : zkn (zI M (a + 2)) (i + 1) = zkn (zI M (a + 2)) i + Int32.ofInt 1 := if_neg c17
        refine s_iinc (r := zkn (zI M (a + 2)) i + Int32.ofInt 1) (zdk hX0_knownSeasons 13 rfl) (Nat.le_of_ble_eq_true rfl) rfl (rfl) ?_
        refine s_ls (ls' := [some (.ref a), some (.int (zkn (zI M (a + 2)) i + Int32.ofInt 1)), some (.int (nI i))]) rfl ?_
        rw [← e1]
        refine s_iinc (r := nI (i + 1)) (zdk hX0_knownSeasons 14 rfl) (Nat.le_of_ble_eq_true rfl) rfl (nI_1 i) ?_
        refine s_ls (ls' := [some (.ref a), some (.int (zkn (zI M (a + 2)) (i + 1))), some (.int (nI (i + 1)))]) rfl ?_
        refine s_goto 4 (zdk hX0_knownSeasons 15 rfl) (by decide) ?_
        exact ih (i + 1) (by omega) (by omega)
theorem c_X0_knownSeasons (hl : l.stackTraces = false) {M : zMem} {a : Nat} (ha : rSh M a) : zCm l G mX0_knownSeasons 0 0 0 0 [.ref a] M (zD (some (.int (zkn (zI M (a + 2)) 12))) M) := by
  refine zCd.of (ls0 := [some (.ref a), none, none]) (by decide +kernel) rfl hl rfl (Nat.le_of_ble_eq_true rfl) rfl ?_
  refine s_iconstv (v := nI 0) (zdk hX0_knownSeasons 0 rfl) zc_iconst_0 ?_
  refine s_istore_n (zdk hX0_knownSeasons 1 rfl) (Nat.le_of_ble_eq_true rfl) ?_
  refine s_ls (ls' := [some (.ref a), some (.int (nI 0)), none]) rfl ?_
  refine s_iconstv (v := nI 0) (zdk hX0_knownSeasons 2 rfl) zc_iconst_0 ?_
  refine s_istore_n (zdk hX0_knownSeasons 3 rfl) (Nat.le_of_ble_eq_true rfl) ?_
  refine s_ls (ls' := [some (.ref a), some (.int (nI 0)), some (.int (nI 0))]) rfl ?_
  exact w_X0_knownSeasons_4 ha 13 0 (by omega) (by omega)
end
