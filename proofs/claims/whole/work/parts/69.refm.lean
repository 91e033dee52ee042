/-! ===== the reference: sums, the common cycle, a period's end ===== -/
def rSum2 (g : Nat → Int64) (x : Int32) (w t : Nat) : Nat → Int64 → Int64
  | 0, s => s
  | k + 1, s => rSum2 g x w t k s + (if (x = (-1) ∨ x = nI t) ∧ (w = 3 ∨ w = k) then gp g t k else lN 0)
def rSum (g : Nat → Int64) (x : Int32) (w : Nat) : Nat → Int64
  | 0 => lN 0
  | t + 1 => rSum2 g x w t 3 (rSum g x w t)
def rNc (g : Nat → Int64) (c : Nat) : Nat → Int32
  | 0 => nI 0
  | f + 1 => if rOwn g f = nI c then rNc g c f + nI 1 else rNc g c f
def rCm (g : Nat → Int64) : Nat → Int32 × Int32
  | 0 => (-1, nI 0)
  | k + 1 => if rNc g (k + 2) (gN g 3) ≤ (rCm g k).2 then rCm g k else (nI (k + 2), rNc g (k + 2) (gN g 3))
theorem zab_p {x : Int32} (h : 0 ≤ x) : zab x = x := if_neg (Int32.not_lt.mpr h)
theorem zab_q {x : Int32} (h : ¬ 0 ≤ x) : zab x = -x := if_pos (Int32.not_le.mp h)
def rScore (g : Nat → Int64) (f : Nat) : Nat → Int64 := if zkn (gs g f) (gN g 0) ≤ 0 then g else zwL (zwL g (58 + 51 * f + 50) (go g f + (zab (nI 16 * gf g f 2 - zfR g f 0)).toInt64)) (58 + 51 * f + 5) (gf g f 5 + nI 1).toInt64
theorem rScore_n {g : Nat → Int64} {f k : Nat} (h : k ≠ 58 + 51 * f + 50) (h2 : k ≠ 58 + 51 * f + 5) : rScore g f k = g k := by
  unfold rScore
  split
  · rfl
  · rw [zwL_n h2, zwL_n h]
def rCl1 (g : Nat → Int64) (f : Nat) : Nat → Int64 := oKeep (oLearn (oPay (rScore g f) f) f (gN g 4 % gN g 0) (gf (rScore g f) f 2)) f
def rCl (g : Nat → Int64) : Nat → Nat → Int64
  | 0 => g
  | i + 1 => rCl1 (rCl g i) i
theorem gBd.score {g : Nat → Int64} {f : Nat} (h : gBd g) (hf : f < 20) : gBd (rScore g f) := by
  unfold rScore
  split
  · exact h
  · exact (h.f1 hf (j := 50) (by omega) (by omega) (by omega)).f1 hf (j := 5) (by omega) (by omega) (by omega)
theorem gBd.cl1 {g : Nat → Int64} {f : Nat} (h : gBd g) (hf : f < gN g 3) : gBd (rCl1 g f) ∧ (∀ k, k < 58 → rCl1 g f k = g k) := by
  have h20 := h.2.2.1.2
  have hph : gN g 4 % gN g 0 < 12 := Nat.lt_of_lt_of_le (Nat.mod_lt _ (by have := h.1.2.1; omega)) h.1.2.2
  have h1 : gBd (rScore g f) := h.score (by omega)
  have e1 : ∀ k, k < 58 → rScore g f k = g k := fun k hk => rScore_n (by omega) (by omega)
  have h2 : gBd (oPay (rScore g f) f) := h1.tier (fun k _ hk => oPay_n hk)
  have e2 : ∀ k, k < 58 → oPay (rScore g f) f k = g k := fun k hk => (oPay_n (by omega)).trans (e1 k hk)
  have e23 : gN (oPay (rScore g f) f) 3 = gN g 3 := gN_eq (e2 3 (by omega))
  have h3 : gBd (oLearn (oPay (rScore g f) f) f (gN g 4 % gN g 0) (gf (rScore g f) f 2)) := h2.fk (f := f) (by rw [e23]; exact hf) (fun k hk => oLearn_n hph hk) (zwL_n (by omega)) (zwL_n (by omega))
  have e3 : ∀ k, k < 58 → oLearn (oPay (rScore g f) f) f (gN g 4 % gN g 0) (gf (rScore g f) f 2) k = g k := fun k hk => (oLearn_n hph (Or.inl (by omega))).trans (e2 k hk)
  have e33 := gN_eq (e3 3 (by omega))
  have hk := h3.keL (f := f) (by rw [e33]; exact hf)
  exact ⟨h3.keep (by rw [e33]; exact hf), fun k hk2 => (oKeep_n hk (Or.inl (by omega))).trans (e3 k hk2)⟩
theorem gBd.cl {g : Nat → Int64} (h : gBd g) : ∀ i, i ≤ gN g 3 → gBd (rCl g i) ∧ (∀ k, k < 58 → rCl g i k = g k)
  | 0, _ => ⟨h, fun _ _ => rfl⟩
  | i + 1, hi => by
    obtain ⟨a, b⟩ := gBd.cl h i (by omega)
    have e3 := gN_eq (b 3 (by omega))
    obtain ⟨a2, b2⟩ := a.cl1 (f := i) (by rw [e3]; omega)
    exact ⟨a2, fun k hk => (b2 k hk).trans (b k hk)⟩
section
variable {l : Launch} {G : zG}
theorem c_X9_tiers2 (hl : l.stackTraces = false) {M : zMem} (hm : mSh M) {g : Nat → Int64} (ht2 : its g 2 = nI (gN g 2)) : zCm l G mX9_tiers 1 22 0 0 [.ref 941] (zsL M 942 g) (zD (some (.int (nI (gN g 2)))) (zsL M 942 g)) := by
  refine zCd.of (ls0 := [some (.ref 941)]) (by decide +kernel) rfl hl rfl (Nat.le_of_ble_eq_true rfl) rfl ?_
  refine s_aload_n (zdk hX9_tiers 0 rfl) rfl ?_
  refine s_iconstv (v := nI 2) (zdk hX9_tiers 1 rfl) zc_iconst_2 ?_
  refine s_callV0 (ci := 9) [.int (nI 2)] (zdk hX9_tiers 2 rfl) cw_X9_87 (hm.1) (by decide) rfl rfl rfl (Nat.le_of_ble_eq_true rfl) (by decide) (c_X9_itsN hl (M := M) (g := g) hm (k := 2) (by decide) ht2) ?_
  refine s_ireturn (zdk hX9_tiers 3 rfl) rfl rfl ?_
  exact ⟨rfl, rfl⟩
theorem w_X9_sumOf_17 (hl : l.stackTraces = false) {M : zMem} (hm : mSh M) {g : Nat → Int64} (ht2 : its g 2 = nI (gN g 2)) (ht4 : gN g 2 ≤ 4) (x : Int32) {w : Nat} (hw : w ≤ 3) {t : Nat} (ht : t < gN g 2) {Q : zOut → zMem → Prop} (kk : zS l G mX9_sumOf 2 44 0 0 74 [some (.ref 941), some (.int x), some (.int (nI w)), some (.long (rSum2 g x w t 3 (rSum g x w t))), none, some (.int (nI t)), some (.int (nI 3))] [] (zsL M 942 g) Q) : ∀ (m : Nat) (k : Nat), k ≤ 3 → 3 - k < m → zS l G mX9_sumOf 2 44 0 0 17 [some (.ref 941), some (.int (x)), some (.int (nI w)), some (.long (rSum2 g x w t k (rSum g x w t))), none, some (.int (nI t)), some (.int (nI k))] [] (zsL M 942 g) Q := by
  intro m
  induction m with
  | zero => intros; omega
  | succ m ih =>
    intro k hi hk
    refine s_iload (zdk hX9_sumOf 10 rfl) rfl ?_
    refine s_iconstv (v := nI 3) (zdk hX9_sumOf 11 rfl) zc_iconst_3 ?_
    refine s_icmp_ge 74 (zdk hX9_sumOf 12 rfl) (by decide) (fun c20 => ?_) (fun c20 => ?_)
    · have n20 : 3 ≤ k := nle c20 (by omega) (by omega)
      obtain rfl : k = 3 := by omega
      exact kk
    · have n20 : k < 3 := nlt c20 (by omega) (by omega)
      refine s_lload_n (zdk hX9_sumOf 13 rfl) rfl ?_
      refine s_iload_n (zdk hX9_sumOf 14 rfl) rfl ?_
      refine s_iconstv (v := (-1)) (zdk hX9_sumOf 15 rfl) zc_iconst_m1 ?_
      refine s_icmp_eq 35 (zdk hX9_sumOf 16 rfl) (by decide) (fun c26 => ?_) (fun c26 => ?_)
      · have hX : x = (-1) ∨ x = nI t := Or.inl c26
        refine s_iload_n (zdk hX9_sumOf 20 rfl) rfl ?_
        refine s_iconstv (v := nI 3) (zdk hX9_sumOf 21 rfl) zc_iconst_3 ?_
        refine s_icmp_eq 46 (zdk hX9_sumOf 22 rfl) (by decide) (fun c37 => ?_) (fun c37 => ?_)
        · have n37 : w = 3 := neq c37 (by omega) (by omega)
          have e1 : rSum2 g x w t (k + 1) (rSum g x w t) = rSum2 g x w t k (rSum g x w t) + gp g t k := congrArg (fun q : Int64 => rSum2 g x w t k (rSum g x w t) + q) (if_pos (⟨hX, Or.inl n37⟩))
          refine s_aload_n (zdk hX9_sumOf 26 rfl) rfl ?_
          refine s_getR (zdk hX9_sumOf 27 rfl) fw_X9_7 rfl (hm.1) (show _ = some 942 from (hm.r (i := 0) rfl).1) ?_
          refine s_sipushv (v := nI 1378) (zdk hX9_sumOf 28 rfl) zc_sipush_1378 ?_
          refine s_iconstv (v := nI 3) (zdk hX9_sumOf 29 rfl) zc_iconst_3 ?_
          refine s_iload (zdk hX9_sumOf 30 rfl) rfl ?_
          refine s_imul (zdk hX9_sumOf 31 rfl) ?_
          refine s_topi (b := nI (3 * t)) (pk_mul _ _) ?_
          refine s_iadd (zdk hX9_sumOf 32 rfl) ?_
          refine s_topi (b := nI (1378 + 3 * t)) (nI_add _ _) ?_
          refine s_iload (zdk hX9_sumOf 33 rfl) rfl ?_
          refine s_iadd (zdk hX9_sumOf 34 rfl) ?_
          refine s_topi (b := nI (1378 + 3 * t + k)) (nI_add _ _) ?_
          refine s_laloadN (N := 1390) (j := 1378 + 3 * t + k) (zdk hX9_sumOf 35 rfl) ((hm.r (i := 0) rfl).2.1) ((hm.r (i := 0) rfl).2.2) (by omega) (by decide) ?_
          refine s_topl (b := g (1378 + 3 * t + k)) (congrFun zJ_Le _) ?_
          refine s_topl (b := gp g t k) (rfl) ?_
          refine s_goto 66 (zdk hX9_sumOf 36 rfl) (by decide) ?_
          refine s_ladd (zdk hX9_sumOf 38 rfl) ?_
          refine s_lstore_n (zdk hX9_sumOf 39 rfl) (Nat.le_of_ble_eq_true rfl) ?_
          refine s_ls (ls' := [some (.ref 941), some (.int (x)), some (.int (nI w)), some (.long ((rSum2 g x w t k (rSum g x w t)) + (gp g t k))), none, some (.int (nI t)), some (.int (nI k))]) rfl ?_
          refine s_ls (ls' := [some (.ref 941), some (.int (x)), some (.int (nI w)), some (.long (rSum2 g x w t (k + 1) (rSum g x w t))), none, some (.int (nI t)), some (.int (nI k))]) (by rw [e1]) ?_
          refine s_iinc (r := nI (k + 1)) (zdk hX9_sumOf 40 rfl) (Nat.le_of_ble_eq_true rfl) rfl (nI_1 _) ?_
          refine s_ls (ls' := [some (.ref 941), some (.int (x)), some (.int (nI w)), some (.long (rSum2 g x w t (k + 1) (rSum g x w t))), none, some (.int (nI t)), some (.int (nI (k + 1)))]) rfl ?_
          refine s_goto 17 (zdk hX9_sumOf 41 rfl) (by decide) ?_
          exact ih (k + 1) (by omega) (by omega)
        · have n37 : ¬ w = 3 := nne c37
          refine s_iload_n (zdk hX9_sumOf 23 rfl) rfl ?_
          refine s_iload (zdk hX9_sumOf 24 rfl) rfl ?_
          refine s_icmp_ne 65 (zdk hX9_sumOf 25 rfl) (by decide) (fun c43 => ?_) (fun c43 => ?_)
          · have n43 : ¬ w = k := nne c43
            have e1 : rSum2 g x w t (k + 1) (rSum g x w t) = rSum2 g x w t k (rSum g x w t) + lN 0 := congrArg (fun q : Int64 => rSum2 g x w t k (rSum g x w t) + q) (if_neg (fun q => by rcases q.2 with q | q; exact n37 q; exact n43 q))
            refine s_lconstv (v := lN 0) (zdk hX9_sumOf 37 rfl) rfl ?_
            refine s_ladd (zdk hX9_sumOf 38 rfl) ?_
            refine s_lstore_n (zdk hX9_sumOf 39 rfl) (Nat.le_of_ble_eq_true rfl) ?_
            refine s_ls (ls' := [some (.ref 941), some (.int (x)), some (.int (nI w)), some (.long ((rSum2 g x w t k (rSum g x w t)) + (lN 0))), none, some (.int (nI t)), some (.int (nI k))]) rfl ?_
            refine s_ls (ls' := [some (.ref 941), some (.int (x)), some (.int (nI w)), some (.long (rSum2 g x w t (k + 1) (rSum g x w t))), none, some (.int (nI t)), some (.int (nI k))]) (by rw [e1]) ?_
            refine s_iinc (r := nI (k + 1)) (zdk hX9_sumOf 40 rfl) (Nat.le_of_ble_eq_true rfl) rfl (nI_1 _) ?_
            refine s_ls (ls' := [some (.ref 941), some (.int (x)), some (.int (nI w)), some (.long (rSum2 g x w t (k + 1) (rSum g x w t))), none, some (.int (nI t)), some (.int (nI (k + 1)))]) rfl ?_
            refine s_goto 17 (zdk hX9_sumOf 41 rfl) (by decide) ?_
            exact ih (k + 1) (by omega) (by omega)
          · have n43 : w = k := neq c43 (by omega) (by omega)
            have e1 : rSum2 g x w t (k + 1) (rSum g x w t) = rSum2 g x w t k (rSum g x w t) + gp g t k := congrArg (fun q : Int64 => rSum2 g x w t k (rSum g x w t) + q) (if_pos (⟨hX, Or.inr n43⟩))
            refine s_aload_n (zdk hX9_sumOf 26 rfl) rfl ?_
            refine s_getR (zdk hX9_sumOf 27 rfl) fw_X9_7 rfl (hm.1) (show _ = some 942 from (hm.r (i := 0) rfl).1) ?_
            refine s_sipushv (v := nI 1378) (zdk hX9_sumOf 28 rfl) zc_sipush_1378 ?_
            refine s_iconstv (v := nI 3) (zdk hX9_sumOf 29 rfl) zc_iconst_3 ?_
            refine s_iload (zdk hX9_sumOf 30 rfl) rfl ?_
            refine s_imul (zdk hX9_sumOf 31 rfl) ?_
            refine s_topi (b := nI (3 * t)) (pk_mul _ _) ?_
            refine s_iadd (zdk hX9_sumOf 32 rfl) ?_
            refine s_topi (b := nI (1378 + 3 * t)) (nI_add _ _) ?_
            refine s_iload (zdk hX9_sumOf 33 rfl) rfl ?_
            refine s_iadd (zdk hX9_sumOf 34 rfl) ?_
            refine s_topi (b := nI (1378 + 3 * t + k)) (nI_add _ _) ?_
            refine s_laloadN (N := 1390) (j := 1378 + 3 * t + k) (zdk hX9_sumOf 35 rfl) ((hm.r (i := 0) rfl).2.1) ((hm.r (i := 0) rfl).2.2) (by omega) (by decide) ?_
            refine s_topl (b := g (1378 + 3 * t + k)) (congrFun zJ_Le _) ?_
            refine s_topl (b := gp g t k) (rfl) ?_
            refine s_goto 66 (zdk hX9_sumOf 36 rfl) (by decide) ?_
            refine s_ladd (zdk hX9_sumOf 38 rfl) ?_
            refine s_lstore_n (zdk hX9_sumOf 39 rfl) (Nat.le_of_ble_eq_true rfl) ?_
            refine s_ls (ls' := [some (.ref 941), some (.int (x)), some (.int (nI w)), some (.long ((rSum2 g x w t k (rSum g x w t)) + (gp g t k))), none, some (.int (nI t)), some (.int (nI k))]) rfl ?_
            refine s_ls (ls' := [some (.ref 941), some (.int (x)), some (.int (nI w)), some (.long (rSum2 g x w t (k + 1) (rSum g x w t))), none, some (.int (nI t)), some (.int (nI k))]) (by rw [e1]) ?_
            refine s_iinc (r := nI (k + 1)) (zdk hX9_sumOf 40 rfl) (Nat.le_of_ble_eq_true rfl) rfl (nI_1 _) ?_
            refine s_ls (ls' := [some (.ref 941), some (.int (x)), some (.int (nI w)), some (.long (rSum2 g x w t (k + 1) (rSum g x w t))), none, some (.int (nI t)), some (.int (nI (k + 1)))]) rfl ?_
            refine s_goto 17 (zdk hX9_sumOf 41 rfl) (by decide) ?_
            exact ih (k + 1) (by omega) (by omega)
      · refine s_iload_n (zdk hX9_sumOf 17 rfl) rfl ?_
        refine s_iload (zdk hX9_sumOf 18 rfl) rfl ?_
        refine s_icmp_ne 65 (zdk hX9_sumOf 19 rfl) (by decide) (fun c32 => ?_) (fun c32 => ?_)
        · have e1 : rSum2 g x w t (k + 1) (rSum g x w t) = rSum2 g x w t k (rSum g x w t) + lN 0 := congrArg (fun q : Int64 => rSum2 g x w t k (rSum g x w t) + q) (if_neg (fun q => by rcases q.1 with q | q; exact c26 q; exact c32 q))
          refine s_lconstv (v := lN 0) (zdk hX9_sumOf 37 rfl) rfl ?_
          refine s_ladd (zdk hX9_sumOf 38 rfl) ?_
          refine s_lstore_n (zdk hX9_sumOf 39 rfl) (Nat.le_of_ble_eq_true rfl) ?_
          refine s_ls (ls' := [some (.ref 941), some (.int (x)), some (.int (nI w)), some (.long ((rSum2 g x w t k (rSum g x w t)) + (lN 0))), none, some (.int (nI t)), some (.int (nI k))]) rfl ?_
          refine s_ls (ls' := [some (.ref 941), some (.int (x)), some (.int (nI w)), some (.long (rSum2 g x w t (k + 1) (rSum g x w t))), none, some (.int (nI t)), some (.int (nI k))]) (by rw [e1]) ?_
          refine s_iinc (r := nI (k + 1)) (zdk hX9_sumOf 40 rfl) (Nat.le_of_ble_eq_true rfl) rfl (nI_1 _) ?_
          refine s_ls (ls' := [some (.ref 941), some (.int (x)), some (.int (nI w)), some (.long (rSum2 g x w t (k + 1) (rSum g x w t))), none, some (.int (nI t)), some (.int (nI (k + 1)))]) rfl ?_
          refine s_goto 17 (zdk hX9_sumOf 41 rfl) (by decide) ?_
          exact ih (k + 1) (by omega) (by omega)
        · have hX : x = (-1) ∨ x = nI t := Or.inr c32
          refine s_iload_n (zdk hX9_sumOf 20 rfl) rfl ?_
          refine s_iconstv (v := nI 3) (zdk hX9_sumOf 21 rfl) zc_iconst_3 ?_
          refine s_icmp_eq 46 (zdk hX9_sumOf 22 rfl) (by decide) (fun c37 => ?_) (fun c37 => ?_)
          · have n37 : w = 3 := neq c37 (by omega) (by omega)
            have e1 : rSum2 g x w t (k + 1) (rSum g x w t) = rSum2 g x w t k (rSum g x w t) + gp g t k := congrArg (fun q : Int64 => rSum2 g x w t k (rSum g x w t) + q) (if_pos (⟨hX, Or.inl n37⟩))
            refine s_aload_n (zdk hX9_sumOf 26 rfl) rfl ?_
            refine s_getR (zdk hX9_sumOf 27 rfl) fw_X9_7 rfl (hm.1) (show _ = some 942 from (hm.r (i := 0) rfl).1) ?_
            refine s_sipushv (v := nI 1378) (zdk hX9_sumOf 28 rfl) zc_sipush_1378 ?_
            refine s_iconstv (v := nI 3) (zdk hX9_sumOf 29 rfl) zc_iconst_3 ?_
            refine s_iload (zdk hX9_sumOf 30 rfl) rfl ?_
            refine s_imul (zdk hX9_sumOf 31 rfl) ?_
            refine s_topi (b := nI (3 * t)) (pk_mul _ _) ?_
            refine s_iadd (zdk hX9_sumOf 32 rfl) ?_
            refine s_topi (b := nI (1378 + 3 * t)) (nI_add _ _) ?_
            refine s_iload (zdk hX9_sumOf 33 rfl) rfl ?_
            refine s_iadd (zdk hX9_sumOf 34 rfl) ?_
            refine s_topi (b := nI (1378 + 3 * t + k)) (nI_add _ _) ?_
            refine s_laloadN (N := 1390) (j := 1378 + 3 * t + k) (zdk hX9_sumOf 35 rfl) ((hm.r (i := 0) rfl).2.1) ((hm.r (i := 0) rfl).2.2) (by omega) (by decide) ?_
            refine s_topl (b := g (1378 + 3 * t + k)) (congrFun zJ_Le _) ?_
            refine s_topl (b := gp g t k) (rfl) ?_
            refine s_goto 66 (zdk hX9_sumOf 36 rfl) (by decide) ?_
            refine s_ladd (zdk hX9_sumOf 38 rfl) ?_
            refine s_lstore_n (zdk hX9_sumOf 39 rfl) (Nat.le_of_ble_eq_true rfl) ?_
            refine s_ls (ls' := [some (.ref 941), some (.int (x)), some (.int (nI w)), some (.long ((rSum2 g x w t k (rSum g x w t)) + (gp g t k))), none, some (.int (nI t)), some (.int (nI k))]) rfl ?_
            refine s_ls (ls' := [some (.ref 941), some (.int (x)), some (.int (nI w)), some (.long (rSum2 g x w t (k + 1) (rSum g x w t))), none, some (.int (nI t)), some (.int (nI k))]) (by rw [e1]) ?_
            refine s_iinc (r := nI (k + 1)) (zdk hX9_sumOf 40 rfl) (Nat.le_of_ble_eq_true rfl) rfl (nI_1 _) ?_
            refine s_ls (ls' := [some (.ref 941), some (.int (x)), some (.int (nI w)), some (.long (rSum2 g x w t (k + 1) (rSum g x w t))), none, some (.int (nI t)), some (.int (nI (k + 1)))]) rfl ?_
            refine s_goto 17 (zdk hX9_sumOf 41 rfl) (by decide) ?_
            exact ih (k + 1) (by omega) (by omega)
          · have n37 : ¬ w = 3 := nne c37
            refine s_iload_n (zdk hX9_sumOf 23 rfl) rfl ?_
            refine s_iload (zdk hX9_sumOf 24 rfl) rfl ?_
            refine s_icmp_ne 65 (zdk hX9_sumOf 25 rfl) (by decide) (fun c43 => ?_) (fun c43 => ?_)
            · have n43 : ¬ w = k := nne c43
              have e1 : rSum2 g x w t (k + 1) (rSum g x w t) = rSum2 g x w t k (rSum g x w t) + lN 0 := congrArg (fun q : Int64 => rSum2 g x w t k (rSum g x w t) + q) (if_neg (fun q => by rcases q.2 with q | q; exact n37 q; exact n43 q))
              refine s_lconstv (v := lN 0) (zdk hX9_sumOf 37 rfl) rfl ?_
              refine s_ladd (zdk hX9_sumOf 38 rfl) ?_
              refine s_lstore_n (zdk hX9_sumOf 39 rfl) (Nat.le_of_ble_eq_true rfl) ?_
              refine s_ls (ls' := [some (.ref 941), some (.int (x)), some (.int (nI w)), some (.long ((rSum2 g x w t k (rSum g x w t)) + (lN 0))), none, some (.int (nI t)), some (.int (nI k))]) rfl ?_
              refine s_ls (ls' := [some (.ref 941), some (.int (x)), some (.int (nI w)), some (.long (rSum2 g x w t (k + 1) (rSum g x w t))), none, some (.int (nI t)), some (.int (nI k))]) (by rw [e1]) ?_
              refine s_iinc (r := nI (k + 1)) (zdk hX9_sumOf 40 rfl) (Nat.le_of_ble_eq_true rfl) rfl (nI_1 _) ?_
              refine s_ls (ls' := [some (.ref 941), some (.int (x)), some (.int (nI w)), some (.long (rSum2 g x w t (k + 1) (rSum g x w t))), none, some (.int (nI t)), some (.int (nI (k + 1)))]) rfl ?_
              refine s_goto 17 (zdk hX9_sumOf 41 rfl) (by decide) ?_
              exact ih (k + 1) (by omega) (by omega)
            · have n43 : w = k := neq c43 (by omega) (by omega)
              have e1 : rSum2 g x w t (k + 1) (rSum g x w t) = rSum2 g x w t k (rSum g x w t) + gp g t k := congrArg (fun q : Int64 => rSum2 g x w t k (rSum g x w t) + q) (if_pos (⟨hX, Or.inr n43⟩))
              refine s_aload_n (zdk hX9_sumOf 26 rfl) rfl ?_
              refine s_getR (zdk hX9_sumOf 27 rfl) fw_X9_7 rfl (hm.1) (show _ = some 942 from (hm.r (i := 0) rfl).1) ?_
              refine s_sipushv (v := nI 1378) (zdk hX9_sumOf 28 rfl) zc_sipush_1378 ?_
              refine s_iconstv (v := nI 3) (zdk hX9_sumOf 29 rfl) zc_iconst_3 ?_
              refine s_iload (zdk hX9_sumOf 30 rfl) rfl ?_
              refine s_imul (zdk hX9_sumOf 31 rfl) ?_
              refine s_topi (b := nI (3 * t)) (pk_mul _ _) ?_
              refine s_iadd (zdk hX9_sumOf 32 rfl) ?_
              refine s_topi (b := nI (1378 + 3 * t)) (nI_add _ _) ?_
              refine s_iload (zdk hX9_sumOf 33 rfl) rfl ?_
              refine s_iadd (zdk hX9_sumOf 34 rfl) ?_
              refine s_topi (b := nI (1378 + 3 * t + k)) (nI_add _ _) ?_
              refine s_laloadN (N := 1390) (j := 1378 + 3 * t + k) (zdk hX9_sumOf 35 rfl) ((hm.r (i := 0) rfl).2.1) ((hm.r (i := 0) rfl).2.2) (by omega) (by decide) ?_
              refine s_topl (b := g (1378 + 3 * t + k)) (congrFun zJ_Le _) ?_
              refine s_topl (b := gp g t k) (rfl) ?_
              refine s_goto 66 (zdk hX9_sumOf 36 rfl) (by decide) ?_
              refine s_ladd (zdk hX9_sumOf 38 rfl) ?_
              refine s_lstore_n (zdk hX9_sumOf 39 rfl) (Nat.le_of_ble_eq_true rfl) ?_
              refine s_ls (ls' := [some (.ref 941), some (.int (x)), some (.int (nI w)), some (.long ((rSum2 g x w t k (rSum g x w t)) + (gp g t k))), none, some (.int (nI t)), some (.int (nI k))]) rfl ?_
              refine s_ls (ls' := [some (.ref 941), some (.int (x)), some (.int (nI w)), some (.long (rSum2 g x w t (k + 1) (rSum g x w t))), none, some (.int (nI t)), some (.int (nI k))]) (by rw [e1]) ?_
              refine s_iinc (r := nI (k + 1)) (zdk hX9_sumOf 40 rfl) (Nat.le_of_ble_eq_true rfl) rfl (nI_1 _) ?_
              refine s_ls (ls' := [some (.ref 941), some (.int (x)), some (.int (nI w)), some (.long (rSum2 g x w t (k + 1) (rSum g x w t))), none, some (.int (nI t)), some (.int (nI (k + 1)))]) rfl ?_
              refine s_goto 17 (zdk hX9_sumOf 41 rfl) (by decide) ?_
              exact ih (k + 1) (by omega) (by omega)
theorem w_X9_sumOf_5 (hl : l.stackTraces = false) {M : zMem} (hm : mSh M) {g : Nat → Int64} (ht2 : its g 2 = nI (gN g 2)) (ht4 : gN g 2 ≤ 4) (x : Int32) {w : Nat} (hw : w ≤ 3) : ∀ (k : Nat) (t : Nat) (x6 : Option Value), t ≤ gN g 2 → gN g 2 - t < k → zS l G mX9_sumOf 2 44 0 0 5 [some (.ref 941), some (.int (x)), some (.int (nI w)), some (.long (rSum g x w t)), none, some (.int (nI t)), x6] [] (zsL M 942 g) (zD (some (.long (rSum g x w (gN g 2)))) (zsL M 942 g)) := by
  intro k
  induction k with
  | zero => intros; omega
  | succ k ih =>
    intro t x6 hi hk
    refine s_iload (zdk hX9_sumOf 4 rfl) rfl ?_
    refine s_aload_n (zdk hX9_sumOf 5 rfl) rfl ?_
    refine s_callV0 (ci := 9) [] (zdk hX9_sumOf 6 rfl) cw_X9_154 (hm.1) (by decide) rfl rfl rfl (Nat.le_of_ble_eq_true rfl) (by decide) (c_X9_tiers2 hl (M := M) (g := g) hm ht2) ?_
    refine s_icmp_ge 80 (zdk hX9_sumOf 7 rfl) (by decide) (fun c11 => ?_) (fun c11 => ?_)
    · have n11 : gN g 2 ≤ t := nle c11 (by omega) (by omega)
      obtain rfl : t = gN g 2 := by omega
      refine s_lload_n (zdk hX9_sumOf 44 rfl) rfl ?_
      refine s_lreturn (zdk hX9_sumOf 45 rfl) rfl  ?_
      exact ⟨rfl, rfl⟩
    · have n11 : t < gN g 2 := nlt c11 (by omega) (by omega)
      refine s_iconstv (v := nI 0) (zdk hX9_sumOf 8 rfl) zc_iconst_0 ?_
      refine s_istore (zdk hX9_sumOf 9 rfl) (Nat.le_of_ble_eq_true rfl) ?_
      refine s_ls (ls' := [some (.ref 941), some (.int (x)), some (.int (nI w)), some (.long (rSum g x w t)), none, some (.int (nI t)), some (.int (nI 0))]) rfl ?_
      refine w_X9_sumOf_17 hl hm ht2 ht4 x hw (t := t) (by omega) ?_ 4 0 (by omega) (by omega)
      refine s_iinc (r := nI (t + 1)) (zdk hX9_sumOf 42 rfl) (Nat.le_of_ble_eq_true rfl) rfl (nI_1 _) ?_
      refine s_ls (ls' := [some (.ref 941), some (.int (x)), some (.int (nI w)), some (.long (rSum g x w (t + 1))), none, some (.int (nI (t + 1))), some (.int (nI 3))]) rfl ?_
      refine s_goto 5 (zdk hX9_sumOf 43 rfl) (by decide) ?_
      exact ih (t + 1) _ (by omega) (by omega)
theorem c_X9_sumOf (hl : l.stackTraces = false) {M : zMem} (hm : mSh M) {g : Nat → Int64} (ht2 : its g 2 = nI (gN g 2)) (ht4 : gN g 2 ≤ 4) (x : Int32) {w : Nat} (hw : w ≤ 3) : zCm l G mX9_sumOf 2 44 0 0 [.ref 941, .int (x), .int (nI w)] (zsL M 942 g) (zD (some (.long (rSum g x w (gN g 2)))) (zsL M 942 g)) := by
  refine zCd.of (ls0 := [some (.ref 941), some (.int (x)), some (.int (nI w)), none, none, none, none]) (by decide +kernel) rfl hl rfl (Nat.le_of_ble_eq_true rfl) rfl ?_
  refine s_lconstv (v := lN 0) (zdk hX9_sumOf 0 rfl) rfl ?_
  refine s_lstore_n (zdk hX9_sumOf 1 rfl) (Nat.le_of_ble_eq_true rfl) ?_
  refine s_ls (ls' := [some (.ref 941), some (.int (x)), some (.int (nI w)), some (.long (lN 0)), none, none, none]) rfl ?_
  refine s_iconstv (v := nI 0) (zdk hX9_sumOf 2 rfl) zc_iconst_0 ?_
  refine s_istore (zdk hX9_sumOf 3 rfl) (Nat.le_of_ble_eq_true rfl) ?_
  refine s_ls (ls' := [some (.ref 941), some (.int (x)), some (.int (nI w)), some (.long (lN 0)), none, some (.int (nI 0)), none]) rfl ?_
  exact w_X9_sumOf_5 hl hm ht2 ht4 x hw (gN g 2 + 1) 0 none (by omega) (by omega)
theorem c_X9_account (hl : l.stackTraces = false) {M : zMem} (hm : mSh M) {g : Nat → Int64} (hb : gBd g) (x w : Int32) : zCm l G mX9_account 3 70 0 0 [.ref 941, .int (x), .int (w)] (zsL M 942 g) (zD (some (.long (v2 (x = (-1) ∨ inN x (gN g 2)) (inN w 4) (rSum g x (w).toNatClampNeg (gN g 2)) (lN 0)))) (zsL (zsI M 941 6 (nI (t2 (x = (-1) ∨ inN x (gN g 2)) (inN w 4) 1 2))) 942 g)) := by
  refine zCd.of (ls0 := [some (.ref 941), some (.int (x)), some (.int (w))]) (by decide +kernel) rfl hl rfl (Nat.le_of_ble_eq_true rfl) rfl ?_
  have hn2 := hb.2.2.1.2
  have ht4 := hb.2.1.2
  have hcy := hb.1.2.2
  have hpe := hb.2.2.2.1.2
  refine s_aload_n (zdk hX9_account 0 rfl) rfl ?_
  refine s_iload_n (zdk hX9_account 1 rfl) rfl ?_
  refine s_iconstv (v := (-1)) (zdk hX9_account 2 rfl) zc_iconst_m1 ?_
  refine s_icmp_eq 18 (zdk hX9_account 3 rfl) (by decide) (fun c3 => ?_) (fun c3 => ?_)
  · have bX : x = (-1) ∨ inN x (gN g 2) := Or.inl c3
    refine s_iload_n (zdk hX9_account 10 rfl) rfl ?_
    refine s_iconstv (v := nI 0) (zdk hX9_account 11 rfl) zc_iconst_0 ?_
    refine s_iconstv (v := nI 3) (zdk hX9_account 12 rfl) zc_iconst_3 ?_
    refine s_callS0 [.int (w), .int (nI 0), .int (nI 3)] (zdk hX9_account 13 rfl) cw_X9_79 rfl (Nat.le_of_ble_eq_true rfl) (by decide) (c_X9_isIn hl (zsL M 942 g) (w) (nI 0) (nI 3)) ?_
    refine s_topi (b := if inN w 4 then nI 1 else nI 0) (b01 (inN_in rfl (by omega))) ?_
    refine s_if_eq 31 (zdk hX9_account 14 rfl) (by decide) (fun c24 => ?_) (fun c24 => ?_)
    · have b24 : ¬ (inN w 4) := b01_eq c24
      refine s_iconstv (v := nI 2) (zdk hX9_account 17 rfl) zc_iconst_2 ?_
      refine s_putI (zdk hX9_account 18 rfl) fw_X9_69 rfl pw_9_6 (hm.1) ?_
      refine s_mem (M' := (zsL (zsI M 941 6 (nI 2)) 942 g)) rfl ?_
      refine s_aload_n (zdk hX9_account 19 rfl) rfl ?_
      refine s_getI (zdk hX9_account 20 rfl) fw_X9_69 rfl (hm.1) ?_
      refine s_topi (b := nI 2) ((congrFun (zI_Ie (M := M) (a := 941) (k := 6) (v := (nI 2))) 6).trans zw1_e) ?_
      refine s_if_le 46 (zdk hX9_account 21 rfl) (by decide) (fun c39 => ?_) (fun c39 => ?_)
      · exact absurd c39 (by decide)
      · refine s_lconstv (v := lN 0) (zdk hX9_account 22 rfl) rfl ?_
        refine s_goto 52 (zdk hX9_account 23 rfl) (by decide) ?_
        refine s_lreturn (zdk hX9_account 28 rfl) rfl  ?_
        first | exact ⟨rfl, rfl⟩ | (rw [t2_2 bX b24, v2_2 bX b24]; exact ⟨rfl, rfl⟩) | (rw [t2_1 bX, v2_1 bX]; exact ⟨rfl, rfl⟩)
    · have b24 : inN w 4 := b01_ne c24
      refine s_iconstv (v := nI 0) (zdk hX9_account 15 rfl) zc_iconst_0 ?_
      refine s_goto 32 (zdk hX9_account 16 rfl) (by decide) ?_
      refine s_putI (zdk hX9_account 18 rfl) fw_X9_69 rfl pw_9_6 (hm.1) ?_
      refine s_mem (M' := (zsL (zsI M 941 6 (nI 0)) 942 g)) rfl ?_
      refine s_aload_n (zdk hX9_account 19 rfl) rfl ?_
      refine s_getI (zdk hX9_account 20 rfl) fw_X9_69 rfl (hm.1) ?_
      refine s_topi (b := nI 0) ((congrFun (zI_Ie (M := M) (a := 941) (k := 6) (v := (nI 0))) 6).trans zw1_e) ?_
      refine s_if_le 46 (zdk hX9_account 21 rfl) (by decide) (fun c39 => ?_) (fun c39 => ?_)
      · obtain ⟨wn, rfl, hwn⟩ := inN_nat b24 (by omega)
        rw [t2_0 bX b24, v2_0 bX b24]
        rw [nI_clamp (show wn < 2 ^ 31 by omega)]
        refine s_aload_n (zdk hX9_account 24 rfl) rfl ?_
        refine s_iload_n (zdk hX9_account 25 rfl) rfl ?_
        refine s_iload_n (zdk hX9_account 26 rfl) rfl ?_
        refine s_callV0 (ci := 9) [.int (x), .int (nI wn)] (zdk hX9_account 27 rfl) cw_X9_264 (hm.1) (by decide) rfl rfl rfl (Nat.le_of_ble_eq_true rfl) (by decide) (c_X9_sumOf hl (M := (zsI M 941 6 (nI 0))) (g := g) hm hb.h2 hb.2.1.2 x (w := wn) (by omega)) ?_
        refine s_lreturn (zdk hX9_account 28 rfl) rfl  ?_
        first | exact ⟨rfl, rfl⟩ | (rw [t2_2 bX b24, v2_2 bX b24]; exact ⟨rfl, rfl⟩) | (rw [t2_1 bX, v2_1 bX]; exact ⟨rfl, rfl⟩)
      · exact absurd (by decide) c39
  · refine s_aload_n (zdk hX9_account 4 rfl) rfl ?_
    refine s_iload_n (zdk hX9_account 5 rfl) rfl ?_
    refine s_callV0 (ci := 9) [.int (x)] (zdk hX9_account 6 rfl) cw_X9_245 (hm.1) (by decide) rfl rfl rfl (Nat.le_of_ble_eq_true rfl) (by decide) (c_X9_isTier hl (M := M) (g := g) hm hb (x)) ?_
    refine s_if_ne 18 (zdk hX9_account 7 rfl) (by decide) (fun c11 => ?_) (fun c11 => ?_)
    · have b11 : inN (x) (gN g 2) := b01_ne c11
      have bX : x = (-1) ∨ inN x (gN g 2) := Or.inr b11
      refine s_iload_n (zdk hX9_account 10 rfl) rfl ?_
      refine s_iconstv (v := nI 0) (zdk hX9_account 11 rfl) zc_iconst_0 ?_
      refine s_iconstv (v := nI 3) (zdk hX9_account 12 rfl) zc_iconst_3 ?_
      refine s_callS0 [.int (w), .int (nI 0), .int (nI 3)] (zdk hX9_account 13 rfl) cw_X9_79 rfl (Nat.le_of_ble_eq_true rfl) (by decide) (c_X9_isIn hl (zsL M 942 g) (w) (nI 0) (nI 3)) ?_
      refine s_topi (b := if inN w 4 then nI 1 else nI 0) (b01 (inN_in rfl (by omega))) ?_
      refine s_if_eq 31 (zdk hX9_account 14 rfl) (by decide) (fun c24 => ?_) (fun c24 => ?_)
      · have b24 : ¬ (inN w 4) := b01_eq c24
        refine s_iconstv (v := nI 2) (zdk hX9_account 17 rfl) zc_iconst_2 ?_
        refine s_putI (zdk hX9_account 18 rfl) fw_X9_69 rfl pw_9_6 (hm.1) ?_
        refine s_mem (M' := (zsL (zsI M 941 6 (nI 2)) 942 g)) rfl ?_
        refine s_aload_n (zdk hX9_account 19 rfl) rfl ?_
        refine s_getI (zdk hX9_account 20 rfl) fw_X9_69 rfl (hm.1) ?_
        refine s_topi (b := nI 2) ((congrFun (zI_Ie (M := M) (a := 941) (k := 6) (v := (nI 2))) 6).trans zw1_e) ?_
        refine s_if_le 46 (zdk hX9_account 21 rfl) (by decide) (fun c39 => ?_) (fun c39 => ?_)
        · exact absurd c39 (by decide)
        · refine s_lconstv (v := lN 0) (zdk hX9_account 22 rfl) rfl ?_
          refine s_goto 52 (zdk hX9_account 23 rfl) (by decide) ?_
          refine s_lreturn (zdk hX9_account 28 rfl) rfl  ?_
          first | exact ⟨rfl, rfl⟩ | (rw [t2_2 bX b24, v2_2 bX b24]; exact ⟨rfl, rfl⟩) | (rw [t2_1 bX, v2_1 bX]; exact ⟨rfl, rfl⟩)
      · have b24 : inN w 4 := b01_ne c24
        refine s_iconstv (v := nI 0) (zdk hX9_account 15 rfl) zc_iconst_0 ?_
        refine s_goto 32 (zdk hX9_account 16 rfl) (by decide) ?_
        refine s_putI (zdk hX9_account 18 rfl) fw_X9_69 rfl pw_9_6 (hm.1) ?_
        refine s_mem (M' := (zsL (zsI M 941 6 (nI 0)) 942 g)) rfl ?_
        refine s_aload_n (zdk hX9_account 19 rfl) rfl ?_
        refine s_getI (zdk hX9_account 20 rfl) fw_X9_69 rfl (hm.1) ?_
        refine s_topi (b := nI 0) ((congrFun (zI_Ie (M := M) (a := 941) (k := 6) (v := (nI 0))) 6).trans zw1_e) ?_
        refine s_if_le 46 (zdk hX9_account 21 rfl) (by decide) (fun c39 => ?_) (fun c39 => ?_)
        · obtain ⟨wn, rfl, hwn⟩ := inN_nat b24 (by omega)
          rw [t2_0 bX b24, v2_0 bX b24]
          rw [nI_clamp (show wn < 2 ^ 31 by omega)]
          refine s_aload_n (zdk hX9_account 24 rfl) rfl ?_
          refine s_iload_n (zdk hX9_account 25 rfl) rfl ?_
          refine s_iload_n (zdk hX9_account 26 rfl) rfl ?_
          refine s_callV0 (ci := 9) [.int (x), .int (nI wn)] (zdk hX9_account 27 rfl) cw_X9_264 (hm.1) (by decide) rfl rfl rfl (Nat.le_of_ble_eq_true rfl) (by decide) (c_X9_sumOf hl (M := (zsI M 941 6 (nI 0))) (g := g) hm hb.h2 hb.2.1.2 x (w := wn) (by omega)) ?_
          refine s_lreturn (zdk hX9_account 28 rfl) rfl  ?_
          first | exact ⟨rfl, rfl⟩ | (rw [t2_2 bX b24, v2_2 bX b24]; exact ⟨rfl, rfl⟩) | (rw [t2_1 bX, v2_1 bX]; exact ⟨rfl, rfl⟩)
        · exact absurd (by decide) c39
    · have b11 : ¬ (inN (x) (gN g 2)) := b01_eq c11
      have bX : ¬ (x = (-1) ∨ inN x (gN g 2)) := fun q => by rcases q with q | q; exact c3 q; exact b11 q
      refine s_iconstv (v := nI 1) (zdk hX9_account 8 rfl) zc_iconst_1 ?_
      refine s_goto 32 (zdk hX9_account 9 rfl) (by decide) ?_
      refine s_putI (zdk hX9_account 18 rfl) fw_X9_69 rfl pw_9_6 (hm.1) ?_
      refine s_mem (M' := (zsL (zsI M 941 6 (nI 1)) 942 g)) rfl ?_
      refine s_aload_n (zdk hX9_account 19 rfl) rfl ?_
      refine s_getI (zdk hX9_account 20 rfl) fw_X9_69 rfl (hm.1) ?_
      refine s_topi (b := nI 1) ((congrFun (zI_Ie (M := M) (a := 941) (k := 6) (v := (nI 1))) 6).trans zw1_e) ?_
      refine s_if_le 46 (zdk hX9_account 21 rfl) (by decide) (fun c39 => ?_) (fun c39 => ?_)
      · exact absurd c39 (by decide)
      · refine s_lconstv (v := lN 0) (zdk hX9_account 22 rfl) rfl ?_
        refine s_goto 52 (zdk hX9_account 23 rfl) (by decide) ?_
        refine s_lreturn (zdk hX9_account 28 rfl) rfl  ?_
        first | exact ⟨rfl, rfl⟩ | (rw [t2_2 bX b24, v2_2 bX b24]; exact ⟨rfl, rfl⟩) | (rw [t2_1 bX, v2_1 bX]; exact ⟨rfl, rfl⟩)
theorem w_X9_commonCycle_23 (hl : l.stackTraces = false) {M : zMem} (hm : mSh M) {g : Nat → Int64} (hb : gBd g) (b m : Int32) {i : Nat} (hi9 : i ≤ 10) {Q : zOut → zMem → Prop} (kk : zS l G mX9_commonCycle 4 100 0 0 58 [some (.ref 941), some (.int b), some (.int m), some (.int (nI (i + 2))), some (.int (rNc g (i + 2) (gN g 3))), some (.int (nI (gN g 3)))] [] (zsL (zsI M 941 6 (nI 0)) 942 g) Q) : ∀ (k : Nat) (f : Nat), f ≤ gN g 3 → gN g 3 - f < k → zS l G mX9_commonCycle 4 100 0 0 23 [some (.ref 941), some (.int (b)), some (.int (m)), some (.int (nI (i + 2))), some (.int (rNc g (i + 2) f)), some (.int (nI f))] [] (zsL (zsI M 941 6 (nI 0)) 942 g) Q := by
  intro k
  induction k with
  | zero => intros; omega
  | succ k ih =>
    intro f hi hk
    have hn := hb.2.2.1.2
    refine s_iload (zdk hX9_commonCycle 16 rfl) rfl ?_
    refine s_aload_n (zdk hX9_commonCycle 17 rfl) rfl ?_
    refine s_callV0 (ci := 9) [] (zdk hX9_commonCycle 18 rfl) cw_X9_180 (hm.1) (by decide) rfl rfl rfl (Nat.le_of_ble_eq_true rfl) (by decide) (c_X9_files hl (M := (zsI M 941 6 (nI 0))) (g := g) hm hb) ?_
    refine s_icmp_ge 58 (zdk hX9_commonCycle 19 rfl) (by decide) (fun c29 => ?_) (fun c29 => ?_)
    · have n29 : gN g 3 ≤ f := nle c29 (by omega) (by omega)
      obtain rfl : f = gN g 3 := by omega
      exact kk
    · have n29 : f < gN g 3 := nlt c29 (by omega) (by omega)
      refine s_iload (zdk hX9_commonCycle 20 rfl) rfl ?_
      refine s_aload_n (zdk hX9_commonCycle 21 rfl) rfl ?_
      refine s_iload (zdk hX9_commonCycle 22 rfl) rfl ?_
      refine s_callV0 (ci := 9) [.int (nI f)] (zdk hX9_commonCycle 23 rfl) cw_X9_261 (hm.1) (by decide) rfl rfl rfl (Nat.le_of_ble_eq_true rfl) (by decide) (c_X9_ownCycle hl (M := (zsI M 941 6 (nI 0))) (g := g) hm hb (f := f) (by omega) (hb.ke (by omega)) (hb.keL (by omega))) ?_
      refine s_iload_n (zdk hX9_commonCycle 24 rfl) rfl ?_
      refine s_icmp_ne 48 (zdk hX9_commonCycle 25 rfl) (by decide) (fun c41 => ?_) (fun c41 => ?_)
      · have e1 : rNc g (i + 2) (f + 1) = rNc g (i + 2) f + nI 0 := (if_neg c41).trans (Int32.add_zero _).symm
        refine s_iconstv (v := nI 0) (zdk hX9_commonCycle 28 rfl) zc_iconst_0 ?_
        refine s_iadd (zdk hX9_commonCycle 29 rfl) ?_
        refine s_istore (zdk hX9_commonCycle 30 rfl) (Nat.le_of_ble_eq_true rfl) ?_
        refine s_ls (ls' := [some (.ref 941), some (.int (b)), some (.int (m)), some (.int (nI (i + 2))), some (.int ((rNc g (i + 2) f) + (nI 0))), some (.int (nI f))]) rfl ?_
        refine s_ls (ls' := [some (.ref 941), some (.int (b)), some (.int (m)), some (.int (nI (i + 2))), some (.int (rNc g (i + 2) (f + 1))), some (.int (nI f))]) (by rw [e1]) ?_
        refine s_iinc (r := nI (f + 1)) (zdk hX9_commonCycle 31 rfl) (Nat.le_of_ble_eq_true rfl) rfl (nI_1 _) ?_
        refine s_ls (ls' := [some (.ref 941), some (.int (b)), some (.int (m)), some (.int (nI (i + 2))), some (.int (rNc g (i + 2) (f + 1))), some (.int (nI (f + 1)))]) rfl ?_
        refine s_goto 23 (zdk hX9_commonCycle 32 rfl) (by decide) ?_
        exact ih (f + 1) (by omega) (by omega)
      · have e1 : rNc g (i + 2) (f + 1) = rNc g (i + 2) f + nI 1 := if_pos c41
        refine s_iconstv (v := nI 1) (zdk hX9_commonCycle 26 rfl) zc_iconst_1 ?_
        refine s_goto 49 (zdk hX9_commonCycle 27 rfl) (by decide) ?_
        refine s_iadd (zdk hX9_commonCycle 29 rfl) ?_
        refine s_istore (zdk hX9_commonCycle 30 rfl) (Nat.le_of_ble_eq_true rfl) ?_
        refine s_ls (ls' := [some (.ref 941), some (.int (b)), some (.int (m)), some (.int (nI (i + 2))), some (.int ((rNc g (i + 2) f) + (nI 1))), some (.int (nI f))]) rfl ?_
        refine s_ls (ls' := [some (.ref 941), some (.int (b)), some (.int (m)), some (.int (nI (i + 2))), some (.int (rNc g (i + 2) (f + 1))), some (.int (nI f))]) (by rw [e1]) ?_
        refine s_iinc (r := nI (f + 1)) (zdk hX9_commonCycle 31 rfl) (Nat.le_of_ble_eq_true rfl) rfl (nI_1 _) ?_
        refine s_ls (ls' := [some (.ref 941), some (.int (b)), some (.int (m)), some (.int (nI (i + 2))), some (.int (rNc g (i + 2) (f + 1))), some (.int (nI (f + 1)))]) rfl ?_
        refine s_goto 23 (zdk hX9_commonCycle 32 rfl) (by decide) ?_
        exact ih (f + 1) (by omega) (by omega)
theorem w_X9_commonCycle_11 (hl : l.stackTraces = false) {M : zMem} (hm : mSh M) {g : Nat → Int64} (hb : gBd g) : ∀ (k : Nat) (i : Nat) (x4 x5 : Option Value), i ≤ 11 → 11 - i < k → zS l G mX9_commonCycle 4 100 0 0 11 [some (.ref 941), some (.int ((rCm g i).1)), some (.int ((rCm g i).2)), some (.int (nI (i + 2))), x4, x5] [] (zsL (zsI M 941 6 (nI 0)) 942 g) (zD (some (.int ((rCm g 11).1))) (zsL (zsI M 941 6 (nI 0)) 942 g)) := by
  intro k
  induction k with
  | zero => intros; omega
  | succ k ih =>
    intro i x4 x5 hi hk
    refine s_iload_n (zdk hX9_commonCycle 9 rfl) rfl ?_
    refine s_bipushv (v := nI 12) (zdk hX9_commonCycle 10 rfl) zc_bipush_12 ?_
    refine s_icmp_gt 78 (zdk hX9_commonCycle 11 rfl) (by decide) (fun c14 => ?_) (fun c14 => ?_)
    · have n14 : 12 < i + 2 := nlt' c14 (by omega) (by omega)
      obtain rfl : i = 11 := by omega
      refine s_iload_n (zdk hX9_commonCycle 43 rfl) rfl ?_
      refine s_ireturn (zdk hX9_commonCycle 44 rfl) rfl rfl ?_
      exact ⟨rfl, rfl⟩
    · have n14 : i + 2 ≤ 12 := nge' c14 (by omega) (by omega)
      refine s_iconstv (v := nI 0) (zdk hX9_commonCycle 12 rfl) zc_iconst_0 ?_
      refine s_istore (zdk hX9_commonCycle 13 rfl) (Nat.le_of_ble_eq_true rfl) ?_
      refine s_ls (ls' := [some (.ref 941), some (.int ((rCm g i).1)), some (.int ((rCm g i).2)), some (.int (nI (i + 2))), some (.int (nI 0)), x5]) rfl ?_
      refine s_iconstv (v := nI 0) (zdk hX9_commonCycle 14 rfl) zc_iconst_0 ?_
      refine s_istore (zdk hX9_commonCycle 15 rfl) (Nat.le_of_ble_eq_true rfl) ?_
      refine s_ls (ls' := [some (.ref 941), some (.int ((rCm g i).1)), some (.int ((rCm g i).2)), some (.int (nI (i + 2))), some (.int (nI 0)), some (.int (nI 0))]) rfl ?_
      refine w_X9_commonCycle_23 hl hm hb ((rCm g i).1) ((rCm g i).2) (i := i) (by omega) ?_ (gN g 3 + 1) 0 (by omega) (by omega)
      refine s_iload (zdk hX9_commonCycle 33 rfl) rfl ?_
      refine s_iload_n (zdk hX9_commonCycle 34 rfl) rfl ?_
      refine s_icmp_gt 67 (zdk hX9_commonCycle 35 rfl) (by decide) (fun c61 => ?_) (fun c61 => ?_)
      · have e1 : rCm g (i + 1) = (nI (i + 2), rNc g (i + 2) (gN g 3)) := if_neg (Int32.not_le.mpr c61)
        refine s_iload (zdk hX9_commonCycle 37 rfl) rfl ?_
        refine s_istore_n (zdk hX9_commonCycle 38 rfl) (Nat.le_of_ble_eq_true rfl) ?_
        refine s_ls (ls' := [some (.ref 941), some (.int ((rCm g i).1)), some (.int (rNc g (i + 2) (gN g 3))), some (.int (nI (i + 2))), some (.int (rNc g (i + 2) (gN g 3))), some (.int (nI (gN g 3)))]) rfl ?_
        refine s_iload_n (zdk hX9_commonCycle 39 rfl) rfl ?_
        refine s_istore_n (zdk hX9_commonCycle 40 rfl) (Nat.le_of_ble_eq_true rfl) ?_
        refine s_ls (ls' := [some (.ref 941), some (.int (nI (i + 2))), some (.int (rNc g (i + 2) (gN g 3))), some (.int (nI (i + 2))), some (.int (rNc g (i + 2) (gN g 3))), some (.int (nI (gN g 3)))]) rfl ?_
        refine s_ls (ls' := [some (.ref 941), some (.int ((rCm g (i + 1)).1)), some (.int ((rCm g (i + 1)).2)), some (.int (nI (i + 2))), some (.int (rNc g (i + 2) (gN g 3))), some (.int (nI (gN g 3)))]) (by rw [e1]) ?_
        refine s_iinc (r := nI (i + 1 + 2)) (zdk hX9_commonCycle 41 rfl) (Nat.le_of_ble_eq_true rfl) rfl ((nI_1 _).trans (congrArg nI (by omega))) ?_
        refine s_ls (ls' := [some (.ref 941), some (.int ((rCm g (i + 1)).1)), some (.int ((rCm g (i + 1)).2)), some (.int (nI (i + 1 + 2))), some (.int (rNc g (i + 2) (gN g 3))), some (.int (nI (gN g 3)))]) rfl ?_
        refine s_goto 11 (zdk hX9_commonCycle 42 rfl) (by decide) ?_
        exact ih (i + 1) _ _ (by omega) (by omega)
      · have e1 : rCm g (i + 1) = rCm g i := if_pos (Int32.not_lt.mp c61)
        refine s_goto 72 (zdk hX9_commonCycle 36 rfl) (by decide) ?_
        refine s_ls (ls' := [some (.ref 941), some (.int ((rCm g (i + 1)).1)), some (.int ((rCm g (i + 1)).2)), some (.int (nI (i + 2))), some (.int (rNc g (i + 2) (gN g 3))), some (.int (nI (gN g 3)))]) (by rw [e1]) ?_
        refine s_iinc (r := nI (i + 1 + 2)) (zdk hX9_commonCycle 41 rfl) (Nat.le_of_ble_eq_true rfl) rfl ((nI_1 _).trans (congrArg nI (by omega))) ?_
        refine s_ls (ls' := [some (.ref 941), some (.int ((rCm g (i + 1)).1)), some (.int ((rCm g (i + 1)).2)), some (.int (nI (i + 1 + 2))), some (.int (rNc g (i + 2) (gN g 3))), some (.int (nI (gN g 3)))]) rfl ?_
        refine s_goto 11 (zdk hX9_commonCycle 42 rfl) (by decide) ?_
        exact ih (i + 1) _ _ (by omega) (by omega)
theorem c_X9_commonCycle (hl : l.stackTraces = false) {M : zMem} (hm : mSh M) {g : Nat → Int64} (hb : gBd g) : zCm l G mX9_commonCycle 4 100 0 0 [.ref 941] (zsL M 942 g) (zD (some (.int ((rCm g 11).1))) (zsL (zsI M 941 6 (nI 0)) 942 g)) := by
  refine zCd.of (ls0 := [some (.ref 941), none, none, none, none, none]) (by decide +kernel) rfl hl rfl (Nat.le_of_ble_eq_true rfl) rfl ?_
  refine s_aload_n (zdk hX9_commonCycle 0 rfl) rfl ?_
  refine s_iconstv (v := nI 0) (zdk hX9_commonCycle 1 rfl) zc_iconst_0 ?_
  refine s_putI (zdk hX9_commonCycle 2 rfl) fw_X9_69 rfl pw_9_6 (hm.1) ?_
  refine s_mem (M' := (zsL (zsI M 941 6 (nI 0)) 942 g)) rfl ?_
  refine s_iconstv (v := (-1)) (zdk hX9_commonCycle 3 rfl) zc_iconst_m1 ?_
  refine s_istore_n (zdk hX9_commonCycle 4 rfl) (Nat.le_of_ble_eq_true rfl) ?_
  refine s_ls (ls' := [some (.ref 941), some (.int ((-1))), none, none, none, none]) rfl ?_
  refine s_iconstv (v := nI 0) (zdk hX9_commonCycle 5 rfl) zc_iconst_0 ?_
  refine s_istore_n (zdk hX9_commonCycle 6 rfl) (Nat.le_of_ble_eq_true rfl) ?_
  refine s_ls (ls' := [some (.ref 941), some (.int ((-1))), some (.int (nI 0)), none, none, none]) rfl ?_
  refine s_iconstv (v := nI 2) (zdk hX9_commonCycle 7 rfl) zc_iconst_2 ?_
  refine s_istore_n (zdk hX9_commonCycle 8 rfl) (Nat.le_of_ble_eq_true rfl) ?_
  refine s_ls (ls' := [some (.ref 941), some (.int ((-1))), some (.int (nI 0)), some (.int (nI 2)), none, none]) rfl ?_
  exact w_X9_commonCycle_11 hl hm hb 12 0 none none (by omega) (by omega)
theorem c_X9_closes (hl : l.stackTraces = false) {M : zMem} (hm : mSh M) {g : Nat → Int64} (hb : gBd g) {f : Nat} (hf : f < gN g 3) : zCm l G mX9_closes 4 100 0 0 [.ref 941, .int (nI f)] (zsL M 942 g) (zD none (zsL M 942 (rCl1 g f))) := by
  refine zCd.of (ls0 := [some (.ref 941), some (.int (nI f)), none, none, none]) (by decide +kernel) rfl hl rfl (Nat.le_of_ble_eq_true rfl) rfl ?_
  have hn2 := hb.2.2.1.2
  have ht4 := hb.2.1.2
  have hcy := hb.1.2.2
  have hpe := hb.2.2.2.1.2
  have hon := hb.onL hf
  have h02 := hb.1.2.1
  have hph : (gN g 4) % (gN g 0) < 12 := Nat.lt_of_lt_of_le (Nat.mod_lt _ (by omega)) hcy
  refine s_aload_n (zdk hX9_closes_0 0 rfl) rfl ?_
  refine s_iload_n (zdk hX9_closes_0 1 rfl) rfl ?_
  refine s_iconstv (v := nI 2) (zdk hX9_closes_0 2 rfl) zc_iconst_2 ?_
  refine s_callV0 (ci := 9) [.int (nI f), .int (nI 2)] (zdk hX9_closes_0 3 rfl) cw_X9_211 (hm.1) (by decide) rfl rfl rfl (Nat.le_of_ble_eq_true rfl) (by decide) (c_X9_of hl (M := M) (g := g) hm (f := f) (k := 2) (by omega)) ?_
  refine s_istore_n (zdk hX9_closes_0 4 rfl) (Nat.le_of_ble_eq_true rfl) ?_
  refine s_ls (ls' := [some (.ref 941), some (.int (nI f)), some (.int (gf g f 2)), none, none]) rfl ?_
  refine s_aload_n (zdk hX9_closes_0 5 rfl) rfl ?_
  refine s_iload_n (zdk hX9_closes_0 6 rfl) rfl ?_
  refine s_iconstv (v := nI 1) (zdk hX9_closes_0 7 rfl) zc_iconst_1 ?_
  refine s_callV0 (ci := 9) [.int (nI f), .int (nI 1)] (zdk hX9_closes_0 8 rfl) cw_X9_211 (hm.1) (by decide) rfl rfl rfl (Nat.le_of_ble_eq_true rfl) (by decide) (c_X9_of hl (M := M) (g := g) hm (f := f) (k := 1) (by omega)) ?_
  refine s_topi (b := nI (gN g (58 + 51 * f + 1))) (hb.on hf) ?_
  refine s_istore_n (zdk hX9_closes_0 9 rfl) (Nat.le_of_ble_eq_true rfl) ?_
  refine s_ls (ls' := [some (.ref 941), some (.int (nI f)), some (.int (gf g f 2)), some (.int (nI (gN g (58 + 51 * f + 1)))), none]) rfl ?_
  refine s_aload_n (zdk hX9_closes_0 10 rfl) rfl ?_
  refine s_iload_n (zdk hX9_closes_0 11 rfl) rfl ?_
  refine s_callV0 (ci := 9) [.int (nI f)] (zdk hX9_closes_0 12 rfl) cw_X9_220 (hm.1) (by decide) rfl rfl rfl (Nat.le_of_ble_eq_true rfl) (by decide) (c_X9_knownOf hl (M := M) (g := g) hm hb (f := f) (by omega)) ?_
  refine s_if_le 83 (zdk hX9_closes_0 13 rfl) (by decide) (fun c19 => ?_) (fun c19 => ?_)
  · have eS : rScore g f = g := if_pos c19
    obtain ⟨g1, hg1⟩ : ∃ g1, g1 = rScore g f := ⟨_, rfl⟩
    refine s_mem (M' := (zsL M 942 g1)) (by rw [hg1, eS]) ?_
    have e1 : ∀ k, k ≠ 58 + 51 * f + 50 → k ≠ 58 + 51 * f + 5 → g1 k = g k := fun k h1 h2 => by rw [hg1]; exact rScore_n h1 h2
    have hb1 : gBd g1 := by rw [hg1]; exact hb.score (by omega)
    refine s_ls (ls' := [some (.ref 941), some (.int (nI f)), some (.int (gf g1 f 2)), some (.int (nI (gN g1 (58 + 51 * f + 1)))), none]) (by rw [show gf g1 f 2 = gf g f 2 from its_eq (e1 _ (by omega) (by omega)), show gN g1 (58 + 51 * f + 1) = gN g (58 + 51 * f + 1) from gN_eq (e1 _ (by omega) (by omega))]) ?_
    have hon1 : (gN g1 (58 + 51 * f + 1)) < gN g1 2 := hb1.onL (by rw [gN_eq (e1 3 (by omega) (by omega))]; exact hf)
    have ht41 := hb1.2.1.2
    refine s_aload_n (zdk hX9_closes_0 55 rfl) rfl ?_
    refine s_iload_n (zdk hX9_closes_0 56 rfl) rfl ?_
    refine s_iconstv (v := nI 0) (zdk hX9_closes_0 57 rfl) zc_iconst_0 ?_
    refine s_aload_n (zdk hX9_closes_0 58 rfl) rfl ?_
    refine s_iload_n (zdk hX9_closes_0 59 rfl) rfl ?_
    refine s_iconstv (v := nI 0) (zdk hX9_closes_1 0 rfl) zc_iconst_0 ?_
    refine s_callV0 (ci := 9) [.int (nI f), .int (nI 0)] (zdk hX9_closes_1 1 rfl) cw_X9_211 (hm.1) (by decide) rfl rfl rfl (Nat.le_of_ble_eq_true rfl) (by decide) (c_X9_of hl (M := M) (g := g1) hm (f := f) (k := 0) (by omega)) ?_
    refine s_aload_n (zdk hX9_closes_1 2 rfl) rfl ?_
    refine s_iload_n (zdk hX9_closes_1 3 rfl) rfl ?_
    refine s_iconstv (v := nI 1) (zdk hX9_closes_1 4 rfl) zc_iconst_1 ?_
    refine s_callV0 (ci := 9) [.int (nI (gN g1 (58 + 51 * f + 1))), .int (nI 1)] (zdk hX9_closes_1 5 rfl) cw_X9_214 (hm.1) (by decide) rfl rfl rfl (Nat.le_of_ble_eq_true rfl) (by decide) (c_X9_ofTier hl (M := M) (g := g1) hm (t := (gN g1 (58 + 51 * f + 1))) (k := 1) (by omega)) ?_
    refine s_imul (zdk hX9_closes_1 6 rfl) ?_
    refine s_i2l (zdk hX9_closes_1 7 rfl) ?_
    refine s_callV0 (ci := 9) [.int (nI (gN g1 (58 + 51 * f + 1))), .int (nI 0), .long (((gf g1 f 0) * (gt g1 (gN g1 (58 + 51 * f + 1)) 1)).toInt64)] (zdk hX9_closes_1 8 rfl) cw_X9_329 (hm.1) (by decide) rfl rfl rfl (Nat.le_of_ble_eq_true rfl) (by decide) (c_X9_pays hl (M := M) (g := g1) hm (t := (gN g1 (58 + 51 * f + 1))) (k := 0) (by omega) (by omega) (((gf g1 f 0) * (gt g1 (gN g1 (58 + 51 * f + 1)) 1)).toInt64)) ?_
    refine s_aload_n (zdk hX9_closes_1 9 rfl) rfl ?_
    refine s_iload_n (zdk hX9_closes_1 10 rfl) rfl ?_
    refine s_iconstv (v := nI 1) (zdk hX9_closes_1 11 rfl) zc_iconst_1 ?_
    refine s_aload_n (zdk hX9_closes_1 12 rfl) rfl ?_
    refine s_iload_n (zdk hX9_closes_1 13 rfl) rfl ?_
    refine s_iconstv (v := nI 0) (zdk hX9_closes_1 14 rfl) zc_iconst_0 ?_
    refine s_callV0 (ci := 9) [.int (nI f), .int (nI 0)] (zdk hX9_closes_1 15 rfl) cw_X9_211 (hm.1) (by decide) rfl rfl rfl (Nat.le_of_ble_eq_true rfl) (by decide) (c_X9_of hl (M := M) (g := (oPays g1 (gN g1 (58 + 51 * f + 1)) 0 (((gf g1 f 0) * (gt g1 (gN g1 (58 + 51 * f + 1)) 1)).toInt64))) hm (f := f) (k := 0) (by omega)) ?_
    refine s_topi (b := gf g1 f 0) (its_eq (oPays_n (by omega))) ?_
    refine s_i2l (zdk hX9_closes_1 16 rfl) ?_
    refine s_iload_n (zdk hX9_closes_1 17 rfl) rfl ?_
    refine s_i2l (zdk hX9_closes_1 18 rfl) ?_
    refine s_lmul (zdk hX9_closes_1 19 rfl) ?_
    refine s_aload_n (zdk hX9_closes_1 20 rfl) rfl ?_
    refine s_iload_n (zdk hX9_closes_1 21 rfl) rfl ?_
    refine s_iconstv (v := nI 2) (zdk hX9_closes_1 22 rfl) zc_iconst_2 ?_
    refine s_callV0 (ci := 9) [.int (nI (gN g1 (58 + 51 * f + 1))), .int (nI 2)] (zdk hX9_closes_1 23 rfl) cw_X9_214 (hm.1) (by decide) rfl rfl rfl (Nat.le_of_ble_eq_true rfl) (by decide) (c_X9_ofTier hl (M := M) (g := (oPays g1 (gN g1 (58 + 51 * f + 1)) 0 (((gf g1 f 0) * (gt g1 (gN g1 (58 + 51 * f + 1)) 1)).toInt64))) hm (t := (gN g1 (58 + 51 * f + 1))) (k := 2) (by omega)) ?_
    refine s_topi (b := gt g1 (gN g1 (58 + 51 * f + 1)) 2) (its_eq (oPays_n (by omega))) ?_
    refine s_i2l (zdk hX9_closes_1 24 rfl) ?_
    refine s_lmul (zdk hX9_closes_1 25 rfl) ?_
    refine s_callV0 (ci := 9) [.int (nI (gN g1 (58 + 51 * f + 1))), .int (nI 1), .long ((((gf g1 f 0).toInt64) * ((gf g1 f 2).toInt64)) * ((gt g1 (gN g1 (58 + 51 * f + 1)) 2).toInt64))] (zdk hX9_closes_1 26 rfl) cw_X9_329 (hm.1) (by decide) rfl rfl rfl (Nat.le_of_ble_eq_true rfl) (by decide) (c_X9_pays hl (M := M) (g := (oPays g1 (gN g1 (58 + 51 * f + 1)) 0 (((gf g1 f 0) * (gt g1 (gN g1 (58 + 51 * f + 1)) 1)).toInt64))) hm (t := (gN g1 (58 + 51 * f + 1))) (k := 1) (by omega) (by omega) ((((gf g1 f 0).toInt64) * ((gf g1 f 2).toInt64)) * ((gt g1 (gN g1 (58 + 51 * f + 1)) 2).toInt64))) ?_
    refine s_mem (M' := (zsL M 942 (oPay g1 f))) rfl ?_
    refine s_aload_n (zdk hX9_closes_1 27 rfl) rfl ?_
    refine s_iload_n (zdk hX9_closes_1 28 rfl) rfl ?_
    refine s_aload_n (zdk hX9_closes_1 29 rfl) rfl ?_
    refine s_iconstv (v := nI 4) (zdk hX9_closes_1 30 rfl) zc_iconst_4 ?_
    refine s_callV0 (ci := 9) [.int (nI 4)] (zdk hX9_closes_1 31 rfl) cw_X9_87 (hm.1) (by decide) rfl rfl rfl (Nat.le_of_ble_eq_true rfl) (by decide) (c_X9_its hl (M := M) (g := (oPay g1 f)) hm (k := 4) (by omega)) ?_
    refine s_topi (b := nI (gN g 4)) ((its_eq ((oPay_n (by omega)).trans (e1 _ (by omega) (by omega)))).trans hb.h4) ?_
    refine s_aload_n (zdk hX9_closes_1 32 rfl) rfl ?_
    refine s_iconstv (v := nI 0) (zdk hX9_closes_1 33 rfl) zc_iconst_0 ?_
    refine s_callV0 (ci := 9) [.int (nI 0)] (zdk hX9_closes_1 34 rfl) cw_X9_87 (hm.1) (by decide) rfl rfl rfl (Nat.le_of_ble_eq_true rfl) (by decide) (c_X9_its hl (M := M) (g := (oPay g1 f)) hm (k := 0) (by omega)) ?_
    refine s_topi (b := nI (gN g 0)) ((its_eq ((oPay_n (by omega)).trans (e1 _ (by omega) (by omega)))).trans hb.h0) ?_
    refine s_irem (zdk hX9_closes_1 35 rfl) ((fun q => nI_ne0 (by omega) (by omega) q)) ?_
    refine s_topi (b := nI ((gN g 4) % (gN g 0))) (pk_rem (by omega) (by omega) (by omega)) ?_
    refine s_iload_n (zdk hX9_closes_1 36 rfl) rfl ?_
    refine s_callV0 (ci := 9) [.int (nI f), .int (nI ((gN g 4) % (gN g 0))), .int (gf g1 f 2)] (zdk hX9_closes_1 37 rfl) cw_X9_226 (hm.1) (by decide) rfl rfl rfl (Nat.le_of_ble_eq_true rfl) (by decide) (c_X9_learns hl (M := M) (g := oPay g1 f) hm (f := f) (ph := (gN g 4) % (gN g 0)) (by omega) hph (gf g1 f 2)) ?_
    refine s_aload_n (zdk hX9_closes_1 38 rfl) rfl ?_
    refine s_iload_n (zdk hX9_closes_1 39 rfl) rfl ?_
    have e4 : oLearn (oPay g1 f) f ((gN g 4) % (gN g 0)) (gf g1 f 2) (58 + 51 * f + 4) = g (58 + 51 * f + 4) := (zwL_n (by omega)).trans ((oPay_n (by omega)).trans (e1 _ (by omega) (by omega)))
    refine s_callV0 (ci := 9) [.int (nI f)] (zdk hX9_closes_1 40 rfl) cw_X9_332 (hm.1) (by decide) rfl rfl rfl (Nat.le_of_ble_eq_true rfl) (by decide) (c_X9_keepsUses hl (M := M) (g := oLearn (oPay g1 f) f ((gN g 4) % (gN g 0)) (gf g1 f 2)) hm (f := f) (by omega) ((its_eq e4).trans ((hb.ke hf).trans (congrArg nI (gN_eq e4).symm))) (by rw [gN_eq e4]; exact hb.keL hf)) ?_
    refine s_return (zdk hX9_closes_1 41 rfl) rfl ?_
    subst hg1
    exact ⟨rfl, rfl⟩
  · have eS : rScore g f = (zwL (zwL g (58 + 51 * f + 50) ((g (58 + 51 * f + 50)) + ((zab (((nI 16) * (gf g f 2)) - (zfR g f 0))).toInt64))) (58 + 51 * f + 5) (((gf g f 5) + (nI 1)).toInt64)) := if_neg c19
    refine s_bipushv (v := nI 16) (zdk hX9_closes_0 14 rfl) zc_bipush_16 ?_
    refine s_iload_n (zdk hX9_closes_0 15 rfl) rfl ?_
    refine s_imul (zdk hX9_closes_0 16 rfl) ?_
    refine s_aload_n (zdk hX9_closes_0 17 rfl) rfl ?_
    refine s_iload_n (zdk hX9_closes_0 18 rfl) rfl ?_
    refine s_iconstv (v := nI 0) (zdk hX9_closes_0 19 rfl) zc_iconst_0 ?_
    refine s_callV0 (ci := 9) [.int (nI f), .int (nI 0)] (zdk hX9_closes_0 20 rfl) cw_X9_242 (hm.1) (by decide) rfl rfl rfl (Nat.le_of_ble_eq_true rfl) (by decide) (c_X9_forecastOf hl (M := M) (g := g) hm hb (f := f) (by omega) (a := 0) (by omega)) ?_
    refine s_isub (zdk hX9_closes_0 21 rfl) ?_
    refine s_istore (zdk hX9_closes_0 22 rfl) (Nat.le_of_ble_eq_true rfl) ?_
    refine s_ls (ls' := [some (.ref 941), some (.int (nI f)), some (.int (gf g f 2)), some (.int (nI (gN g (58 + 51 * f + 1)))), some (.int (((nI 16) * (gf g f 2)) - (zfR g f 0)))]) rfl ?_
    refine s_aload_n (zdk hX9_closes_0 23 rfl) rfl ?_
    refine s_getR (zdk hX9_closes_0 24 rfl) fw_X9_7 rfl (hm.1) (show _ = some 942 from (hm.r (i := 0) rfl).1) ?_
    refine s_bipushv (v := nI 58) (zdk hX9_closes_0 25 rfl) zc_bipush_58 ?_
    refine s_bipushv (v := nI 51) (zdk hX9_closes_0 26 rfl) zc_bipush_51 ?_
    refine s_iload_n (zdk hX9_closes_0 27 rfl) rfl ?_
    refine s_imul (zdk hX9_closes_0 28 rfl) ?_
    refine s_topi (b := nI (51 * f)) (pk_mul _ _) ?_
    refine s_iadd (zdk hX9_closes_0 29 rfl) ?_
    refine s_topi (b := nI (58 + 51 * f)) (nI_add _ _) ?_
    refine s_bipushv (v := nI 50) (zdk hX9_closes_0 30 rfl) zc_bipush_50 ?_
    refine s_iadd (zdk hX9_closes_0 31 rfl) ?_
    refine s_topi (b := nI (58 + 51 * f + 50)) (nI_add _ _) ?_
    refine s_dup2ir (zdk hX9_closes_0 32 rfl) ?_
    refine s_laloadN (N := 1390) (j := 58 + 51 * f + 50) (zdk hX9_closes_0 33 rfl) ((hm.r (i := 0) rfl).2.1) ((hm.r (i := 0) rfl).2.2) (by omega) (by decide) ?_
    refine s_topl (b := g (58 + 51 * f + 50)) (congrFun zJ_Le _) ?_
    refine s_iload (zdk hX9_closes_0 34 rfl) rfl ?_
    refine s_if_ge 63 (zdk hX9_closes_0 35 rfl) (by decide) (fun c53 => ?_) (fun c53 => ?_)
    · refine s_iload (zdk hX9_closes_0 40 rfl) rfl ?_
      refine s_i2l (zdk hX9_closes_0 41 rfl) ?_
      refine s_topl (b := (zab (((nI 16) * (gf g f 2)) - (zfR g f 0))).toInt64) (congrArg Int32.toInt64 (zab_p c53).symm) ?_
      refine s_ladd (zdk hX9_closes_0 42 rfl) ?_
      refine s_lastoreN (N := 1390) (j := 58 + 51 * f + 50) (zdk hX9_closes_0 43 rfl) ((hm.r (i := 0) rfl).2.1) ((hm.r (i := 0) rfl).2.2) (by omega) (by decide) ?_
      refine s_mem (M' := (zsL M 942 (zwL g (58 + 51 * f + 50) ((g (58 + 51 * f + 50)) + ((zab (((nI 16) * (gf g f 2)) - (zfR g f 0))).toInt64))))) (zsL_1 _ _ _ _ _) ?_
      refine s_aload_n (zdk hX9_closes_0 44 rfl) rfl ?_
      refine s_iload_n (zdk hX9_closes_0 45 rfl) rfl ?_
      refine s_iconstv (v := nI 5) (zdk hX9_closes_0 46 rfl) zc_iconst_5 ?_
      refine s_aload_n (zdk hX9_closes_0 47 rfl) rfl ?_
      refine s_iload_n (zdk hX9_closes_0 48 rfl) rfl ?_
      refine s_iconstv (v := nI 5) (zdk hX9_closes_0 49 rfl) zc_iconst_5 ?_
      refine s_callV0 (ci := 9) [.int (nI f), .int (nI 5)] (zdk hX9_closes_0 50 rfl) cw_X9_211 (hm.1) (by decide) rfl rfl rfl (Nat.le_of_ble_eq_true rfl) (by decide) (c_X9_of hl (M := M) (g := (zwL g (58 + 51 * f + 50) ((g (58 + 51 * f + 50)) + ((zab (((nI 16) * (gf g f 2)) - (zfR g f 0))).toInt64)))) hm (f := f) (k := 5) (by omega)) ?_
      refine s_topi (b := gf g f 5) (its_eq (zwL_n (by omega))) ?_
      refine s_iconstv (v := nI 1) (zdk hX9_closes_0 51 rfl) zc_iconst_1 ?_
      refine s_iadd (zdk hX9_closes_0 52 rfl) ?_
      refine s_i2l (zdk hX9_closes_0 53 rfl) ?_
      refine s_callV0 (ci := 9) [.int (nI f), .int (nI 5), .long (((gf g f 5) + (nI 1)).toInt64)] (zdk hX9_closes_0 54 rfl) cw_X9_193 (hm.1) (by decide) rfl rfl rfl (Nat.le_of_ble_eq_true rfl) (by decide) (c_X9_sets hl (M := M) (g := (zwL g (58 + 51 * f + 50) ((g (58 + 51 * f + 50)) + ((zab (((nI 16) * (gf g f 2)) - (zfR g f 0))).toInt64)))) hm (f := f) (k := 5) (E := 58 + 51 * f + 5) (by omega) (by omega) (((gf g f 5) + (nI 1)).toInt64)) ?_
      obtain ⟨g1, hg1⟩ : ∃ g1, g1 = rScore g f := ⟨_, rfl⟩
      refine s_mem (M' := (zsL M 942 g1)) (by rw [hg1, eS]) ?_
      have e1 : ∀ k, k ≠ 58 + 51 * f + 50 → k ≠ 58 + 51 * f + 5 → g1 k = g k := fun k h1 h2 => by rw [hg1]; exact rScore_n h1 h2
      have hb1 : gBd g1 := by rw [hg1]; exact hb.score (by omega)
      refine s_ls (ls' := [some (.ref 941), some (.int (nI f)), some (.int (gf g1 f 2)), some (.int (nI (gN g1 (58 + 51 * f + 1)))), some (.int (((nI 16) * (gf g f 2)) - (zfR g f 0)))]) (by rw [show gf g1 f 2 = gf g f 2 from its_eq (e1 _ (by omega) (by omega)), show gN g1 (58 + 51 * f + 1) = gN g (58 + 51 * f + 1) from gN_eq (e1 _ (by omega) (by omega))]) ?_
      have hon1 : (gN g1 (58 + 51 * f + 1)) < gN g1 2 := hb1.onL (by rw [gN_eq (e1 3 (by omega) (by omega))]; exact hf)
      have ht41 := hb1.2.1.2
      refine s_aload_n (zdk hX9_closes_0 55 rfl) rfl ?_
      refine s_iload_n (zdk hX9_closes_0 56 rfl) rfl ?_
      refine s_iconstv (v := nI 0) (zdk hX9_closes_0 57 rfl) zc_iconst_0 ?_
      refine s_aload_n (zdk hX9_closes_0 58 rfl) rfl ?_
      refine s_iload_n (zdk hX9_closes_0 59 rfl) rfl ?_
      refine s_iconstv (v := nI 0) (zdk hX9_closes_1 0 rfl) zc_iconst_0 ?_
      refine s_callV0 (ci := 9) [.int (nI f), .int (nI 0)] (zdk hX9_closes_1 1 rfl) cw_X9_211 (hm.1) (by decide) rfl rfl rfl (Nat.le_of_ble_eq_true rfl) (by decide) (c_X9_of hl (M := M) (g := g1) hm (f := f) (k := 0) (by omega)) ?_
      refine s_aload_n (zdk hX9_closes_1 2 rfl) rfl ?_
      refine s_iload_n (zdk hX9_closes_1 3 rfl) rfl ?_
      refine s_iconstv (v := nI 1) (zdk hX9_closes_1 4 rfl) zc_iconst_1 ?_
      refine s_callV0 (ci := 9) [.int (nI (gN g1 (58 + 51 * f + 1))), .int (nI 1)] (zdk hX9_closes_1 5 rfl) cw_X9_214 (hm.1) (by decide) rfl rfl rfl (Nat.le_of_ble_eq_true rfl) (by decide) (c_X9_ofTier hl (M := M) (g := g1) hm (t := (gN g1 (58 + 51 * f + 1))) (k := 1) (by omega)) ?_
      refine s_imul (zdk hX9_closes_1 6 rfl) ?_
      refine s_i2l (zdk hX9_closes_1 7 rfl) ?_
      refine s_callV0 (ci := 9) [.int (nI (gN g1 (58 + 51 * f + 1))), .int (nI 0), .long (((gf g1 f 0) * (gt g1 (gN g1 (58 + 51 * f + 1)) 1)).toInt64)] (zdk hX9_closes_1 8 rfl) cw_X9_329 (hm.1) (by decide) rfl rfl rfl (Nat.le_of_ble_eq_true rfl) (by decide) (c_X9_pays hl (M := M) (g := g1) hm (t := (gN g1 (58 + 51 * f + 1))) (k := 0) (by omega) (by omega) (((gf g1 f 0) * (gt g1 (gN g1 (58 + 51 * f + 1)) 1)).toInt64)) ?_
      refine s_aload_n (zdk hX9_closes_1 9 rfl) rfl ?_
      refine s_iload_n (zdk hX9_closes_1 10 rfl) rfl ?_
      refine s_iconstv (v := nI 1) (zdk hX9_closes_1 11 rfl) zc_iconst_1 ?_
      refine s_aload_n (zdk hX9_closes_1 12 rfl) rfl ?_
      refine s_iload_n (zdk hX9_closes_1 13 rfl) rfl ?_
      refine s_iconstv (v := nI 0) (zdk hX9_closes_1 14 rfl) zc_iconst_0 ?_
      refine s_callV0 (ci := 9) [.int (nI f), .int (nI 0)] (zdk hX9_closes_1 15 rfl) cw_X9_211 (hm.1) (by decide) rfl rfl rfl (Nat.le_of_ble_eq_true rfl) (by decide) (c_X9_of hl (M := M) (g := (oPays g1 (gN g1 (58 + 51 * f + 1)) 0 (((gf g1 f 0) * (gt g1 (gN g1 (58 + 51 * f + 1)) 1)).toInt64))) hm (f := f) (k := 0) (by omega)) ?_
      refine s_topi (b := gf g1 f 0) (its_eq (oPays_n (by omega))) ?_
      refine s_i2l (zdk hX9_closes_1 16 rfl) ?_
      refine s_iload_n (zdk hX9_closes_1 17 rfl) rfl ?_
      refine s_i2l (zdk hX9_closes_1 18 rfl) ?_
      refine s_lmul (zdk hX9_closes_1 19 rfl) ?_
      refine s_aload_n (zdk hX9_closes_1 20 rfl) rfl ?_
      refine s_iload_n (zdk hX9_closes_1 21 rfl) rfl ?_
      refine s_iconstv (v := nI 2) (zdk hX9_closes_1 22 rfl) zc_iconst_2 ?_
      refine s_callV0 (ci := 9) [.int (nI (gN g1 (58 + 51 * f + 1))), .int (nI 2)] (zdk hX9_closes_1 23 rfl) cw_X9_214 (hm.1) (by decide) rfl rfl rfl (Nat.le_of_ble_eq_true rfl) (by decide) (c_X9_ofTier hl (M := M) (g := (oPays g1 (gN g1 (58 + 51 * f + 1)) 0 (((gf g1 f 0) * (gt g1 (gN g1 (58 + 51 * f + 1)) 1)).toInt64))) hm (t := (gN g1 (58 + 51 * f + 1))) (k := 2) (by omega)) ?_
      refine s_topi (b := gt g1 (gN g1 (58 + 51 * f + 1)) 2) (its_eq (oPays_n (by omega))) ?_
      refine s_i2l (zdk hX9_closes_1 24 rfl) ?_
      refine s_lmul (zdk hX9_closes_1 25 rfl) ?_
      refine s_callV0 (ci := 9) [.int (nI (gN g1 (58 + 51 * f + 1))), .int (nI 1), .long ((((gf g1 f 0).toInt64) * ((gf g1 f 2).toInt64)) * ((gt g1 (gN g1 (58 + 51 * f + 1)) 2).toInt64))] (zdk hX9_closes_1 26 rfl) cw_X9_329 (hm.1) (by decide) rfl rfl rfl (Nat.le_of_ble_eq_true rfl) (by decide) (c_X9_pays hl (M := M) (g := (oPays g1 (gN g1 (58 + 51 * f + 1)) 0 (((gf g1 f 0) * (gt g1 (gN g1 (58 + 51 * f + 1)) 1)).toInt64))) hm (t := (gN g1 (58 + 51 * f + 1))) (k := 1) (by omega) (by omega) ((((gf g1 f 0).toInt64) * ((gf g1 f 2).toInt64)) * ((gt g1 (gN g1 (58 + 51 * f + 1)) 2).toInt64))) ?_
      refine s_mem (M' := (zsL M 942 (oPay g1 f))) rfl ?_
      refine s_aload_n (zdk hX9_closes_1 27 rfl) rfl ?_
      refine s_iload_n (zdk hX9_closes_1 28 rfl) rfl ?_
      refine s_aload_n (zdk hX9_closes_1 29 rfl) rfl ?_
      refine s_iconstv (v := nI 4) (zdk hX9_closes_1 30 rfl) zc_iconst_4 ?_
      refine s_callV0 (ci := 9) [.int (nI 4)] (zdk hX9_closes_1 31 rfl) cw_X9_87 (hm.1) (by decide) rfl rfl rfl (Nat.le_of_ble_eq_true rfl) (by decide) (c_X9_its hl (M := M) (g := (oPay g1 f)) hm (k := 4) (by omega)) ?_
      refine s_topi (b := nI (gN g 4)) ((its_eq ((oPay_n (by omega)).trans (e1 _ (by omega) (by omega)))).trans hb.h4) ?_
      refine s_aload_n (zdk hX9_closes_1 32 rfl) rfl ?_
      refine s_iconstv (v := nI 0) (zdk hX9_closes_1 33 rfl) zc_iconst_0 ?_
      refine s_callV0 (ci := 9) [.int (nI 0)] (zdk hX9_closes_1 34 rfl) cw_X9_87 (hm.1) (by decide) rfl rfl rfl (Nat.le_of_ble_eq_true rfl) (by decide) (c_X9_its hl (M := M) (g := (oPay g1 f)) hm (k := 0) (by omega)) ?_
      refine s_topi (b := nI (gN g 0)) ((its_eq ((oPay_n (by omega)).trans (e1 _ (by omega) (by omega)))).trans hb.h0) ?_
      refine s_irem (zdk hX9_closes_1 35 rfl) ((fun q => nI_ne0 (by omega) (by omega) q)) ?_
      refine s_topi (b := nI ((gN g 4) % (gN g 0))) (pk_rem (by omega) (by omega) (by omega)) ?_
      refine s_iload_n (zdk hX9_closes_1 36 rfl) rfl ?_
      refine s_callV0 (ci := 9) [.int (nI f), .int (nI ((gN g 4) % (gN g 0))), .int (gf g1 f 2)] (zdk hX9_closes_1 37 rfl) cw_X9_226 (hm.1) (by decide) rfl rfl rfl (Nat.le_of_ble_eq_true rfl) (by decide) (c_X9_learns hl (M := M) (g := oPay g1 f) hm (f := f) (ph := (gN g 4) % (gN g 0)) (by omega) hph (gf g1 f 2)) ?_
      refine s_aload_n (zdk hX9_closes_1 38 rfl) rfl ?_
      refine s_iload_n (zdk hX9_closes_1 39 rfl) rfl ?_
      have e4 : oLearn (oPay g1 f) f ((gN g 4) % (gN g 0)) (gf g1 f 2) (58 + 51 * f + 4) = g (58 + 51 * f + 4) := (zwL_n (by omega)).trans ((oPay_n (by omega)).trans (e1 _ (by omega) (by omega)))
      refine s_callV0 (ci := 9) [.int (nI f)] (zdk hX9_closes_1 40 rfl) cw_X9_332 (hm.1) (by decide) rfl rfl rfl (Nat.le_of_ble_eq_true rfl) (by decide) (c_X9_keepsUses hl (M := M) (g := oLearn (oPay g1 f) f ((gN g 4) % (gN g 0)) (gf g1 f 2)) hm (f := f) (by omega) ((its_eq e4).trans ((hb.ke hf).trans (congrArg nI (gN_eq e4).symm))) (by rw [gN_eq e4]; exact hb.keL hf)) ?_
      refine s_return (zdk hX9_closes_1 41 rfl) rfl ?_
      subst hg1
      exact ⟨rfl, rfl⟩
    · refine s_iload (zdk hX9_closes_0 36 rfl) rfl ?_
      refine s_ineg (zdk hX9_closes_0 37 rfl) ?_
      refine s_i2l (zdk hX9_closes_0 38 rfl) ?_
      refine s_topl (b := (zab (((nI 16) * (gf g f 2)) - (zfR g f 0))).toInt64) (congrArg Int32.toInt64 (zab_q c53).symm) ?_
      refine s_goto 66 (zdk hX9_closes_0 39 rfl) (by decide) ?_
      refine s_ladd (zdk hX9_closes_0 42 rfl) ?_
      refine s_lastoreN (N := 1390) (j := 58 + 51 * f + 50) (zdk hX9_closes_0 43 rfl) ((hm.r (i := 0) rfl).2.1) ((hm.r (i := 0) rfl).2.2) (by omega) (by decide) ?_
      refine s_mem (M' := (zsL M 942 (zwL g (58 + 51 * f + 50) ((g (58 + 51 * f + 50)) + ((zab (((nI 16) * (gf g f 2)) - (zfR g f 0))).toInt64))))) (zsL_1 _ _ _ _ _) ?_
      refine s_aload_n (zdk hX9_closes_0 44 rfl) rfl ?_
      refine s_iload_n (zdk hX9_closes_0 45 rfl) rfl ?_
      refine s_iconstv (v := nI 5) (zdk hX9_closes_0 46 rfl) zc_iconst_5 ?_
      refine s_aload_n (zdk hX9_closes_0 47 rfl) rfl ?_
      refine s_iload_n (zdk hX9_closes_0 48 rfl) rfl ?_
      refine s_iconstv (v := nI 5) (zdk hX9_closes_0 49 rfl) zc_iconst_5 ?_
      refine s_callV0 (ci := 9) [.int (nI f), .int (nI 5)] (zdk hX9_closes_0 50 rfl) cw_X9_211 (hm.1) (by decide) rfl rfl rfl (Nat.le_of_ble_eq_true rfl) (by decide) (c_X9_of hl (M := M) (g := (zwL g (58 + 51 * f + 50) ((g (58 + 51 * f + 50)) + ((zab (((nI 16) * (gf g f 2)) - (zfR g f 0))).toInt64)))) hm (f := f) (k := 5) (by omega)) ?_
      refine s_topi (b := gf g f 5) (its_eq (zwL_n (by omega))) ?_
      refine s_iconstv (v := nI 1) (zdk hX9_closes_0 51 rfl) zc_iconst_1 ?_
      refine s_iadd (zdk hX9_closes_0 52 rfl) ?_
      refine s_i2l (zdk hX9_closes_0 53 rfl) ?_
      refine s_callV0 (ci := 9) [.int (nI f), .int (nI 5), .long (((gf g f 5) + (nI 1)).toInt64)] (zdk hX9_closes_0 54 rfl) cw_X9_193 (hm.1) (by decide) rfl rfl rfl (Nat.le_of_ble_eq_true rfl) (by decide) (c_X9_sets hl (M := M) (g := (zwL g (58 + 51 * f + 50) ((g (58 + 51 * f + 50)) + ((zab (((nI 16) * (gf g f 2)) - (zfR g f 0))).toInt64)))) hm (f := f) (k := 5) (E := 58 + 51 * f + 5) (by omega) (by omega) (((gf g f 5) + (nI 1)).toInt64)) ?_
      obtain ⟨g1, hg1⟩ : ∃ g1, g1 = rScore g f := ⟨_, rfl⟩
      refine s_mem (M' := (zsL M 942 g1)) (by rw [hg1, eS]) ?_
      have e1 : ∀ k, k ≠ 58 + 51 * f + 50 → k ≠ 58 + 51 * f + 5 → g1 k = g k := fun k h1 h2 => by rw [hg1]; exact rScore_n h1 h2
      have hb1 : gBd g1 := by rw [hg1]; exact hb.score (by omega)
      refine s_ls (ls' := [some (.ref 941), some (.int (nI f)), some (.int (gf g1 f 2)), some (.int (nI (gN g1 (58 + 51 * f + 1)))), some (.int (((nI 16) * (gf g f 2)) - (zfR g f 0)))]) (by rw [show gf g1 f 2 = gf g f 2 from its_eq (e1 _ (by omega) (by omega)), show gN g1 (58 + 51 * f + 1) = gN g (58 + 51 * f + 1) from gN_eq (e1 _ (by omega) (by omega))]) ?_
      have hon1 : (gN g1 (58 + 51 * f + 1)) < gN g1 2 := hb1.onL (by rw [gN_eq (e1 3 (by omega) (by omega))]; exact hf)
      have ht41 := hb1.2.1.2
      refine s_aload_n (zdk hX9_closes_0 55 rfl) rfl ?_
      refine s_iload_n (zdk hX9_closes_0 56 rfl) rfl ?_
      refine s_iconstv (v := nI 0) (zdk hX9_closes_0 57 rfl) zc_iconst_0 ?_
      refine s_aload_n (zdk hX9_closes_0 58 rfl) rfl ?_
      refine s_iload_n (zdk hX9_closes_0 59 rfl) rfl ?_
      refine s_iconstv (v := nI 0) (zdk hX9_closes_1 0 rfl) zc_iconst_0 ?_
      refine s_callV0 (ci := 9) [.int (nI f), .int (nI 0)] (zdk hX9_closes_1 1 rfl) cw_X9_211 (hm.1) (by decide) rfl rfl rfl (Nat.le_of_ble_eq_true rfl) (by decide) (c_X9_of hl (M := M) (g := g1) hm (f := f) (k := 0) (by omega)) ?_
      refine s_aload_n (zdk hX9_closes_1 2 rfl) rfl ?_
      refine s_iload_n (zdk hX9_closes_1 3 rfl) rfl ?_
      refine s_iconstv (v := nI 1) (zdk hX9_closes_1 4 rfl) zc_iconst_1 ?_
      refine s_callV0 (ci := 9) [.int (nI (gN g1 (58 + 51 * f + 1))), .int (nI 1)] (zdk hX9_closes_1 5 rfl) cw_X9_214 (hm.1) (by decide) rfl rfl rfl (Nat.le_of_ble_eq_true rfl) (by decide) (c_X9_ofTier hl (M := M) (g := g1) hm (t := (gN g1 (58 + 51 * f + 1))) (k := 1) (by omega)) ?_
      refine s_imul (zdk hX9_closes_1 6 rfl) ?_
      refine s_i2l (zdk hX9_closes_1 7 rfl) ?_
      refine s_callV0 (ci := 9) [.int (nI (gN g1 (58 + 51 * f + 1))), .int (nI 0), .long (((gf g1 f 0) * (gt g1 (gN g1 (58 + 51 * f + 1)) 1)).toInt64)] (zdk hX9_closes_1 8 rfl) cw_X9_329 (hm.1) (by decide) rfl rfl rfl (Nat.le_of_ble_eq_true rfl) (by decide) (c_X9_pays hl (M := M) (g := g1) hm (t := (gN g1 (58 + 51 * f + 1))) (k := 0) (by omega) (by omega) (((gf g1 f 0) * (gt g1 (gN g1 (58 + 51 * f + 1)) 1)).toInt64)) ?_
      refine s_aload_n (zdk hX9_closes_1 9 rfl) rfl ?_
      refine s_iload_n (zdk hX9_closes_1 10 rfl) rfl ?_
      refine s_iconstv (v := nI 1) (zdk hX9_closes_1 11 rfl) zc_iconst_1 ?_
      refine s_aload_n (zdk hX9_closes_1 12 rfl) rfl ?_
      refine s_iload_n (zdk hX9_closes_1 13 rfl) rfl ?_
      refine s_iconstv (v := nI 0) (zdk hX9_closes_1 14 rfl) zc_iconst_0 ?_
      refine s_callV0 (ci := 9) [.int (nI f), .int (nI 0)] (zdk hX9_closes_1 15 rfl) cw_X9_211 (hm.1) (by decide) rfl rfl rfl (Nat.le_of_ble_eq_true rfl) (by decide) (c_X9_of hl (M := M) (g := (oPays g1 (gN g1 (58 + 51 * f + 1)) 0 (((gf g1 f 0) * (gt g1 (gN g1 (58 + 51 * f + 1)) 1)).toInt64))) hm (f := f) (k := 0) (by omega)) ?_
      refine s_topi (b := gf g1 f 0) (its_eq (oPays_n (by omega))) ?_
      refine s_i2l (zdk hX9_closes_1 16 rfl) ?_
      refine s_iload_n (zdk hX9_closes_1 17 rfl) rfl ?_
      refine s_i2l (zdk hX9_closes_1 18 rfl) ?_
      refine s_lmul (zdk hX9_closes_1 19 rfl) ?_
      refine s_aload_n (zdk hX9_closes_1 20 rfl) rfl ?_
      refine s_iload_n (zdk hX9_closes_1 21 rfl) rfl ?_
      refine s_iconstv (v := nI 2) (zdk hX9_closes_1 22 rfl) zc_iconst_2 ?_
      refine s_callV0 (ci := 9) [.int (nI (gN g1 (58 + 51 * f + 1))), .int (nI 2)] (zdk hX9_closes_1 23 rfl) cw_X9_214 (hm.1) (by decide) rfl rfl rfl (Nat.le_of_ble_eq_true rfl) (by decide) (c_X9_ofTier hl (M := M) (g := (oPays g1 (gN g1 (58 + 51 * f + 1)) 0 (((gf g1 f 0) * (gt g1 (gN g1 (58 + 51 * f + 1)) 1)).toInt64))) hm (t := (gN g1 (58 + 51 * f + 1))) (k := 2) (by omega)) ?_
      refine s_topi (b := gt g1 (gN g1 (58 + 51 * f + 1)) 2) (its_eq (oPays_n (by omega))) ?_
      refine s_i2l (zdk hX9_closes_1 24 rfl) ?_
      refine s_lmul (zdk hX9_closes_1 25 rfl) ?_
      refine s_callV0 (ci := 9) [.int (nI (gN g1 (58 + 51 * f + 1))), .int (nI 1), .long ((((gf g1 f 0).toInt64) * ((gf g1 f 2).toInt64)) * ((gt g1 (gN g1 (58 + 51 * f + 1)) 2).toInt64))] (zdk hX9_closes_1 26 rfl) cw_X9_329 (hm.1) (by decide) rfl rfl rfl (Nat.le_of_ble_eq_true rfl) (by decide) (c_X9_pays hl (M := M) (g := (oPays g1 (gN g1 (58 + 51 * f + 1)) 0 (((gf g1 f 0) * (gt g1 (gN g1 (58 + 51 * f + 1)) 1)).toInt64))) hm (t := (gN g1 (58 + 51 * f + 1))) (k := 1) (by omega) (by omega) ((((gf g1 f 0).toInt64) * ((gf g1 f 2).toInt64)) * ((gt g1 (gN g1 (58 + 51 * f + 1)) 2).toInt64))) ?_
      refine s_mem (M' := (zsL M 942 (oPay g1 f))) rfl ?_
      refine s_aload_n (zdk hX9_closes_1 27 rfl) rfl ?_
      refine s_iload_n (zdk hX9_closes_1 28 rfl) rfl ?_
      refine s_aload_n (zdk hX9_closes_1 29 rfl) rfl ?_
      refine s_iconstv (v := nI 4) (zdk hX9_closes_1 30 rfl) zc_iconst_4 ?_
      refine s_callV0 (ci := 9) [.int (nI 4)] (zdk hX9_closes_1 31 rfl) cw_X9_87 (hm.1) (by decide) rfl rfl rfl (Nat.le_of_ble_eq_true rfl) (by decide) (c_X9_its hl (M := M) (g := (oPay g1 f)) hm (k := 4) (by omega)) ?_
      refine s_topi (b := nI (gN g 4)) ((its_eq ((oPay_n (by omega)).trans (e1 _ (by omega) (by omega)))).trans hb.h4) ?_
      refine s_aload_n (zdk hX9_closes_1 32 rfl) rfl ?_
      refine s_iconstv (v := nI 0) (zdk hX9_closes_1 33 rfl) zc_iconst_0 ?_
      refine s_callV0 (ci := 9) [.int (nI 0)] (zdk hX9_closes_1 34 rfl) cw_X9_87 (hm.1) (by decide) rfl rfl rfl (Nat.le_of_ble_eq_true rfl) (by decide) (c_X9_its hl (M := M) (g := (oPay g1 f)) hm (k := 0) (by omega)) ?_
      refine s_topi (b := nI (gN g 0)) ((its_eq ((oPay_n (by omega)).trans (e1 _ (by omega) (by omega)))).trans hb.h0) ?_
      refine s_irem (zdk hX9_closes_1 35 rfl) ((fun q => nI_ne0 (by omega) (by omega) q)) ?_
      refine s_topi (b := nI ((gN g 4) % (gN g 0))) (pk_rem (by omega) (by omega) (by omega)) ?_
      refine s_iload_n (zdk hX9_closes_1 36 rfl) rfl ?_
      refine s_callV0 (ci := 9) [.int (nI f), .int (nI ((gN g 4) % (gN g 0))), .int (gf g1 f 2)] (zdk hX9_closes_1 37 rfl) cw_X9_226 (hm.1) (by decide) rfl rfl rfl (Nat.le_of_ble_eq_true rfl) (by decide) (c_X9_learns hl (M := M) (g := oPay g1 f) hm (f := f) (ph := (gN g 4) % (gN g 0)) (by omega) hph (gf g1 f 2)) ?_
      refine s_aload_n (zdk hX9_closes_1 38 rfl) rfl ?_
      refine s_iload_n (zdk hX9_closes_1 39 rfl) rfl ?_
      have e4 : oLearn (oPay g1 f) f ((gN g 4) % (gN g 0)) (gf g1 f 2) (58 + 51 * f + 4) = g (58 + 51 * f + 4) := (zwL_n (by omega)).trans ((oPay_n (by omega)).trans (e1 _ (by omega) (by omega)))
      refine s_callV0 (ci := 9) [.int (nI f)] (zdk hX9_closes_1 40 rfl) cw_X9_332 (hm.1) (by decide) rfl rfl rfl (Nat.le_of_ble_eq_true rfl) (by decide) (c_X9_keepsUses hl (M := M) (g := oLearn (oPay g1 f) f ((gN g 4) % (gN g 0)) (gf g1 f 2)) hm (f := f) (by omega) ((its_eq e4).trans ((hb.ke hf).trans (congrArg nI (gN_eq e4).symm))) (by rw [gN_eq e4]; exact hb.keL hf)) ?_
      refine s_return (zdk hX9_closes_1 41 rfl) rfl ?_
      subst hg1
      exact ⟨rfl, rfl⟩
end
