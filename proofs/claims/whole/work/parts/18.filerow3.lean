theorem zc_bipush_23 : (Int8.ofInt 23).toInt32 = nI 23 := by decide
theorem zc_bipush_24 : (Int8.ofInt 24).toInt32 = nI 24 := by decide
/-! ===== reading over writing ===== -/
theorem zI_In {M : zMem} {a b k : Nat} {v : Int32} (h : b ≠ a) : zI (zsI M a k v) b = zI M b := if_neg h
theorem zI_Ie {M : zMem} {a k : Nat} {v : Int32} : zI (zsI M a k v) a = zw1 (zI M a) k v := if_pos rfl
theorem zJ_Jn {M : zMem} {a b k : Nat} {v : Int64} (h : b ≠ a) : zJ (zsJ M a k v) b = zJ M b := if_neg h
theorem zJ_Je {M : zMem} {a k : Nat} {v : Int64} : zJ (zsJ M a k v) a = fun j => if j = k then v else zJ M a j := if_pos rfl
theorem zI_J {M : zMem} {a k : Nat} {v : Int64} : zI (zsJ M a k v) = zI M := rfl
theorem zJ_I {M : zMem} {a k : Nat} {v : Int32} : zJ (zsI M a k v) = zJ M := rfl
theorem zJ_A {M : zMem} {a : Nat} {g : Nat → Int32} : zJ (zsA M a g) = zJ M := rfl
theorem zI_R {M : zMem} {a k : Nat} {v : Option Nat} : zI (zsR M a k v) = zI M := rfl
theorem zJ_R {M : zMem} {a k : Nat} {v : Option Nat} : zJ (zsR M a k v) = zJ M := rfl
theorem zw1_n {g : Nat → Int32} {k j : Nat} {v : Int32} (h : j ≠ k) : zw1 g k v j = g j := if_neg h
theorem zw1_e {g : Nat → Int32} {k : Nat} {v : Int32} : zw1 g k v k = v := if_pos rfl
section
variable {l : Launch} {G : zG} {y : zMD} {fr lo bc bs pc : Nat} {ls : List (Option Value)} {st : List Value} {M : zMem} {Q : zOut → zMem → Prop}
theorem s_copyN {i a a0 sp dp n : Nat} (hd : decode (yC y) pc = .ok (.invokestatic i, 3)) (hw : Cond.methodLink (yN y).cls i arraycopyName ∈ zGW) (hnat : Cond.native arraycopyName ∈ zGW) (hstat : Cond.static arraycopyName ∈ zGW) (hini : Cond.initialized "java/lang/System" ∈ zGW)
    (hK0 : zK M a0 = 11) (hK1 : zK M a = 11) (h1 : sp < 100000) (h2 : dp < 100000) (h3 : n < 100000) (h4 : sp + n ≤ zN M a0) (h5 : dp + n ≤ zN M a) (hfr : 1 ≤ fr) (hlo : (st.map fun v => v.category).sum + 18 ≤ lo)
    (kk : zS l G y fr lo bc bs (pc + 3) ls st (zsA M a (va_cpy (zI M a0) (zI M a) sp dp n)) Q) : zS l G y fr lo bc bs pc ls (.int (nI n) :: .int (nI dp) :: .ref a :: .int (nI sp) :: .ref a0 :: st) M Q := by
  have e1 : (nI sp).toNatClampNeg = sp := nI_clamp (by omega)
  have e2 : (nI dp).toNatClampNeg = dp := nI_clamp (by omega)
  have e3 : (nI n).toNatClampNeg = n := nI_clamp (by omega)
  exact s_copyi hd hw hnat hstat hini hK0 hK1 (nI_pos (by omega)) (nI_pos (by omega)) (nI_pos (by omega)) (by rw [e1, e3]; exact h4) (by rw [e2, e3]; exact h5) hfr hlo (by rw [e1, e2, e3]; exact kk)
end
section
variable {l : Launch} {G : zG}
def zM_start (M : zMem) (a : Nat) (nm : Int64) (sz home un : Int32) : zMem := zsA (zsI (zsJ (zsI (zsI (zsI (zsI (zsI (zsJ M a 0 nm) a 1 sz) a 2 home) a 3 (nI 0)) a 4 un) a 5 (nI 0)) a 6 (lN 0)) a 7 (nI 0)) (a + 2) (zuk (zI (zsI (zsJ (zsI (zsI (zsI (zsI (zsI (zsJ M a 0 nm) a 1 sz) a 2 home) a 3 (nI 0)) a 4 un) a 5 (nI 0)) a 6 (lN 0)) a 7 (nI 0)) (a + 2)) 12)
theorem c_X0_startAs (hl : l.stackTraces = false) {M : zMem} {a : Nat} (ha : rSh M a) (nm : Int64) (sz home un : Int32) : zCm l G mX0_startAs 1 22 0 0 [.ref a, .long nm, .int sz, .int home, .int un] M (zD none (zM_start M a nm sz home un)) := by
  refine zCd.of (ls0 := [some (.ref a), some (.long (nm)), none, some (.int (sz)), some (.int (home)), some (.int (un))]) (by decide +kernel) rfl hl rfl (Nat.le_of_ble_eq_true rfl) rfl ?_
  refine s_aload_n (zdk hX0_startAs 0 rfl) rfl ?_
  refine s_lload_n (zdk hX0_startAs 1 rfl) rfl ?_
  refine s_putJ (zdk hX0_startAs 2 rfl) fw_X0_9 rfl pw_0_0 (ha.1) ?_
  refine s_aload_n (zdk hX0_startAs 3 rfl) rfl ?_
  refine s_iload_n (zdk hX0_startAs 4 rfl) rfl ?_
  refine s_putI (zdk hX0_startAs 5 rfl) fw_X0_15 rfl pw_0_1 (ha.1) ?_
  refine s_aload_n (zdk hX0_startAs 6 rfl) rfl ?_
  refine s_iload (zdk hX0_startAs 7 rfl) rfl ?_
  refine s_putI (zdk hX0_startAs 8 rfl) fw_X0_19 rfl pw_0_2 (ha.1) ?_
  refine s_aload_n (zdk hX0_startAs 9 rfl) rfl ?_
  refine s_iconstv (v := nI 0) (zdk hX0_startAs 10 rfl) zc_iconst_0 ?_
  refine s_putI (zdk hX0_startAs 11 rfl) fw_X0_22 rfl pw_0_3 (ha.1) ?_
  refine s_aload_n (zdk hX0_startAs 12 rfl) rfl ?_
  refine s_iload (zdk hX0_startAs 13 rfl) rfl ?_
  refine s_putI (zdk hX0_startAs 14 rfl) fw_X0_25 rfl pw_0_4 (ha.1) ?_
  refine s_aload_n (zdk hX0_startAs 15 rfl) rfl ?_
  refine s_iconstv (v := nI 0) (zdk hX0_startAs 16 rfl) zc_iconst_0 ?_
  refine s_putI (zdk hX0_startAs 17 rfl) fw_X0_28 rfl pw_0_5 (ha.1) ?_
  refine s_aload_n (zdk hX0_startAs 18 rfl) rfl ?_
  refine s_lconstv (v := lN 0) (zdk hX0_startAs 19 rfl) rfl ?_
  refine s_putJ (zdk hX0_startAs 20 rfl) fw_X0_31 rfl pw_0_6 (ha.1) ?_
  refine s_aload_n (zdk hX0_startAs 21 rfl) rfl ?_
  refine s_iconstv (v := nI 0) (zdk hX0_startAs 22 rfl) zc_iconst_0 ?_
  refine s_putI (zdk hX0_startAs 23 rfl) fw_X0_34 rfl pw_0_7 (ha.1) ?_
  refine s_aload_n (zdk hX0_startAs 24 rfl) rfl ?_
  refine s_callV0 (ci := 0) [] (zdk hX0_startAs 25 rfl) cw_X0_50 (ha.1) (by decide) rfl rfl rfl (Nat.le_of_ble_eq_true rfl) (by decide) (c_X0_forgetSeasons (M := _) hl ha) ?_
  refine s_return (zdk hX0_startAs 26 rfl) rfl ?_
  exact ⟨rfl, rfl⟩
def zM_copy (M : zMem) (a b : Nat) : zMem := zsA (zsA (zsI (zsJ (zsI (zsI (zsI (zsI (zsI (zsJ M a 0 (zJ M b 0)) a 1 (zI M b 1)) a 2 (zI M b 2)) a 3 (zI M b 3)) a 4 (zI M b 4)) a 5 (zI M b 5)) a 6 (zJ M b 6)) a 7 (zI M b 7)) (a + 1) (va_cpy (zI M (b + 1)) (zI M (a + 1)) 0 0 24)) (a + 2) (va_cpy (zI M (b + 2)) (zI M (a + 2)) 0 0 12)
theorem c_X0_copyFrom (hl : l.stackTraces = false) {M : zMem} {a b : Nat} (ha : rSh M a) (hb : rSh M b) (hab : b ≠ a) (h1 : b + 3 ≤ a ∨ a + 3 ≤ b) : zCm l G mX0_copyFrom 1 18 0 0 [.ref a, .ref b] M (zD none (zM_copy M a b)) := by
  refine zCd.of (ls0 := [some (.ref a), some (.ref b)]) (by decide +kernel) rfl hl rfl (Nat.le_of_ble_eq_true rfl) rfl ?_
  refine s_aload_n (zdk hX0_copyFrom 0 rfl) rfl ?_
  refine s_aload_n (zdk hX0_copyFrom 1 rfl) rfl ?_
  refine s_getJ (zdk hX0_copyFrom 2 rfl) fw_X0_9 rfl (hb.1) ?_
  refine s_topl (b := zJ M b 0) ((by simp only [zI_J, zJ_I, zI_In hab, zJ_Jn hab])) ?_
  refine s_putJ (zdk hX0_copyFrom 3 rfl) fw_X0_9 rfl pw_0_0 (ha.1) ?_
  refine s_aload_n (zdk hX0_copyFrom 4 rfl) rfl ?_
  refine s_aload_n (zdk hX0_copyFrom 5 rfl) rfl ?_
  refine s_getI (zdk hX0_copyFrom 6 rfl) fw_X0_15 rfl (hb.1) ?_
  refine s_topi (b := zI M b 1) ((by simp only [zI_J, zJ_I, zI_In hab, zJ_Jn hab])) ?_
  refine s_putI (zdk hX0_copyFrom 7 rfl) fw_X0_15 rfl pw_0_1 (ha.1) ?_
  refine s_aload_n (zdk hX0_copyFrom 8 rfl) rfl ?_
  refine s_aload_n (zdk hX0_copyFrom 9 rfl) rfl ?_
  refine s_getI (zdk hX0_copyFrom 10 rfl) fw_X0_19 rfl (hb.1) ?_
  refine s_topi (b := zI M b 2) ((by simp only [zI_J, zJ_I, zI_In hab, zJ_Jn hab])) ?_
  refine s_putI (zdk hX0_copyFrom 11 rfl) fw_X0_19 rfl pw_0_2 (ha.1) ?_
  refine s_aload_n (zdk hX0_copyFrom 12 rfl) rfl ?_
  refine s_aload_n (zdk hX0_copyFrom 13 rfl) rfl ?_
  refine s_getI (zdk hX0_copyFrom 14 rfl) fw_X0_22 rfl (hb.1) ?_
  refine s_topi (b := zI M b 3) ((by simp only [zI_J, zJ_I, zI_In hab, zJ_Jn hab])) ?_
  refine s_putI (zdk hX0_copyFrom 15 rfl) fw_X0_22 rfl pw_0_3 (ha.1) ?_
  refine s_aload_n (zdk hX0_copyFrom 16 rfl) rfl ?_
  refine s_aload_n (zdk hX0_copyFrom 17 rfl) rfl ?_
  refine s_getI (zdk hX0_copyFrom 18 rfl) fw_X0_25 rfl (hb.1) ?_
  refine s_topi (b := zI M b 4) ((by simp only [zI_J, zJ_I, zI_In hab, zJ_Jn hab])) ?_
  refine s_putI (zdk hX0_copyFrom 19 rfl) fw_X0_25 rfl pw_0_4 (ha.1) ?_
  refine s_aload_n (zdk hX0_copyFrom 20 rfl) rfl ?_
  refine s_aload_n (zdk hX0_copyFrom 21 rfl) rfl ?_
  refine s_getI (zdk hX0_copyFrom 22 rfl) fw_X0_28 rfl (hb.1) ?_
  refine s_topi (b := zI M b 5) ((by simp only [zI_J, zJ_I, zI_In hab, zJ_Jn hab])) ?_
  refine s_putI (zdk hX0_copyFrom 23 rfl) fw_X0_28 rfl pw_0_5 (ha.1) ?_
  refine s_aload_n (zdk hX0_copyFrom 24 rfl) rfl ?_
  refine s_aload_n (zdk hX0_copyFrom 25 rfl) rfl ?_
  refine s_getJ (zdk hX0_copyFrom 26 rfl) fw_X0_31 rfl (hb.1) ?_
  refine s_topl (b := zJ M b 6) ((by simp only [zI_J, zJ_I, zI_In hab, zJ_Jn hab])) ?_
  refine s_putJ (zdk hX0_copyFrom 27 rfl) fw_X0_31 rfl pw_0_6 (ha.1) ?_
  refine s_aload_n (zdk hX0_copyFrom 28 rfl) rfl ?_
  refine s_aload_n (zdk hX0_copyFrom 29 rfl) rfl ?_
  refine s_getI (zdk hX0_copyFrom 30 rfl) fw_X0_34 rfl (hb.1) ?_
  refine s_topi (b := zI M b 7) ((by simp only [zI_J, zJ_I, zI_In hab, zJ_Jn hab])) ?_
  refine s_putI (zdk hX0_copyFrom 31 rfl) fw_X0_34 rfl pw_0_7 (ha.1) ?_
  refine s_aload_n (zdk hX0_copyFrom 32 rfl) rfl ?_
  refine s_getR (zdk hX0_copyFrom 33 rfl) fw_X0_37 rfl (hb.1) (hb.2.1) ?_
  refine s_iconstv (v := nI 0) (zdk hX0_copyFrom 34 rfl) zc_iconst_0 ?_
  refine s_aload_n (zdk hX0_copyFrom 35 rfl) rfl ?_
  refine s_getR (zdk hX0_copyFrom 36 rfl) fw_X0_37 rfl (ha.1) (ha.2.1) ?_
  refine s_iconstv (v := nI 0) (zdk hX0_copyFrom 37 rfl) zc_iconst_0 ?_
  refine s_bipushv (v := nI 24) (zdk hX0_copyFrom 38 rfl) zc_bipush_24 ?_
  refine s_copyN (sp := 0) (dp := 0) (n := 24) (zdk hX0_copyFrom 39 rfl) yw_X0_44 yw_nat yw_sta yw_ini (hb.2.2.2.1) (ha.2.2.2.1) (by omega) (by omega) (by omega) (Nat.le_trans (show 0 + 24 ≤ 24 by omega) (Nat.le_of_eq (Eq.symm (hb.2.2.2.2.1)))) (Nat.le_trans (show 0 + 24 ≤ 24 by omega) (Nat.le_of_eq (Eq.symm (ha.2.2.2.2.1)))) (Nat.le_of_ble_eq_true rfl) (Nat.le_of_ble_eq_true rfl) ?_
  refine s_mem (M' := (zsA (zsI (zsJ (zsI (zsI (zsI (zsI (zsI (zsJ M a 0 (zJ M b 0)) a 1 (zI M b 1)) a 2 (zI M b 2)) a 3 (zI M b 3)) a 4 (zI M b 4)) a 5 (zI M b 5)) a 6 (zJ M b 6)) a 7 (zI M b 7)) (a + 1) (va_cpy (zI M (b + 1)) (zI M (a + 1)) 0 0 24))) ((by simp only [zI_J, zI_In (show b + 1 ≠ a by omega), zI_In (show a + 1 ≠ a by omega)])) ?_
  refine s_aload_n (zdk hX0_copyFrom 40 rfl) rfl ?_
  refine s_getR (zdk hX0_copyFrom 41 rfl) fw_X0_41 rfl (hb.1) (hb.2.2.1) ?_
  refine s_iconstv (v := nI 0) (zdk hX0_copyFrom 42 rfl) zc_iconst_0 ?_
  refine s_aload_n (zdk hX0_copyFrom 43 rfl) rfl ?_
  refine s_getR (zdk hX0_copyFrom 44 rfl) fw_X0_41 rfl (ha.1) (ha.2.2.1) ?_
  refine s_iconstv (v := nI 0) (zdk hX0_copyFrom 45 rfl) zc_iconst_0 ?_
  refine s_bipushv (v := nI 12) (zdk hX0_copyFrom 46 rfl) zc_bipush_12 ?_
  refine s_copyN (sp := 0) (dp := 0) (n := 12) (zdk hX0_copyFrom 47 rfl) yw_X0_44 yw_nat yw_sta yw_ini (hb.2.2.2.2.2.1) (ha.2.2.2.2.2.1) (by omega) (by omega) (by omega) (Nat.le_trans (show 0 + 12 ≤ 12 by omega) (Nat.le_of_eq (Eq.symm (hb.2.2.2.2.2.2)))) (Nat.le_trans (show 0 + 12 ≤ 12 by omega) (Nat.le_of_eq (Eq.symm (ha.2.2.2.2.2.2)))) (Nat.le_of_ble_eq_true rfl) (Nat.le_of_ble_eq_true rfl) ?_
  refine s_mem (M' := (zM_copy M a b)) ((by simp only [zI_J, zI_In (show b + 2 ≠ a by omega), zI_In (show a + 2 ≠ a by omega), zI_An _ _ (show b + 2 ≠ a + 1 by omega), zI_An _ _ (show a + 2 ≠ a + 1 by omega)]; rfl)) ?_
  refine s_return (zdk hX0_copyFrom 48 rfl) rfl ?_
  exact ⟨rfl, rfl⟩
def zM_keep (M : zMem) (a n : Nat) : zMem := (zsI (zsI (zsI M (a + 1) n (zI M a 3)) a 7 (nI (n + 1))) a 3 (nI 0))
theorem c_X0_keepUses (hl : l.stackTraces = false) {M : zMem} {a n : Nat} (ha : rSh M a) (hn : zI M a 7 = nI n) (hn24 : n < 24) : zCm l G mX0_keepUses 1 18 0 0 [.ref a] M (zD none (zM_keep M a n)) := by
  refine zCd.of (ls0 := [some (.ref a)]) (by decide +kernel) rfl hl rfl (Nat.le_of_ble_eq_true rfl) rfl ?_
  refine s_aload_n (zdk hX0_keepUses 0 rfl) rfl ?_
  refine s_getI (zdk hX0_keepUses 1 rfl) fw_X0_34 rfl (ha.1) ?_
  refine s_topi (b := nI n) (hn) ?_
  refine s_bipushv (v := nI 24) (zdk hX0_keepUses 2 rfl) zc_bipush_24 ?_
  refine s_icmp_ne 34 (zdk hX0_keepUses 3 rfl) (by decide) (fun c6 => ?_) (fun c6 => ?_)
  · refine s_aload_n (zdk hX0_keepUses 18 rfl) rfl ?_
    refine s_getR (zdk hX0_keepUses 19 rfl) fw_X0_37 rfl (ha.1) (ha.2.1) ?_
    refine s_aload_n (zdk hX0_keepUses 20 rfl) rfl ?_
    refine s_getI (zdk hX0_keepUses 21 rfl) fw_X0_34 rfl (ha.1) ?_
    refine s_topi (b := nI n) (hn) ?_
    refine s_aload_n (zdk hX0_keepUses 22 rfl) rfl ?_
    refine s_getI (zdk hX0_keepUses 23 rfl) fw_X0_22 rfl (ha.1) ?_
    refine s_iastoreN (N := 24) (j := n) (zdk hX0_keepUses 24 rfl) (ha.2.2.2.1) (ha.2.2.2.2.1) (hn24) (by decide) ?_
    refine s_aload_n (zdk hX0_keepUses 25 rfl) rfl ?_
    refine s_dupr (zdk hX0_keepUses 26 rfl) ?_
    refine s_getI (zdk hX0_keepUses 27 rfl) fw_X0_34 rfl (ha.1) ?_
    refine s_topi (b := nI n) ((congrFun (zI_In (show a ≠ a + 1 by omega)) 7).trans hn) ?_
    refine s_iconstv (v := nI 1) (zdk hX0_keepUses 28 rfl) zc_iconst_1 ?_
    refine s_iadd (zdk hX0_keepUses 29 rfl) ?_
    refine s_topi (b := nI (n + 1)) (nI_1 n) ?_
    refine s_putI (zdk hX0_keepUses 30 rfl) fw_X0_34 rfl pw_0_7 (ha.1) ?_
    refine s_aload_n (zdk hX0_keepUses 31 rfl) rfl ?_
    refine s_iconstv (v := nI 0) (zdk hX0_keepUses 32 rfl) zc_iconst_0 ?_
    refine s_putI (zdk hX0_keepUses 33 rfl) fw_X0_22 rfl pw_0_3 (ha.1) ?_
    refine s_return (zdk hX0_keepUses 34 rfl) rfl ?_
    exact ⟨rfl, rfl⟩
  · exact absurd (neq c6 (by omega) (by omega)) (by omega)
theorem c_X0_keepUses24 (hl : l.stackTraces = false) {M : zMem} {a : Nat} (ha : rSh M a) (hn : zI M a 7 = nI 24) : zCm l G mX0_keepUses 1 18 0 0 [.ref a] M (zD none (zM_keep (zsI (zsA M (a + 1) (va_cpy (zI M (a + 1)) (zI M (a + 1)) 1 0 23)) a 7 (nI 23)) a 23)) := by
  refine zCd.of (ls0 := [some (.ref a)]) (by decide +kernel) rfl hl rfl (Nat.le_of_ble_eq_true rfl) rfl ?_
  refine s_aload_n (zdk hX0_keepUses 0 rfl) rfl ?_
  refine s_getI (zdk hX0_keepUses 1 rfl) fw_X0_34 rfl (ha.1) ?_
  refine s_topi (b := nI 24) (hn) ?_
  refine s_bipushv (v := nI 24) (zdk hX0_keepUses 2 rfl) zc_bipush_24 ?_
  refine s_icmp_ne 34 (zdk hX0_keepUses 3 rfl) (by decide) (fun c6 => ?_) (fun c6 => ?_)
  · exact absurd rfl c6
  · refine s_aload_n (zdk hX0_keepUses 4 rfl) rfl ?_
    refine s_getR (zdk hX0_keepUses 5 rfl) fw_X0_37 rfl (ha.1) (ha.2.1) ?_
    refine s_iconstv (v := nI 1) (zdk hX0_keepUses 6 rfl) zc_iconst_1 ?_
    refine s_aload_n (zdk hX0_keepUses 7 rfl) rfl ?_
    refine s_getR (zdk hX0_keepUses 8 rfl) fw_X0_37 rfl (ha.1) (ha.2.1) ?_
    refine s_iconstv (v := nI 0) (zdk hX0_keepUses 9 rfl) zc_iconst_0 ?_
    refine s_bipushv (v := nI 23) (zdk hX0_keepUses 10 rfl) zc_bipush_23 ?_
    refine s_copyN (sp := 1) (dp := 0) (n := 23) (zdk hX0_keepUses 11 rfl) yw_X0_44 yw_nat yw_sta yw_ini (ha.2.2.2.1) (ha.2.2.2.1) (by omega) (by omega) (by omega) (Nat.le_trans (show 1 + 23 ≤ 24 by omega) (Nat.le_of_eq (Eq.symm (ha.2.2.2.2.1)))) (Nat.le_trans (show 0 + 23 ≤ 24 by omega) (Nat.le_of_eq (Eq.symm (ha.2.2.2.2.1)))) (Nat.le_of_ble_eq_true rfl) (Nat.le_of_ble_eq_true rfl) ?_
    refine s_aload_n (zdk hX0_keepUses 12 rfl) rfl ?_
    refine s_dupr (zdk hX0_keepUses 13 rfl) ?_
    refine s_getI (zdk hX0_keepUses 14 rfl) fw_X0_34 rfl (ha.1) ?_
    refine s_topi (b := nI 24) (((congrFun (zI_An M _ (show a ≠ a + 1 by omega)) 7).trans hn)) ?_
    refine s_iconstv (v := nI 1) (zdk hX0_keepUses 15 rfl) zc_iconst_1 ?_
    refine s_isub (zdk hX0_keepUses 16 rfl) ?_
    refine s_topi (b := nI 23) (by decide) ?_
    refine s_putI (zdk hX0_keepUses 17 rfl) fw_X0_34 rfl pw_0_7 (ha.1) ?_
    refine s_aload_n (zdk hX0_keepUses 18 rfl) rfl ?_
    refine s_getR (zdk hX0_keepUses 19 rfl) fw_X0_37 rfl (ha.1) (ha.2.1) ?_
    refine s_aload_n (zdk hX0_keepUses 20 rfl) rfl ?_
    refine s_getI (zdk hX0_keepUses 21 rfl) fw_X0_34 rfl (ha.1) ?_
    refine s_topi (b := nI 23) ((congrFun zI_Ie 7).trans zw1_e) ?_
    refine s_aload_n (zdk hX0_keepUses 22 rfl) rfl ?_
    refine s_getI (zdk hX0_keepUses 23 rfl) fw_X0_22 rfl (ha.1) ?_
    refine s_iastoreN (N := 24) (j := 23) (zdk hX0_keepUses 24 rfl) (ha.2.2.2.1) (ha.2.2.2.2.1) (by omega) (by decide) ?_
    refine s_aload_n (zdk hX0_keepUses 25 rfl) rfl ?_
    refine s_dupr (zdk hX0_keepUses 26 rfl) ?_
    refine s_getI (zdk hX0_keepUses 27 rfl) fw_X0_34 rfl (ha.1) ?_
    refine s_topi (b := nI 23) ((congrFun (zI_In (show a ≠ a + 1 by omega)) 7).trans ((congrFun zI_Ie 7).trans zw1_e)) ?_
    refine s_iconstv (v := nI 1) (zdk hX0_keepUses 28 rfl) zc_iconst_1 ?_
    refine s_iadd (zdk hX0_keepUses 29 rfl) ?_
    refine s_topi (b := nI 24) (by decide) ?_
    refine s_putI (zdk hX0_keepUses 30 rfl) fw_X0_34 rfl pw_0_7 (ha.1) ?_
    refine s_aload_n (zdk hX0_keepUses 31 rfl) rfl ?_
    refine s_iconstv (v := nI 0) (zdk hX0_keepUses 32 rfl) zc_iconst_0 ?_
    refine s_putI (zdk hX0_keepUses 33 rfl) fw_X0_22 rfl pw_0_3 (ha.1) ?_
    refine s_return (zdk hX0_keepUses 34 rfl) rfl ?_
    exact ⟨rfl, rfl⟩
/-- seasons learned anew from the first i kept uses -/
def zrl (g u : Nat → Int32) (q c : Nat) (rate : Int32) : Nat → Nat → Int32
  | 0 => zuk g 12
  | i + 1 => zw1 (zrl g u q c rate i) ((q + i) % c) (zlv (zrl g u q c rate i ((q + i) % c)) (u i) rate)
theorem w_X0_learnFromKept_15 (hl : l.stackTraces = false) {M : zMem} {a P n c : Nat} (ha : rSh M a) (hn : zI M a 7 = nI n) (hn24 : n ≤ 24) (hP : n ≤ P) (hP2 : P < 20000) (hc : 0 < c) (hc2 : c ≤ 12) (rate : Int32) : ∀ (k : Nat) (i : Nat), i ≤ n → n - i < k → zS l G mX0_learnFromKept 1 25 0 0 15 [some (.ref a), some (.int (nI P)), some (.int (nI c)), some (.int (rate)), some (.int (nI (P - n))), some (.int (nI i))] [] (zsA M (a + 2) (zrl (zI M (a + 2)) (zI M (a + 1)) (P - n) c rate i)) (zD none (zsA M (a + 2) (zrl (zI M (a + 2)) (zI M (a + 1)) (P - n) c rate n))) := by
  intro k
  induction k with
  | zero => intros; omega
  | succ k ih =>
    intro i hi hk
    refine s_iload (zdk hX0_learnFromKept 9 rfl) rfl ?_
    refine s_aload_n (zdk hX0_learnFromKept 10 rfl) rfl ?_
    refine s_getI (zdk hX0_learnFromKept 11 rfl) fw_X0_34 rfl (ha.1) ?_
    refine s_topi (b := nI n) ((congrFun (zI_An M _ (show a ≠ a + 2 by omega)) 7).trans hn) ?_
    refine s_icmp_ge 51 (zdk hX0_learnFromKept 12 rfl) (by decide) (fun c21 => ?_) (fun c21 => ?_)
    · obtain rfl : i = n := by have := nle c21 (by omega) (by omega); omega
      refine s_return (zdk hX0_learnFromKept 27 rfl) rfl ?_
      exact ⟨rfl, rfl⟩
    · have hi2 : i < n := nlt c21 (by omega) (by omega)
      refine s_aload_n (zdk hX0_learnFromKept 13 rfl) rfl ?_
      refine s_iload (zdk hX0_learnFromKept 14 rfl) rfl ?_
      refine s_iload (zdk hX0_learnFromKept 15 rfl) rfl ?_
      refine s_iadd (zdk hX0_learnFromKept 16 rfl) ?_
      refine s_topi (b := nI (P - n + i)) (nI_add _ _) ?_
      refine s_iload_n (zdk hX0_learnFromKept 17 rfl) rfl ?_
      refine s_callS0 [.int (nI (P - n + i)), .int (nI c)] (zdk hX0_learnFromKept 18 rfl) cw_X0_72 rfl (Nat.le_of_ble_eq_true rfl) (by decide) (c_floorMod hl _ (by omega) hc (by omega)) ?_
      refine s_aload_n (zdk hX0_learnFromKept 19 rfl) rfl ?_
      refine s_getR (zdk hX0_learnFromKept 20 rfl) fw_X0_37 rfl (ha.1) (ha.2.1) ?_
      refine s_iload (zdk hX0_learnFromKept 21 rfl) rfl ?_
      refine s_ialoadN (N := 24) (j := i) (zdk hX0_learnFromKept 22 rfl) (ha.2.2.2.1) (ha.2.2.2.2.1) (by omega) (by decide) ?_
      refine s_iload_n (zdk hX0_learnFromKept 23 rfl) rfl ?_
      have hm : (P - n + i) % c < 12 := by have := Nat.mod_lt (P - n + i) hc; omega
      refine s_topi rfl ?_
      refine s_callV0 (ci := 0) [.int (nI ((P - n + i) % c)), .int (zI (zsA M (a + 2) (zrl (zI M (a + 2)) (zI M (a + 1)) (P - n) c rate i)) (a + 1) (i)), .int (rate)] (zdk hX0_learnFromKept 24 rfl) cw_X0_76 (ha.1) (by decide) rfl rfl rfl (Nat.le_of_ble_eq_true rfl) (by decide) (c_X0_learnSeason (M := (zsA M (a + 2) (zrl (zI M (a + 2)) (zI M (a + 1)) (P - n) c rate i))) (ph := (P - n + i) % c) hl ha hm _ rate) ?_
      refine s_mem (M' := (zsA M (a + 2) (zrl (zI M (a + 2)) (zI M (a + 1)) (P - n) c rate (i + 1)))) (by rw [zsA_1]; refine zsA_g ?_; rw [zI_A, zI_An M _ (show a + 1 ≠ a + 2 by omega)]; rfl) ?_
      refine s_iinc (r := nI (i + 1)) (zdk hX0_learnFromKept 25 rfl) (Nat.le_of_ble_eq_true rfl) rfl (nI_1 i) ?_
      refine s_ls (ls' := [some (.ref a), some (.int (nI P)), some (.int (nI c)), some (.int (rate)), some (.int (nI (P - n))), some (.int (nI (i + 1)))]) rfl ?_
      refine s_goto 15 (zdk hX0_learnFromKept 26 rfl) (by decide) ?_
      exact ih (i + 1) (by omega) (by omega)
theorem c_X0_learnFromKept (hl : l.stackTraces = false) {M : zMem} {a P n c : Nat} (ha : rSh M a) (hn : zI M a 7 = nI n) (hn24 : n ≤ 24) (hP : n ≤ P) (hP2 : P < 20000) (hc : 0 < c) (hc2 : c ≤ 12) (rate : Int32) : zCm l G mX0_learnFromKept 1 25 0 0 [.ref a, .int (nI P), .int (nI c), .int rate] M (zD none (zsA M (a + 2) (zrl (zI M (a + 2)) (zI M (a + 1)) (P - n) c rate n))) := by
  refine zCd.of (ls0 := [some (.ref a), some (.int (nI P)), some (.int (nI c)), some (.int (rate)), none, none]) (by decide +kernel) rfl hl rfl (Nat.le_of_ble_eq_true rfl) rfl ?_
  refine s_aload_n (zdk hX0_learnFromKept 0 rfl) rfl ?_
  refine s_callV0 (ci := 0) [] (zdk hX0_learnFromKept 1 rfl) cw_X0_50 (ha.1) (by decide) rfl rfl rfl (Nat.le_of_ble_eq_true rfl) (by decide) (c_X0_forgetSeasons (M := _) hl ha) ?_
  refine s_iload_n (zdk hX0_learnFromKept 2 rfl) rfl ?_
  refine s_aload_n (zdk hX0_learnFromKept 3 rfl) rfl ?_
  refine s_getI (zdk hX0_learnFromKept 4 rfl) fw_X0_34 rfl (ha.1) ?_
  refine s_topi (b := nI n) ((congrFun (zI_An M _ (show a ≠ a + 2 by omega)) 7).trans hn) ?_
  refine s_isub (zdk hX0_learnFromKept 5 rfl) ?_
  refine s_topi (b := nI (P - n)) (pk_sub (by omega)) ?_
  refine s_istore (zdk hX0_learnFromKept 6 rfl) (Nat.le_of_ble_eq_true rfl) ?_
  refine s_ls (ls' := [some (.ref a), some (.int (nI P)), some (.int (nI c)), some (.int (rate)), some (.int (nI (P - n))), none]) rfl ?_
  refine s_iconstv (v := nI 0) (zdk hX0_learnFromKept 7 rfl) zc_iconst_0 ?_
  refine s_istore (zdk hX0_learnFromKept 8 rfl) (Nat.le_of_ble_eq_true rfl) ?_
  refine s_ls (ls' := [some (.ref a), some (.int (nI P)), some (.int (nI c)), some (.int (rate)), some (.int (nI (P - n))), some (.int (nI 0))]) rfl ?_
  exact w_X0_learnFromKept_15 hl ha hn hn24 hP hP2 hc hc2 rate (n + 1) 0 (by omega) (by omega)
end
