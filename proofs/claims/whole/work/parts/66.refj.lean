theorem zc_bipush_7 : (Int8.ofInt 7).toInt32 = nI 7 := by decide
theorem zc_bipush_9 : (Int8.ofInt 9).toInt32 = nI 9 := by decide
theorem zc_bipush_50 : (Int8.ofInt 50).toInt32 = nI 50 := by decide
/-! ===== the reference: its public questions ===== -/
def t1 (C : Prop) [Decidable C] (k : Nat) : Nat := if C then 0 else k
theorem t1_0 {C : Prop} [Decidable C] {k : Nat} (h : C) : t1 C k = 0 := if_pos h
theorem t1_1 {C : Prop} [Decidable C] {k : Nat} (h : ¬ C) : t1 C k = k := if_neg h
def t2 (C D : Prop) [Decidable C] [Decidable D] (k j : Nat) : Nat := if C then (if D then 0 else j) else k
theorem t2_0 {C D : Prop} [Decidable C] [Decidable D] {k j : Nat} (h : C) (h2 : D) : t2 C D k j = 0 := (if_pos h).trans (if_pos h2)
theorem t2_1 {C D : Prop} [Decidable C] [Decidable D] {k j : Nat} (h : ¬ C) : t2 C D k j = k := if_neg h
theorem t2_2 {C D : Prop} [Decidable C] [Decidable D] {k j : Nat} (h : C) (h2 : ¬ D) : t2 C D k j = j := (if_pos h).trans (if_neg h2)
def v1 {α : Type} (C : Prop) [Decidable C] (v z : α) : α := if C then v else z
def v2 {α : Type} (C D : Prop) [Decidable C] [Decidable D] (v z : α) : α := if C then (if D then v else z) else z
theorem v1_0 {α : Type} {C : Prop} [Decidable C] {v z : α} (h : C) : v1 C v z = v := if_pos h
theorem v1_1 {α : Type} {C : Prop} [Decidable C] {v z : α} (h : ¬ C) : v1 C v z = z := if_neg h
theorem v2_0 {α : Type} {C D : Prop} [Decidable C] [Decidable D] {v z : α} (h : C) (h2 : D) : v2 C D v z = v := (if_pos h).trans (if_pos h2)
theorem v2_1 {α : Type} {C D : Prop} [Decidable C] [Decidable D] {v z : α} (h : ¬ C) : v2 C D v z = z := if_neg h
theorem v2_2 {α : Type} {C D : Prop} [Decidable C] [Decidable D] {v z : α} (h : C) (h2 : ¬ D) : v2 C D v z = z := (if_pos h).trans (if_neg h2)
theorem inN_in {v : Int32} {n m : Nat} (hm : n = m + 1) (hn : n < 100000) : (nI 0 ≤ v ∧ v ≤ nI m) ↔ inN v n := by
  subst hm
  have h := inN_le (v := v) hn
  rw [pk_sub (by omega)] at h
  exact h
section
variable {l : Launch} {G : zG}
theorem c_X9_season (hl : l.stackTraces = false) {M : zMem} (hm : mSh M) {g : Nat → Int64} (hb : gBd g) (f ph : Int32) : zCm l G mX9_season 3 80 0 0 [.ref 941, .int (f), .int (ph)] (zsL M 942 g) (zD (some (.int (v2 (inN f (gN g 3)) (inN ph (gN g 0)) (gs g (f).toNatClampNeg (ph).toNatClampNeg) (nI 0)))) (zsL (zsI M 941 6 (nI (t2 (inN f (gN g 3)) (inN ph (gN g 0)) 1 1))) 942 g)) := by
  refine zCd.of (ls0 := [some (.ref 941), some (.int (f)), some (.int (ph))]) (by decide +kernel) rfl hl rfl (Nat.le_of_ble_eq_true rfl) rfl ?_
  have hn2 := hb.2.2.1.2
  have ht4 := hb.2.1.2
  have hcy := hb.1.2.2
  have hpe := hb.2.2.2.1.2
  refine s_aload_n (zdk hX9_season 0 rfl) rfl ?_
  refine s_aload_n (zdk hX9_season 1 rfl) rfl ?_
  refine s_iload_n (zdk hX9_season 2 rfl) rfl ?_
  refine s_callV0 (ci := 9) [.int (f)] (zdk hX9_season 3 rfl) cw_X9_254 (hm.1) (by decide) rfl rfl rfl (Nat.le_of_ble_eq_true rfl) (by decide) (c_X9_isFile hl (M := M) (g := g) hm hb (f)) ?_
  refine s_if_eq 28 (zdk hX9_season 4 rfl) (by decide) (fun c6 => ?_) (fun c6 => ?_)
  · have b6 : ¬ (inN (f) (gN g 3)) := b01_eq c6
    refine s_iconstv (v := nI 1) (zdk hX9_season 16 rfl) zc_iconst_1 ?_
    refine s_putI (zdk hX9_season 17 rfl) fw_X9_69 rfl pw_9_6 (hm.1) ?_
    refine s_mem (M' := (zsL (zsI M 941 6 (nI 1)) 942 g)) rfl ?_
    refine s_aload_n (zdk hX9_season 18 rfl) rfl ?_
    refine s_getI (zdk hX9_season 19 rfl) fw_X9_69 rfl (hm.1) ?_
    refine s_topi (b := nI 1) ((congrFun (zI_Ie (M := M) (a := 941) (k := 6) (v := (nI 1))) 6).trans zw1_e) ?_
    refine s_if_le 43 (zdk hX9_season 20 rfl) (by decide) (fun c36 => ?_) (fun c36 => ?_)
    · exact absurd c36 (by decide)
    · refine s_iconstv (v := nI 0) (zdk hX9_season 21 rfl) zc_iconst_0 ?_
      refine s_goto 52 (zdk hX9_season 22 rfl) (by decide) ?_
      refine s_ireturn (zdk hX9_season 29 rfl) rfl rfl ?_
      first | (rw [t2_0 b6 b21, v2_0 b6 b21]; exact ⟨rfl, rfl⟩) | (rw [t2_2 b6 b21, v2_2 b6 b21]; exact ⟨rfl, rfl⟩) | (rw [t2_1 b6, v2_1 b6]; exact ⟨rfl, rfl⟩)
  · have b6 : inN (f) (gN g 3) := b01_ne c6
    refine s_iload_n (zdk hX9_season 5 rfl) rfl ?_
    refine s_iconstv (v := nI 0) (zdk hX9_season 6 rfl) zc_iconst_0 ?_
    refine s_aload_n (zdk hX9_season 7 rfl) rfl ?_
    refine s_iconstv (v := nI 0) (zdk hX9_season 8 rfl) zc_iconst_0 ?_
    refine s_callV0 (ci := 9) [.int (nI 0)] (zdk hX9_season 9 rfl) cw_X9_87 (hm.1) (by decide) rfl rfl rfl (Nat.le_of_ble_eq_true rfl) (by decide) (c_X9_itsN hl (M := M) (g := g) hm (k := 0) (by decide) (hb.h0)) ?_
    refine s_iconstv (v := nI 1) (zdk hX9_season 10 rfl) zc_iconst_1 ?_
    refine s_isub (zdk hX9_season 11 rfl) ?_
    refine s_callS0 [.int (ph), .int (nI 0), .int ((nI (gN g 0)) - (nI 1))] (zdk hX9_season 12 rfl) cw_X9_79 rfl (Nat.le_of_ble_eq_true rfl) (by decide) (c_X9_isIn hl (zsL M 942 g) (ph) (nI 0) ((nI (gN g 0)) - (nI 1))) ?_
    refine s_topi (b := if inN ph (gN g 0) then nI 1 else nI 0) (b01 (inN_le (by omega))) ?_
    refine s_if_eq 28 (zdk hX9_season 13 rfl) (by decide) (fun c21 => ?_) (fun c21 => ?_)
    · have b21 : ¬ (inN ph (gN g 0)) := b01_eq c21
      refine s_iconstv (v := nI 1) (zdk hX9_season 16 rfl) zc_iconst_1 ?_
      refine s_putI (zdk hX9_season 17 rfl) fw_X9_69 rfl pw_9_6 (hm.1) ?_
      refine s_mem (M' := (zsL (zsI M 941 6 (nI 1)) 942 g)) rfl ?_
      refine s_aload_n (zdk hX9_season 18 rfl) rfl ?_
      refine s_getI (zdk hX9_season 19 rfl) fw_X9_69 rfl (hm.1) ?_
      refine s_topi (b := nI 1) ((congrFun (zI_Ie (M := M) (a := 941) (k := 6) (v := (nI 1))) 6).trans zw1_e) ?_
      refine s_if_le 43 (zdk hX9_season 20 rfl) (by decide) (fun c36 => ?_) (fun c36 => ?_)
      · exact absurd c36 (by decide)
      · refine s_iconstv (v := nI 0) (zdk hX9_season 21 rfl) zc_iconst_0 ?_
        refine s_goto 52 (zdk hX9_season 22 rfl) (by decide) ?_
        refine s_ireturn (zdk hX9_season 29 rfl) rfl rfl ?_
        first | (rw [t2_0 b6 b21, v2_0 b6 b21]; exact ⟨rfl, rfl⟩) | (rw [t2_2 b6 b21, v2_2 b6 b21]; exact ⟨rfl, rfl⟩) | (rw [t2_1 b6, v2_1 b6]; exact ⟨rfl, rfl⟩)
    · have b21 : inN ph (gN g 0) := b01_ne c21
      refine s_iconstv (v := nI 0) (zdk hX9_season 14 rfl) zc_iconst_0 ?_
      refine s_goto 29 (zdk hX9_season 15 rfl) (by decide) ?_
      refine s_putI (zdk hX9_season 17 rfl) fw_X9_69 rfl pw_9_6 (hm.1) ?_
      refine s_mem (M' := (zsL (zsI M 941 6 (nI 0)) 942 g)) rfl ?_
      refine s_aload_n (zdk hX9_season 18 rfl) rfl ?_
      refine s_getI (zdk hX9_season 19 rfl) fw_X9_69 rfl (hm.1) ?_
      refine s_topi (b := nI 0) ((congrFun (zI_Ie (M := M) (a := 941) (k := 6) (v := (nI 0))) 6).trans zw1_e) ?_
      refine s_if_le 43 (zdk hX9_season 20 rfl) (by decide) (fun c36 => ?_) (fun c36 => ?_)
      · obtain ⟨fn, rfl, hfn⟩ := inN_nat b6 (by omega)
        obtain ⟨pn, rfl, hpn⟩ := inN_nat b21 (by omega)
        rw [nI_clamp (show fn < 2 ^ 31 by omega), nI_clamp (show pn < 2 ^ 31 by omega)]
        refine s_aload_n (zdk hX9_season 23 rfl) rfl ?_
        refine s_iload_n (zdk hX9_season 24 rfl) rfl ?_
        refine s_bipushv (v := nI 14) (zdk hX9_season 25 rfl) zc_bipush_14 ?_
        refine s_iload_n (zdk hX9_season 26 rfl) rfl ?_
        refine s_iadd (zdk hX9_season 27 rfl) ?_
        refine s_topi (b := nI (14 + pn)) (nI_add _ _) ?_
        refine s_callV0 (ci := 9) [.int (nI fn), .int (nI (14 + pn))] (zdk hX9_season 28 rfl) cw_X9_211 (hm.1) (by decide) rfl rfl rfl (Nat.le_of_ble_eq_true rfl) (by decide) (c_X9_ofS hl (M := (zsI M 941 6 (nI 0))) (g := g) hm (f := fn) (p := pn) (by omega)) ?_
        refine s_ireturn (zdk hX9_season 29 rfl) rfl rfl ?_
        first | (rw [t2_0 b6 b21, v2_0 b6 b21]; exact ⟨rfl, rfl⟩) | (rw [t2_2 b6 b21, v2_2 b6 b21]; exact ⟨rfl, rfl⟩) | (rw [t2_1 b6, v2_1 b6]; exact ⟨rfl, rfl⟩)
      · exact absurd (by decide) c36
def rCnt (g : Nat → Int64) (k : Nat) : Int32 := if k < 5 then its g k else if k = 5 then zpin g (gN g 3) else if k = 6 then nI (gN g 5) else zszT g (gN g 2)
def rTir (g : Nat → Int64) (t w : Nat) : Int32 := if w < 5 then gt g t w else if w = 5 then zfull g (nI t) (gN g 3) else if w = 6 then zfo g (nI t) (gN g 3) else zbu g (nI t) (gN g 3)
def rFil (g : Nat → Int64) (f w : Nat) : Int32 := if w < 4 then gf g f w else if w = 4 then (if nI (gN g 4) < gf g f 3 then nI 1 else nI 0) else if w = 5 then gf g f 4 else if w = 6 then gf g f 5 else if w = 7 then zkn (gs g f) (gN g 0) else if w = 8 then zsoR (gs g f) (gN g 0) true else zsoR (gs g f) (gN g 0) false
theorem c_X9_count (hl : l.stackTraces = false) {M : zMem} (hm : mSh M) {g : Nat → Int64} (hb : gBd g) (hi4 : g 4 = (its g 4).toInt64) (w : Int32) : zCm l G mX9_count 4 100 0 0 [.ref 941, .int (w)] (zsL M 942 g) (zD (some (.int (v1 (inN w 8) (rCnt g (w).toNatClampNeg) (nI 0)))) (zsL (zsI M 941 6 (nI (t1 (inN w 8) 1))) 942 g)) := by
  refine zCd.of (ls0 := [some (.ref 941), some (.int (w))]) (by decide +kernel) rfl hl rfl (Nat.le_of_ble_eq_true rfl) rfl ?_
  have hn2 := hb.2.2.1.2
  have ht4 := hb.2.1.2
  have hcy := hb.1.2.2
  have hpe := hb.2.2.2.1.2
  refine s_aload_n (zdk hX9_count 0 rfl) rfl ?_
  refine s_iload_n (zdk hX9_count 1 rfl) rfl ?_
  refine s_iconstv (v := nI 0) (zdk hX9_count 2 rfl) zc_iconst_0 ?_
  refine s_bipushv (v := nI 7) (zdk hX9_count 3 rfl) zc_bipush_7 ?_
  refine s_callS0 [.int (w), .int (nI 0), .int (nI 7)] (zdk hX9_count 4 rfl) cw_X9_79 rfl (Nat.le_of_ble_eq_true rfl) (by decide) (c_X9_isIn hl (zsL M 942 g) (w) (nI 0) (nI 7)) ?_
  refine s_topi (b := if inN w 8 then nI 1 else nI 0) (b01 (inN_in rfl (by omega))) ?_
  refine s_if_eq 15 (zdk hX9_count 5 rfl) (by decide) (fun c8 => ?_) (fun c8 => ?_)
  · have b8 : ¬ (inN w 8) := b01_eq c8
    refine s_iconstv (v := nI 1) (zdk hX9_count 8 rfl) zc_iconst_1 ?_
    refine s_putI (zdk hX9_count 9 rfl) fw_X9_69 rfl pw_9_6 (hm.1) ?_
    refine s_mem (M' := (zsL (zsI M 941 6 (nI 1)) 942 g)) rfl ?_
    refine s_aload_n (zdk hX9_count 10 rfl) rfl ?_
    refine s_getI (zdk hX9_count 11 rfl) fw_X9_69 rfl (hm.1) ?_
    refine s_topi (b := nI 1) ((congrFun (zI_Ie (M := M) (a := 941) (k := 6) (v := (nI 1))) 6).trans zw1_e) ?_
    refine s_if_le 28 (zdk hX9_count 12 rfl) (by decide) (fun c23 => ?_) (fun c23 => ?_)
    · exact absurd c23 (by decide)
    · refine s_iconstv (v := nI 0) (zdk hX9_count 13 rfl) zc_iconst_0 ?_
      refine s_ireturn (zdk hX9_count 14 rfl) rfl rfl ?_
      (rw [t1_1 b8, v1_1 b8]; exact ⟨rfl, rfl⟩)
  · have b8 : inN w 8 := b01_ne c8
    refine s_iconstv (v := nI 0) (zdk hX9_count 6 rfl) zc_iconst_0 ?_
    refine s_goto 16 (zdk hX9_count 7 rfl) (by decide) ?_
    refine s_putI (zdk hX9_count 9 rfl) fw_X9_69 rfl pw_9_6 (hm.1) ?_
    refine s_mem (M' := (zsL (zsI M 941 6 (nI 0)) 942 g)) rfl ?_
    refine s_aload_n (zdk hX9_count 10 rfl) rfl ?_
    refine s_getI (zdk hX9_count 11 rfl) fw_X9_69 rfl (hm.1) ?_
    refine s_topi (b := nI 0) ((congrFun (zI_Ie (M := M) (a := 941) (k := 6) (v := (nI 0))) 6).trans zw1_e) ?_
    refine s_if_le 28 (zdk hX9_count 12 rfl) (by decide) (fun c23 => ?_) (fun c23 => ?_)
    · obtain ⟨wn, rfl, hwn⟩ := inN_nat b8 (by omega)
      rw [nI_clamp (show wn < 2 ^ 31 by omega)]
      rw [t1_0 b8, v1_0 b8]
      refine s_iload_n (zdk hX9_count 15 rfl) rfl ?_
      rcases (by omega : wn < 5 ∨ wn = 5 ∨ wn = 6 ∨ wn = 7) with q | rfl | rfl | rfl
      · refine s_tableOut 72 (zdk hX9_count 16 rfl) (Or.inl (by rw [nI_toInt (by omega)]; omega)) (by decide) ?_
        refine s_aload_n (zdk hX9_count 27 rfl) rfl ?_
        refine s_iload_n (zdk hX9_count 28 rfl) rfl ?_
        refine s_callV0 (ci := 9) [.int (nI wn)] (zdk hX9_count 29 rfl) cw_X9_87 (hm.1) (by decide) rfl rfl rfl (Nat.le_of_ble_eq_true rfl) (by decide) (c_X9_its hl (M := (zsI M 941 6 (nI 0))) (g := g) hm (k := wn) (by omega)) ?_
        refine s_ireturn (zdk hX9_count 30 rfl) rfl rfl ?_
        first | (unfold rCnt; rw [if_pos (by omega)]; exact ⟨rfl, rfl⟩) | (unfold rCnt; rw [if_neg (by omega), if_pos (by omega)]; exact ⟨rfl, rfl⟩) | (unfold rCnt; rw [if_neg (by omega), if_neg (by omega), if_pos (by omega)]; exact ⟨rfl, rfl⟩) | (unfold rCnt; rw [if_neg (by omega), if_neg (by omega), if_neg (by omega)]; exact ⟨rfl, rfl⟩)
      · refine s_tableIn 56 (zdk hX9_count 16 rfl) (by decide) (by decide) rfl (by decide) ?_
        refine s_aload_n (zdk hX9_count 17 rfl) rfl ?_
        refine s_callV0 (ci := 9) [] (zdk hX9_count 18 rfl) cw_X9_236 (hm.1) (by decide) rfl rfl rfl (Nat.le_of_ble_eq_true rfl) (by decide) (c_X9_pinned hl (M := (zsI M 941 6 (nI 0))) (g := g) hm hb hi4) ?_
        refine s_ireturn (zdk hX9_count 19 rfl) rfl rfl ?_
        first | (unfold rCnt; rw [if_pos (by omega)]; exact ⟨rfl, rfl⟩) | (unfold rCnt; rw [if_neg (by omega), if_pos (by omega)]; exact ⟨rfl, rfl⟩) | (unfold rCnt; rw [if_neg (by omega), if_neg (by omega), if_pos (by omega)]; exact ⟨rfl, rfl⟩) | (unfold rCnt; rw [if_neg (by omega), if_neg (by omega), if_neg (by omega)]; exact ⟨rfl, rfl⟩)
      · refine s_tableIn 61 (zdk hX9_count 16 rfl) (by decide) (by decide) rfl (by decide) ?_
        refine s_aload_n (zdk hX9_count 20 rfl) rfl ?_
        refine s_iconstv (v := nI 5) (zdk hX9_count 21 rfl) zc_iconst_5 ?_
        refine s_callV0 (ci := 9) [.int (nI 5)] (zdk hX9_count 22 rfl) cw_X9_87 (hm.1) (by decide) rfl rfl rfl (Nat.le_of_ble_eq_true rfl) (by decide) (c_X9_itsN hl (M := (zsI M 941 6 (nI 0))) (g := g) hm (k := 5) (by decide) (hb.h5)) ?_
        refine s_ireturn (zdk hX9_count 23 rfl) rfl rfl ?_
        first | (unfold rCnt; rw [if_pos (by omega)]; exact ⟨rfl, rfl⟩) | (unfold rCnt; rw [if_neg (by omega), if_pos (by omega)]; exact ⟨rfl, rfl⟩) | (unfold rCnt; rw [if_neg (by omega), if_neg (by omega), if_pos (by omega)]; exact ⟨rfl, rfl⟩) | (unfold rCnt; rw [if_neg (by omega), if_neg (by omega), if_neg (by omega)]; exact ⟨rfl, rfl⟩)
      · refine s_tableIn 67 (zdk hX9_count 16 rfl) (by decide) (by decide) rfl (by decide) ?_
        refine s_aload_n (zdk hX9_count 24 rfl) rfl ?_
        refine s_callV0 (ci := 9) [] (zdk hX9_count 25 rfl) cw_X9_239 (hm.1) (by decide) rfl rfl rfl (Nat.le_of_ble_eq_true rfl) (by decide) (c_X9_sizes hl (M := (zsI M 941 6 (nI 0))) (g := g) hm hb) ?_
        refine s_ireturn (zdk hX9_count 26 rfl) rfl rfl ?_
        first | (unfold rCnt; rw [if_pos (by omega)]; exact ⟨rfl, rfl⟩) | (unfold rCnt; rw [if_neg (by omega), if_pos (by omega)]; exact ⟨rfl, rfl⟩) | (unfold rCnt; rw [if_neg (by omega), if_neg (by omega), if_pos (by omega)]; exact ⟨rfl, rfl⟩) | (unfold rCnt; rw [if_neg (by omega), if_neg (by omega), if_neg (by omega)]; exact ⟨rfl, rfl⟩)
    · exact absurd (by decide) c23
theorem c_X9_tier (hl : l.stackTraces = false) {M : zMem} (hm : mSh M) {g : Nat → Int64} (hb : gBd g) (t w : Int32) : zCm l G mX9_tier 5 124 0 0 [.ref 941, .int (t), .int (w)] (zsL M 942 g) (zD (some (.int (v2 (inN t (gN g 2)) (inN w 8) (rTir g (t).toNatClampNeg (w).toNatClampNeg) (nI 0)))) (zsL (zsI M 941 6 (nI (t2 (inN t (gN g 2)) (inN w 8) 1 2))) 942 g)) := by
  refine zCd.of (ls0 := [some (.ref 941), some (.int (t)), some (.int (w))]) (by decide +kernel) rfl hl rfl (Nat.le_of_ble_eq_true rfl) rfl ?_
  have hn2 := hb.2.2.1.2
  have ht4 := hb.2.1.2
  have hcy := hb.1.2.2
  have hpe := hb.2.2.2.1.2
  refine s_aload_n (zdk hX9_tier 0 rfl) rfl ?_
  refine s_aload_n (zdk hX9_tier 1 rfl) rfl ?_
  refine s_iload_n (zdk hX9_tier 2 rfl) rfl ?_
  refine s_callV0 (ci := 9) [.int (t)] (zdk hX9_tier 3 rfl) cw_X9_245 (hm.1) (by decide) rfl rfl rfl (Nat.le_of_ble_eq_true rfl) (by decide) (c_X9_isTier hl (M := M) (g := g) hm hb (t)) ?_
  refine s_if_ne 13 (zdk hX9_tier 4 rfl) (by decide) (fun c6 => ?_) (fun c6 => ?_)
  · have b6 : inN (t) (gN g 2) := b01_ne c6
    refine s_iload_n (zdk hX9_tier 7 rfl) rfl ?_
    refine s_iconstv (v := nI 0) (zdk hX9_tier 8 rfl) zc_iconst_0 ?_
    refine s_bipushv (v := nI 7) (zdk hX9_tier 9 rfl) zc_bipush_7 ?_
    refine s_callS0 [.int (w), .int (nI 0), .int (nI 7)] (zdk hX9_tier 10 rfl) cw_X9_79 rfl (Nat.le_of_ble_eq_true rfl) (by decide) (c_X9_isIn hl (zsL M 942 g) (w) (nI 0) (nI 7)) ?_
    refine s_topi (b := if inN w 8 then nI 1 else nI 0) (b01 (inN_in rfl (by omega))) ?_
    refine s_if_eq 27 (zdk hX9_tier 11 rfl) (by decide) (fun c20 => ?_) (fun c20 => ?_)
    · have b20 : ¬ (inN w 8) := b01_eq c20
      refine s_iconstv (v := nI 2) (zdk hX9_tier 14 rfl) zc_iconst_2 ?_
      refine s_putI (zdk hX9_tier 15 rfl) fw_X9_69 rfl pw_9_6 (hm.1) ?_
      refine s_mem (M' := (zsL (zsI M 941 6 (nI 2)) 942 g)) rfl ?_
      refine s_aload_n (zdk hX9_tier 16 rfl) rfl ?_
      refine s_getI (zdk hX9_tier 17 rfl) fw_X9_69 rfl (hm.1) ?_
      refine s_topi (b := nI 2) ((congrFun (zI_Ie (M := M) (a := 941) (k := 6) (v := (nI 2))) 6).trans zw1_e) ?_
      refine s_if_le 40 (zdk hX9_tier 18 rfl) (by decide) (fun c35 => ?_) (fun c35 => ?_)
      · exact absurd c35 (by decide)
      · refine s_iconstv (v := nI 0) (zdk hX9_tier 19 rfl) zc_iconst_0 ?_
        refine s_ireturn (zdk hX9_tier 20 rfl) rfl rfl ?_
        first | (rw [t2_2 b6 b20, v2_2 b6 b20]; exact ⟨rfl, rfl⟩) | (rw [t2_1 b6, v2_1 b6]; exact ⟨rfl, rfl⟩)
    · have b20 : inN w 8 := b01_ne c20
      refine s_iconstv (v := nI 0) (zdk hX9_tier 12 rfl) zc_iconst_0 ?_
      refine s_goto 28 (zdk hX9_tier 13 rfl) (by decide) ?_
      refine s_putI (zdk hX9_tier 15 rfl) fw_X9_69 rfl pw_9_6 (hm.1) ?_
      refine s_mem (M' := (zsL (zsI M 941 6 (nI 0)) 942 g)) rfl ?_
      refine s_aload_n (zdk hX9_tier 16 rfl) rfl ?_
      refine s_getI (zdk hX9_tier 17 rfl) fw_X9_69 rfl (hm.1) ?_
      refine s_topi (b := nI 0) ((congrFun (zI_Ie (M := M) (a := 941) (k := 6) (v := (nI 0))) 6).trans zw1_e) ?_
      refine s_if_le 40 (zdk hX9_tier 18 rfl) (by decide) (fun c35 => ?_) (fun c35 => ?_)
      · obtain ⟨tn, rfl, htn⟩ := inN_nat b6 (by omega)
        obtain ⟨wn, rfl, hwn⟩ := inN_nat b20 (by omega)
        rw [t2_0 b6 b20, v2_0 b6 b20]
        rw [nI_clamp (show tn < 2 ^ 31 by omega), nI_clamp (show wn < 2 ^ 31 by omega)]
        refine s_iload_n (zdk hX9_tier 21 rfl) rfl ?_
        refine s_iconstv (v := nI 5) (zdk hX9_tier 22 rfl) zc_iconst_5 ?_
        refine s_icmp_ge 54 (zdk hX9_tier 23 rfl) (by decide) (fun c42 => ?_) (fun c42 => ?_)
        · have n42 : 5 ≤ wn := nle c42 (by omega) (by omega)
          refine s_iload_n (zdk hX9_tier 29 rfl) rfl ?_
          refine s_iconstv (v := nI 5) (zdk hX9_tier 30 rfl) zc_iconst_5 ?_
          refine s_icmp_ne 67 (zdk hX9_tier 31 rfl) (by decide) (fun c56 => ?_) (fun c56 => ?_)
          · have n56 : ¬ wn = 5 := nne c56
            refine s_iload_n (zdk hX9_tier 36 rfl) rfl ?_
            refine s_bipushv (v := nI 6) (zdk hX9_tier 37 rfl) zc_bipush_6 ?_
            refine s_icmp_ne 81 (zdk hX9_tier 38 rfl) (by decide) (fun c70 => ?_) (fun c70 => ?_)
            · have n70 : ¬ wn = 6 := nne c70
              refine s_aload_n (zdk hX9_tier 43 rfl) rfl ?_
              refine s_iload_n (zdk hX9_tier 44 rfl) rfl ?_
              refine s_callV0 (ci := 9) [.int (nI tn)] (zdk hX9_tier 45 rfl) cw_X9_251 (hm.1) (by decide) rfl rfl rfl (Nat.le_of_ble_eq_true rfl) (by decide) (c_X9_busiest hl (M := (zsI M 941 6 (nI 0))) (g := g) hm hb (nI tn)) ?_
              refine s_ireturn (zdk hX9_tier 46 rfl) rfl rfl ?_
              first | (unfold rTir; rw [if_pos (by omega)]; exact ⟨rfl, rfl⟩) | (unfold rTir; rw [if_neg (by omega), if_pos (by omega)]; exact ⟨rfl, rfl⟩) | (unfold rTir; rw [if_neg (by omega), if_neg (by omega), if_pos (by omega)]; exact ⟨rfl, rfl⟩) | (unfold rTir; rw [if_neg (by omega), if_neg (by omega), if_neg (by omega)]; exact ⟨rfl, rfl⟩)
            · have n70 : wn = 6 := neq c70 (by omega) (by omega)
              refine s_aload_n (zdk hX9_tier 39 rfl) rfl ?_
              refine s_iload_n (zdk hX9_tier 40 rfl) rfl ?_
              refine s_callV0 (ci := 9) [.int (nI tn)] (zdk hX9_tier 41 rfl) cw_X9_248 (hm.1) (by decide) rfl rfl rfl (Nat.le_of_ble_eq_true rfl) (by decide) (c_X9_filesOn hl (M := (zsI M 941 6 (nI 0))) (g := g) hm hb (nI tn)) ?_
              refine s_goto 86 (zdk hX9_tier 42 rfl) (by decide) ?_
              refine s_ireturn (zdk hX9_tier 46 rfl) rfl rfl ?_
              first | (unfold rTir; rw [if_pos (by omega)]; exact ⟨rfl, rfl⟩) | (unfold rTir; rw [if_neg (by omega), if_pos (by omega)]; exact ⟨rfl, rfl⟩) | (unfold rTir; rw [if_neg (by omega), if_neg (by omega), if_pos (by omega)]; exact ⟨rfl, rfl⟩) | (unfold rTir; rw [if_neg (by omega), if_neg (by omega), if_neg (by omega)]; exact ⟨rfl, rfl⟩)
          · have n56 : wn = 5 := neq c56 (by omega) (by omega)
            refine s_aload_n (zdk hX9_tier 32 rfl) rfl ?_
            refine s_iload_n (zdk hX9_tier 33 rfl) rfl ?_
            refine s_callV0 (ci := 9) [.int (nI tn)] (zdk hX9_tier 34 rfl) cw_X9_217 (hm.1) (by decide) rfl rfl rfl (Nat.le_of_ble_eq_true rfl) (by decide) (c_X9_fullOf hl (M := (zsI M 941 6 (nI 0))) (g := g) hm hb (nI tn)) ?_
            refine s_goto 86 (zdk hX9_tier 35 rfl) (by decide) ?_
            refine s_ireturn (zdk hX9_tier 46 rfl) rfl rfl ?_
            first | (unfold rTir; rw [if_pos (by omega)]; exact ⟨rfl, rfl⟩) | (unfold rTir; rw [if_neg (by omega), if_pos (by omega)]; exact ⟨rfl, rfl⟩) | (unfold rTir; rw [if_neg (by omega), if_neg (by omega), if_pos (by omega)]; exact ⟨rfl, rfl⟩) | (unfold rTir; rw [if_neg (by omega), if_neg (by omega), if_neg (by omega)]; exact ⟨rfl, rfl⟩)
        · have n42 : wn < 5 := nlt c42 (by omega) (by omega)
          refine s_aload_n (zdk hX9_tier 24 rfl) rfl ?_
          refine s_iload_n (zdk hX9_tier 25 rfl) rfl ?_
          refine s_iload_n (zdk hX9_tier 26 rfl) rfl ?_
          refine s_callV0 (ci := 9) [.int (nI tn), .int (nI wn)] (zdk hX9_tier 27 rfl) cw_X9_214 (hm.1) (by decide) rfl rfl rfl (Nat.le_of_ble_eq_true rfl) (by decide) (c_X9_ofTier hl (M := (zsI M 941 6 (nI 0))) (g := g) hm (t := tn) (k := wn) (by omega)) ?_
          refine s_goto 86 (zdk hX9_tier 28 rfl) (by decide) ?_
          refine s_ireturn (zdk hX9_tier 46 rfl) rfl rfl ?_
          first | (unfold rTir; rw [if_pos (by omega)]; exact ⟨rfl, rfl⟩) | (unfold rTir; rw [if_neg (by omega), if_pos (by omega)]; exact ⟨rfl, rfl⟩) | (unfold rTir; rw [if_neg (by omega), if_neg (by omega), if_pos (by omega)]; exact ⟨rfl, rfl⟩) | (unfold rTir; rw [if_neg (by omega), if_neg (by omega), if_neg (by omega)]; exact ⟨rfl, rfl⟩)
      · exact absurd (by decide) c35
  · have b6 : ¬ (inN (t) (gN g 2)) := b01_eq c6
    refine s_iconstv (v := nI 1) (zdk hX9_tier 5 rfl) zc_iconst_1 ?_
    refine s_goto 28 (zdk hX9_tier 6 rfl) (by decide) ?_
    refine s_putI (zdk hX9_tier 15 rfl) fw_X9_69 rfl pw_9_6 (hm.1) ?_
    refine s_mem (M' := (zsL (zsI M 941 6 (nI 1)) 942 g)) rfl ?_
    refine s_aload_n (zdk hX9_tier 16 rfl) rfl ?_
    refine s_getI (zdk hX9_tier 17 rfl) fw_X9_69 rfl (hm.1) ?_
    refine s_topi (b := nI 1) ((congrFun (zI_Ie (M := M) (a := 941) (k := 6) (v := (nI 1))) 6).trans zw1_e) ?_
    refine s_if_le 40 (zdk hX9_tier 18 rfl) (by decide) (fun c35 => ?_) (fun c35 => ?_)
    · exact absurd c35 (by decide)
    · refine s_iconstv (v := nI 0) (zdk hX9_tier 19 rfl) zc_iconst_0 ?_
      refine s_ireturn (zdk hX9_tier 20 rfl) rfl rfl ?_
      first | (rw [t2_2 b6 b20, v2_2 b6 b20]; exact ⟨rfl, rfl⟩) | (rw [t2_1 b6, v2_1 b6]; exact ⟨rfl, rfl⟩)
theorem c_X9_file (hl : l.stackTraces = false) {M : zMem} (hm : mSh M) {g : Nat → Int64} (hb : gBd g) (hi4 : g 4 = (its g 4).toInt64) (f w : Int32) : zCm l G mX9_file 4 100 0 0 [.ref 941, .int (f), .int (w)] (zsL M 942 g) (zD (some (.int (v2 (inN f (gN g 3)) (inN w 10) (rFil g (f).toNatClampNeg (w).toNatClampNeg) (nI 0)))) (zsL (zsI M 941 6 (nI (t2 (inN f (gN g 3)) (inN w 10) 1 2))) 942 g)) := by
  refine zCd.of (ls0 := [some (.ref 941), some (.int (f)), some (.int (w))]) (by decide +kernel) rfl hl rfl (Nat.le_of_ble_eq_true rfl) rfl ?_
  have hn2 := hb.2.2.1.2
  have ht4 := hb.2.1.2
  have hcy := hb.1.2.2
  have hpe := hb.2.2.2.1.2
  refine s_aload_n (zdk hX9_file 0 rfl) rfl ?_
  refine s_aload_n (zdk hX9_file 1 rfl) rfl ?_
  refine s_iload_n (zdk hX9_file 2 rfl) rfl ?_
  refine s_callV0 (ci := 9) [.int (f)] (zdk hX9_file 3 rfl) cw_X9_254 (hm.1) (by decide) rfl rfl rfl (Nat.le_of_ble_eq_true rfl) (by decide) (c_X9_isFile hl (M := M) (g := g) hm hb (f)) ?_
  refine s_if_ne 13 (zdk hX9_file 4 rfl) (by decide) (fun c6 => ?_) (fun c6 => ?_)
  · have b6 : inN (f) (gN g 3) := b01_ne c6
    refine s_iload_n (zdk hX9_file 7 rfl) rfl ?_
    refine s_iconstv (v := nI 0) (zdk hX9_file 8 rfl) zc_iconst_0 ?_
    refine s_bipushv (v := nI 9) (zdk hX9_file 9 rfl) zc_bipush_9 ?_
    refine s_callS0 [.int (w), .int (nI 0), .int (nI 9)] (zdk hX9_file 10 rfl) cw_X9_79 rfl (Nat.le_of_ble_eq_true rfl) (by decide) (c_X9_isIn hl (zsL M 942 g) (w) (nI 0) (nI 9)) ?_
    refine s_topi (b := if inN w 10 then nI 1 else nI 0) (b01 (inN_in rfl (by omega))) ?_
    refine s_if_eq 27 (zdk hX9_file 11 rfl) (by decide) (fun c20 => ?_) (fun c20 => ?_)
    · have b20 : ¬ (inN w 10) := b01_eq c20
      refine s_iconstv (v := nI 2) (zdk hX9_file 14 rfl) zc_iconst_2 ?_
      refine s_putI (zdk hX9_file 15 rfl) fw_X9_69 rfl pw_9_6 (hm.1) ?_
      refine s_mem (M' := (zsL (zsI M 941 6 (nI 2)) 942 g)) rfl ?_
      refine s_aload_n (zdk hX9_file 16 rfl) rfl ?_
      refine s_getI (zdk hX9_file 17 rfl) fw_X9_69 rfl (hm.1) ?_
      refine s_topi (b := nI 2) ((congrFun (zI_Ie (M := M) (a := 941) (k := 6) (v := (nI 2))) 6).trans zw1_e) ?_
      refine s_if_le 40 (zdk hX9_file 18 rfl) (by decide) (fun c35 => ?_) (fun c35 => ?_)
      · exact absurd c35 (by decide)
      · refine s_iconstv (v := nI 0) (zdk hX9_file 19 rfl) zc_iconst_0 ?_
        refine s_ireturn (zdk hX9_file 20 rfl) rfl rfl ?_
        first | (rw [t2_2 b6 b20, v2_2 b6 b20]; exact ⟨rfl, rfl⟩) | (rw [t2_1 b6, v2_1 b6]; exact ⟨rfl, rfl⟩)
    · have b20 : inN w 10 := b01_ne c20
      refine s_iconstv (v := nI 0) (zdk hX9_file 12 rfl) zc_iconst_0 ?_
      refine s_goto 28 (zdk hX9_file 13 rfl) (by decide) ?_
      refine s_putI (zdk hX9_file 15 rfl) fw_X9_69 rfl pw_9_6 (hm.1) ?_
      refine s_mem (M' := (zsL (zsI M 941 6 (nI 0)) 942 g)) rfl ?_
      refine s_aload_n (zdk hX9_file 16 rfl) rfl ?_
      refine s_getI (zdk hX9_file 17 rfl) fw_X9_69 rfl (hm.1) ?_
      refine s_topi (b := nI 0) ((congrFun (zI_Ie (M := M) (a := 941) (k := 6) (v := (nI 0))) 6).trans zw1_e) ?_
      refine s_if_le 40 (zdk hX9_file 18 rfl) (by decide) (fun c35 => ?_) (fun c35 => ?_)
      · obtain ⟨fn, rfl, hfn⟩ := inN_nat b6 (by omega)
        obtain ⟨wn, rfl, hwn⟩ := inN_nat b20 (by omega)
        rw [t2_0 b6 b20, v2_0 b6 b20]
        rw [nI_clamp (show fn < 2 ^ 31 by omega), nI_clamp (show wn < 2 ^ 31 by omega)]
        refine s_iload_n (zdk hX9_file 21 rfl) rfl ?_
        rcases (by omega : wn < 4 ∨ wn = 4 ∨ wn = 5 ∨ wn = 6 ∨ wn = 7 ∨ wn = 8 ∨ wn = 9) with q | rfl | rfl | rfl | rfl | rfl | rfl
        · refine s_tableOut 128 (zdk hX9_file 22 rfl) (Or.inl (by rw [nI_toInt (by omega)]; omega)) (by decide) ?_
          refine s_aload_n (zdk hX9_file 55 rfl) rfl ?_
          refine s_iload_n (zdk hX9_file 56 rfl) rfl ?_
          refine s_iload_n (zdk hX9_file 57 rfl) rfl ?_
          refine s_callV0 (ci := 9) [.int (nI fn), .int (nI wn)] (zdk hX9_file 58 rfl) cw_X9_211 (hm.1) (by decide) rfl rfl rfl (Nat.le_of_ble_eq_true rfl) (by decide) (c_X9_of hl (M := (zsI M 941 6 (nI 0))) (g := g) hm (f := fn) (k := wn) (by omega)) ?_
          refine s_ireturn (zdk hX9_file 59 rfl) rfl rfl ?_
          first | (unfold rFil; rw [if_pos (by omega)]; exact ⟨rfl, rfl⟩) | (unfold rFil; rw [if_neg (by omega), if_pos (by omega)]; exact ⟨rfl, rfl⟩) | (unfold rFil; rw [if_neg (by omega), if_neg (by omega), if_pos (by omega)]; exact ⟨rfl, rfl⟩) | (unfold rFil; rw [if_neg (by omega), if_neg (by omega), if_neg (by omega), if_pos (by omega)]; exact ⟨rfl, rfl⟩) | (unfold rFil; rw [if_neg (by omega), if_neg (by omega), if_neg (by omega), if_neg (by omega), if_pos (by omega)]; exact ⟨rfl, rfl⟩) | (unfold rFil; rw [if_neg (by omega), if_neg (by omega), if_neg (by omega), if_neg (by omega), if_neg (by omega), if_pos (by omega)]; exact ⟨rfl, rfl⟩) | (unfold rFil; rw [if_neg (by omega), if_neg (by omega), if_neg (by omega), if_neg (by omega), if_neg (by omega), if_neg (by omega)]; exact ⟨rfl, rfl⟩)
        · refine s_tableIn 80 (zdk hX9_file 22 rfl) (by decide) (by decide) rfl (by decide) ?_
          refine s_aload_n (zdk hX9_file 23 rfl) rfl ?_
          refine s_iload_n (zdk hX9_file 24 rfl) rfl ?_
          refine s_callV0 (ci := 9) [.int (nI fn)] (zdk hX9_file 25 rfl) cw_X9_233 (hm.1) (by decide) rfl rfl rfl (Nat.le_of_ble_eq_true rfl) (by decide) (c_X9_isPinned hl (M := (zsI M 941 6 (nI 0))) (g := g) hm hb (h4 := hi4) (f := fn) (by omega)) ?_
          refine s_if_eq 92 (zdk hX9_file 26 rfl) (by decide) (fun c85 => ?_) (fun c85 => ?_)
          · have b85 : ¬ (nI (gN g 4) < gf g fn 3) := b01_eq c85
            refine s_iconstv (v := nI 0) (zdk hX9_file 29 rfl) zc_iconst_0 ?_
            refine s_ireturn (zdk hX9_file 30 rfl) rfl rfl ?_
            first | (unfold rFil; rw [if_neg (by omega), if_pos (by omega), if_pos b85]; exact ⟨rfl, rfl⟩) | (unfold rFil; rw [if_neg (by omega), if_pos (by omega), if_neg b85]; exact ⟨rfl, rfl⟩)
          · have b85 : nI (gN g 4) < gf g fn 3 := b01_ne c85
            refine s_iconstv (v := nI 1) (zdk hX9_file 27 rfl) zc_iconst_1 ?_
            refine s_goto 93 (zdk hX9_file 28 rfl) (by decide) ?_
            refine s_ireturn (zdk hX9_file 30 rfl) rfl rfl ?_
            first | (unfold rFil; rw [if_neg (by omega), if_pos (by omega), if_pos b85]; exact ⟨rfl, rfl⟩) | (unfold rFil; rw [if_neg (by omega), if_pos (by omega), if_neg b85]; exact ⟨rfl, rfl⟩)
        · refine s_tableIn 94 (zdk hX9_file 22 rfl) (by decide) (by decide) rfl (by decide) ?_
          refine s_aload_n (zdk hX9_file 31 rfl) rfl ?_
          refine s_iload_n (zdk hX9_file 32 rfl) rfl ?_
          refine s_iconstv (v := nI 4) (zdk hX9_file 33 rfl) zc_iconst_4 ?_
          refine s_callV0 (ci := 9) [.int (nI fn), .int (nI 4)] (zdk hX9_file 34 rfl) cw_X9_211 (hm.1) (by decide) rfl rfl rfl (Nat.le_of_ble_eq_true rfl) (by decide) (c_X9_of hl (M := (zsI M 941 6 (nI 0))) (g := g) hm (f := fn) (k := 4) (by omega)) ?_
          refine s_ireturn (zdk hX9_file 35 rfl) rfl rfl ?_
          first | (unfold rFil; rw [if_pos (by omega)]; exact ⟨rfl, rfl⟩) | (unfold rFil; rw [if_neg (by omega), if_pos (by omega)]; exact ⟨rfl, rfl⟩) | (unfold rFil; rw [if_neg (by omega), if_neg (by omega), if_pos (by omega)]; exact ⟨rfl, rfl⟩) | (unfold rFil; rw [if_neg (by omega), if_neg (by omega), if_neg (by omega), if_pos (by omega)]; exact ⟨rfl, rfl⟩) | (unfold rFil; rw [if_neg (by omega), if_neg (by omega), if_neg (by omega), if_neg (by omega), if_pos (by omega)]; exact ⟨rfl, rfl⟩) | (unfold rFil; rw [if_neg (by omega), if_neg (by omega), if_neg (by omega), if_neg (by omega), if_neg (by omega), if_pos (by omega)]; exact ⟨rfl, rfl⟩) | (unfold rFil; rw [if_neg (by omega), if_neg (by omega), if_neg (by omega), if_neg (by omega), if_neg (by omega), if_neg (by omega)]; exact ⟨rfl, rfl⟩)
        · refine s_tableIn 101 (zdk hX9_file 22 rfl) (by decide) (by decide) rfl (by decide) ?_
          refine s_aload_n (zdk hX9_file 36 rfl) rfl ?_
          refine s_iload_n (zdk hX9_file 37 rfl) rfl ?_
          refine s_iconstv (v := nI 5) (zdk hX9_file 38 rfl) zc_iconst_5 ?_
          refine s_callV0 (ci := 9) [.int (nI fn), .int (nI 5)] (zdk hX9_file 39 rfl) cw_X9_211 (hm.1) (by decide) rfl rfl rfl (Nat.le_of_ble_eq_true rfl) (by decide) (c_X9_of hl (M := (zsI M 941 6 (nI 0))) (g := g) hm (f := fn) (k := 5) (by omega)) ?_
          refine s_ireturn (zdk hX9_file 40 rfl) rfl rfl ?_
          first | (unfold rFil; rw [if_pos (by omega)]; exact ⟨rfl, rfl⟩) | (unfold rFil; rw [if_neg (by omega), if_pos (by omega)]; exact ⟨rfl, rfl⟩) | (unfold rFil; rw [if_neg (by omega), if_neg (by omega), if_pos (by omega)]; exact ⟨rfl, rfl⟩) | (unfold rFil; rw [if_neg (by omega), if_neg (by omega), if_neg (by omega), if_pos (by omega)]; exact ⟨rfl, rfl⟩) | (unfold rFil; rw [if_neg (by omega), if_neg (by omega), if_neg (by omega), if_neg (by omega), if_pos (by omega)]; exact ⟨rfl, rfl⟩) | (unfold rFil; rw [if_neg (by omega), if_neg (by omega), if_neg (by omega), if_neg (by omega), if_neg (by omega), if_pos (by omega)]; exact ⟨rfl, rfl⟩) | (unfold rFil; rw [if_neg (by omega), if_neg (by omega), if_neg (by omega), if_neg (by omega), if_neg (by omega), if_neg (by omega)]; exact ⟨rfl, rfl⟩)
        · refine s_tableIn 108 (zdk hX9_file 22 rfl) (by decide) (by decide) rfl (by decide) ?_
          refine s_aload_n (zdk hX9_file 41 rfl) rfl ?_
          refine s_iload_n (zdk hX9_file 42 rfl) rfl ?_
          refine s_callV0 (ci := 9) [.int (nI fn)] (zdk hX9_file 43 rfl) cw_X9_220 (hm.1) (by decide) rfl rfl rfl (Nat.le_of_ble_eq_true rfl) (by decide) (c_X9_knownOf hl (M := (zsI M 941 6 (nI 0))) (g := g) hm hb (f := fn) (by omega)) ?_
          refine s_ireturn (zdk hX9_file 44 rfl) rfl rfl ?_
          first | (unfold rFil; rw [if_pos (by omega)]; exact ⟨rfl, rfl⟩) | (unfold rFil; rw [if_neg (by omega), if_pos (by omega)]; exact ⟨rfl, rfl⟩) | (unfold rFil; rw [if_neg (by omega), if_neg (by omega), if_pos (by omega)]; exact ⟨rfl, rfl⟩) | (unfold rFil; rw [if_neg (by omega), if_neg (by omega), if_neg (by omega), if_pos (by omega)]; exact ⟨rfl, rfl⟩) | (unfold rFil; rw [if_neg (by omega), if_neg (by omega), if_neg (by omega), if_neg (by omega), if_pos (by omega)]; exact ⟨rfl, rfl⟩) | (unfold rFil; rw [if_neg (by omega), if_neg (by omega), if_neg (by omega), if_neg (by omega), if_neg (by omega), if_pos (by omega)]; exact ⟨rfl, rfl⟩) | (unfold rFil; rw [if_neg (by omega), if_neg (by omega), if_neg (by omega), if_neg (by omega), if_neg (by omega), if_neg (by omega)]; exact ⟨rfl, rfl⟩)
        · refine s_tableIn 114 (zdk hX9_file 22 rfl) (by decide) (by decide) rfl (by decide) ?_
          refine s_aload_n (zdk hX9_file 45 rfl) rfl ?_
          refine s_iload_n (zdk hX9_file 46 rfl) rfl ?_
          refine s_iconstv (v := nI 1) (zdk hX9_file 47 rfl) zc_iconst_1 ?_
          refine s_callV0 (ci := 9) [.int (nI fn), .int (nI 1)] (zdk hX9_file 48 rfl) cw_X9_257 (hm.1) (by decide) rfl rfl rfl (Nat.le_of_ble_eq_true rfl) (by decide) (c_X9_seasonsOf1 hl (M := (zsI M 941 6 (nI 0))) (g := g) hm hb (f := fn) (by omega)) ?_
          refine s_ireturn (zdk hX9_file 49 rfl) rfl rfl ?_
          first | (unfold rFil; rw [if_pos (by omega)]; exact ⟨rfl, rfl⟩) | (unfold rFil; rw [if_neg (by omega), if_pos (by omega)]; exact ⟨rfl, rfl⟩) | (unfold rFil; rw [if_neg (by omega), if_neg (by omega), if_pos (by omega)]; exact ⟨rfl, rfl⟩) | (unfold rFil; rw [if_neg (by omega), if_neg (by omega), if_neg (by omega), if_pos (by omega)]; exact ⟨rfl, rfl⟩) | (unfold rFil; rw [if_neg (by omega), if_neg (by omega), if_neg (by omega), if_neg (by omega), if_pos (by omega)]; exact ⟨rfl, rfl⟩) | (unfold rFil; rw [if_neg (by omega), if_neg (by omega), if_neg (by omega), if_neg (by omega), if_neg (by omega), if_pos (by omega)]; exact ⟨rfl, rfl⟩) | (unfold rFil; rw [if_neg (by omega), if_neg (by omega), if_neg (by omega), if_neg (by omega), if_neg (by omega), if_neg (by omega)]; exact ⟨rfl, rfl⟩)
        · refine s_tableIn 121 (zdk hX9_file 22 rfl) (by decide) (by decide) rfl (by decide) ?_
          refine s_aload_n (zdk hX9_file 50 rfl) rfl ?_
          refine s_iload_n (zdk hX9_file 51 rfl) rfl ?_
          refine s_iconstv (v := nI 0) (zdk hX9_file 52 rfl) zc_iconst_0 ?_
          refine s_callV0 (ci := 9) [.int (nI fn), .int (nI 0)] (zdk hX9_file 53 rfl) cw_X9_257 (hm.1) (by decide) rfl rfl rfl (Nat.le_of_ble_eq_true rfl) (by decide) (c_X9_seasonsOf0 hl (M := (zsI M 941 6 (nI 0))) (g := g) hm hb (f := fn) (by omega)) ?_
          refine s_ireturn (zdk hX9_file 54 rfl) rfl rfl ?_
          first | (unfold rFil; rw [if_pos (by omega)]; exact ⟨rfl, rfl⟩) | (unfold rFil; rw [if_neg (by omega), if_pos (by omega)]; exact ⟨rfl, rfl⟩) | (unfold rFil; rw [if_neg (by omega), if_neg (by omega), if_pos (by omega)]; exact ⟨rfl, rfl⟩) | (unfold rFil; rw [if_neg (by omega), if_neg (by omega), if_neg (by omega), if_pos (by omega)]; exact ⟨rfl, rfl⟩) | (unfold rFil; rw [if_neg (by omega), if_neg (by omega), if_neg (by omega), if_neg (by omega), if_pos (by omega)]; exact ⟨rfl, rfl⟩) | (unfold rFil; rw [if_neg (by omega), if_neg (by omega), if_neg (by omega), if_neg (by omega), if_neg (by omega), if_pos (by omega)]; exact ⟨rfl, rfl⟩) | (unfold rFil; rw [if_neg (by omega), if_neg (by omega), if_neg (by omega), if_neg (by omega), if_neg (by omega), if_neg (by omega)]; exact ⟨rfl, rfl⟩)
      · exact absurd (by decide) c35
  · have b6 : ¬ (inN (f) (gN g 3)) := b01_eq c6
    refine s_iconstv (v := nI 1) (zdk hX9_file 5 rfl) zc_iconst_1 ?_
    refine s_goto 28 (zdk hX9_file 6 rfl) (by decide) ?_
    refine s_putI (zdk hX9_file 15 rfl) fw_X9_69 rfl pw_9_6 (hm.1) ?_
    refine s_mem (M' := (zsL (zsI M 941 6 (nI 1)) 942 g)) rfl ?_
    refine s_aload_n (zdk hX9_file 16 rfl) rfl ?_
    refine s_getI (zdk hX9_file 17 rfl) fw_X9_69 rfl (hm.1) ?_
    refine s_topi (b := nI 1) ((congrFun (zI_Ie (M := M) (a := 941) (k := 6) (v := (nI 1))) 6).trans zw1_e) ?_
    refine s_if_le 40 (zdk hX9_file 18 rfl) (by decide) (fun c35 => ?_) (fun c35 => ?_)
    · exact absurd c35 (by decide)
    · refine s_iconstv (v := nI 0) (zdk hX9_file 19 rfl) zc_iconst_0 ?_
      refine s_ireturn (zdk hX9_file 20 rfl) rfl rfl ?_
      first | (rw [t2_2 b6 b20, v2_2 b6 b20]; exact ⟨rfl, rfl⟩) | (rw [t2_1 b6, v2_1 b6]; exact ⟨rfl, rfl⟩)
theorem c_X9_forecast (hl : l.stackTraces = false) {M : zMem} (hm : mSh M) {g : Nat → Int64} (hb : gBd g) (f w : Int32) : zCm l G mX9_forecast 4 100 0 0 [.ref 941, .int (f), .int (w)] (zsL M 942 g) (zD (some (.int (v2 (inN f (gN g 3)) (inN w 25) (zfR g (f).toNatClampNeg (w).toNatClampNeg) (nI 0)))) (zsL (zsI M 941 6 (nI (t2 (inN f (gN g 3)) (inN w 25) 1 2))) 942 g)) := by
  refine zCd.of (ls0 := [some (.ref 941), some (.int (f)), some (.int (w))]) (by decide +kernel) rfl hl rfl (Nat.le_of_ble_eq_true rfl) rfl ?_
  have hn2 := hb.2.2.1.2
  have ht4 := hb.2.1.2
  have hcy := hb.1.2.2
  have hpe := hb.2.2.2.1.2
  refine s_aload_n (zdk hX9_forecast 0 rfl) rfl ?_
  refine s_aload_n (zdk hX9_forecast 1 rfl) rfl ?_
  refine s_iload_n (zdk hX9_forecast 2 rfl) rfl ?_
  refine s_callV0 (ci := 9) [.int (f)] (zdk hX9_forecast 3 rfl) cw_X9_254 (hm.1) (by decide) rfl rfl rfl (Nat.le_of_ble_eq_true rfl) (by decide) (c_X9_isFile hl (M := M) (g := g) hm hb (f)) ?_
  refine s_if_ne 13 (zdk hX9_forecast 4 rfl) (by decide) (fun c6 => ?_) (fun c6 => ?_)
  · have b6 : inN (f) (gN g 3) := b01_ne c6
    refine s_iload_n (zdk hX9_forecast 7 rfl) rfl ?_
    refine s_iconstv (v := nI 0) (zdk hX9_forecast 8 rfl) zc_iconst_0 ?_
    refine s_bipushv (v := nI 24) (zdk hX9_forecast 9 rfl) zc_bipush_24 ?_
    refine s_callS0 [.int (w), .int (nI 0), .int (nI 24)] (zdk hX9_forecast 10 rfl) cw_X9_79 rfl (Nat.le_of_ble_eq_true rfl) (by decide) (c_X9_isIn hl (zsL M 942 g) (w) (nI 0) (nI 24)) ?_
    refine s_topi (b := if inN w 25 then nI 1 else nI 0) (b01 (inN_in rfl (by omega))) ?_
    refine s_if_eq 27 (zdk hX9_forecast 11 rfl) (by decide) (fun c20 => ?_) (fun c20 => ?_)
    · have b20 : ¬ (inN w 25) := b01_eq c20
      refine s_iconstv (v := nI 2) (zdk hX9_forecast 14 rfl) zc_iconst_2 ?_
      refine s_putI (zdk hX9_forecast 15 rfl) fw_X9_69 rfl pw_9_6 (hm.1) ?_
      refine s_mem (M' := (zsL (zsI M 941 6 (nI 2)) 942 g)) rfl ?_
      refine s_aload_n (zdk hX9_forecast 16 rfl) rfl ?_
      refine s_getI (zdk hX9_forecast 17 rfl) fw_X9_69 rfl (hm.1) ?_
      refine s_topi (b := nI 2) ((congrFun (zI_Ie (M := M) (a := 941) (k := 6) (v := (nI 2))) 6).trans zw1_e) ?_
      refine s_if_le 42 (zdk hX9_forecast 18 rfl) (by decide) (fun c35 => ?_) (fun c35 => ?_)
      · exact absurd c35 (by decide)
      · refine s_iconstv (v := nI 0) (zdk hX9_forecast 19 rfl) zc_iconst_0 ?_
        refine s_goto 48 (zdk hX9_forecast 20 rfl) (by decide) ?_
        refine s_ireturn (zdk hX9_forecast 25 rfl) rfl rfl ?_
        first | exact ⟨rfl, rfl⟩ | (rw [t2_2 b6 b20, v2_2 b6 b20]; exact ⟨rfl, rfl⟩) | (rw [t2_1 b6, v2_1 b6]; exact ⟨rfl, rfl⟩)
    · have b20 : inN w 25 := b01_ne c20
      refine s_iconstv (v := nI 0) (zdk hX9_forecast 12 rfl) zc_iconst_0 ?_
      refine s_goto 28 (zdk hX9_forecast 13 rfl) (by decide) ?_
      refine s_putI (zdk hX9_forecast 15 rfl) fw_X9_69 rfl pw_9_6 (hm.1) ?_
      refine s_mem (M' := (zsL (zsI M 941 6 (nI 0)) 942 g)) rfl ?_
      refine s_aload_n (zdk hX9_forecast 16 rfl) rfl ?_
      refine s_getI (zdk hX9_forecast 17 rfl) fw_X9_69 rfl (hm.1) ?_
      refine s_topi (b := nI 0) ((congrFun (zI_Ie (M := M) (a := 941) (k := 6) (v := (nI 0))) 6).trans zw1_e) ?_
      refine s_if_le 42 (zdk hX9_forecast 18 rfl) (by decide) (fun c35 => ?_) (fun c35 => ?_)
      · obtain ⟨fn, rfl, hfn⟩ := inN_nat b6 (by omega)
        obtain ⟨wn, rfl, hwn⟩ := inN_nat b20 (by omega)
        rw [t2_0 b6 b20, v2_0 b6 b20]
        rw [nI_clamp (show fn < 2 ^ 31 by omega), nI_clamp (show wn < 2 ^ 31 by omega)]
        refine s_aload_n (zdk hX9_forecast 21 rfl) rfl ?_
        refine s_iload_n (zdk hX9_forecast 22 rfl) rfl ?_
        refine s_iload_n (zdk hX9_forecast 23 rfl) rfl ?_
        refine s_callV0 (ci := 9) [.int (nI fn), .int (nI wn)] (zdk hX9_forecast 24 rfl) cw_X9_242 (hm.1) (by decide) rfl rfl rfl (Nat.le_of_ble_eq_true rfl) (by decide) (c_X9_forecastOf hl (M := (zsI M 941 6 (nI 0))) (g := g) hm hb (f := fn) (by omega) (a := wn) (by omega)) ?_
        refine s_ireturn (zdk hX9_forecast 25 rfl) rfl rfl ?_
        first | exact ⟨rfl, rfl⟩ | (rw [t2_2 b6 b20, v2_2 b6 b20]; exact ⟨rfl, rfl⟩) | (rw [t2_1 b6, v2_1 b6]; exact ⟨rfl, rfl⟩)
      · exact absurd (by decide) c35
  · have b6 : ¬ (inN (f) (gN g 3)) := b01_eq c6
    refine s_iconstv (v := nI 1) (zdk hX9_forecast 5 rfl) zc_iconst_1 ?_
    refine s_goto 28 (zdk hX9_forecast 6 rfl) (by decide) ?_
    refine s_putI (zdk hX9_forecast 15 rfl) fw_X9_69 rfl pw_9_6 (hm.1) ?_
    refine s_mem (M' := (zsL (zsI M 941 6 (nI 1)) 942 g)) rfl ?_
    refine s_aload_n (zdk hX9_forecast 16 rfl) rfl ?_
    refine s_getI (zdk hX9_forecast 17 rfl) fw_X9_69 rfl (hm.1) ?_
    refine s_topi (b := nI 1) ((congrFun (zI_Ie (M := M) (a := 941) (k := 6) (v := (nI 1))) 6).trans zw1_e) ?_
    refine s_if_le 42 (zdk hX9_forecast 18 rfl) (by decide) (fun c35 => ?_) (fun c35 => ?_)
    · exact absurd c35 (by decide)
    · refine s_iconstv (v := nI 0) (zdk hX9_forecast 19 rfl) zc_iconst_0 ?_
      refine s_goto 48 (zdk hX9_forecast 20 rfl) (by decide) ?_
      refine s_ireturn (zdk hX9_forecast 25 rfl) rfl rfl ?_
      first | exact ⟨rfl, rfl⟩ | (rw [t2_2 b6 b20, v2_2 b6 b20]; exact ⟨rfl, rfl⟩) | (rw [t2_1 b6, v2_1 b6]; exact ⟨rfl, rfl⟩)
theorem c_X9_off (hl : l.stackTraces = false) {M : zMem} (hm : mSh M) {g : Nat → Int64} (hb : gBd g) (f : Int32) : zCm l G mX9_off 3 70 0 0 [.ref 941, .int (f)] (zsL M 942 g) (zD (some (.long (v1 (inN f (gN g 3)) (go g (f).toNatClampNeg) (lN 0)))) (zsL (zsI M 941 6 (nI (t1 (inN f (gN g 3)) 1))) 942 g)) := by
  refine zCd.of (ls0 := [some (.ref 941), some (.int (f))]) (by decide +kernel) rfl hl rfl (Nat.le_of_ble_eq_true rfl) rfl ?_
  have hn2 := hb.2.2.1.2
  have ht4 := hb.2.1.2
  have hcy := hb.1.2.2
  have hpe := hb.2.2.2.1.2
  refine s_aload_n (zdk hX9_off 0 rfl) rfl ?_
  refine s_aload_n (zdk hX9_off 1 rfl) rfl ?_
  refine s_iload_n (zdk hX9_off 2 rfl) rfl ?_
  refine s_callV0 (ci := 9) [.int (f)] (zdk hX9_off 3 rfl) cw_X9_254 (hm.1) (by decide) rfl rfl rfl (Nat.le_of_ble_eq_true rfl) (by decide) (c_X9_isFile hl (M := M) (g := g) hm hb (f)) ?_
  refine s_if_eq 13 (zdk hX9_off 4 rfl) (by decide) (fun c6 => ?_) (fun c6 => ?_)
  · have b6 : ¬ (inN (f) (gN g 3)) := b01_eq c6
    refine s_iconstv (v := nI 1) (zdk hX9_off 7 rfl) zc_iconst_1 ?_
    refine s_putI (zdk hX9_off 8 rfl) fw_X9_69 rfl pw_9_6 (hm.1) ?_
    refine s_mem (M' := (zsL (zsI M 941 6 (nI 1)) 942 g)) rfl ?_
    refine s_aload_n (zdk hX9_off 9 rfl) rfl ?_
    refine s_getI (zdk hX9_off 10 rfl) fw_X9_69 rfl (hm.1) ?_
    refine s_topi (b := nI 1) ((congrFun (zI_Ie (M := M) (a := 941) (k := 6) (v := (nI 1))) 6).trans zw1_e) ?_
    refine s_if_le 28 (zdk hX9_off 11 rfl) (by decide) (fun c21 => ?_) (fun c21 => ?_)
    · exact absurd c21 (by decide)
    · refine s_lconstv (v := lN 0) (zdk hX9_off 12 rfl) rfl ?_
      refine s_goto 43 (zdk hX9_off 13 rfl) (by decide) ?_
      refine s_lreturn (zdk hX9_off 24 rfl) rfl  ?_
      first | exact ⟨rfl, rfl⟩ | (rw [t1_1 b6, v1_1 b6]; exact ⟨rfl, rfl⟩)
  · have b6 : inN (f) (gN g 3) := b01_ne c6
    refine s_iconstv (v := nI 0) (zdk hX9_off 5 rfl) zc_iconst_0 ?_
    refine s_goto 14 (zdk hX9_off 6 rfl) (by decide) ?_
    refine s_putI (zdk hX9_off 8 rfl) fw_X9_69 rfl pw_9_6 (hm.1) ?_
    refine s_mem (M' := (zsL (zsI M 941 6 (nI 0)) 942 g)) rfl ?_
    refine s_aload_n (zdk hX9_off 9 rfl) rfl ?_
    refine s_getI (zdk hX9_off 10 rfl) fw_X9_69 rfl (hm.1) ?_
    refine s_topi (b := nI 0) ((congrFun (zI_Ie (M := M) (a := 941) (k := 6) (v := (nI 0))) 6).trans zw1_e) ?_
    refine s_if_le 28 (zdk hX9_off 11 rfl) (by decide) (fun c21 => ?_) (fun c21 => ?_)
    · obtain ⟨fn, rfl, hfn⟩ := inN_nat b6 (by omega)
      rw [t1_0 b6, v1_0 b6]
      rw [nI_clamp (show fn < 2 ^ 31 by omega)]
      refine s_aload_n (zdk hX9_off 14 rfl) rfl ?_
      refine s_getR (zdk hX9_off 15 rfl) fw_X9_7 rfl (hm.1) (show _ = some 942 from (hm.r (i := 0) rfl).1) ?_
      refine s_bipushv (v := nI 58) (zdk hX9_off 16 rfl) zc_bipush_58 ?_
      refine s_bipushv (v := nI 51) (zdk hX9_off 17 rfl) zc_bipush_51 ?_
      refine s_iload_n (zdk hX9_off 18 rfl) rfl ?_
      refine s_imul (zdk hX9_off 19 rfl) ?_
      refine s_topi (b := nI (51 * fn)) (pk_mul _ _) ?_
      refine s_iadd (zdk hX9_off 20 rfl) ?_
      refine s_topi (b := nI (58 + 51 * fn)) (nI_add _ _) ?_
      refine s_bipushv (v := nI 50) (zdk hX9_off 21 rfl) zc_bipush_50 ?_
      refine s_iadd (zdk hX9_off 22 rfl) ?_
      refine s_topi (b := nI (58 + 51 * fn + 50)) (nI_add _ _) ?_
      refine s_laloadN (N := 1390) (j := 58 + 51 * fn + 50) (zdk hX9_off 23 rfl) ((hm.r (i := 0) rfl).2.1) ((hm.r (i := 0) rfl).2.2) (by omega) (by decide) ?_
      refine s_topl (b := g (58 + 51 * fn + 50)) (congrFun zJ_Le _) ?_
      refine s_lreturn (zdk hX9_off 24 rfl) rfl  ?_
      first | exact ⟨rfl, rfl⟩ | (rw [t1_1 b6, v1_1 b6]; exact ⟨rfl, rfl⟩)
    · exact absurd (by decide) c21
def rOwn (g : Nat → Int64) (f : Nat) : Int32 := zoR (gu g f) (gN g (58 + 51 * f + 4)) (zon (gN g (58 + 51 * f + 4)))
theorem c_X9_cycleOf (hl : l.stackTraces = false) {M : zMem} (hm : mSh M) {g : Nat → Int64} (hb : gBd g) (f : Int32) : zCm l G mX9_cycleOf 4 100 0 0 [.ref 941, .int (f)] (zsL M 942 g) (zD (some (.int (v1 (inN f (gN g 3)) (rOwn g (f).toNatClampNeg) (nI 0)))) (zsL (zsI M 941 6 (nI (t1 (inN f (gN g 3)) 1))) 942 g)) := by
  refine zCd.of (ls0 := [some (.ref 941), some (.int (f))]) (by decide +kernel) rfl hl rfl (Nat.le_of_ble_eq_true rfl) rfl ?_
  have hn2 := hb.2.2.1.2
  have ht4 := hb.2.1.2
  have hcy := hb.1.2.2
  have hpe := hb.2.2.2.1.2
  refine s_aload_n (zdk hX9_cycleOf 0 rfl) rfl ?_
  refine s_aload_n (zdk hX9_cycleOf 1 rfl) rfl ?_
  refine s_iload_n (zdk hX9_cycleOf 2 rfl) rfl ?_
  refine s_callV0 (ci := 9) [.int (f)] (zdk hX9_cycleOf 3 rfl) cw_X9_254 (hm.1) (by decide) rfl rfl rfl (Nat.le_of_ble_eq_true rfl) (by decide) (c_X9_isFile hl (M := M) (g := g) hm hb (f)) ?_
  refine s_if_eq 13 (zdk hX9_cycleOf 4 rfl) (by decide) (fun c6 => ?_) (fun c6 => ?_)
  · have b6 : ¬ (inN (f) (gN g 3)) := b01_eq c6
    refine s_iconstv (v := nI 1) (zdk hX9_cycleOf 7 rfl) zc_iconst_1 ?_
    refine s_putI (zdk hX9_cycleOf 8 rfl) fw_X9_69 rfl pw_9_6 (hm.1) ?_
    refine s_mem (M' := (zsL (zsI M 941 6 (nI 1)) 942 g)) rfl ?_
    refine s_aload_n (zdk hX9_cycleOf 9 rfl) rfl ?_
    refine s_getI (zdk hX9_cycleOf 10 rfl) fw_X9_69 rfl (hm.1) ?_
    refine s_topi (b := nI 1) ((congrFun (zI_Ie (M := M) (a := 941) (k := 6) (v := (nI 1))) 6).trans zw1_e) ?_
    refine s_if_le 28 (zdk hX9_cycleOf 11 rfl) (by decide) (fun c21 => ?_) (fun c21 => ?_)
    · exact absurd c21 (by decide)
    · refine s_iconstv (v := nI 0) (zdk hX9_cycleOf 12 rfl) zc_iconst_0 ?_
      refine s_goto 33 (zdk hX9_cycleOf 13 rfl) (by decide) ?_
      refine s_ireturn (zdk hX9_cycleOf 17 rfl) rfl rfl ?_
      first | exact ⟨rfl, rfl⟩ | (rw [t1_1 b6, v1_1 b6]; exact ⟨rfl, rfl⟩)
  · have b6 : inN (f) (gN g 3) := b01_ne c6
    refine s_iconstv (v := nI 0) (zdk hX9_cycleOf 5 rfl) zc_iconst_0 ?_
    refine s_goto 14 (zdk hX9_cycleOf 6 rfl) (by decide) ?_
    refine s_putI (zdk hX9_cycleOf 8 rfl) fw_X9_69 rfl pw_9_6 (hm.1) ?_
    refine s_mem (M' := (zsL (zsI M 941 6 (nI 0)) 942 g)) rfl ?_
    refine s_aload_n (zdk hX9_cycleOf 9 rfl) rfl ?_
    refine s_getI (zdk hX9_cycleOf 10 rfl) fw_X9_69 rfl (hm.1) ?_
    refine s_topi (b := nI 0) ((congrFun (zI_Ie (M := M) (a := 941) (k := 6) (v := (nI 0))) 6).trans zw1_e) ?_
    refine s_if_le 28 (zdk hX9_cycleOf 11 rfl) (by decide) (fun c21 => ?_) (fun c21 => ?_)
    · obtain ⟨fn, rfl, hfn⟩ := inN_nat b6 (by omega)
      rw [t1_0 b6, v1_0 b6]
      rw [nI_clamp (show fn < 2 ^ 31 by omega)]
      refine s_aload_n (zdk hX9_cycleOf 14 rfl) rfl ?_
      refine s_iload_n (zdk hX9_cycleOf 15 rfl) rfl ?_
      refine s_callV0 (ci := 9) [.int (nI fn)] (zdk hX9_cycleOf 16 rfl) cw_X9_261 (hm.1) (by decide) rfl rfl rfl (Nat.le_of_ble_eq_true rfl) (by decide) (c_X9_ownCycle hl (M := (zsI M 941 6 (nI 0))) (g := g) hm hb (f := fn) (by omega) (hb.ke hfn) (hb.keL hfn)) ?_
      refine s_ireturn (zdk hX9_cycleOf 17 rfl) rfl rfl ?_
      first | exact ⟨rfl, rfl⟩ | (rw [t1_1 b6, v1_1 b6]; exact ⟨rfl, rfl⟩)
    · exact absurd (by decide) c21
theorem c_X9_kept (hl : l.stackTraces = false) {M : zMem} (hm : mSh M) {g : Nat → Int64} (hb : gBd g) (f w : Int32) : zCm l G mX9_kept 4 100 0 0 [.ref 941, .int (f), .int (w)] (zsL M 942 g) (zD (some (.int (v2 (inN f (gN g 3)) (inN w (gN g (58 + 51 * (f).toNatClampNeg + 4))) (gu g (f).toNatClampNeg (w).toNatClampNeg) (nI 0)))) (zsL (zsI M 941 6 (nI (t2 (inN f (gN g 3)) (inN w (gN g (58 + 51 * (f).toNatClampNeg + 4))) 1 1))) 942 g)) := by
  refine zCd.of (ls0 := [some (.ref 941), some (.int (f)), some (.int (w))]) (by decide +kernel) rfl hl rfl (Nat.le_of_ble_eq_true rfl) rfl ?_
  have hn2 := hb.2.2.1.2
  have ht4 := hb.2.1.2
  have hcy := hb.1.2.2
  have hpe := hb.2.2.2.1.2
  refine s_aload_n (zdk hX9_kept 0 rfl) rfl ?_
  refine s_aload_n (zdk hX9_kept 1 rfl) rfl ?_
  refine s_iload_n (zdk hX9_kept 2 rfl) rfl ?_
  refine s_callV0 (ci := 9) [.int (f)] (zdk hX9_kept 3 rfl) cw_X9_254 (hm.1) (by decide) rfl rfl rfl (Nat.le_of_ble_eq_true rfl) (by decide) (c_X9_isFile hl (M := M) (g := g) hm hb (f)) ?_
  refine s_if_eq 29 (zdk hX9_kept 4 rfl) (by decide) (fun c6 => ?_) (fun c6 => ?_)
  · have b6 : ¬ (inN (f) (gN g 3)) := b01_eq c6
    refine s_iconstv (v := nI 1) (zdk hX9_kept 17 rfl) zc_iconst_1 ?_
    refine s_putI (zdk hX9_kept 18 rfl) fw_X9_69 rfl pw_9_6 (hm.1) ?_
    refine s_mem (M' := (zsL (zsI M 941 6 (nI 1)) 942 g)) rfl ?_
    refine s_aload_n (zdk hX9_kept 19 rfl) rfl ?_
    refine s_getI (zdk hX9_kept 20 rfl) fw_X9_69 rfl (hm.1) ?_
    refine s_topi (b := nI 1) ((congrFun (zI_Ie (M := M) (a := 941) (k := 6) (v := (nI 1))) 6).trans zw1_e) ?_
    refine s_if_le 44 (zdk hX9_kept 21 rfl) (by decide) (fun c37 => ?_) (fun c37 => ?_)
    · exact absurd c37 (by decide)
    · refine s_iconstv (v := nI 0) (zdk hX9_kept 22 rfl) zc_iconst_0 ?_
      refine s_goto 53 (zdk hX9_kept 23 rfl) (by decide) ?_
      refine s_ireturn (zdk hX9_kept 30 rfl) rfl rfl ?_
      first | exact ⟨rfl, rfl⟩ | (rw [t2_2 b6 b22, v2_2 b6 b22]; exact ⟨rfl, rfl⟩) | (rw [t2_1 b6, v2_1 b6]; exact ⟨rfl, rfl⟩)
  · have b6 : inN (f) (gN g 3) := b01_ne c6
    obtain ⟨fn, rfl, hfn⟩ := inN_nat b6 (by omega)
    rw [nI_clamp (show fn < 2 ^ 31 by omega)]
    have hke := hb.keL hfn
    refine s_iload_n (zdk hX9_kept 5 rfl) rfl ?_
    refine s_iconstv (v := nI 0) (zdk hX9_kept 6 rfl) zc_iconst_0 ?_
    refine s_aload_n (zdk hX9_kept 7 rfl) rfl ?_
    refine s_iload_n (zdk hX9_kept 8 rfl) rfl ?_
    refine s_iconstv (v := nI 4) (zdk hX9_kept 9 rfl) zc_iconst_4 ?_
    refine s_callV0 (ci := 9) [.int (nI fn), .int (nI 4)] (zdk hX9_kept 10 rfl) cw_X9_211 (hm.1) (by decide) rfl rfl rfl (Nat.le_of_ble_eq_true rfl) (by decide) (c_X9_of hl (M := M) (g := g) hm (f := fn) (k := 4) (by omega)) ?_
    refine s_topi (b := nI (gN g (58 + 51 * fn + 4))) (hb.ke hfn) ?_
    refine s_iconstv (v := nI 1) (zdk hX9_kept 11 rfl) zc_iconst_1 ?_
    refine s_isub (zdk hX9_kept 12 rfl) ?_
    refine s_callS0 [.int (w), .int (nI 0), .int ((nI (gN g (58 + 51 * fn + 4))) - (nI 1))] (zdk hX9_kept 13 rfl) cw_X9_79 rfl (Nat.le_of_ble_eq_true rfl) (by decide) (c_X9_isIn hl (zsL M 942 g) (w) (nI 0) ((nI (gN g (58 + 51 * fn + 4))) - (nI 1))) ?_
    refine s_topi (b := if inN w (gN g (58 + 51 * fn + 4)) then nI 1 else nI 0) (b01 (inN_le (by omega))) ?_
    refine s_if_eq 29 (zdk hX9_kept 14 rfl) (by decide) (fun c22 => ?_) (fun c22 => ?_)
    · have b22 : ¬ (inN w (gN g (58 + 51 * fn + 4))) := b01_eq c22
      refine s_iconstv (v := nI 1) (zdk hX9_kept 17 rfl) zc_iconst_1 ?_
      refine s_putI (zdk hX9_kept 18 rfl) fw_X9_69 rfl pw_9_6 (hm.1) ?_
      refine s_mem (M' := (zsL (zsI M 941 6 (nI 1)) 942 g)) rfl ?_
      refine s_aload_n (zdk hX9_kept 19 rfl) rfl ?_
      refine s_getI (zdk hX9_kept 20 rfl) fw_X9_69 rfl (hm.1) ?_
      refine s_topi (b := nI 1) ((congrFun (zI_Ie (M := M) (a := 941) (k := 6) (v := (nI 1))) 6).trans zw1_e) ?_
      refine s_if_le 44 (zdk hX9_kept 21 rfl) (by decide) (fun c37 => ?_) (fun c37 => ?_)
      · exact absurd c37 (by decide)
      · refine s_iconstv (v := nI 0) (zdk hX9_kept 22 rfl) zc_iconst_0 ?_
        refine s_goto 53 (zdk hX9_kept 23 rfl) (by decide) ?_
        refine s_ireturn (zdk hX9_kept 30 rfl) rfl rfl ?_
        first | exact ⟨rfl, rfl⟩ | (rw [t2_2 b6 b22, v2_2 b6 b22]; exact ⟨rfl, rfl⟩) | (rw [t2_1 b6, v2_1 b6]; exact ⟨rfl, rfl⟩)
    · have b22 : inN w (gN g (58 + 51 * fn + 4)) := b01_ne c22
      refine s_iconstv (v := nI 0) (zdk hX9_kept 15 rfl) zc_iconst_0 ?_
      refine s_goto 30 (zdk hX9_kept 16 rfl) (by decide) ?_
      refine s_putI (zdk hX9_kept 18 rfl) fw_X9_69 rfl pw_9_6 (hm.1) ?_
      refine s_mem (M' := (zsL (zsI M 941 6 (nI 0)) 942 g)) rfl ?_
      refine s_aload_n (zdk hX9_kept 19 rfl) rfl ?_
      refine s_getI (zdk hX9_kept 20 rfl) fw_X9_69 rfl (hm.1) ?_
      refine s_topi (b := nI 0) ((congrFun (zI_Ie (M := M) (a := 941) (k := 6) (v := (nI 0))) 6).trans zw1_e) ?_
      refine s_if_le 44 (zdk hX9_kept 21 rfl) (by decide) (fun c37 => ?_) (fun c37 => ?_)
      · obtain ⟨wn, rfl, hwn⟩ := inN_nat b22 (by omega)
        rw [t2_0 b6 b22, v2_0 b6 b22]
        rw [nI_clamp (show wn < 2 ^ 31 by omega)]
        refine s_aload_n (zdk hX9_kept 24 rfl) rfl ?_
        refine s_iload_n (zdk hX9_kept 25 rfl) rfl ?_
        refine s_bipushv (v := nI 26) (zdk hX9_kept 26 rfl) zc_bipush_26 ?_
        refine s_iload_n (zdk hX9_kept 27 rfl) rfl ?_
        refine s_iadd (zdk hX9_kept 28 rfl) ?_
        refine s_topi (b := nI (26 + wn)) (nI_add _ _) ?_
        refine s_callV0 (ci := 9) [.int (nI fn), .int (nI (26 + wn))] (zdk hX9_kept 29 rfl) cw_X9_211 (hm.1) (by decide) rfl rfl rfl (Nat.le_of_ble_eq_true rfl) (by decide) (c_X9_ofU hl (M := (zsI M 941 6 (nI 0))) (g := g) hm (f := fn) (j := wn) (by omega)) ?_
        refine s_ireturn (zdk hX9_kept 30 rfl) rfl rfl ?_
        first | exact ⟨rfl, rfl⟩ | (rw [t2_2 b6 b22, v2_2 b6 b22]; exact ⟨rfl, rfl⟩) | (rw [t2_1 b6, v2_1 b6]; exact ⟨rfl, rfl⟩)
      · exact absurd (by decide) c37
end
