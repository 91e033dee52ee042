theorem zc_bipush_32 : (Int8.ofInt 32).toInt32 = nI 32 := by decide
theorem zc_bipush_44 : (Int8.ofInt 44).toInt32 = nI 44 := by decide
theorem zc_bipush_58 : (Int8.ofInt 58).toInt32 = nI 58 := by decide
/-! ===== the writer: a store ===== -/
def zpf (g : Nat → Int64) (x : Int32) (w : zWr) : Nat → Int32 × zWr
  | 0 => (nI 1, w)
  | f + 1 => if gf g f 1 = x then (nI 0, zwn (zpk g (58 + 51 * f + 6) 8) (if (zpf g x w f).1 = 0 then wPut (zpf g x w f).2 (nI 44) else (zpf g x w f).2)) else zpf g x w f
theorem zpf_le {g : Nat → Int64} {x : Int32} {w : zWr} (h : w.1 ≤ 256) : ∀ n, (zpf g x w n).2.1 ≤ 256
  | 0 => h
  | n + 1 => by
    have := zpf_le (g := g) (x := x) h n
    unfold zpf
    split
    · refine zwn_le ?_
      split
      · exact wPut_le this
      · exact this
    · exact this
def zwt (g : Nat → Int64) (u : Nat → Int32) : Nat → zWr
  | 0 => (0, u)
  | t + 1 => (zpf g (nI t) (wPut (zwn (zpk g (6 + 13 * t + 5) 8) (if nI t ≤ 0 then zwt g u t else wPut (zwt g u t) (nI 32))) (nI 58)) (gN g 3)).2
theorem zwt_le {g : Nat → Int64} {u : Nat → Int32} : ∀ n, (zwt g u n).1 ≤ 256
  | 0 => Nat.zero_le _
  | n + 1 => by
    have := zwt_le (g := g) (u := u) n
    unfold zwt
    refine zpf_le (wPut_le (zwn_le ?_)) _
    split
    · exact this
    · exact wPut_le this
section
variable {l : Launch} {G : zG}
theorem w_X7_putFilesOn_5 (hl : l.stackTraces = false) {M : zMem} {a s : Nat} {g : Nat → Int64} {p : Nat → Nat} (ha : wSh M a) (h : rSt M s g p) (hd : a + 2 ≤ s ∨ s + 77 ≤ a) (x : Int32) {w : zWr} (hw : w.1 ≤ 256) : ∀ (k : Nat) (i : Nat), i ≤ gN g 3 → gN g 3 - i < k → zS l G mX7_putFilesOn 2 50 0 0 5 [some (.ref a), some (.ref s), some (.int (x)), some (.int ((zpf g x w i).1)), some (.int (nI i))] [] (zMw M a (zpf g x w i).2) (zD none (zMw M a (zpf g x w (gN g 3)).2)) := by
  intro k
  induction k with
  | zero => intros; omega
  | succ k ih =>
    intro i hi hk
    have hF := h.b.2.2.1.2
    have h2 : ∀ v, rSt (zMw M a v) s g p := fun v => h.keep (zag_Mw.mono fun b hb => by omega)
    refine s_iload (zdk hX7_putFilesOn 4 rfl) rfl ?_
    refine s_aload_n (zdk hX7_putFilesOn 5 rfl) rfl ?_
    refine s_getI (zdk hX7_putFilesOn 6 rfl) fw_X7_46 rfl ((h2 _).K) ?_
    refine s_topi (b := nI (gN g 3)) ((h2 _).v4) ?_
    refine s_icmp_ge 60 (zdk hX7_putFilesOn 7 rfl) (by decide) (fun c11 => ?_) (fun c11 => ?_)
    · obtain rfl : i = (gN g 3) := by have := nle c11 (by omega) (by omega); omega
      refine s_return (zdk hX7_putFilesOn 31 rfl) rfl ?_
      exact ⟨rfl, rfl⟩
    · have hi2 : i < (gN g 3) := nlt c11 (by omega) (by omega)
      refine s_aload_n (zdk hX7_putFilesOn 8 rfl) rfl ?_
      refine s_getR (zdk hX7_putFilesOn 9 rfl) fw_X7_49 rfl ((h2 _).K) ((h2 _).r6) ?_
      refine s_iload (zdk hX7_putFilesOn 10 rfl) rfl ?_
      refine s_aaloadN (N := 20) (j := i) (zdk hX7_putFilesOn 11 rfl) ((h2 _).fK) (by decide) ((h2 _).fN) (h.fL hi2) (by decide) ((h2 _).rR hi2) ?_
      refine s_getI (zdk hX7_putFilesOn 12 rfl) fw_X7_53 rfl (((h2 _).rS hi2).1) ?_
      refine s_topi (b := gf g i 1) ((h2 _).f2 hi2) ?_
      refine s_iload_n (zdk hX7_putFilesOn 13 rfl) rfl ?_
      refine s_icmp_ne 54 (zdk hX7_putFilesOn 14 rfl) (by decide) (fun c25 => ?_) (fun c25 => ?_)
      · have e1 : (zpf g x w (i + 1)) = (zpf g x w i) := if_neg c25
        refine s_mem (M' := (zMw M a (zpf g x w (i + 1)).2)) (by rw [e1]) ?_
        refine s_ls (ls' := [some (.ref a), some (.ref s), some (.int (x)), some (.int ((zpf g x w (i + 1)).1)), some (.int (nI i))]) (by rw [e1]) ?_
        refine s_iinc (r := nI (i + 1)) (zdk hX7_putFilesOn 29 rfl) (Nat.le_of_ble_eq_true rfl) rfl (nI_1 i) ?_
        refine s_ls (ls' := [some (.ref a), some (.ref s), some (.int (x)), some (.int ((zpf g x w (i + 1)).1)), some (.int (nI (i + 1)))]) rfl ?_
        refine s_goto 5 (zdk hX7_putFilesOn 30 rfl) (by decide) ?_
        exact ih (i + 1) (by omega) (by omega)
      · have hl6 := zpf_le (g := g) (x := x) hw i
        refine s_iload_n (zdk hX7_putFilesOn 15 rfl) rfl ?_
        refine s_if_ne 38 (zdk hX7_putFilesOn 16 rfl) (by decide) (fun c29 => ?_) (fun c29 => ?_)
        · have e1 : (zpf g x w (i + 1)) = (nI 0, zwn (zpk g (58 + 51 * i + 6) 8) (zpf g x w i).2) := by
            show (if gf g i 1 = x then _ else _) = _
            rw [if_pos c25, if_neg c29]
          have hl7 := hl6
          refine s_aload_n (zdk hX7_putFilesOn 20 rfl) rfl ?_
          refine s_aload_n (zdk hX7_putFilesOn 21 rfl) rfl ?_
          refine s_getR (zdk hX7_putFilesOn 22 rfl) fw_X7_49 rfl ((h2 _).K) ((h2 _).r6) ?_
          refine s_iload (zdk hX7_putFilesOn 23 rfl) rfl ?_
          refine s_aaloadN (N := 20) (j := i) (zdk hX7_putFilesOn 24 rfl) ((h2 _).fK) (by decide) ((h2 _).fN) (h.fL hi2) (by decide) ((h2 _).rR hi2) ?_
          refine s_getJ (zdk hX7_putFilesOn 25 rfl) fw_X7_58 rfl (((h2 _).rS hi2).1) ?_
          refine s_topl (b := zpk g (58 + 51 * i + 6) 8) ((h2 _).f0 hi2) ?_
          refine s_callV0 (ci := 7) [.long (zpk g (58 + 51 * i + 6) 8)] (zdk hX7_putFilesOn 26 rfl) cw_X7_38 (ha.1) (by decide) rfl rfl rfl (Nat.le_of_ble_eq_true rfl) (by decide) (c_X7_putName hl ha hl7 _) ?_
          refine s_iconstv (v := nI 0) (zdk hX7_putFilesOn 27 rfl) zc_iconst_0 ?_
          refine s_istore_n (zdk hX7_putFilesOn 28 rfl) (Nat.le_of_ble_eq_true rfl) ?_
          refine s_ls (ls' := [some (.ref a), some (.ref s), some (.int (x)), some (.int (nI 0)), some (.int (nI i))]) rfl ?_
          refine s_mem (M' := (zMw M a (zpf g x w (i + 1)).2)) (by rw [e1]) ?_
          refine s_ls (ls' := [some (.ref a), some (.ref s), some (.int (x)), some (.int ((zpf g x w (i + 1)).1)), some (.int (nI i))]) (by rw [e1]) ?_
          refine s_iinc (r := nI (i + 1)) (zdk hX7_putFilesOn 29 rfl) (Nat.le_of_ble_eq_true rfl) rfl (nI_1 i) ?_
          refine s_ls (ls' := [some (.ref a), some (.ref s), some (.int (x)), some (.int ((zpf g x w (i + 1)).1)), some (.int (nI (i + 1)))]) rfl ?_
          refine s_goto 5 (zdk hX7_putFilesOn 30 rfl) (by decide) ?_
          exact ih (i + 1) (by omega) (by omega)
        · have e1 : (zpf g x w (i + 1)) = (nI 0, zwn (zpk g (58 + 51 * i + 6) 8) (wPut (zpf g x w i).2 (nI 44))) := by
            show (if gf g i 1 = x then _ else _) = _
            rw [if_pos c25, if_pos c29]
          have hl7 : (wPut (zpf g x w i).2 (nI 44)).1 ≤ 256 := wPut_le hl6
          refine s_aload_n (zdk hX7_putFilesOn 17 rfl) rfl ?_
          refine s_bipushv (v := nI 44) (zdk hX7_putFilesOn 18 rfl) zc_bipush_44 ?_
          refine s_callV0 (ci := 7) [.int (nI 44)] (zdk hX7_putFilesOn 19 rfl) cw_X7_24 (ha.1) (by decide) rfl rfl rfl (Nat.le_of_ble_eq_true rfl) (by decide) (c_X7_putByte hl ha hl6 _) ?_
          refine s_aload_n (zdk hX7_putFilesOn 20 rfl) rfl ?_
          refine s_aload_n (zdk hX7_putFilesOn 21 rfl) rfl ?_
          refine s_getR (zdk hX7_putFilesOn 22 rfl) fw_X7_49 rfl ((h2 _).K) ((h2 _).r6) ?_
          refine s_iload (zdk hX7_putFilesOn 23 rfl) rfl ?_
          refine s_aaloadN (N := 20) (j := i) (zdk hX7_putFilesOn 24 rfl) ((h2 _).fK) (by decide) ((h2 _).fN) (h.fL hi2) (by decide) ((h2 _).rR hi2) ?_
          refine s_getJ (zdk hX7_putFilesOn 25 rfl) fw_X7_58 rfl (((h2 _).rS hi2).1) ?_
          refine s_topl (b := zpk g (58 + 51 * i + 6) 8) ((h2 _).f0 hi2) ?_
          refine s_callV0 (ci := 7) [.long (zpk g (58 + 51 * i + 6) 8)] (zdk hX7_putFilesOn 26 rfl) cw_X7_38 (ha.1) (by decide) rfl rfl rfl (Nat.le_of_ble_eq_true rfl) (by decide) (c_X7_putName hl ha hl7 _) ?_
          refine s_iconstv (v := nI 0) (zdk hX7_putFilesOn 27 rfl) zc_iconst_0 ?_
          refine s_istore_n (zdk hX7_putFilesOn 28 rfl) (Nat.le_of_ble_eq_true rfl) ?_
          refine s_ls (ls' := [some (.ref a), some (.ref s), some (.int (x)), some (.int (nI 0)), some (.int (nI i))]) rfl ?_
          refine s_mem (M' := (zMw M a (zpf g x w (i + 1)).2)) (by rw [e1]) ?_
          refine s_ls (ls' := [some (.ref a), some (.ref s), some (.int (x)), some (.int ((zpf g x w (i + 1)).1)), some (.int (nI i))]) (by rw [e1]) ?_
          refine s_iinc (r := nI (i + 1)) (zdk hX7_putFilesOn 29 rfl) (Nat.le_of_ble_eq_true rfl) rfl (nI_1 i) ?_
          refine s_ls (ls' := [some (.ref a), some (.ref s), some (.int (x)), some (.int ((zpf g x w (i + 1)).1)), some (.int (nI (i + 1)))]) rfl ?_
          refine s_goto 5 (zdk hX7_putFilesOn 30 rfl) (by decide) ?_
          exact ih (i + 1) (by omega) (by omega)
theorem c_X7_putFilesOn (hl : l.stackTraces = false) {M : zMem} {a s : Nat} {g : Nat → Int64} {p : Nat → Nat} (ha : wSh M a) (h : rSt M s g p) (hd : a + 2 ≤ s ∨ s + 77 ≤ a) (x : Int32) {w : zWr} (hw : w.1 ≤ 256) : zCm l G mX7_putFilesOn 2 50 0 0 [.ref a, .ref s, .int x] (zMw M a w) (zD none (zMw M a (zpf g x w (gN g 3)).2)) := by
  refine zCd.of (ls0 := [some (.ref a), some (.ref s), some (.int (x)), none, none]) (by decide +kernel) rfl hl rfl (Nat.le_of_ble_eq_true rfl) rfl ?_
  refine s_iconstv (v := nI 1) (zdk hX7_putFilesOn 0 rfl) zc_iconst_1 ?_
  refine s_istore_n (zdk hX7_putFilesOn 1 rfl) (Nat.le_of_ble_eq_true rfl) ?_
  refine s_ls (ls' := [some (.ref a), some (.ref s), some (.int (x)), some (.int (nI 1)), none]) rfl ?_
  refine s_iconstv (v := nI 0) (zdk hX7_putFilesOn 2 rfl) zc_iconst_0 ?_
  refine s_istore (zdk hX7_putFilesOn 3 rfl) (Nat.le_of_ble_eq_true rfl) ?_
  refine s_ls (ls' := [some (.ref a), some (.ref s), some (.int (x)), some (.int (nI 1)), some (.int (nI 0))]) rfl ?_
  exact w_X7_putFilesOn_5 hl ha h hd x hw (gN g 3 + 1) 0 (by omega) (by omega)
theorem w_X7_writeStore_7 (hl : l.stackTraces = false) {M : zMem} {a s : Nat} {g : Nat → Int64} {p : Nat → Nat} (ha : wSh M a) (h : rSt M s g p) (hd : a + 2 ≤ s ∨ s + 77 ≤ a) : ∀ (k : Nat) (i : Nat), i ≤ gN g 2 → gN g 2 - i < k → zS l G mX7_writeStore 3 80 0 0 7 [some (.ref a), some (.ref s), some (.int (nI i))] [] (zMw M a (zwt g (zI M (a + 1)) i)) (zD none (zMw M a (zwt g (zI M (a + 1)) (gN g 2)))) := by
  intro k
  induction k with
  | zero => intros; omega
  | succ k ih =>
    intro i hi hk
    have hF := h.b.2.1.2
    have h2 : ∀ v, rSt (zMw M a v) s g p := fun v => h.keep (zag_Mw.mono fun b hb => by omega)
    refine s_iload_n (zdk hX7_writeStore 5 rfl) rfl ?_
    refine s_aload_n (zdk hX7_writeStore 6 rfl) rfl ?_
    refine s_getI (zdk hX7_writeStore 7 rfl) fw_X7_19 rfl ((h2 _).K) ?_
    refine s_topi (b := nI (gN g 2)) ((h2 _).v3) ?_
    refine s_icmp_ge 56 (zdk hX7_writeStore 8 rfl) (by decide) (fun c12 => ?_) (fun c12 => ?_)
    · obtain rfl : i = (gN g 2) := by have := nle c12 (by omega) (by omega); omega
      refine s_return (zdk hX7_writeStore 30 rfl) rfl ?_
      exact ⟨rfl, rfl⟩
    · have hi2 : i < (gN g 2) := nlt c12 (by omega) (by omega)
      refine s_iload_n (zdk hX7_writeStore 9 rfl) rfl ?_
      refine s_if_le 25 (zdk hX7_writeStore 10 rfl) (by decide) (fun c16 => ?_) (fun c16 => ?_)
      · have ew : (if nI i ≤ 0 then (zwt g (zI M (a + 1)) i) else wPut (zwt g (zI M (a + 1)) i) (nI 32)) = (zwt g (zI M (a + 1)) i) := if_pos c16
        have hl7 := zwt_le (g := g) (u := (zI M (a + 1))) i
        refine s_aload_n (zdk hX7_writeStore 14 rfl) rfl ?_
        refine s_aload_n (zdk hX7_writeStore 15 rfl) rfl ?_
        refine s_getR (zdk hX7_writeStore 16 rfl) fw_X7_28 rfl ((h2 _).K) ((h2 _).r5) ?_
        refine s_iload_n (zdk hX7_writeStore 17 rfl) rfl ?_
        refine s_aaloadN (N := 4) (j := i) (zdk hX7_writeStore 18 rfl) ((h2 _).tK) (by decide) ((h2 _).tN) (h.tL hi2) (by decide) ((h2 _).tR hi2) ?_
        refine s_getJ (zdk hX7_writeStore 19 rfl) fw_X7_32 rfl (((h2 _).tS hi2).1) ?_
        refine s_topl (b := zpk g (6 + 13 * i + 5) 8) ((h2 _).tn hi2) ?_
        refine s_callV0 (ci := 7) [.long (zpk g (6 + 13 * i + 5) 8)] (zdk hX7_writeStore 20 rfl) cw_X7_38 (ha.1) (by decide) rfl rfl rfl (Nat.le_of_ble_eq_true rfl) (by decide) (c_X7_putName hl ha hl7 _) ?_
        refine s_aload_n (zdk hX7_writeStore 21 rfl) rfl ?_
        refine s_bipushv (v := nI 58) (zdk hX7_writeStore 22 rfl) zc_bipush_58 ?_
        refine s_callV0 (ci := 7) [.int (nI 58)] (zdk hX7_writeStore 23 rfl) cw_X7_24 (ha.1) (by decide) rfl rfl rfl (Nat.le_of_ble_eq_true rfl) (by decide) (c_X7_putByte hl ha (zwn_le hl7) _) ?_
        refine s_aload_n (zdk hX7_writeStore 24 rfl) rfl ?_
        refine s_aload_n (zdk hX7_writeStore 25 rfl) rfl ?_
        refine s_iload_n (zdk hX7_writeStore 26 rfl) rfl ?_
        refine s_callV0 (ci := 7) [.ref s, .int (nI i)] (zdk hX7_writeStore 27 rfl) cw_X7_42 (ha.1) (by decide) rfl rfl rfl (Nat.le_of_ble_eq_true rfl) (by decide) (c_X7_putFilesOn hl ha h hd _ (wPut_le (zwn_le hl7))) ?_
        refine s_mem (M' := (zMw M a (zwt g (zI M (a + 1)) (i + 1)))) (by rw [← ew]; rfl) ?_
        refine s_iinc (r := nI (i + 1)) (zdk hX7_writeStore 28 rfl) (Nat.le_of_ble_eq_true rfl) rfl (nI_1 i) ?_
        refine s_ls (ls' := [some (.ref a), some (.ref s), some (.int (nI (i + 1)))]) rfl ?_
        refine s_goto 7 (zdk hX7_writeStore 29 rfl) (by decide) ?_
        exact ih (i + 1) (by omega) (by omega)
      · have ew : (if nI i ≤ 0 then (zwt g (zI M (a + 1)) i) else wPut (zwt g (zI M (a + 1)) i) (nI 32)) = wPut (zwt g (zI M (a + 1)) i) (nI 32) := if_neg c16
        have hl7 := wPut_le (v := nI 32) (zwt_le (g := g) (u := (zI M (a + 1))) i)
        refine s_aload_n (zdk hX7_writeStore 11 rfl) rfl ?_
        refine s_bipushv (v := nI 32) (zdk hX7_writeStore 12 rfl) zc_bipush_32 ?_
        refine s_callV0 (ci := 7) [.int (nI 32)] (zdk hX7_writeStore 13 rfl) cw_X7_24 (ha.1) (by decide) rfl rfl rfl (Nat.le_of_ble_eq_true rfl) (by decide) (c_X7_putByte hl ha (zwt_le i) _) ?_
        refine s_aload_n (zdk hX7_writeStore 14 rfl) rfl ?_
        refine s_aload_n (zdk hX7_writeStore 15 rfl) rfl ?_
        refine s_getR (zdk hX7_writeStore 16 rfl) fw_X7_28 rfl ((h2 _).K) ((h2 _).r5) ?_
        refine s_iload_n (zdk hX7_writeStore 17 rfl) rfl ?_
        refine s_aaloadN (N := 4) (j := i) (zdk hX7_writeStore 18 rfl) ((h2 _).tK) (by decide) ((h2 _).tN) (h.tL hi2) (by decide) ((h2 _).tR hi2) ?_
        refine s_getJ (zdk hX7_writeStore 19 rfl) fw_X7_32 rfl (((h2 _).tS hi2).1) ?_
        refine s_topl (b := zpk g (6 + 13 * i + 5) 8) ((h2 _).tn hi2) ?_
        refine s_callV0 (ci := 7) [.long (zpk g (6 + 13 * i + 5) 8)] (zdk hX7_writeStore 20 rfl) cw_X7_38 (ha.1) (by decide) rfl rfl rfl (Nat.le_of_ble_eq_true rfl) (by decide) (c_X7_putName hl ha hl7 _) ?_
        refine s_aload_n (zdk hX7_writeStore 21 rfl) rfl ?_
        refine s_bipushv (v := nI 58) (zdk hX7_writeStore 22 rfl) zc_bipush_58 ?_
        refine s_callV0 (ci := 7) [.int (nI 58)] (zdk hX7_writeStore 23 rfl) cw_X7_24 (ha.1) (by decide) rfl rfl rfl (Nat.le_of_ble_eq_true rfl) (by decide) (c_X7_putByte hl ha (zwn_le hl7) _) ?_
        refine s_aload_n (zdk hX7_writeStore 24 rfl) rfl ?_
        refine s_aload_n (zdk hX7_writeStore 25 rfl) rfl ?_
        refine s_iload_n (zdk hX7_writeStore 26 rfl) rfl ?_
        refine s_callV0 (ci := 7) [.ref s, .int (nI i)] (zdk hX7_writeStore 27 rfl) cw_X7_42 (ha.1) (by decide) rfl rfl rfl (Nat.le_of_ble_eq_true rfl) (by decide) (c_X7_putFilesOn hl ha h hd _ (wPut_le (zwn_le hl7))) ?_
        refine s_mem (M' := (zMw M a (zwt g (zI M (a + 1)) (i + 1)))) (by rw [← ew]; rfl) ?_
        refine s_iinc (r := nI (i + 1)) (zdk hX7_writeStore 28 rfl) (Nat.le_of_ble_eq_true rfl) rfl (nI_1 i) ?_
        refine s_ls (ls' := [some (.ref a), some (.ref s), some (.int (nI (i + 1)))]) rfl ?_
        refine s_goto 7 (zdk hX7_writeStore 29 rfl) (by decide) ?_
        exact ih (i + 1) (by omega) (by omega)
theorem c_X7_writeStore (hl : l.stackTraces = false) {M : zMem} {a s : Nat} {g : Nat → Int64} {p : Nat → Nat} (ha : wSh M a) (h : rSt M s g p) (hd : a + 2 ≤ s ∨ s + 77 ≤ a) : zCm l G mX7_writeStore 3 80 0 0 [.ref a, .ref s] M (zD none (zMw M a (zwt g (zI M (a + 1)) (gN g 2)))) := by
  refine zCd.of (ls0 := [some (.ref a), some (.ref s), none]) (by decide +kernel) rfl hl rfl (Nat.le_of_ble_eq_true rfl) rfl ?_
  refine s_aload_n (zdk hX7_writeStore 0 rfl) rfl ?_
  refine s_iconstv (v := nI 0) (zdk hX7_writeStore 1 rfl) zc_iconst_0 ?_
  refine s_putI (zdk hX7_writeStore 2 rfl) fw_X7_9 rfl pw_7_0 (ha.1) ?_
  refine s_iconstv (v := nI 0) (zdk hX7_writeStore 3 rfl) zc_iconst_0 ?_
  refine s_istore_n (zdk hX7_writeStore 4 rfl) (Nat.le_of_ble_eq_true rfl) ?_
  refine s_ls (ls' := [some (.ref a), some (.ref s), some (.int (nI 0))]) rfl ?_
  have hq := w_X7_writeStore_7 (l := l) (G := G) hl ha h hd (gN g 2 + 1) 0 (by omega) (by omega)
  rw [show (zMw M a (zwt g (zI M (a + 1)) 0)) = zsI M a 0 (nI 0) from by unfold zMw zwt; rw [show zI M (a + 1) = zI (zsI M a 0 (nI 0)) (a + 1) from (zI_In (by omega)).symm]; exact zsA_id _ _] at hq
  exact hq
end
