/-! ===== the reference reads: words, numbers, what must be ===== -/
theorem rFl_y {r : rRd} {c : Int32} (h : r.2.2.2.2.1 = 0) : rFl r c = (r.1, r.2.1, r.2.2.1, r.2.2.2.1, c, nI r.1) := if_pos h
theorem rFl_n {r : rRd} {c : Int32} (h : ¬ r.2.2.2.2.1 = 0) : rFl r c = r := if_neg h
theorem rFl_w {r : rRd} {c : Int32} (h : r.2.2.2.2.1 = 0) : (rFl r c).2.2.2.2.1 = c := by rw [rFl_y h]
/-- a state of the reader: the token lies in the text -/
def rOk (n : Nat) (r : rRd) : Prop := r.1 ≤ r.2.1 ∧ r.2.1 ≤ n ∧ r.2.2.1 ≤ 3
theorem rFl_ok {n : Nat} {r : rRd} {c : Int32} (h : rOk n r) : rOk n (rFl r c) := by
  unfold rFl
  split
  · exact h
  · exact h
theorem rTk_ok {u : Nat → Int32} {n j : Nat} {q : Int32 × Int32} (hj : j ≤ n) : rOk n (rTk u n j q) := by
  have h3 := zew_in (u := u) (n := n) (n - j) j
  have h4 := zrR_in (u := u) (n - j) j (nI 0)
  unfold rTk
  split
  · exact ⟨Nat.le_refl _, hj, (show 3 ≤ 3 by omega)⟩
  · split
    · exact ⟨h3.1, (show zew u n (n - j) j ≤ n by omega), (show 0 ≤ 3 by omega)⟩
    · split
      · exact ⟨h4.1, (show (zrR u (n - j) j (nI 0)).1 ≤ n by omega), (show 1 ≤ 3 by omega)⟩
      · exact ⟨Nat.le_succ _, (show j + 1 ≤ n by omega), (show 2 ≤ 3 by omega)⟩
theorem rNx_ok {u : Nat → Int32} {n : Nat} {r : rRd} (h : rOk n r) : rOk n (rNx u n r) := by
  have h1 := zsk_in (u := u) (n := n) (n - r.2.1) r.2.1
  have h2 := h.2.1
  exact rTk_ok (by omega)
def rMu (u : Nat → Int32) (n : Nat) (v : Int32) (r : rRd) : rRd := if v = 0 then rFl r (-2) else if r.2.2.2.2.1 = 0 then rNx u n r else r
theorem rMu_ok {u : Nat → Int32} {n : Nat} {v : Int32} {r : rRd} (h : rOk n r) : rOk n (rMu u n v r) := by
  unfold rMu
  split
  · exact rFl_ok h
  · split
    · exact rNx_ok h
    · exact h
def rMn (r : rRd) : rRd := if r.2.2.1 = 0 ∧ r.2.1 - r.1 ≤ 8 then r else rFl r (-2)
theorem rMn_ok {n : Nat} {r : rRd} (h : rOk n r) : rOk n (rMn r) := by
  unfold rMn
  split
  · exact h
  · exact rFl_ok h
def rTa (u : Nat → Int32) (n : Nat) (lo hi : Int32) (r : rRd) : Int32 × rRd := if ¬ r.2.2.2.2.1 = 0 then (0, r) else if ¬ r.2.2.1 = 1 then (0, rFl r (-2)) else if ¬ (lo ≤ r.2.2.2.1 ∧ r.2.2.2.1 ≤ hi) then (0, rFl r (-3)) else (r.2.2.2.1, rNx u n r)
theorem rTa_ok {u : Nat → Int32} {n : Nat} {lo hi : Int32} {r : rRd} (h : rOk n r) : rOk n (rTa u n lo hi r).2 := by
  unfold rTa
  split
  · exact h
  · split
    · exact rFl_ok h
    · split
      · exact rFl_ok h
      · exact rNx_ok h
def rIw (u : Nat → Int32) (w : Nat) (r : rRd) : Int32 := if r.2.2.2.2.1 = 0 ∧ r.2.2.1 = 0 ∧ r.2.1 - r.1 = zLl.getD w 0 then zwd u w r.1 (zLl.getD w 0) 0 else nI 0
section
variable {l : Launch} {G : zG}
theorem c_X9_must (hl : l.stackTraces = false) {M : zMem} (hm : mSh M) {g : Nat → Int64} {u : Nat → Int32} (hu : zI M 947 = u) {n : Nat} (hn : zI M 941 8 = nI n) (hn6 : n ≤ 600) {r : rRd} (ho : rOk n r) (v : Int32) : zCm l G mX9_must 4 130 0 0 [.ref 941, .int (v)] (zsL (rdM M r) 942 g) (zD none (zsL (rdM M (rMu u n v r)) 942 g)) := by
  refine zCd.of (ls0 := [some (.ref 941), some (.int (v))]) (by decide +kernel) rfl hl rfl (Nat.le_of_ble_eq_true rfl) rfl ?_
  have ho1 := ho.1
  have ho2 := ho.2.1
  have ho3 := ho.2.2
  refine s_iload_n (zdk hX9_must 0 rfl) rfl ?_
  refine s_if_ne 10 (zdk hX9_must 1 rfl) (by decide) (fun c1 => ?_) (fun c1 => ?_)
  · have e : rMu u n v r = if r.2.2.2.2.1 = 0 then rNx u n r else r := if_neg c1
    rw [e]
    refine s_aload_n (zdk hX9_must 5 rfl) rfl ?_
    refine s_getI (zdk hX9_must 6 rfl) fw_X9_127 rfl (hm.1) ?_
    refine s_topi (b := r.2.2.2.2.1) (show zI (rdM M r) 941 13 = _ from rd_wr) ?_
    refine s_if_ne 21 (zdk hX9_must 7 rfl) (by decide) (fun c14 => ?_) (fun c14 => ?_)
    · rw [if_neg c14]
      refine s_return (zdk hX9_must 10 rfl) rfl ?_
      exact ⟨rfl, rfl⟩
    · rw [if_pos c14]
      refine s_aload_n (zdk hX9_must 8 rfl) rfl ?_
      refine s_callV0 (ci := 9) [] (zdk hX9_must 9 rfl) cw_X9_147 (hm.1) (by decide) rfl rfl rfl (Nat.le_of_ble_eq_true rfl) (by decide) (c_X9_next hl hm hu hn hn6 (i := r.1) (b := r.2.1) (k0 := r.2.2.1) ho2 r.2.2.2.1 r.2.2.2.2.1 r.2.2.2.2.2) ?_
      refine s_return (zdk hX9_must 10 rfl) rfl ?_
      exact ⟨rfl, rfl⟩
  · have e : rMu u n v r = rFl r (-2) := if_pos c1
    rw [e]
    refine s_aload_n (zdk hX9_must 2 rfl) rfl ?_
    refine s_bipushv (v := (-2)) (zdk hX9_must 3 rfl) zc_bipush_m2 ?_
    refine s_callV0 (ci := 9) [.int ((-2))] (zdk hX9_must 4 rfl) cw_X9_143 (hm.1) (by decide) rfl rfl rfl (Nat.le_of_ble_eq_true rfl) (by decide) (c_X9_fails hl hm (r := r) (-2)) ?_
    refine s_aload_n (zdk hX9_must 5 rfl) rfl ?_
    refine s_getI (zdk hX9_must 6 rfl) fw_X9_127 rfl (hm.1) ?_
    refine s_topi (b := (rFl r (-2)).2.2.2.2.1) (show zI (rdM M (rFl r (-2))) 941 13 = _ from rd_wr) ?_
    refine s_if_ne 21 (zdk hX9_must 7 rfl) (by decide) (fun c14 => ?_) (fun c14 => ?_)
    · refine s_return (zdk hX9_must 10 rfl) rfl ?_
      exact ⟨rfl, rfl⟩
    · have c0 : ¬ r.2.2.2.2.1 = 0 := fun q => absurd ((rFl_w (c := -2) q).symm.trans c14) (by decide)
      rw [rFl_n c0] at c14
      exact absurd c14 c0
theorem c_X9_mustEnd (hl : l.stackTraces = false) {M : zMem} (hm : mSh M) {g : Nat → Int64} {u : Nat → Int32} (hu : zI M 947 = u) {n : Nat} (hn : zI M 941 8 = nI n) (hn6 : n ≤ 600) {r : rRd} (ho : rOk n r) : zCm l G mX9_mustEnd 5 170 0 0 [.ref 941] (zsL (rdM M r) 942 g) (zD none (zsL (rdM M (rMu u n (if r.2.2.1 = 2 ∧ zrb u n r.1 = nI 59 then nI 1 else nI 0) r)) 942 g)) := by
  refine zCd.of (ls0 := [some (.ref 941)]) (by decide +kernel) rfl hl rfl (Nat.le_of_ble_eq_true rfl) rfl ?_
  have ho1 := ho.1
  have ho2 := ho.2.1
  have ho3 := ho.2.2
  refine s_aload_n (zdk hX9_mustEnd 0 rfl) rfl ?_
  refine s_aload_n (zdk hX9_mustEnd 1 rfl) rfl ?_
  refine s_getI (zdk hX9_mustEnd 2 rfl) fw_X9_110 rfl (hm.1) ?_
  refine s_topi (b := nI r.2.2.1) (show zI (rdM M r) 941 11 = _ from rd_ki) ?_
  refine s_iconstv (v := nI 2) (zdk hX9_mustEnd 3 rfl) zc_iconst_2 ?_
  refine s_icmp_ne 26 (zdk hX9_mustEnd 4 rfl) (by decide) (fun c6 => ?_) (fun c6 => ?_)
  · have n6 : ¬ (r.2.2.1) = 2 := nne c6
    have e : (if r.2.2.1 = 2 ∧ zrb u n r.1 = nI 59 then nI 1 else nI 0) = nI 0 := if_neg (fun q => n6 q.1)
    refine s_iconstv (v := nI 0) (zdk hX9_mustEnd 13 rfl) zc_iconst_0 ?_
    refine s_topi (b := (if r.2.2.1 = 2 ∧ zrb u n r.1 = nI 59 then nI 1 else nI 0)) e.symm ?_
    refine s_callV0 (ci := 9) [.int ((if r.2.2.1 = 2 ∧ zrb u n r.1 = nI 59 then nI 1 else nI 0))] (zdk hX9_mustEnd 14 rfl) cw_X9_150 (hm.1) (by decide) rfl rfl rfl (Nat.le_of_ble_eq_true rfl) (by decide) (c_X9_must hl hm hu hn hn6 ho (if r.2.2.1 = 2 ∧ zrb u n r.1 = nI 59 then nI 1 else nI 0)) ?_
    refine s_return (zdk hX9_mustEnd 15 rfl) rfl ?_
    exact ⟨rfl, rfl⟩
  · have n6 : r.2.2.1 = 2 := neq c6 (by omega) (by omega)
    refine s_aload_n (zdk hX9_mustEnd 5 rfl) rfl ?_
    refine s_aload_n (zdk hX9_mustEnd 6 rfl) rfl ?_
    refine s_getI (zdk hX9_mustEnd 7 rfl) fw_X9_104 rfl (hm.1) ?_
    refine s_topi (b := nI r.1) (show zI (rdM M r) 941 9 = _ from rd_at) ?_
    refine s_callV0 (ci := 9) [.int (nI (r.1))] (zdk hX9_mustEnd 8 rfl) cw_X9_98 (hm.1) (by decide) rfl rfl rfl (Nat.le_of_ble_eq_true rfl) (by decide) (c_X9_see hl hm hu hn hn6 (j := (r.1)) (by omega)) ?_
    refine s_bipushv (v := nI 59) (zdk hX9_mustEnd 9 rfl) zc_bipush_59 ?_
    refine s_icmp_ne 26 (zdk hX9_mustEnd 10 rfl) (by decide) (fun c19 => ?_) (fun c19 => ?_)
    · have e : (if r.2.2.1 = 2 ∧ zrb u n r.1 = nI 59 then nI 1 else nI 0) = nI 0 := if_neg (fun q => c19 q.2)
      refine s_iconstv (v := nI 0) (zdk hX9_mustEnd 13 rfl) zc_iconst_0 ?_
      refine s_topi (b := (if r.2.2.1 = 2 ∧ zrb u n r.1 = nI 59 then nI 1 else nI 0)) e.symm ?_
      refine s_callV0 (ci := 9) [.int ((if r.2.2.1 = 2 ∧ zrb u n r.1 = nI 59 then nI 1 else nI 0))] (zdk hX9_mustEnd 14 rfl) cw_X9_150 (hm.1) (by decide) rfl rfl rfl (Nat.le_of_ble_eq_true rfl) (by decide) (c_X9_must hl hm hu hn hn6 ho (if r.2.2.1 = 2 ∧ zrb u n r.1 = nI 59 then nI 1 else nI 0)) ?_
      refine s_return (zdk hX9_mustEnd 15 rfl) rfl ?_
      exact ⟨rfl, rfl⟩
    · have e : (if r.2.2.1 = 2 ∧ zrb u n r.1 = nI 59 then nI 1 else nI 0) = nI 1 := if_pos ⟨n6, c19⟩
      refine s_iconstv (v := nI 1) (zdk hX9_mustEnd 11 rfl) zc_iconst_1 ?_
      refine s_goto 27 (zdk hX9_mustEnd 12 rfl) (by decide) ?_
      refine s_topi (b := (if r.2.2.1 = 2 ∧ zrb u n r.1 = nI 59 then nI 1 else nI 0)) e.symm ?_
      refine s_callV0 (ci := 9) [.int ((if r.2.2.1 = 2 ∧ zrb u n r.1 = nI 59 then nI 1 else nI 0))] (zdk hX9_mustEnd 14 rfl) cw_X9_150 (hm.1) (by decide) rfl rfl rfl (Nat.le_of_ble_eq_true rfl) (by decide) (c_X9_must hl hm hu hn hn6 ho (if r.2.2.1 = 2 ∧ zrb u n r.1 = nI 59 then nI 1 else nI 0)) ?_
      refine s_return (zdk hX9_mustEnd 15 rfl) rfl ?_
      exact ⟨rfl, rfl⟩
theorem c_X9_mustName (hl : l.stackTraces = false) {M : zMem} (hm : mSh M) {g : Nat → Int64} {u : Nat → Int32} (hu : zI M 947 = u) {n : Nat} (hn : zI M 941 8 = nI n) (hn6 : n ≤ 600) {r : rRd} (ho : rOk n r) : zCm l G mX9_mustName 2 60 0 0 [.ref 941] (zsL (rdM M r) 942 g) (zD none (zsL (rdM M (rMn r)) 942 g)) := by
  refine zCd.of (ls0 := [some (.ref 941)]) (by decide +kernel) rfl hl rfl (Nat.le_of_ble_eq_true rfl) rfl ?_
  have ho1 := ho.1
  have ho2 := ho.2.1
  have ho3 := ho.2.2
  refine s_aload_n (zdk hX9_mustName 0 rfl) rfl ?_
  refine s_getI (zdk hX9_mustName 1 rfl) fw_X9_127 rfl (hm.1) ?_
  refine s_topi (b := r.2.2.2.2.1) (show zI (rdM M r) 941 13 = _ from rd_wr) ?_
  refine s_if_ne 34 (zdk hX9_mustName 2 rfl) (by decide) (fun c4 => ?_) (fun c4 => ?_)
  · have e : rMn r = r := by unfold rMn; rw [rFl_n c4]; split <;> rfl
    rw [e]
    refine s_return (zdk hX9_mustName 16 rfl) rfl ?_
    exact ⟨rfl, rfl⟩
  · refine s_aload_n (zdk hX9_mustName 3 rfl) rfl ?_
    refine s_getI (zdk hX9_mustName 4 rfl) fw_X9_110 rfl (hm.1) ?_
    refine s_topi (b := nI r.2.2.1) (show zI (rdM M r) 941 11 = _ from rd_ki) ?_
    refine s_if_ne 28 (zdk hX9_mustName 5 rfl) (by decide) (fun c11 => ?_) (fun c11 => ?_)
    · have n11 : ¬ r.2.2.1 = 0 := fun q => c11 (by rw [q]; rfl)
      have e : rMn r = rFl r (-2) := if_neg (fun q => n11 q.1)
      rw [e]
      refine s_aload_n (zdk hX9_mustName 13 rfl) rfl ?_
      refine s_bipushv (v := (-2)) (zdk hX9_mustName 14 rfl) zc_bipush_m2 ?_
      refine s_callV0 (ci := 9) [.int ((-2))] (zdk hX9_mustName 15 rfl) cw_X9_143 (hm.1) (by decide) rfl rfl rfl (Nat.le_of_ble_eq_true rfl) (by decide) (c_X9_fails hl hm (r := r) (-2)) ?_
      refine s_return (zdk hX9_mustName 16 rfl) rfl ?_
      exact ⟨rfl, rfl⟩
    · have n11 : r.2.2.1 = 0 := neq (show nI r.2.2.1 = nI 0 from c11) (by omega) (by omega)
      refine s_aload_n (zdk hX9_mustName 6 rfl) rfl ?_
      refine s_getI (zdk hX9_mustName 7 rfl) fw_X9_101 rfl (hm.1) ?_
      refine s_topi (b := nI r.2.1) (show zI (rdM M r) 941 10 = _ from rd_be) ?_
      refine s_aload_n (zdk hX9_mustName 8 rfl) rfl ?_
      refine s_getI (zdk hX9_mustName 9 rfl) fw_X9_104 rfl (hm.1) ?_
      refine s_topi (b := nI r.1) (show zI (rdM M r) 941 9 = _ from rd_at) ?_
      refine s_isub (zdk hX9_mustName 10 rfl) ?_
      refine s_topi (b := nI (r.2.1 - r.1)) (pk_sub ho1) ?_
      refine s_bipushv (v := nI 8) (zdk hX9_mustName 11 rfl) zc_bipush_8 ?_
      refine s_icmp_le 34 (zdk hX9_mustName 12 rfl) (by decide) (fun c25 => ?_) (fun c25 => ?_)
      · have n25 : r.2.1 - r.1 ≤ 8 := nle c25 (by omega) (by omega)
        have e : rMn r = r := if_pos ⟨n11, n25⟩
        rw [e]
        refine s_return (zdk hX9_mustName 16 rfl) rfl ?_
        exact ⟨rfl, rfl⟩
      · have n25 : 8 < r.2.1 - r.1 := nlt c25 (by omega) (by omega)
        have e : rMn r = rFl r (-2) := if_neg (fun q => absurd q.2 (by omega))
        rw [e]
        refine s_aload_n (zdk hX9_mustName 13 rfl) rfl ?_
        refine s_bipushv (v := (-2)) (zdk hX9_mustName 14 rfl) zc_bipush_m2 ?_
        refine s_callV0 (ci := 9) [.int ((-2))] (zdk hX9_mustName 15 rfl) cw_X9_143 (hm.1) (by decide) rfl rfl rfl (Nat.le_of_ble_eq_true rfl) (by decide) (c_X9_fails hl hm (r := r) (-2)) ?_
        refine s_return (zdk hX9_mustName 16 rfl) rfl ?_
        exact ⟨rfl, rfl⟩
end
