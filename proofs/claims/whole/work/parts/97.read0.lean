/-! ===== the reference reads: its state, what it sees ===== -/
/-- where the token begins, what lies behind it, its kind, its number, what was wrong, where -/
abbrev rRd : Type := Nat × Nat × Nat × Int32 × Int32 × Int32
def rdM (M : zMem) (r : rRd) : zMem := zsI (zsI (zsI (zsI (zsI (zsI M 941 9 (nI r.1)) 941 10 (nI r.2.1)) 941 11 (nI r.2.2.1)) 941 12 r.2.2.2.1) 941 13 r.2.2.2.2.1) 941 14 r.2.2.2.2.2
theorem rd_n {M : zMem} {r : rRd} {c : Nat} (h : c ≠ 941) : zI (rdM M r) c = zI M c := by
  unfold rdM
  rw [zI_In h, zI_In h, zI_In h, zI_In h, zI_In h, zI_In h]
theorem rd_o {M : zMem} {r : rRd} {c : Nat} (h : c < 9 ∨ 14 < c) : zI (rdM M r) 941 c = zI M 941 c := by
  unfold rdM
  rw [si_I, if_pos rfl, if_neg (by omega), si_I, if_pos rfl, if_neg (by omega), si_I, if_pos rfl, if_neg (by omega), si_I, if_pos rfl, if_neg (by omega), si_I, if_pos rfl, if_neg (by omega), si_I, if_pos rfl, if_neg (by omega)]
theorem rd_at {M : zMem} {r : rRd} : zI (rdM M r) 941 9 = nI r.1 := by simp [rdM, si_I]
theorem rd_be {M : zMem} {r : rRd} : zI (rdM M r) 941 10 = nI r.2.1 := by simp [rdM, si_I]
theorem rd_ki {M : zMem} {r : rRd} : zI (rdM M r) 941 11 = nI r.2.2.1 := by simp [rdM, si_I]
theorem rd_nu {M : zMem} {r : rRd} : zI (rdM M r) 941 12 = r.2.2.2.1 := by simp [rdM, si_I]
theorem rd_wr {M : zMem} {r : rRd} : zI (rdM M r) 941 13 = r.2.2.2.2.1 := by simp [rdM, si_I]
theorem rd_wa {M : zMem} {r : rRd} : zI (rdM M r) 941 14 = r.2.2.2.2.2 := by simp [rdM, si_I]
theorem rdM_ext {M M2 : zMem} (h1 : ∀ b, b ≠ 941 → zI M2 b = zI M b) (h2 : ∀ k, zI M2 941 k = zI M 941 k) (h3 : M2.2 = M.2) : M2 = M := by
  have h : M2.1 = M.1 := by
    funext b
    by_cases q : b = 941
    · rw [q]; funext k; exact h2 k
    · exact h1 b q
  exact Prod.ext h h3

theorem rd_at! {M : zMem} {r : rRd} {j : Nat} : zsI (rdM M r) 941 9 (nI j) = rdM M (j, r.2) := by
  refine rdM_ext (fun b h => ?_) (fun k => ?_) rfl
  · rw [zI_In h, rd_n h, rd_n h]
  · unfold rdM
    by_cases h : k = 9
    · subst h; simp [si_I]
    · simp [si_I, h]
theorem rd_be! {M : zMem} {r : rRd} {j : Nat} : zsI (rdM M r) 941 10 (nI j) = rdM M (r.1, j, r.2.2) := by
  refine rdM_ext (fun b h => ?_) (fun k => ?_) rfl
  · rw [zI_In h, rd_n h, rd_n h]
  · unfold rdM
    by_cases h : k = 10
    · subst h; simp [si_I]
    · simp [si_I, h]
theorem rd_ki! {M : zMem} {r : rRd} {j : Nat} : zsI (rdM M r) 941 11 (nI j) = rdM M (r.1, r.2.1, j, r.2.2.2) := by
  refine rdM_ext (fun b h => ?_) (fun k => ?_) rfl
  · rw [zI_In h, rd_n h, rd_n h]
  · unfold rdM
    by_cases h : k = 11
    · subst h; simp [si_I]
    · simp [si_I, h]
theorem rd_nu! {M : zMem} {r : rRd} {z : Int32} : zsI (rdM M r) 941 12 (z) = rdM M (r.1, r.2.1, r.2.2.1, z, r.2.2.2.2) := by
  refine rdM_ext (fun b h => ?_) (fun k => ?_) rfl
  · rw [zI_In h, rd_n h, rd_n h]
  · unfold rdM
    by_cases h : k = 12
    · subst h; simp [si_I]
    · simp [si_I, h]
theorem rd_wr! {M : zMem} {r : rRd} {z : Int32} : zsI (rdM M r) 941 13 (z) = rdM M (r.1, r.2.1, r.2.2.1, r.2.2.2.1, z, r.2.2.2.2.2) := by
  refine rdM_ext (fun b h => ?_) (fun k => ?_) rfl
  · rw [zI_In h, rd_n h, rd_n h]
  · unfold rdM
    by_cases h : k = 13
    · subst h; simp [si_I]
    · simp [si_I, h]
theorem rd_wa! {M : zMem} {r : rRd} {z : Int32} : zsI (rdM M r) 941 14 (z) = rdM M (r.1, r.2.1, r.2.2.1, r.2.2.2.1, r.2.2.2.2.1, z) := by
  refine rdM_ext (fun b h => ?_) (fun k => ?_) rfl
  · rw [zI_In h, rd_n h, rd_n h]
  · unfold rdM
    by_cases h : k = 14
    · subst h; simp [si_I]
    · simp [si_I, h]
/-- a fault, if there was none -/
def rFl (r : rRd) (c : Int32) : rRd := if r.2.2.2.2.1 = 0 then (r.1, r.2.1, r.2.2.1, r.2.2.2.1, c, nI r.1) else r
section
variable {l : Launch} {G : zG}
theorem c_X9_thrown (hl : l.stackTraces = false) {M : zMem} (hm : mSh M) {g : Nat → Int64} : zCm l G mX9_thrown 0 0 0 0 [.ref 941] (zsL M 942 g) (zD (some (.int (zI M 941 6))) (zsL M 942 g)) := by
  refine zCd.of (ls0 := [some (.ref 941)]) (by decide +kernel) rfl hl rfl (Nat.le_of_ble_eq_true rfl) rfl ?_
  refine s_aload_n (zdk hX9_thrown 0 rfl) rfl ?_
  refine s_getI (zdk hX9_thrown 1 rfl) fw_X9_69 rfl (hm.1) ?_
  refine s_topi (b := zI M 941 6) (rfl) ?_
  refine s_ireturn (zdk hX9_thrown 2 rfl) rfl rfl ?_
  exact ⟨rfl, rfl⟩
theorem c_X9_errorPosition (hl : l.stackTraces = false) {M : zMem} (hm : mSh M) {g : Nat → Int64} : zCm l G mX9_errorPosition 0 0 0 0 [.ref 941] (zsL M 942 g) (zD (some (.int (zI M 941 15))) (zsL (zsI M 941 6 (nI 0)) 942 g)) := by
  refine zCd.of (ls0 := [some (.ref 941)]) (by decide +kernel) rfl hl rfl (Nat.le_of_ble_eq_true rfl) rfl ?_
  refine s_aload_n (zdk hX9_errorPosition 0 rfl) rfl ?_
  refine s_iconstv (v := nI 0) (zdk hX9_errorPosition 1 rfl) zc_iconst_0 ?_
  refine s_putI (zdk hX9_errorPosition 2 rfl) fw_X9_69 rfl pw_9_6 (hm.1) ?_
  refine s_mem (M' := (zsL (zsI M 941 6 (nI 0)) 942 g)) rfl ?_
  refine s_aload_n (zdk hX9_errorPosition 3 rfl) rfl ?_
  refine s_getI (zdk hX9_errorPosition 4 rfl) fw_X9_30 rfl (hm.1) ?_
  refine s_topi (b := zI M 941 15) (show zI (zsI M 941 6 (nI 0)) 941 15 = _ from (congrFun zI_Ie 15).trans (zw1_n (by decide))) ?_
  refine s_ireturn (zdk hX9_errorPosition 5 rfl) rfl rfl ?_
  exact ⟨rfl, rfl⟩
theorem c_X9_see (hl : l.stackTraces = false) {M : zMem} (hm : mSh M) {g : Nat → Int64} {u : Nat → Int32} (hu : zI M 947 = u) {n : Nat} (hn : zI M 941 8 = nI n) (hn6 : n ≤ 600) {r : rRd} {j : Nat} (hj : j < 100000) : zCm l G mX9_see 0 0 0 0 [.ref 941, .int (nI j)] (zsL (rdM M r) 942 g) (zD (some (.int (zrb u n j))) (zsL (rdM M r) 942 g)) := by
  refine zCd.of (ls0 := [some (.ref 941), some (.int (nI j))]) (by decide +kernel) rfl hl rfl (Nat.le_of_ble_eq_true rfl) rfl ?_
  refine s_iload_n (zdk hX9_see 0 rfl) rfl ?_
  refine s_aload_n (zdk hX9_see 1 rfl) rfl ?_
  refine s_getI (zdk hX9_see 2 rfl) fw_X9_95 rfl (hm.1) ?_
  refine s_topi (b := nI n) ((show zI (rdM M r) 941 8 = _ from rd_o (by decide)).trans hn) ?_
  refine s_icmp_ge 17 (zdk hX9_see 3 rfl) (by decide) (fun c5 => ?_) (fun c5 => ?_)
  · have n5 : n ≤ j := nle c5 (by omega) (by omega)
    have e : zrb u n j = -1 := if_neg (by omega)
    rw [e]
    refine s_iconstv (v := (-1)) (zdk hX9_see 9 rfl) zc_iconst_m1 ?_
    refine s_ireturn (zdk hX9_see 10 rfl) rfl rfl ?_
    exact ⟨rfl, rfl⟩
  · have n5 : j < n := nlt c5 (by omega) (by omega)
    have e : zrb u n j = u j := if_pos n5
    rw [e]
    refine s_aload_n (zdk hX9_see 4 rfl) rfl ?_
    refine s_getR (zdk hX9_see 5 rfl) fw_X9_26 rfl (hm.1) (show _ = some 947 from (hm.r (i := 5) rfl).1) ?_
    refine s_iload_n (zdk hX9_see 6 rfl) rfl ?_
    refine s_ialoadN (N := 600) (j := j) (zdk hX9_see 7 rfl) ((hm.r (i := 5) rfl).2.1) ((hm.r (i := 5) rfl).2.2) (by omega) (by decide) ?_
    refine s_topi (b := u j) ((show zI (rdM M r) 947 j = _ from congrFun (rd_n (by decide)) j).trans (congrFun hu j)) ?_
    refine s_goto 18 (zdk hX9_see 8 rfl) (by decide) ?_
    refine s_ireturn (zdk hX9_see 10 rfl) rfl rfl ?_
    exact ⟨rfl, rfl⟩
theorem c_X9_isLetter (hl : l.stackTraces = false) {M : zMem} (hm : mSh M) {g : Nat → Int64} {u : Nat → Int32} (hu : zI M 947 = u) {n : Nat} (hn : zI M 941 8 = nI n) (hn6 : n ≤ 600) {r : rRd} {j : Nat} (hj : j < 100000) : zCm l G mX9_isLetter 1 40 0 0 [.ref 941, .int (nI j)] (zsL (rdM M r) 942 g) (zD (some (.int (if nI 97 ≤ zrb u n j ∧ zrb u n j ≤ nI 122 then nI 1 else nI 0))) (zsL (rdM M r) 942 g)) := by
  refine zCd.of (ls0 := [some (.ref 941), some (.int (nI j))]) (by decide +kernel) rfl hl rfl (Nat.le_of_ble_eq_true rfl) rfl ?_
  refine s_aload_n (zdk hX9_isLetter 0 rfl) rfl ?_
  refine s_iload_n (zdk hX9_isLetter 1 rfl) rfl ?_
  refine s_callV0 (ci := 9) [.int (nI j)] (zdk hX9_isLetter 2 rfl) cw_X9_98 (hm.1) (by decide) rfl rfl rfl (Nat.le_of_ble_eq_true rfl) (by decide) (c_X9_see hl hm hu hn hn6 (j := j) (by omega)) ?_
  refine s_bipushv (v := nI 97) (zdk hX9_isLetter 3 rfl) zc_bipush_97 ?_
  refine s_bipushv (v := nI 122) (zdk hX9_isLetter 4 rfl) zc_bipush_122 ?_
  refine s_callS0 [.int (zrb u n j), .int (nI 97), .int (nI 122)] (zdk hX9_isLetter 5 rfl) cw_X9_79 rfl (Nat.le_of_ble_eq_true rfl) (by decide) (c_X9_isIn hl (zsL (rdM M r) 942 g) (zrb u n j) (nI 97) (nI 122)) ?_
  refine s_ireturn (zdk hX9_isLetter 6 rfl) rfl nar01 ?_
  exact ⟨rfl, rfl⟩
theorem c_X9_isDigit (hl : l.stackTraces = false) {M : zMem} (hm : mSh M) {g : Nat → Int64} {u : Nat → Int32} (hu : zI M 947 = u) {n : Nat} (hn : zI M 941 8 = nI n) (hn6 : n ≤ 600) {r : rRd} {j : Nat} (hj : j < 100000) : zCm l G mX9_isDigit 1 40 0 0 [.ref 941, .int (nI j)] (zsL (rdM M r) 942 g) (zD (some (.int (if nI 48 ≤ zrb u n j ∧ zrb u n j ≤ nI 57 then nI 1 else nI 0))) (zsL (rdM M r) 942 g)) := by
  refine zCd.of (ls0 := [some (.ref 941), some (.int (nI j))]) (by decide +kernel) rfl hl rfl (Nat.le_of_ble_eq_true rfl) rfl ?_
  refine s_aload_n (zdk hX9_isDigit 0 rfl) rfl ?_
  refine s_iload_n (zdk hX9_isDigit 1 rfl) rfl ?_
  refine s_callV0 (ci := 9) [.int (nI j)] (zdk hX9_isDigit 2 rfl) cw_X9_98 (hm.1) (by decide) rfl rfl rfl (Nat.le_of_ble_eq_true rfl) (by decide) (c_X9_see hl hm hu hn hn6 (j := j) (by omega)) ?_
  refine s_bipushv (v := nI 48) (zdk hX9_isDigit 3 rfl) zc_bipush_48 ?_
  refine s_bipushv (v := nI 57) (zdk hX9_isDigit 4 rfl) zc_bipush_57 ?_
  refine s_callS0 [.int (zrb u n j), .int (nI 48), .int (nI 57)] (zdk hX9_isDigit 5 rfl) cw_X9_79 rfl (Nat.le_of_ble_eq_true rfl) (by decide) (c_X9_isIn hl (zsL (rdM M r) 942 g) (zrb u n j) (nI 48) (nI 57)) ?_
  refine s_ireturn (zdk hX9_isDigit 6 rfl) rfl nar01 ?_
  exact ⟨rfl, rfl⟩
theorem c_X9_fails (hl : l.stackTraces = false) {M : zMem} (hm : mSh M) {g : Nat → Int64} {r : rRd} (c : Int32) : zCm l G mX9_fails 0 0 0 0 [.ref 941, .int (c)] (zsL (rdM M r) 942 g) (zD none (zsL (rdM M (rFl r c)) 942 g)) := by
  refine zCd.of (ls0 := [some (.ref 941), some (.int (c))]) (by decide +kernel) rfl hl rfl (Nat.le_of_ble_eq_true rfl) rfl ?_
  refine s_aload_n (zdk hX9_fails 0 rfl) rfl ?_
  refine s_getI (zdk hX9_fails 1 rfl) fw_X9_127 rfl (hm.1) ?_
  refine s_topi (b := r.2.2.2.2.1) (show zI (rdM M r) 941 13 = _ from rd_wr) ?_
  refine s_if_eq 8 (zdk hX9_fails 2 rfl) (by decide) (fun c4 => ?_) (fun c4 => ?_)
  · have e : rFl r c = (r.1, r.2.1, r.2.2.1, r.2.2.2.1, c, nI r.1) := if_pos c4
    rw [e]
    refine s_aload_n (zdk hX9_fails 4 rfl) rfl ?_
    refine s_iload_n (zdk hX9_fails 5 rfl) rfl ?_
    refine s_putI (zdk hX9_fails 6 rfl) fw_X9_127 rfl pw_9_13 (hm.1) ?_
    refine s_mem (M' := (zsL (rdM M (r.1, r.2.1, r.2.2.1, r.2.2.2.1, c, r.2.2.2.2.2)) 942 g)) ((show zsL (zsI (rdM M r) 941 13 c) 942 g = _ from congrArg (fun q => zsL q 942 g) rd_wr!)) ?_
    refine s_aload_n (zdk hX9_fails 7 rfl) rfl ?_
    refine s_aload_n (zdk hX9_fails 8 rfl) rfl ?_
    refine s_getI (zdk hX9_fails 9 rfl) fw_X9_104 rfl (hm.1) ?_
    refine s_topi (b := nI r.1) (show zI (rdM M (r.1, r.2.1, r.2.2.1, r.2.2.2.1, c, r.2.2.2.2.2)) 941 9 = _ from rd_at) ?_
    refine s_putI (zdk hX9_fails 10 rfl) fw_X9_140 rfl pw_9_14 (hm.1) ?_
    refine s_mem (M' := (zsL (rdM M (r.1, r.2.1, r.2.2.1, r.2.2.2.1, c, nI r.1)) 942 g)) ((show zsL (zsI (rdM M (r.1, r.2.1, r.2.2.1, r.2.2.2.1, c, r.2.2.2.2.2)) 941 14 (nI r.1)) 942 g = _ from congrArg (fun q => zsL q 942 g) rd_wa!)) ?_
    refine s_return (zdk hX9_fails 11 rfl) rfl ?_
    exact ⟨rfl, rfl⟩
  · have e : rFl r c = r := if_neg c4
    rw [e]
    refine s_return (zdk hX9_fails 3 rfl) rfl ?_
    exact ⟨rfl, rfl⟩
end
