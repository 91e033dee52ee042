/-! ===== the reference reads: a file, whole ===== -/
section
variable {l : Launch} {G : zG}
theorem c_X9_readsFile (hl : l.stackTraces = false) {M : zMem} (hm : mSh M) {g : Nat → Int64} {u : Nat → Int32} (hu : zI M 947 = u) {n : Nat} (hn : zI M 941 8 = nI n) (hn6 : n ≤ 600) {r : rRd} (ho : rOk n r) (h2 : its g 2 = nI (gN g 2)) (h24 : gN g 2 ≤ 4) (h3 : its g 3 = nI (gN g 3)) (ht : gN g 3 ≤ 20) (hbd : r.2.2.2.2.1 = 0 → gBd g) : zCm l G mX9_readsFile 6 200 0 0 [.ref 941] (zsL (rdM M r) 942 g) (rFP M u n (gN g 3) g r) := by
  refine zCm.of0 (ls0 := [some (.ref 941), none, none, none, none]) (by decide +kernel) rfl hl rfl (Nat.le_of_ble_eq_true rfl) (fun v' M' q => by obtain ⟨-, g', r', -, rfl⟩ := q; rfl) (fun x M' q => by cases q.1) ?_
  obtain ⟨r0, hr0⟩ : ∃ r0, (if gN g 3 = 20 then rFl r (-7) else r) = r0 := ⟨_, rfl⟩
  have ho0 : rOk n r0 := by rw [← hr0]; split; exact rFl_ok ho; exact ho
  refine s_aload_n (zdk hX9_readsFile_0 0 rfl) rfl ?_
  refine s_callV0 (ci := 9) [] (zdk hX9_readsFile_0 1 rfl) cw_X9_180 (hm.1) (by decide) rfl rfl rfl (Nat.le_of_ble_eq_true rfl) (by decide) (c_X9_filesN hl (M := rdM M r) hm h3) ?_
  refine s_istore_n (zdk hX9_readsFile_0 2 rfl) (Nat.le_of_ble_eq_true rfl) ?_
  refine s_ls (ls' := [some (.ref 941), some (.int (nI (gN g 3))), none, none, none]) rfl ?_
  refine s_iload_n (zdk hX9_readsFile_0 3 rfl) rfl ?_
  refine s_bipushv (v := nI 20) (zdk hX9_readsFile_0 4 rfl) zc_bipush_20 ?_
  refine s_icmp_ne 17 (zdk hX9_readsFile_0 5 rfl) (by decide) (fun c8 => ?_) (fun c8 => ?_)
  · have n8 : ¬ (gN g 3) = 20 := nne c8
    have e0 : (if gN g 3 = 20 then rFl r (-7) else r) = r := if_neg n8
    refine s_mem (M' := (zsL (rdM M r0) 942 g)) (by rw [← hr0, e0]) ?_
    obtain ⟨ra, hra⟩ : ∃ ra, rMu u n (nI 1) r0 = ra := ⟨_, rfl⟩
    obtain ⟨rb, hrb⟩ : ∃ rb, rMn ra = rb := ⟨_, rfl⟩
    obtain ⟨nv, hnv⟩ : ∃ nv, rNa g u rb 64 51 (gN g 3) = nv := ⟨_, rfl⟩
    obtain ⟨rc, hrc⟩ : ∃ rc, (if nv = -1 then rb else rFl rb (-5)) = rc := ⟨_, rfl⟩
    have hoa : rOk n ra := by rw [← hra]; exact rMu_ok ho0
    have hob : rOk n rb := by rw [← hrb]; exact rMn_ok hoa
    have hoc : rOk n rc := by rw [← hrc]; split; exact hob; exact rFl_ok hob
    refine w_X9_readsFile_17 hl hm hu hn hn6 ho0 ht hra hrb hnv hrc hoa hob (fun c => ?_) (fun c => ⟨rfl, g, rc, ⟨r0, ra, rb, nv, rc, hr0, hra, hrb, hnv, hrc, Or.inr ⟨c, rfl, rfl, hoc⟩⟩, rfl⟩)
    have w0 : r0.2.2.2.2.1 = 0 := by
      by_cases q : nv = -1
      · rw [← hrc, if_pos q] at c
        have c1 := c
        rw [← hrb] at c1
        have m1 := rMn_wr c1
        rw [m1.1, ← hra] at c1
        exact (rMu_wr c1).1
      · rw [← hrc, if_neg q] at c
        exact absurd c (rFl_wr (by decide))
    have n20 : ¬ gN g 3 = 20 := fun q => by
      rw [← hr0, if_pos q] at w0
      exact absurd w0 (rFl_wr (by decide))
    have w1 : r.2.2.2.2.1 = 0 := by
      rw [← hr0, if_neg n20] at w0
      exact w0
    refine w_X9_readsFile_53r hl hm hu hn hn6 hoc h2 h24 (hbd w1) (by omega) (fun g' r' q => ⟨rfl, g', r', ⟨r0, ra, rb, nv, rc, hr0, hra, hrb, hnv, hrc, Or.inl ⟨c, q⟩⟩, rfl⟩)
  · have n8 : gN g 3 = 20 := neq c8 (by omega) (by omega)
    have e0 : (if gN g 3 = 20 then rFl r (-7) else r) = rFl r (-7) := if_pos n8
    refine s_aload_n (zdk hX9_readsFile_0 6 rfl) rfl ?_
    refine s_bipushv (v := (-7)) (zdk hX9_readsFile_0 7 rfl) zc_bipush_m7 ?_
    refine s_callV0 (ci := 9) [.int ((-7))] (zdk hX9_readsFile_0 8 rfl) cw_X9_143 (hm.1) (by decide) rfl rfl rfl (Nat.le_of_ble_eq_true rfl) (by decide) (c_X9_fails hl hm (g := g) (r := r) (-7)) ?_
    refine s_mem (M' := (zsL (rdM M r0) 942 g)) (by rw [← hr0, e0]) ?_
    obtain ⟨ra, hra⟩ : ∃ ra, rMu u n (nI 1) r0 = ra := ⟨_, rfl⟩
    obtain ⟨rb, hrb⟩ : ∃ rb, rMn ra = rb := ⟨_, rfl⟩
    obtain ⟨nv, hnv⟩ : ∃ nv, rNa g u rb 64 51 (gN g 3) = nv := ⟨_, rfl⟩
    obtain ⟨rc, hrc⟩ : ∃ rc, (if nv = -1 then rb else rFl rb (-5)) = rc := ⟨_, rfl⟩
    have hoa : rOk n ra := by rw [← hra]; exact rMu_ok ho0
    have hob : rOk n rb := by rw [← hrb]; exact rMn_ok hoa
    have hoc : rOk n rc := by rw [← hrc]; split; exact hob; exact rFl_ok hob
    refine w_X9_readsFile_17 hl hm hu hn hn6 ho0 ht hra hrb hnv hrc hoa hob (fun c => ?_) (fun c => ⟨rfl, g, rc, ⟨r0, ra, rb, nv, rc, hr0, hra, hrb, hnv, hrc, Or.inr ⟨c, rfl, rfl, hoc⟩⟩, rfl⟩)
    have w0 : r0.2.2.2.2.1 = 0 := by
      by_cases q : nv = -1
      · rw [← hrc, if_pos q] at c
        have c1 := c
        rw [← hrb] at c1
        have m1 := rMn_wr c1
        rw [m1.1, ← hra] at c1
        exact (rMu_wr c1).1
      · rw [← hrc, if_neg q] at c
        exact absurd c (rFl_wr (by decide))
    have n20 : ¬ gN g 3 = 20 := fun q => by
      rw [← hr0, if_pos q] at w0
      exact absurd w0 (rFl_wr (by decide))
    have w1 : r.2.2.2.2.1 = 0 := by
      rw [← hr0, if_neg n20] at w0
      exact w0
    refine w_X9_readsFile_53r hl hm hu hn hn6 hoc h2 h24 (hbd w1) (by omega) (fun g' r' q => ⟨rfl, g', r', ⟨r0, ra, rb, nv, rc, hr0, hra, hrb, hnv, hrc, Or.inl ⟨c, q⟩⟩, rfl⟩)
end
