theorem zc_bipush_m7 : (Int8.ofInt (-7)).toInt32 = (-7) := by decide
/-! ===== the reference reads: a tier ===== -/
/-- how a tier is read: rows and states before and after -/
def rTR (u : Nat → Int32) (n t : Nat) (g : Nat → Int64) (r : rRd) (g' : Nat → Int64) (r' : rRd) : Prop :=
  ∃ (r0 : rRd) (v1 : Int32) (ra rb : rRd) (nv : Int32) (rc : rRd), (if t = 4 then rFl r (-7) else r) = r0 ∧ rIw u 2 r0 = v1 ∧ rMu u n v1 r0 = ra ∧ rMn ra = rb ∧ rNa g u rb 11 13 t = nv ∧ (if nv = -1 then rb else rFl rb (-5)) = rc ∧
    ((rc.2.2.2.2.1 = 0 ∧ ∃ Y X, rT5 u n t g rc = Y ∧ rTq u n t Y 4 = X ∧ g' = zwL X.1 2 (X.1 2 + lN 1) ∧ r' = rEn u n X.2 ∧ rOk n r') ∨ (¬ rc.2.2.2.2.1 = 0 ∧ g' = g ∧ r' = rc ∧ rOk n r'))
/-- behind readsTier -/
def rTP (M : zMem) (u : Nat → Int32) (n t : Nat) (g : Nat → Int64) (r : rRd) : zOut → zMem → Prop := fun o M' => o = .inl none ∧ ∃ g' r', rTR u n t g r g' r' ∧ M' = zsL (rdM M r') 942 g'
section
variable {l : Launch} {G : zG}
theorem c_X9_readsTier (hl : l.stackTraces = false) {M : zMem} (hm : mSh M) {g : Nat → Int64} {u : Nat → Int32} (hu : zI M 947 = u) {n : Nat} (hn : zI M 941 8 = nI n) (hn6 : n ≤ 600) {r : rRd} (ho : rOk n r) (h2 : its g 2 = nI (gN g 2)) (ht : gN g 2 ≤ 4) : zCm l G mX9_readsTier 6 200 0 0 [.ref 941] (zsL (rdM M r) 942 g) (rTP M u n (gN g 2) g r) := by
  refine zCm.of0 (ls0 := [some (.ref 941), none, none]) (by decide +kernel) rfl hl rfl (Nat.le_of_ble_eq_true rfl) (fun v' M' q => by obtain ⟨-, g', r', -, rfl⟩ := q; rfl) (fun x M' q => by cases q.1) ?_
  obtain ⟨r0, h0⟩ : ∃ r0, (if gN g 2 = 4 then rFl r (-7) else r) = r0 := ⟨_, rfl⟩
  have ho0 : rOk n r0 := by rw [← h0]; split; exact rFl_ok ho; exact ho
  refine s_aload_n (zdk hX9_readsTier_0 0 rfl) rfl ?_
  refine s_callV0 (ci := 9) [] (zdk hX9_readsTier_0 1 rfl) cw_X9_154 (hm.1) (by decide) rfl rfl rfl (Nat.le_of_ble_eq_true rfl) (by decide) (c_X9_tiersN hl (M := rdM M r) hm h2) ?_
  refine s_istore_n (zdk hX9_readsTier_0 2 rfl) (Nat.le_of_ble_eq_true rfl) ?_
  refine s_ls (ls' := [some (.ref 941), some (.int (nI (gN g 2))), none]) rfl ?_
  refine s_iload_n (zdk hX9_readsTier_0 3 rfl) rfl ?_
  refine s_iconstv (v := nI 4) (zdk hX9_readsTier_0 4 rfl) zc_iconst_4 ?_
  refine s_icmp_ne 16 (zdk hX9_readsTier_0 5 rfl) (by decide) (fun c7 => ?_) (fun c7 => ?_)
  · have n7 : ¬ (gN g 2) = 4 := nne c7
    have e0 : (if gN g 2 = 4 then rFl r (-7) else r) = r := if_neg n7
    refine s_mem (M' := (zsL (rdM M r0) 942 g)) (by rw [← h0, e0]) ?_
    obtain ⟨v1, hv1⟩ : ∃ v1, rIw u 2 r0 = v1 := ⟨_, rfl⟩
    obtain ⟨ra, hra⟩ : ∃ ra, rMu u n v1 r0 = ra := ⟨_, rfl⟩
    obtain ⟨rb, hrb⟩ : ∃ rb, rMn ra = rb := ⟨_, rfl⟩
    obtain ⟨nv, hnv⟩ : ∃ nv, rNa g u rb 11 13 (gN g 2) = nv := ⟨_, rfl⟩
    obtain ⟨rc, hrc⟩ : ∃ rc, (if nv = -1 then rb else rFl rb (-5)) = rc := ⟨_, rfl⟩
    have hoa : rOk n ra := by rw [← hra]; exact rMu_ok ho0
    have hob : rOk n rb := by rw [← hrb]; exact rMn_ok hoa
    have hoc : rOk n rc := by rw [← hrc]; split; exact hob; exact rFl_ok hob
    refine w_X9_readsTier_16 hl hm hu hn hn6 ho0 ht hv1 hra hrb hnv hrc hoa hob (fun c => ?_) (fun c => ⟨rfl, g, rc, ⟨r0, v1, ra, rb, nv, rc, h0, hv1, hra, hrb, hnv, hrc, Or.inr ⟨c, rfl, rfl, hoc⟩⟩, rfl⟩)
    obtain ⟨Y, hY⟩ : ∃ Y, rT5 u n (gN g 2) g rc = Y := ⟨_, rfl⟩
    have hoY : rOk n Y.2 := by rw [← hY]; unfold rT5; dsimp only; exact rTa_ok (rNx_ok hoc)
    obtain ⟨X, hX⟩ : ∃ X, rTq u n (gN g 2) Y 4 = X := ⟨_, rfl⟩
    have hoX : rOk n X.2 := by rw [← hX]; exact rTq_ok hoY 4
    refine zS.mono (w_X9_readsTier_57 hl hm hu hn hn6 hoc ht hY hX hoY hoX) (fun o M2 q => ?_)
    obtain ⟨q1, rfl⟩ := q
    exact ⟨q1, _, _, ⟨r0, v1, ra, rb, nv, rc, h0, hv1, hra, hrb, hnv, hrc, Or.inl ⟨c, Y, X, hY, hX, rfl, rfl, by unfold rEn; exact rMu_ok hoX⟩⟩, rfl⟩
  · have n7 : gN g 2 = 4 := neq c7 (by omega) (by omega)
    have e0 : (if gN g 2 = 4 then rFl r (-7) else r) = rFl r (-7) := if_pos n7
    refine s_aload_n (zdk hX9_readsTier_0 6 rfl) rfl ?_
    refine s_bipushv (v := (-7)) (zdk hX9_readsTier_0 7 rfl) zc_bipush_m7 ?_
    refine s_callV0 (ci := 9) [.int ((-7))] (zdk hX9_readsTier_0 8 rfl) cw_X9_143 (hm.1) (by decide) rfl rfl rfl (Nat.le_of_ble_eq_true rfl) (by decide) (c_X9_fails hl hm (g := g) (r := r) (-7)) ?_
    refine s_mem (M' := (zsL (rdM M r0) 942 g)) (by rw [← h0, e0]) ?_
    obtain ⟨v1, hv1⟩ : ∃ v1, rIw u 2 r0 = v1 := ⟨_, rfl⟩
    obtain ⟨ra, hra⟩ : ∃ ra, rMu u n v1 r0 = ra := ⟨_, rfl⟩
    obtain ⟨rb, hrb⟩ : ∃ rb, rMn ra = rb := ⟨_, rfl⟩
    obtain ⟨nv, hnv⟩ : ∃ nv, rNa g u rb 11 13 (gN g 2) = nv := ⟨_, rfl⟩
    obtain ⟨rc, hrc⟩ : ∃ rc, (if nv = -1 then rb else rFl rb (-5)) = rc := ⟨_, rfl⟩
    have hoa : rOk n ra := by rw [← hra]; exact rMu_ok ho0
    have hob : rOk n rb := by rw [← hrb]; exact rMn_ok hoa
    have hoc : rOk n rc := by rw [← hrc]; split; exact hob; exact rFl_ok hob
    refine w_X9_readsTier_16 hl hm hu hn hn6 ho0 ht hv1 hra hrb hnv hrc hoa hob (fun c => ?_) (fun c => ⟨rfl, g, rc, ⟨r0, v1, ra, rb, nv, rc, h0, hv1, hra, hrb, hnv, hrc, Or.inr ⟨c, rfl, rfl, hoc⟩⟩, rfl⟩)
    obtain ⟨Y, hY⟩ : ∃ Y, rT5 u n (gN g 2) g rc = Y := ⟨_, rfl⟩
    have hoY : rOk n Y.2 := by rw [← hY]; unfold rT5; dsimp only; exact rTa_ok (rNx_ok hoc)
    obtain ⟨X, hX⟩ : ∃ X, rTq u n (gN g 2) Y 4 = X := ⟨_, rfl⟩
    have hoX : rOk n X.2 := by rw [← hX]; exact rTq_ok hoY 4
    refine zS.mono (w_X9_readsTier_57 hl hm hu hn hn6 hoc ht hY hX hoY hoX) (fun o M2 q => ?_)
    obtain ⟨q1, rfl⟩ := q
    exact ⟨q1, _, _, ⟨r0, v1, ra, rb, nv, rc, h0, hv1, hra, hrb, hnv, hrc, Or.inl ⟨c, Y, X, hY, hX, rfl, rfl, by unfold rEn; exact rMu_ok hoX⟩⟩, rfl⟩
end
