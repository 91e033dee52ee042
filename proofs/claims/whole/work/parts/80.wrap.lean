/-! ===== the law's wrappers: a call, caught ===== -/
def wQ (Q1 : zOut → zMem → Prop) (cd : Nat → Nat) : zOut → zMem → Prop := fun o M' => (∃ (x : Int32) (M1 : zMem), Q1 (.inl (some (.int x))) M1 ∧ o = .inl (some (.int (nI 0))) ∧ M' = zsJ M1 956 0 x.toInt64) ∨ (∃ x, Q1 (.inr x) M' ∧ o = .inl (some (.int (nI (cd x)))))
def wQJ (Q1 : zOut → zMem → Prop) (cd : Nat → Nat) : zOut → zMem → Prop := fun o M' => (∃ (x : Int64) (M1 : zMem), Q1 (.inl (some (.long x))) M1 ∧ o = .inl (some (.int (nI 0))) ∧ M' = zsJ M1 956 0 x) ∨ (∃ x, Q1 (.inr x) M' ∧ o = .inl (some (.int (nI (cd x)))))
def wQV (Q1 : zOut → zMem → Prop) (cd : Nat → Nat) : zOut → zMem → Prop := fun o M' => (Q1 (.inl none) M' ∧ o = .inl (some (.int (nI 0)))) ∨ (∃ x, Q1 (.inr x) M' ∧ o = .inl (some (.int (nI (cd x)))))
/-- what a wrapper asks of the call -/
def wI (Q1 : zOut → zMem → Prop) (xs : List Nat) : Prop := (∀ v M', Q1 (.inl v) M' → (∃ x : Int32, v = some (.int x)) ∧ zK M' 956 = 12 ∧ zN M' 956 = 1 ∧ zF M' = 1) ∧ ∀ x M', Q1 (.inr x) M' → x ∈ xs ∧ zF M' = 1
def wJ (Q1 : zOut → zMem → Prop) (xs : List Nat) : Prop := (∀ v M', Q1 (.inl v) M' → (∃ x : Int64, v = some (.long x)) ∧ zK M' 956 = 12 ∧ zN M' 956 = 1 ∧ zF M' = 1) ∧ ∀ x M', Q1 (.inr x) M' → x ∈ xs ∧ zF M' = 1
def wV (Q1 : zOut → zMem → Prop) (xs : List Nat) : Prop := (∀ v M', Q1 (.inl v) M' → v = none ∧ zF M' = 1) ∧ ∀ x M', Q1 (.inr x) M' → x ∈ xs ∧ zF M' = 1
theorem wQ.h {Q1 : zOut → zMem → Prop} {xs : List Nat} {cd : Nat → Nat} (h : wI Q1 xs) {o : zOut} {M' : zMem} (q : wQ Q1 cd o M') : zF M' = 1 := by
  rcases q with ⟨x, M1, q1, -, rfl⟩ | ⟨x, q1, -⟩
  · exact (h.1 _ _ q1).2.2.2
  · exact (h.2 _ _ q1).2
theorem wQJ.h {Q1 : zOut → zMem → Prop} {xs : List Nat} {cd : Nat → Nat} (h : wJ Q1 xs) {o : zOut} {M' : zMem} (q : wQJ Q1 cd o M') : zF M' = 1 := by
  rcases q with ⟨x, M1, q1, -, rfl⟩ | ⟨x, q1, -⟩
  · exact (h.1 _ _ q1).2.2.2
  · exact (h.2 _ _ q1).2
theorem wQV.h {Q1 : zOut → zMem → Prop} {xs : List Nat} {cd : Nat → Nat} (h : wV Q1 xs) {o : zOut} {M' : zMem} (q : wQV Q1 cd o M') : zF M' = 1 := by
  rcases q with ⟨q1, -⟩ | ⟨x, q1, -⟩
  · exact (h.1 _ _ q1).2
  · exact (h.2 _ _ q1).2
section
variable {l : Launch} {G : zG}
theorem c_L_append (hl : l.stackTraces = false) {M : zMem} (hK0 : zK M 0 = 8 + 1) (p0 : Int32) (p1 : Int32) (p2 : Int32) (p3 : Int32) (p4 : Int32) {Q1 : zOut → zMem → Prop} (hM : zCx2 l G mX8_append 10 400 5 30 [.ref 0, .int p0, .int p1, .int p2, .int p3, .int p4] M Q1) (hw : wI Q1 [0]) : zCh l G mL_append 11 430 5 30 [.ref 0, .int p0, .int p1, .int p2, .int p3, .int p4, .ref 956] M (wQ Q1 (fun x => 1)) := by
  refine zCh.of (ls0 := [some (.ref 0), some (.int p0), some (.int p1), some (.int p2), some (.int p3), some (.int p4), some (.ref 956), none]) (by decide +kernel) hl rfl (Nat.le_of_ble_eq_true rfl) (fun v M' q h0 => absurd (q.h hw) (by rw [h0]; decide)) (fun x M' q => by rcases q with q | q <;> simp_all) ?_
  refine s_aload (zdk hL_append 0 rfl) rfl ?_
  refine s_iconstv (v := nI 0) (zdk hL_append 1 rfl) zc_iconst_0 ?_
  refine s_aload_n (zdk hL_append 2 rfl) rfl ?_
  refine s_iload_n (zdk hL_append 3 rfl) rfl ?_
  refine s_iload_n (zdk hL_append 4 rfl) rfl ?_
  refine s_iload_n (zdk hL_append 5 rfl) rfl ?_
  refine s_iload (zdk hL_append 6 rfl) rfl ?_
  refine s_iload (zdk hL_append 7 rfl) rfl ?_
  refine s_callVH (ci := 8) (as := [.int p0, .int p1, .int p2, .int p3, .int p4]) (st := [.int (nI 0), .ref 956]) (mc := 5) (ms := 30) (bc := 0) (bs := 0) (zdk hL_append 8 rfl) cw_L_7 hK0 (by decide) rfl rfl rfl (Nat.le_of_ble_eq_true rfl) (by decide) hM (fun x M1 hq => ?_) (fun v M1 hq => ?_)
  · have hx9 := (hw.2 x M1 hq).1
    have hx8 : x = 0 := by simpa using hx9
    subst hx8
    refine ⟨[], _, _, 7, 2, rfl, (by decide), (fun u hu => by cases hu), (by decide), (by decide), clw_L_13, ca_0, (by decide), Or.inr ⟨(zdk hL_append 12 rfl), rfl⟩, ?_⟩
    show zS l G mL_append 11 430 0 0 21 _ _ _ _
    refine s_iconstv (v := nI 1) (zdk hL_append 13 rfl) zc_iconst_1 ?_
    refine s_ireturn (zdk hL_append 14 rfl) rfl rfl ?_
    exact Or.inr ⟨_, hq, rfl⟩
  · obtain ⟨⟨x, rfl⟩, hk, hn, -⟩ := hw.1 v M1 hq
    refine s_i2l (zdk hL_append 9 rfl) ?_
    refine s_lastoreN (N := 1) (j := 0) (zdk hL_append 10 rfl) hk hn (by decide) (by decide) ?_
    refine s_goto 23 (zdk hL_append 11 rfl) (by decide) ?_
    refine s_iconstv (v := nI 0) (zdk hL_append 15 rfl) zc_iconst_0 ?_
    refine s_ireturn (zdk hL_append 16 rfl) rfl rfl ?_
    exact Or.inl ⟨x, M1, hq, rfl, rfl⟩
theorem c_L_count (hl : l.stackTraces = false) {M : zMem} (hK0 : zK M 0 = 8 + 1) (p0 : Int32) {Q1 : zOut → zMem → Prop} (hM : zCx2 l G mX8_count 10 400 5 30 [.ref 0, .int p0] M Q1) (hw : wI Q1 [1]) : zCh l G mL_count 11 430 5 30 [.ref 0, .int p0, .ref 956] M (wQ Q1 (fun x => 1)) := by
  refine zCh.of (ls0 := [some (.ref 0), some (.int p0), some (.ref 956), none]) (by decide +kernel) hl rfl (Nat.le_of_ble_eq_true rfl) (fun v M' q h0 => absurd (q.h hw) (by rw [h0]; decide)) (fun x M' q => by rcases q with q | q <;> simp_all) ?_
  refine s_aload_n (zdk hL_count 0 rfl) rfl ?_
  refine s_iconstv (v := nI 0) (zdk hL_count 1 rfl) zc_iconst_0 ?_
  refine s_aload_n (zdk hL_count 2 rfl) rfl ?_
  refine s_iload_n (zdk hL_count 3 rfl) rfl ?_
  refine s_callVH (ci := 8) (as := [.int p0]) (st := [.int (nI 0), .ref 956]) (mc := 5) (ms := 30) (bc := 0) (bs := 0) (zdk hL_count 4 rfl) cw_L_15 hK0 (by decide) rfl rfl rfl (Nat.le_of_ble_eq_true rfl) (by decide) hM (fun x M1 hq => ?_) (fun v M1 hq => ?_)
  · have hx9 := (hw.2 x M1 hq).1
    have hx8 : x = 1 := by simpa using hx9
    subst hx8
    refine ⟨[], _, _, 3, 1, rfl, (by decide), (fun u hu => by cases hu), (by decide), (by decide), clw_L_19, ca_1, (by decide), Or.inl ⟨3, rfl, (zdk hL_count 8 rfl), rfl⟩, ?_⟩
    show zS l G mL_count 11 430 0 0 13 _ _ _ _
    refine s_iconstv (v := nI 1) (zdk hL_count 9 rfl) zc_iconst_1 ?_
    refine s_ireturn (zdk hL_count 10 rfl) rfl rfl ?_
    exact Or.inr ⟨_, hq, rfl⟩
  · obtain ⟨⟨x, rfl⟩, hk, hn, -⟩ := hw.1 v M1 hq
    refine s_i2l (zdk hL_count 5 rfl) ?_
    refine s_lastoreN (N := 1) (j := 0) (zdk hL_count 6 rfl) hk hn (by decide) (by decide) ?_
    refine s_goto 15 (zdk hL_count 7 rfl) (by decide) ?_
    refine s_iconstv (v := nI 0) (zdk hL_count 11 rfl) zc_iconst_0 ?_
    refine s_ireturn (zdk hL_count 12 rfl) rfl rfl ?_
    exact Or.inl ⟨x, M1, hq, rfl, rfl⟩
theorem c_L_tier (hl : l.stackTraces = false) {M : zMem} (hK0 : zK M 0 = 8 + 1) (p0 : Int32) (p1 : Int32) {Q1 : zOut → zMem → Prop} (hM : zCx2 l G mX8_tier 10 400 5 30 [.ref 0, .int p0, .int p1] M Q1) (hw : wI Q1 [2, 1]) : zCh l G mL_tier 11 430 5 30 [.ref 0, .int p0, .int p1, .ref 956] M (wQ Q1 (fun x => if x = 2 then 1 else 2)) := by
  refine zCh.of (ls0 := [some (.ref 0), some (.int p0), some (.int p1), some (.ref 956), none]) (by decide +kernel) hl rfl (Nat.le_of_ble_eq_true rfl) (fun v M' q h0 => absurd (q.h hw) (by rw [h0]; decide)) (fun x M' q => by rcases q with q | q <;> simp_all) ?_
  refine s_aload_n (zdk hL_tier 0 rfl) rfl ?_
  refine s_iconstv (v := nI 0) (zdk hL_tier 1 rfl) zc_iconst_0 ?_
  refine s_aload_n (zdk hL_tier 2 rfl) rfl ?_
  refine s_iload_n (zdk hL_tier 3 rfl) rfl ?_
  refine s_iload_n (zdk hL_tier 4 rfl) rfl ?_
  refine s_callVH (ci := 8) (as := [.int p0, .int p1]) (st := [.int (nI 0), .ref 956]) (mc := 5) (ms := 30) (bc := 0) (bs := 0) (zdk hL_tier 5 rfl) cw_L_21 hK0 (by decide) rfl rfl rfl (Nat.le_of_ble_eq_true rfl) (by decide) hM (fun x M1 hq => ?_) (fun v M1 hq => ?_)
  · have hx9 := (hw.2 x M1 hq).1
    have hx8 : x = 2 ∨ x = 1 := by simpa using hx9
    rcases hx8 with rfl | rfl
    · refine ⟨[], _, _, 4, 2, rfl, (by decide), (fun u hu => by cases hu), (by decide), (by decide), clw_L_25, ca_2, (by decide), Or.inr ⟨(zdk hL_tier 9 rfl), rfl⟩, ?_⟩
      show zS l G mL_tier 11 430 0 0 15 _ _ _ _
      refine s_iconstv (v := nI 1) (zdk hL_tier 10 rfl) zc_iconst_1 ?_
      refine s_ireturn (zdk hL_tier 11 rfl) rfl rfl ?_
      exact Or.inr ⟨_, hq, rfl⟩
    · refine ⟨[_], _, _, 4, 2, rfl, (by decide), (fun u hu => by rw [List.mem_singleton.mp hu]; exact ⟨2, by decide, by decide, by decide, clw_L_25⟩), (by decide), (by decide), clw_L_19, ca_1, (by decide), Or.inr ⟨(zdk hL_tier 12 rfl), rfl⟩, ?_⟩
      show zS l G mL_tier 11 430 0 0 19 _ _ _ _
      refine s_iconstv (v := nI 2) (zdk hL_tier 13 rfl) zc_iconst_2 ?_
      refine s_ireturn (zdk hL_tier 14 rfl) rfl rfl ?_
      exact Or.inr ⟨_, hq, rfl⟩
  · obtain ⟨⟨x, rfl⟩, hk, hn, -⟩ := hw.1 v M1 hq
    refine s_i2l (zdk hL_tier 6 rfl) ?_
    refine s_lastoreN (N := 1) (j := 0) (zdk hL_tier 7 rfl) hk hn (by decide) (by decide) ?_
    refine s_goto 21 (zdk hL_tier 8 rfl) (by decide) ?_
    refine s_iconstv (v := nI 0) (zdk hL_tier 15 rfl) zc_iconst_0 ?_
    refine s_ireturn (zdk hL_tier 16 rfl) rfl rfl ?_
    exact Or.inl ⟨x, M1, hq, rfl, rfl⟩
theorem c_L_file (hl : l.stackTraces = false) {M : zMem} (hK0 : zK M 0 = 8 + 1) (p0 : Int32) (p1 : Int32) {Q1 : zOut → zMem → Prop} (hM : zCx2 l G mX8_file 10 400 5 30 [.ref 0, .int p0, .int p1] M Q1) (hw : wI Q1 [2, 1]) : zCh l G mL_file 11 430 5 30 [.ref 0, .int p0, .int p1, .ref 956] M (wQ Q1 (fun x => if x = 2 then 1 else 2)) := by
  refine zCh.of (ls0 := [some (.ref 0), some (.int p0), some (.int p1), some (.ref 956), none]) (by decide +kernel) hl rfl (Nat.le_of_ble_eq_true rfl) (fun v M' q h0 => absurd (q.h hw) (by rw [h0]; decide)) (fun x M' q => by rcases q with q | q <;> simp_all) ?_
  refine s_aload_n (zdk hL_file 0 rfl) rfl ?_
  refine s_iconstv (v := nI 0) (zdk hL_file 1 rfl) zc_iconst_0 ?_
  refine s_aload_n (zdk hL_file 2 rfl) rfl ?_
  refine s_iload_n (zdk hL_file 3 rfl) rfl ?_
  refine s_iload_n (zdk hL_file 4 rfl) rfl ?_
  refine s_callVH (ci := 8) (as := [.int p0, .int p1]) (st := [.int (nI 0), .ref 956]) (mc := 5) (ms := 30) (bc := 0) (bs := 0) (zdk hL_file 5 rfl) cw_L_27 hK0 (by decide) rfl rfl rfl (Nat.le_of_ble_eq_true rfl) (by decide) hM (fun x M1 hq => ?_) (fun v M1 hq => ?_)
  · have hx9 := (hw.2 x M1 hq).1
    have hx8 : x = 2 ∨ x = 1 := by simpa using hx9
    rcases hx8 with rfl | rfl
    · refine ⟨[], _, _, 4, 2, rfl, (by decide), (fun u hu => by cases hu), (by decide), (by decide), clw_L_25, ca_2, (by decide), Or.inr ⟨(zdk hL_file 9 rfl), rfl⟩, ?_⟩
      show zS l G mL_file 11 430 0 0 15 _ _ _ _
      refine s_iconstv (v := nI 1) (zdk hL_file 10 rfl) zc_iconst_1 ?_
      refine s_ireturn (zdk hL_file 11 rfl) rfl rfl ?_
      exact Or.inr ⟨_, hq, rfl⟩
    · refine ⟨[_], _, _, 4, 2, rfl, (by decide), (fun u hu => by rw [List.mem_singleton.mp hu]; exact ⟨2, by decide, by decide, by decide, clw_L_25⟩), (by decide), (by decide), clw_L_19, ca_1, (by decide), Or.inr ⟨(zdk hL_file 12 rfl), rfl⟩, ?_⟩
      show zS l G mL_file 11 430 0 0 19 _ _ _ _
      refine s_iconstv (v := nI 2) (zdk hL_file 13 rfl) zc_iconst_2 ?_
      refine s_ireturn (zdk hL_file 14 rfl) rfl rfl ?_
      exact Or.inr ⟨_, hq, rfl⟩
  · obtain ⟨⟨x, rfl⟩, hk, hn, -⟩ := hw.1 v M1 hq
    refine s_i2l (zdk hL_file 6 rfl) ?_
    refine s_lastoreN (N := 1) (j := 0) (zdk hL_file 7 rfl) hk hn (by decide) (by decide) ?_
    refine s_goto 21 (zdk hL_file 8 rfl) (by decide) ?_
    refine s_iconstv (v := nI 0) (zdk hL_file 15 rfl) zc_iconst_0 ?_
    refine s_ireturn (zdk hL_file 16 rfl) rfl rfl ?_
    exact Or.inl ⟨x, M1, hq, rfl, rfl⟩
theorem c_L_season (hl : l.stackTraces = false) {M : zMem} (hK0 : zK M 0 = 8 + 1) (p0 : Int32) (p1 : Int32) {Q1 : zOut → zMem → Prop} (hM : zCx2 l G mX8_season 10 400 5 30 [.ref 0, .int p0, .int p1] M Q1) (hw : wI Q1 [2]) : zCh l G mL_season 11 430 5 30 [.ref 0, .int p0, .int p1, .ref 956] M (wQ Q1 (fun x => 1)) := by
  refine zCh.of (ls0 := [some (.ref 0), some (.int p0), some (.int p1), some (.ref 956), none]) (by decide +kernel) hl rfl (Nat.le_of_ble_eq_true rfl) (fun v M' q h0 => absurd (q.h hw) (by rw [h0]; decide)) (fun x M' q => by rcases q with q | q <;> simp_all) ?_
  refine s_aload_n (zdk hL_season 0 rfl) rfl ?_
  refine s_iconstv (v := nI 0) (zdk hL_season 1 rfl) zc_iconst_0 ?_
  refine s_aload_n (zdk hL_season 2 rfl) rfl ?_
  refine s_iload_n (zdk hL_season 3 rfl) rfl ?_
  refine s_iload_n (zdk hL_season 4 rfl) rfl ?_
  refine s_callVH (ci := 8) (as := [.int p0, .int p1]) (st := [.int (nI 0), .ref 956]) (mc := 5) (ms := 30) (bc := 0) (bs := 0) (zdk hL_season 5 rfl) cw_L_30 hK0 (by decide) rfl rfl rfl (Nat.le_of_ble_eq_true rfl) (by decide) hM (fun x M1 hq => ?_) (fun v M1 hq => ?_)
  · have hx9 := (hw.2 x M1 hq).1
    have hx8 : x = 2 := by simpa using hx9
    subst hx8
    refine ⟨[], _, _, 4, 2, rfl, (by decide), (fun u hu => by cases hu), (by decide), (by decide), clw_L_25, ca_2, (by decide), Or.inr ⟨(zdk hL_season 9 rfl), rfl⟩, ?_⟩
    show zS l G mL_season 11 430 0 0 15 _ _ _ _
    refine s_iconstv (v := nI 1) (zdk hL_season 10 rfl) zc_iconst_1 ?_
    refine s_ireturn (zdk hL_season 11 rfl) rfl rfl ?_
    exact Or.inr ⟨_, hq, rfl⟩
  · obtain ⟨⟨x, rfl⟩, hk, hn, -⟩ := hw.1 v M1 hq
    refine s_i2l (zdk hL_season 6 rfl) ?_
    refine s_lastoreN (N := 1) (j := 0) (zdk hL_season 7 rfl) hk hn (by decide) (by decide) ?_
    refine s_goto 17 (zdk hL_season 8 rfl) (by decide) ?_
    refine s_iconstv (v := nI 0) (zdk hL_season 12 rfl) zc_iconst_0 ?_
    refine s_ireturn (zdk hL_season 13 rfl) rfl rfl ?_
    exact Or.inl ⟨x, M1, hq, rfl, rfl⟩
theorem c_L_kept (hl : l.stackTraces = false) {M : zMem} (hK0 : zK M 0 = 8 + 1) (p0 : Int32) (p1 : Int32) {Q1 : zOut → zMem → Prop} (hM : zCx2 l G mX8_kept 10 400 5 30 [.ref 0, .int p0, .int p1] M Q1) (hw : wI Q1 [2]) : zCh l G mL_kept 11 430 5 30 [.ref 0, .int p0, .int p1, .ref 956] M (wQ Q1 (fun x => 1)) := by
  refine zCh.of (ls0 := [some (.ref 0), some (.int p0), some (.int p1), some (.ref 956), none]) (by decide +kernel) hl rfl (Nat.le_of_ble_eq_true rfl) (fun v M' q h0 => absurd (q.h hw) (by rw [h0]; decide)) (fun x M' q => by rcases q with q | q <;> simp_all) ?_
  refine s_aload_n (zdk hL_kept 0 rfl) rfl ?_
  refine s_iconstv (v := nI 0) (zdk hL_kept 1 rfl) zc_iconst_0 ?_
  refine s_aload_n (zdk hL_kept 2 rfl) rfl ?_
  refine s_iload_n (zdk hL_kept 3 rfl) rfl ?_
  refine s_iload_n (zdk hL_kept 4 rfl) rfl ?_
  refine s_callVH (ci := 8) (as := [.int p0, .int p1]) (st := [.int (nI 0), .ref 956]) (mc := 5) (ms := 30) (bc := 0) (bs := 0) (zdk hL_kept 5 rfl) cw_L_33 hK0 (by decide) rfl rfl rfl (Nat.le_of_ble_eq_true rfl) (by decide) hM (fun x M1 hq => ?_) (fun v M1 hq => ?_)
  · have hx9 := (hw.2 x M1 hq).1
    have hx8 : x = 2 := by simpa using hx9
    subst hx8
    refine ⟨[], _, _, 4, 2, rfl, (by decide), (fun u hu => by cases hu), (by decide), (by decide), clw_L_25, ca_2, (by decide), Or.inr ⟨(zdk hL_kept 9 rfl), rfl⟩, ?_⟩
    show zS l G mL_kept 11 430 0 0 15 _ _ _ _
    refine s_iconstv (v := nI 1) (zdk hL_kept 10 rfl) zc_iconst_1 ?_
    refine s_ireturn (zdk hL_kept 11 rfl) rfl rfl ?_
    exact Or.inr ⟨_, hq, rfl⟩
  · obtain ⟨⟨x, rfl⟩, hk, hn, -⟩ := hw.1 v M1 hq
    refine s_i2l (zdk hL_kept 6 rfl) ?_
    refine s_lastoreN (N := 1) (j := 0) (zdk hL_kept 7 rfl) hk hn (by decide) (by decide) ?_
    refine s_goto 17 (zdk hL_kept 8 rfl) (by decide) ?_
    refine s_iconstv (v := nI 0) (zdk hL_kept 12 rfl) zc_iconst_0 ?_
    refine s_ireturn (zdk hL_kept 13 rfl) rfl rfl ?_
    exact Or.inl ⟨x, M1, hq, rfl, rfl⟩
theorem c_L_forecast (hl : l.stackTraces = false) {M : zMem} (hK0 : zK M 0 = 8 + 1) (p0 : Int32) (p1 : Int32) {Q1 : zOut → zMem → Prop} (hM : zCx2 l G mX8_forecast 10 400 5 30 [.ref 0, .int p0, .int p1] M Q1) (hw : wI Q1 [2, 1]) : zCh l G mL_forecast 11 430 5 30 [.ref 0, .int p0, .int p1, .ref 956] M (wQ Q1 (fun x => if x = 2 then 1 else 2)) := by
  refine zCh.of (ls0 := [some (.ref 0), some (.int p0), some (.int p1), some (.ref 956), none]) (by decide +kernel) hl rfl (Nat.le_of_ble_eq_true rfl) (fun v M' q h0 => absurd (q.h hw) (by rw [h0]; decide)) (fun x M' q => by rcases q with q | q <;> simp_all) ?_
  refine s_aload_n (zdk hL_forecast 0 rfl) rfl ?_
  refine s_iconstv (v := nI 0) (zdk hL_forecast 1 rfl) zc_iconst_0 ?_
  refine s_aload_n (zdk hL_forecast 2 rfl) rfl ?_
  refine s_iload_n (zdk hL_forecast 3 rfl) rfl ?_
  refine s_iload_n (zdk hL_forecast 4 rfl) rfl ?_
  refine s_callVH (ci := 8) (as := [.int p0, .int p1]) (st := [.int (nI 0), .ref 956]) (mc := 5) (ms := 30) (bc := 0) (bs := 0) (zdk hL_forecast 5 rfl) cw_L_36 hK0 (by decide) rfl rfl rfl (Nat.le_of_ble_eq_true rfl) (by decide) hM (fun x M1 hq => ?_) (fun v M1 hq => ?_)
  · have hx9 := (hw.2 x M1 hq).1
    have hx8 : x = 2 ∨ x = 1 := by simpa using hx9
    rcases hx8 with rfl | rfl
    · refine ⟨[], _, _, 4, 2, rfl, (by decide), (fun u hu => by cases hu), (by decide), (by decide), clw_L_25, ca_2, (by decide), Or.inr ⟨(zdk hL_forecast 9 rfl), rfl⟩, ?_⟩
      show zS l G mL_forecast 11 430 0 0 15 _ _ _ _
      refine s_iconstv (v := nI 1) (zdk hL_forecast 10 rfl) zc_iconst_1 ?_
      refine s_ireturn (zdk hL_forecast 11 rfl) rfl rfl ?_
      exact Or.inr ⟨_, hq, rfl⟩
    · refine ⟨[_], _, _, 4, 2, rfl, (by decide), (fun u hu => by rw [List.mem_singleton.mp hu]; exact ⟨2, by decide, by decide, by decide, clw_L_25⟩), (by decide), (by decide), clw_L_19, ca_1, (by decide), Or.inr ⟨(zdk hL_forecast 12 rfl), rfl⟩, ?_⟩
      show zS l G mL_forecast 11 430 0 0 19 _ _ _ _
      refine s_iconstv (v := nI 2) (zdk hL_forecast 13 rfl) zc_iconst_2 ?_
      refine s_ireturn (zdk hL_forecast 14 rfl) rfl rfl ?_
      exact Or.inr ⟨_, hq, rfl⟩
  · obtain ⟨⟨x, rfl⟩, hk, hn, -⟩ := hw.1 v M1 hq
    refine s_i2l (zdk hL_forecast 6 rfl) ?_
    refine s_lastoreN (N := 1) (j := 0) (zdk hL_forecast 7 rfl) hk hn (by decide) (by decide) ?_
    refine s_goto 21 (zdk hL_forecast 8 rfl) (by decide) ?_
    refine s_iconstv (v := nI 0) (zdk hL_forecast 15 rfl) zc_iconst_0 ?_
    refine s_ireturn (zdk hL_forecast 16 rfl) rfl rfl ?_
    exact Or.inl ⟨x, M1, hq, rfl, rfl⟩
theorem c_L_off (hl : l.stackTraces = false) {M : zMem} (hK0 : zK M 0 = 8 + 1) (p0 : Int32) {Q1 : zOut → zMem → Prop} (hM : zCx2 l G mX8_off 10 400 5 30 [.ref 0, .int p0] M Q1) (hw : wJ Q1 [2]) : zCh l G mL_off 11 430 5 30 [.ref 0, .int p0, .ref 956] M (wQJ Q1 (fun x => 1)) := by
  refine zCh.of (ls0 := [some (.ref 0), some (.int p0), some (.ref 956), none]) (by decide +kernel) hl rfl (Nat.le_of_ble_eq_true rfl) (fun v M' q h0 => absurd (q.h hw) (by rw [h0]; decide)) (fun x M' q => by rcases q with q | q <;> simp_all) ?_
  refine s_aload_n (zdk hL_off 0 rfl) rfl ?_
  refine s_iconstv (v := nI 0) (zdk hL_off 1 rfl) zc_iconst_0 ?_
  refine s_aload_n (zdk hL_off 2 rfl) rfl ?_
  refine s_iload_n (zdk hL_off 3 rfl) rfl ?_
  refine s_callVH (ci := 8) (as := [.int p0]) (st := [.int (nI 0), .ref 956]) (mc := 5) (ms := 30) (bc := 0) (bs := 0) (zdk hL_off 4 rfl) cw_L_39 hK0 (by decide) rfl rfl rfl (Nat.le_of_ble_eq_true rfl) (by decide) hM (fun x M1 hq => ?_) (fun v M1 hq => ?_)
  · have hx9 := (hw.2 x M1 hq).1
    have hx8 : x = 2 := by simpa using hx9
    subst hx8
    refine ⟨[], _, _, 3, 1, rfl, (by decide), (fun u hu => by cases hu), (by decide), (by decide), clw_L_25, ca_2, (by decide), Or.inl ⟨3, rfl, (zdk hL_off 7 rfl), rfl⟩, ?_⟩
    show zS l G mL_off 11 430 0 0 12 _ _ _ _
    refine s_iconstv (v := nI 1) (zdk hL_off 8 rfl) zc_iconst_1 ?_
    refine s_ireturn (zdk hL_off 9 rfl) rfl rfl ?_
    exact Or.inr ⟨_, hq, rfl⟩
  · obtain ⟨⟨x, rfl⟩, hk, hn, -⟩ := hw.1 v M1 hq
    refine s_lastoreN (N := 1) (j := 0) (zdk hL_off 5 rfl) hk hn (by decide) (by decide) ?_
    refine s_goto 14 (zdk hL_off 6 rfl) (by decide) ?_
    refine s_iconstv (v := nI 0) (zdk hL_off 10 rfl) zc_iconst_0 ?_
    refine s_ireturn (zdk hL_off 11 rfl) rfl rfl ?_
    exact Or.inl ⟨x, M1, hq, rfl, rfl⟩
theorem c_L_cycleOf (hl : l.stackTraces = false) {M : zMem} (hK0 : zK M 0 = 8 + 1) (p0 : Int32) {Q1 : zOut → zMem → Prop} (hM : zCx2 l G mX8_cycleOf 10 400 5 30 [.ref 0, .int p0] M Q1) (hw : wI Q1 [2]) : zCh l G mL_cycleOf 11 430 5 30 [.ref 0, .int p0, .ref 956] M (wQ Q1 (fun x => 1)) := by
  refine zCh.of (ls0 := [some (.ref 0), some (.int p0), some (.ref 956), none]) (by decide +kernel) hl rfl (Nat.le_of_ble_eq_true rfl) (fun v M' q h0 => absurd (q.h hw) (by rw [h0]; decide)) (fun x M' q => by rcases q with q | q <;> simp_all) ?_
  refine s_aload_n (zdk hL_cycleOf 0 rfl) rfl ?_
  refine s_iconstv (v := nI 0) (zdk hL_cycleOf 1 rfl) zc_iconst_0 ?_
  refine s_aload_n (zdk hL_cycleOf 2 rfl) rfl ?_
  refine s_iload_n (zdk hL_cycleOf 3 rfl) rfl ?_
  refine s_callVH (ci := 8) (as := [.int p0]) (st := [.int (nI 0), .ref 956]) (mc := 5) (ms := 30) (bc := 0) (bs := 0) (zdk hL_cycleOf 4 rfl) cw_L_43 hK0 (by decide) rfl rfl rfl (Nat.le_of_ble_eq_true rfl) (by decide) hM (fun x M1 hq => ?_) (fun v M1 hq => ?_)
  · have hx9 := (hw.2 x M1 hq).1
    have hx8 : x = 2 := by simpa using hx9
    subst hx8
    refine ⟨[], _, _, 3, 1, rfl, (by decide), (fun u hu => by cases hu), (by decide), (by decide), clw_L_25, ca_2, (by decide), Or.inl ⟨3, rfl, (zdk hL_cycleOf 8 rfl), rfl⟩, ?_⟩
    show zS l G mL_cycleOf 11 430 0 0 13 _ _ _ _
    refine s_iconstv (v := nI 1) (zdk hL_cycleOf 9 rfl) zc_iconst_1 ?_
    refine s_ireturn (zdk hL_cycleOf 10 rfl) rfl rfl ?_
    exact Or.inr ⟨_, hq, rfl⟩
  · obtain ⟨⟨x, rfl⟩, hk, hn, -⟩ := hw.1 v M1 hq
    refine s_i2l (zdk hL_cycleOf 5 rfl) ?_
    refine s_lastoreN (N := 1) (j := 0) (zdk hL_cycleOf 6 rfl) hk hn (by decide) (by decide) ?_
    refine s_goto 15 (zdk hL_cycleOf 7 rfl) (by decide) ?_
    refine s_iconstv (v := nI 0) (zdk hL_cycleOf 11 rfl) zc_iconst_0 ?_
    refine s_ireturn (zdk hL_cycleOf 12 rfl) rfl rfl ?_
    exact Or.inl ⟨x, M1, hq, rfl, rfl⟩
theorem c_L_account (hl : l.stackTraces = false) {M : zMem} (hK0 : zK M 0 = 8 + 1) (p0 : Int32) (p1 : Int32) {Q1 : zOut → zMem → Prop} (hM : zCx2 l G mX8_account 10 400 5 30 [.ref 0, .int p0, .int p1] M Q1) (hw : wJ Q1 [2, 1]) : zCh l G mL_account 11 430 5 30 [.ref 0, .int p0, .int p1, .ref 956] M (wQJ Q1 (fun x => if x = 2 then 1 else 2)) := by
  refine zCh.of (ls0 := [some (.ref 0), some (.int p0), some (.int p1), some (.ref 956), none]) (by decide +kernel) hl rfl (Nat.le_of_ble_eq_true rfl) (fun v M' q h0 => absurd (q.h hw) (by rw [h0]; decide)) (fun x M' q => by rcases q with q | q <;> simp_all) ?_
  refine s_aload_n (zdk hL_account 0 rfl) rfl ?_
  refine s_iconstv (v := nI 0) (zdk hL_account 1 rfl) zc_iconst_0 ?_
  refine s_aload_n (zdk hL_account 2 rfl) rfl ?_
  refine s_iload_n (zdk hL_account 3 rfl) rfl ?_
  refine s_iload_n (zdk hL_account 4 rfl) rfl ?_
  refine s_callVH (ci := 8) (as := [.int p0, .int p1]) (st := [.int (nI 0), .ref 956]) (mc := 5) (ms := 30) (bc := 0) (bs := 0) (zdk hL_account 5 rfl) cw_L_46 hK0 (by decide) rfl rfl rfl (Nat.le_of_ble_eq_true rfl) (by decide) hM (fun x M1 hq => ?_) (fun v M1 hq => ?_)
  · have hx9 := (hw.2 x M1 hq).1
    have hx8 : x = 2 ∨ x = 1 := by simpa using hx9
    rcases hx8 with rfl | rfl
    · refine ⟨[], _, _, 4, 2, rfl, (by decide), (fun u hu => by cases hu), (by decide), (by decide), clw_L_25, ca_2, (by decide), Or.inr ⟨(zdk hL_account 8 rfl), rfl⟩, ?_⟩
      show zS l G mL_account 11 430 0 0 14 _ _ _ _
      refine s_iconstv (v := nI 1) (zdk hL_account 9 rfl) zc_iconst_1 ?_
      refine s_ireturn (zdk hL_account 10 rfl) rfl rfl ?_
      exact Or.inr ⟨_, hq, rfl⟩
    · refine ⟨[_], _, _, 4, 2, rfl, (by decide), (fun u hu => by rw [List.mem_singleton.mp hu]; exact ⟨2, by decide, by decide, by decide, clw_L_25⟩), (by decide), (by decide), clw_L_19, ca_1, (by decide), Or.inr ⟨(zdk hL_account 11 rfl), rfl⟩, ?_⟩
      show zS l G mL_account 11 430 0 0 18 _ _ _ _
      refine s_iconstv (v := nI 2) (zdk hL_account 12 rfl) zc_iconst_2 ?_
      refine s_ireturn (zdk hL_account 13 rfl) rfl rfl ?_
      exact Or.inr ⟨_, hq, rfl⟩
  · obtain ⟨⟨x, rfl⟩, hk, hn, -⟩ := hw.1 v M1 hq
    refine s_lastoreN (N := 1) (j := 0) (zdk hL_account 6 rfl) hk hn (by decide) (by decide) ?_
    refine s_goto 20 (zdk hL_account 7 rfl) (by decide) ?_
    refine s_iconstv (v := nI 0) (zdk hL_account 14 rfl) zc_iconst_0 ?_
    refine s_ireturn (zdk hL_account 15 rfl) rfl rfl ?_
    exact Or.inl ⟨x, M1, hq, rfl, rfl⟩
theorem c_L_cost (hl : l.stackTraces = false) {M : zMem} (hK0 : zK M 0 = 8 + 1) (p0 : Int32) (p1 : Int32) (p2 : Int32) {Q1 : zOut → zMem → Prop} (hM : zCx2 l G mX8_cost 10 400 5 30 [.ref 0, .int p0, .int p1, .int p2] M Q1) (hw : wJ Q1 [2, 1]) : zCh l G mL_cost 11 430 5 30 [.ref 0, .int p0, .int p1, .int p2, .ref 956] M (wQJ Q1 (fun x => if x = 2 then 1 else 2)) := by
  refine zCh.of (ls0 := [some (.ref 0), some (.int p0), some (.int p1), some (.int p2), some (.ref 956), none]) (by decide +kernel) hl rfl (Nat.le_of_ble_eq_true rfl) (fun v M' q h0 => absurd (q.h hw) (by rw [h0]; decide)) (fun x M' q => by rcases q with q | q <;> simp_all) ?_
  refine s_aload (zdk hL_cost 0 rfl) rfl ?_
  refine s_iconstv (v := nI 0) (zdk hL_cost 1 rfl) zc_iconst_0 ?_
  refine s_aload_n (zdk hL_cost 2 rfl) rfl ?_
  refine s_iload_n (zdk hL_cost 3 rfl) rfl ?_
  refine s_iload_n (zdk hL_cost 4 rfl) rfl ?_
  refine s_iload_n (zdk hL_cost 5 rfl) rfl ?_
  refine s_callVH (ci := 8) (as := [.int p0, .int p1, .int p2]) (st := [.int (nI 0), .ref 956]) (mc := 5) (ms := 30) (bc := 0) (bs := 0) (zdk hL_cost 6 rfl) cw_L_50 hK0 (by decide) rfl rfl rfl (Nat.le_of_ble_eq_true rfl) (by decide) hM (fun x M1 hq => ?_) (fun v M1 hq => ?_)
  · have hx9 := (hw.2 x M1 hq).1
    have hx8 : x = 2 ∨ x = 1 := by simpa using hx9
    rcases hx8 with rfl | rfl
    · refine ⟨[], _, _, 5, 2, rfl, (by decide), (fun u hu => by cases hu), (by decide), (by decide), clw_L_25, ca_2, (by decide), Or.inr ⟨(zdk hL_cost 9 rfl), rfl⟩, ?_⟩
      show zS l G mL_cost 11 430 0 0 16 _ _ _ _
      refine s_iconstv (v := nI 1) (zdk hL_cost 10 rfl) zc_iconst_1 ?_
      refine s_ireturn (zdk hL_cost 11 rfl) rfl rfl ?_
      exact Or.inr ⟨_, hq, rfl⟩
    · refine ⟨[_], _, _, 5, 2, rfl, (by decide), (fun u hu => by rw [List.mem_singleton.mp hu]; exact ⟨2, by decide, by decide, by decide, clw_L_25⟩), (by decide), (by decide), clw_L_19, ca_1, (by decide), Or.inr ⟨(zdk hL_cost 12 rfl), rfl⟩, ?_⟩
      show zS l G mL_cost 11 430 0 0 20 _ _ _ _
      refine s_iconstv (v := nI 2) (zdk hL_cost 13 rfl) zc_iconst_2 ?_
      refine s_ireturn (zdk hL_cost 14 rfl) rfl rfl ?_
      exact Or.inr ⟨_, hq, rfl⟩
  · obtain ⟨⟨x, rfl⟩, hk, hn, -⟩ := hw.1 v M1 hq
    refine s_lastoreN (N := 1) (j := 0) (zdk hL_cost 7 rfl) hk hn (by decide) (by decide) ?_
    refine s_goto 22 (zdk hL_cost 8 rfl) (by decide) ?_
    refine s_iconstv (v := nI 0) (zdk hL_cost 15 rfl) zc_iconst_0 ?_
    refine s_ireturn (zdk hL_cost 16 rfl) rfl rfl ?_
    exact Or.inl ⟨x, M1, hq, rfl, rfl⟩
theorem c_L_wish (hl : l.stackTraces = false) {M : zMem} (hK0 : zK M 0 = 8 + 1) (p0 : Int32) (p1 : Int32) {Q1 : zOut → zMem → Prop} (hM : zCx2 l G mX8_wish 10 400 5 30 [.ref 0, .int p0, .int p1] M Q1) (hw : wI Q1 [2, 1]) : zCh l G mL_wish 11 430 5 30 [.ref 0, .int p0, .int p1, .ref 956] M (wQ Q1 (fun x => if x = 2 then 1 else 2)) := by
  refine zCh.of (ls0 := [some (.ref 0), some (.int p0), some (.int p1), some (.ref 956), none]) (by decide +kernel) hl rfl (Nat.le_of_ble_eq_true rfl) (fun v M' q h0 => absurd (q.h hw) (by rw [h0]; decide)) (fun x M' q => by rcases q with q | q <;> simp_all) ?_
  refine s_aload_n (zdk hL_wish 0 rfl) rfl ?_
  refine s_iconstv (v := nI 0) (zdk hL_wish 1 rfl) zc_iconst_0 ?_
  refine s_aload_n (zdk hL_wish 2 rfl) rfl ?_
  refine s_iload_n (zdk hL_wish 3 rfl) rfl ?_
  refine s_iload_n (zdk hL_wish 4 rfl) rfl ?_
  refine s_callVH (ci := 8) (as := [.int p0, .int p1]) (st := [.int (nI 0), .ref 956]) (mc := 5) (ms := 30) (bc := 0) (bs := 0) (zdk hL_wish 5 rfl) cw_L_54 hK0 (by decide) rfl rfl rfl (Nat.le_of_ble_eq_true rfl) (by decide) hM (fun x M1 hq => ?_) (fun v M1 hq => ?_)
  · have hx9 := (hw.2 x M1 hq).1
    have hx8 : x = 2 ∨ x = 1 := by simpa using hx9
    rcases hx8 with rfl | rfl
    · refine ⟨[], _, _, 4, 2, rfl, (by decide), (fun u hu => by cases hu), (by decide), (by decide), clw_L_25, ca_2, (by decide), Or.inr ⟨(zdk hL_wish 9 rfl), rfl⟩, ?_⟩
      show zS l G mL_wish 11 430 0 0 15 _ _ _ _
      refine s_iconstv (v := nI 1) (zdk hL_wish 10 rfl) zc_iconst_1 ?_
      refine s_ireturn (zdk hL_wish 11 rfl) rfl rfl ?_
      exact Or.inr ⟨_, hq, rfl⟩
    · refine ⟨[_], _, _, 4, 2, rfl, (by decide), (fun u hu => by rw [List.mem_singleton.mp hu]; exact ⟨2, by decide, by decide, by decide, clw_L_25⟩), (by decide), (by decide), clw_L_19, ca_1, (by decide), Or.inr ⟨(zdk hL_wish 12 rfl), rfl⟩, ?_⟩
      show zS l G mL_wish 11 430 0 0 19 _ _ _ _
      refine s_iconstv (v := nI 2) (zdk hL_wish 13 rfl) zc_iconst_2 ?_
      refine s_ireturn (zdk hL_wish 14 rfl) rfl rfl ?_
      exact Or.inr ⟨_, hq, rfl⟩
  · obtain ⟨⟨x, rfl⟩, hk, hn, -⟩ := hw.1 v M1 hq
    refine s_i2l (zdk hL_wish 6 rfl) ?_
    refine s_lastoreN (N := 1) (j := 0) (zdk hL_wish 7 rfl) hk hn (by decide) (by decide) ?_
    refine s_goto 21 (zdk hL_wish 8 rfl) (by decide) ?_
    refine s_iconstv (v := nI 0) (zdk hL_wish 15 rfl) zc_iconst_0 ?_
    refine s_ireturn (zdk hL_wish 16 rfl) rfl rfl ?_
    exact Or.inl ⟨x, M1, hq, rfl, rfl⟩
theorem c_L_steps (hl : l.stackTraces = false) {M : zMem} (hK0 : zK M 0 = 8 + 1) (p0 : Int32) {Q1 : zOut → zMem → Prop} (hM : zCx2 l G mX8_steps 10 400 5 30 [.ref 0, .int p0] M Q1) (hw : wI Q1 [1]) : zCh l G mL_steps 11 430 5 30 [.ref 0, .int p0, .ref 956] M (wQ Q1 (fun x => 1)) := by
  refine zCh.of (ls0 := [some (.ref 0), some (.int p0), some (.ref 956), none]) (by decide +kernel) hl rfl (Nat.le_of_ble_eq_true rfl) (fun v M' q h0 => absurd (q.h hw) (by rw [h0]; decide)) (fun x M' q => by rcases q with q | q <;> simp_all) ?_
  refine s_aload_n (zdk hL_steps 0 rfl) rfl ?_
  refine s_iconstv (v := nI 0) (zdk hL_steps 1 rfl) zc_iconst_0 ?_
  refine s_aload_n (zdk hL_steps 2 rfl) rfl ?_
  refine s_iload_n (zdk hL_steps 3 rfl) rfl ?_
  refine s_callVH (ci := 8) (as := [.int p0]) (st := [.int (nI 0), .ref 956]) (mc := 5) (ms := 30) (bc := 0) (bs := 0) (zdk hL_steps 4 rfl) cw_L_57 hK0 (by decide) rfl rfl rfl (Nat.le_of_ble_eq_true rfl) (by decide) hM (fun x M1 hq => ?_) (fun v M1 hq => ?_)
  · have hx9 := (hw.2 x M1 hq).1
    have hx8 : x = 1 := by simpa using hx9
    subst hx8
    refine ⟨[], _, _, 3, 1, rfl, (by decide), (fun u hu => by cases hu), (by decide), (by decide), clw_L_19, ca_1, (by decide), Or.inl ⟨3, rfl, (zdk hL_steps 8 rfl), rfl⟩, ?_⟩
    show zS l G mL_steps 11 430 0 0 13 _ _ _ _
    refine s_iconstv (v := nI 1) (zdk hL_steps 9 rfl) zc_iconst_1 ?_
    refine s_ireturn (zdk hL_steps 10 rfl) rfl rfl ?_
    exact Or.inr ⟨_, hq, rfl⟩
  · obtain ⟨⟨x, rfl⟩, hk, hn, -⟩ := hw.1 v M1 hq
    refine s_i2l (zdk hL_steps 5 rfl) ?_
    refine s_lastoreN (N := 1) (j := 0) (zdk hL_steps 6 rfl) hk hn (by decide) (by decide) ?_
    refine s_goto 15 (zdk hL_steps 7 rfl) (by decide) ?_
    refine s_iconstv (v := nI 0) (zdk hL_steps 11 rfl) zc_iconst_0 ?_
    refine s_ireturn (zdk hL_steps 12 rfl) rfl rfl ?_
    exact Or.inl ⟨x, M1, hq, rfl, rfl⟩
theorem c_L_step (hl : l.stackTraces = false) {M : zMem} (hK0 : zK M 0 = 8 + 1) (p0 : Int32) (p1 : Int32) (p2 : Int32) {Q1 : zOut → zMem → Prop} (hM : zCx2 l G mX8_step 10 400 5 30 [.ref 0, .int p0, .int p1, .int p2] M Q1) (hw : wI Q1 [1, 2]) : zCh l G mL_step 11 430 5 30 [.ref 0, .int p0, .int p1, .int p2, .ref 956] M (wQ Q1 (fun x => if x = 1 then 1 else 2)) := by
  refine zCh.of (ls0 := [some (.ref 0), some (.int p0), some (.int p1), some (.int p2), some (.ref 956), none]) (by decide +kernel) hl rfl (Nat.le_of_ble_eq_true rfl) (fun v M' q h0 => absurd (q.h hw) (by rw [h0]; decide)) (fun x M' q => by rcases q with q | q <;> simp_all) ?_
  refine s_aload (zdk hL_step 0 rfl) rfl ?_
  refine s_iconstv (v := nI 0) (zdk hL_step 1 rfl) zc_iconst_0 ?_
  refine s_aload_n (zdk hL_step 2 rfl) rfl ?_
  refine s_iload_n (zdk hL_step 3 rfl) rfl ?_
  refine s_iload_n (zdk hL_step 4 rfl) rfl ?_
  refine s_iload_n (zdk hL_step 5 rfl) rfl ?_
  refine s_callVH (ci := 8) (as := [.int p0, .int p1, .int p2]) (st := [.int (nI 0), .ref 956]) (mc := 5) (ms := 30) (bc := 0) (bs := 0) (zdk hL_step 6 rfl) cw_L_60 hK0 (by decide) rfl rfl rfl (Nat.le_of_ble_eq_true rfl) (by decide) hM (fun x M1 hq => ?_) (fun v M1 hq => ?_)
  · have hx9 := (hw.2 x M1 hq).1
    have hx8 : x = 1 ∨ x = 2 := by simpa using hx9
    rcases hx8 with rfl | rfl
    · refine ⟨[], _, _, 5, 2, rfl, (by decide), (fun u hu => by cases hu), (by decide), (by decide), clw_L_19, ca_1, (by decide), Or.inr ⟨(zdk hL_step 10 rfl), rfl⟩, ?_⟩
      show zS l G mL_step 11 430 0 0 17 _ _ _ _
      refine s_iconstv (v := nI 1) (zdk hL_step 11 rfl) zc_iconst_1 ?_
      refine s_ireturn (zdk hL_step 12 rfl) rfl rfl ?_
      exact Or.inr ⟨_, hq, rfl⟩
    · refine ⟨[_], _, _, 5, 2, rfl, (by decide), (fun u hu => by rw [List.mem_singleton.mp hu]; exact ⟨1, by decide, by decide, by decide, clw_L_19⟩), (by decide), (by decide), clw_L_25, ca_2, (by decide), Or.inr ⟨(zdk hL_step 13 rfl), rfl⟩, ?_⟩
      show zS l G mL_step 11 430 0 0 21 _ _ _ _
      refine s_iconstv (v := nI 2) (zdk hL_step 14 rfl) zc_iconst_2 ?_
      refine s_ireturn (zdk hL_step 15 rfl) rfl rfl ?_
      exact Or.inr ⟨_, hq, rfl⟩
  · obtain ⟨⟨x, rfl⟩, hk, hn, -⟩ := hw.1 v M1 hq
    refine s_i2l (zdk hL_step 7 rfl) ?_
    refine s_lastoreN (N := 1) (j := 0) (zdk hL_step 8 rfl) hk hn (by decide) (by decide) ?_
    refine s_goto 23 (zdk hL_step 9 rfl) (by decide) ?_
    refine s_iconstv (v := nI 0) (zdk hL_step 16 rfl) zc_iconst_0 ?_
    refine s_ireturn (zdk hL_step 17 rfl) rfl rfl ?_
    exact Or.inl ⟨x, M1, hq, rfl, rfl⟩
theorem c_L_saving (hl : l.stackTraces = false) {M : zMem} (hK0 : zK M 0 = 8 + 1) (p0 : Int32) {Q1 : zOut → zMem → Prop} (hM : zCx2 l G mX8_saving 10 400 5 30 [.ref 0, .int p0] M Q1) (hw : wJ Q1 [1]) : zCh l G mL_saving 11 430 5 30 [.ref 0, .int p0, .ref 956] M (wQJ Q1 (fun x => 1)) := by
  refine zCh.of (ls0 := [some (.ref 0), some (.int p0), some (.ref 956), none]) (by decide +kernel) hl rfl (Nat.le_of_ble_eq_true rfl) (fun v M' q h0 => absurd (q.h hw) (by rw [h0]; decide)) (fun x M' q => by rcases q with q | q <;> simp_all) ?_
  refine s_aload_n (zdk hL_saving 0 rfl) rfl ?_
  refine s_iconstv (v := nI 0) (zdk hL_saving 1 rfl) zc_iconst_0 ?_
  refine s_aload_n (zdk hL_saving 2 rfl) rfl ?_
  refine s_iload_n (zdk hL_saving 3 rfl) rfl ?_
  refine s_callVH (ci := 8) (as := [.int p0]) (st := [.int (nI 0), .ref 956]) (mc := 5) (ms := 30) (bc := 0) (bs := 0) (zdk hL_saving 4 rfl) cw_L_64 hK0 (by decide) rfl rfl rfl (Nat.le_of_ble_eq_true rfl) (by decide) hM (fun x M1 hq => ?_) (fun v M1 hq => ?_)
  · have hx9 := (hw.2 x M1 hq).1
    have hx8 : x = 1 := by simpa using hx9
    subst hx8
    refine ⟨[], _, _, 3, 1, rfl, (by decide), (fun u hu => by cases hu), (by decide), (by decide), clw_L_19, ca_1, (by decide), Or.inl ⟨3, rfl, (zdk hL_saving 7 rfl), rfl⟩, ?_⟩
    show zS l G mL_saving 11 430 0 0 12 _ _ _ _
    refine s_iconstv (v := nI 1) (zdk hL_saving 8 rfl) zc_iconst_1 ?_
    refine s_ireturn (zdk hL_saving 9 rfl) rfl rfl ?_
    exact Or.inr ⟨_, hq, rfl⟩
  · obtain ⟨⟨x, rfl⟩, hk, hn, -⟩ := hw.1 v M1 hq
    refine s_lastoreN (N := 1) (j := 0) (zdk hL_saving 5 rfl) hk hn (by decide) (by decide) ?_
    refine s_goto 14 (zdk hL_saving 6 rfl) (by decide) ?_
    refine s_iconstv (v := nI 0) (zdk hL_saving 10 rfl) zc_iconst_0 ?_
    refine s_ireturn (zdk hL_saving 11 rfl) rfl rfl ?_
    exact Or.inl ⟨x, M1, hq, rfl, rfl⟩
theorem c_L_withRoom (hl : l.stackTraces = false) {M : zMem} (hK0 : zK M 0 = 8 + 1) (p0 : Int32) (p1 : Int32) (p2 : Int32) {Q1 : zOut → zMem → Prop} (hM : zCx2 l G mX8_withRoom 10 400 5 30 [.ref 0, .int p0, .int p1, .int p2] M Q1) (hw : wJ Q1 [2, 1]) : zCh l G mL_withRoom 11 430 5 30 [.ref 0, .int p0, .int p1, .int p2, .ref 956] M (wQJ Q1 (fun x => if x = 2 then 1 else 2)) := by
  refine zCh.of (ls0 := [some (.ref 0), some (.int p0), some (.int p1), some (.int p2), some (.ref 956), none]) (by decide +kernel) hl rfl (Nat.le_of_ble_eq_true rfl) (fun v M' q h0 => absurd (q.h hw) (by rw [h0]; decide)) (fun x M' q => by rcases q with q | q <;> simp_all) ?_
  refine s_aload (zdk hL_withRoom 0 rfl) rfl ?_
  refine s_iconstv (v := nI 0) (zdk hL_withRoom 1 rfl) zc_iconst_0 ?_
  refine s_aload_n (zdk hL_withRoom 2 rfl) rfl ?_
  refine s_iload_n (zdk hL_withRoom 3 rfl) rfl ?_
  refine s_iload_n (zdk hL_withRoom 4 rfl) rfl ?_
  refine s_iload_n (zdk hL_withRoom 5 rfl) rfl ?_
  refine s_callVH (ci := 8) (as := [.int p0, .int p1, .int p2]) (st := [.int (nI 0), .ref 956]) (mc := 5) (ms := 30) (bc := 0) (bs := 0) (zdk hL_withRoom 6 rfl) cw_L_67 hK0 (by decide) rfl rfl rfl (Nat.le_of_ble_eq_true rfl) (by decide) hM (fun x M1 hq => ?_) (fun v M1 hq => ?_)
  · have hx9 := (hw.2 x M1 hq).1
    have hx8 : x = 2 ∨ x = 1 := by simpa using hx9
    rcases hx8 with rfl | rfl
    · refine ⟨[], _, _, 5, 2, rfl, (by decide), (fun u hu => by cases hu), (by decide), (by decide), clw_L_25, ca_2, (by decide), Or.inr ⟨(zdk hL_withRoom 9 rfl), rfl⟩, ?_⟩
      show zS l G mL_withRoom 11 430 0 0 16 _ _ _ _
      refine s_iconstv (v := nI 1) (zdk hL_withRoom 10 rfl) zc_iconst_1 ?_
      refine s_ireturn (zdk hL_withRoom 11 rfl) rfl rfl ?_
      exact Or.inr ⟨_, hq, rfl⟩
    · refine ⟨[_], _, _, 5, 2, rfl, (by decide), (fun u hu => by rw [List.mem_singleton.mp hu]; exact ⟨2, by decide, by decide, by decide, clw_L_25⟩), (by decide), (by decide), clw_L_19, ca_1, (by decide), Or.inr ⟨(zdk hL_withRoom 12 rfl), rfl⟩, ?_⟩
      show zS l G mL_withRoom 11 430 0 0 20 _ _ _ _
      refine s_iconstv (v := nI 2) (zdk hL_withRoom 13 rfl) zc_iconst_2 ?_
      refine s_ireturn (zdk hL_withRoom 14 rfl) rfl rfl ?_
      exact Or.inr ⟨_, hq, rfl⟩
  · obtain ⟨⟨x, rfl⟩, hk, hn, -⟩ := hw.1 v M1 hq
    refine s_lastoreN (N := 1) (j := 0) (zdk hL_withRoom 7 rfl) hk hn (by decide) (by decide) ?_
    refine s_goto 22 (zdk hL_withRoom 8 rfl) (by decide) ?_
    refine s_iconstv (v := nI 0) (zdk hL_withRoom 15 rfl) zc_iconst_0 ?_
    refine s_ireturn (zdk hL_withRoom 16 rfl) rfl rfl ?_
    exact Or.inl ⟨x, M1, hq, rfl, rfl⟩
theorem c_L_add (hl : l.stackTraces = false) {M : zMem} (hK0 : zK M 0 = 8 + 1) (p0 : Int32) (p1 : Int32) {Q1 : zOut → zMem → Prop} (hM : zCx2 l G mX8_add 10 400 5 30 [.ref 0, .int p0, .int p1] M Q1) (hw : wI Q1 [1, 2]) : zCh l G mL_add 11 430 5 30 [.ref 0, .int p0, .int p1, .ref 956] M (wQ Q1 (fun x => if x = 1 then 1 else 2)) := by
  refine zCh.of (ls0 := [some (.ref 0), some (.int p0), some (.int p1), some (.ref 956), none]) (by decide +kernel) hl rfl (Nat.le_of_ble_eq_true rfl) (fun v M' q h0 => absurd (q.h hw) (by rw [h0]; decide)) (fun x M' q => by rcases q with q | q <;> simp_all) ?_
  refine s_aload_n (zdk hL_add 0 rfl) rfl ?_
  refine s_iconstv (v := nI 0) (zdk hL_add 1 rfl) zc_iconst_0 ?_
  refine s_aload_n (zdk hL_add 2 rfl) rfl ?_
  refine s_iload_n (zdk hL_add 3 rfl) rfl ?_
  refine s_iload_n (zdk hL_add 4 rfl) rfl ?_
  refine s_callVH (ci := 8) (as := [.int p0, .int p1]) (st := [.int (nI 0), .ref 956]) (mc := 5) (ms := 30) (bc := 0) (bs := 0) (zdk hL_add 5 rfl) cw_L_70 hK0 (by decide) rfl rfl rfl (Nat.le_of_ble_eq_true rfl) (by decide) hM (fun x M1 hq => ?_) (fun v M1 hq => ?_)
  · have hx9 := (hw.2 x M1 hq).1
    have hx8 : x = 1 ∨ x = 2 := by simpa using hx9
    rcases hx8 with rfl | rfl
    · refine ⟨[], _, _, 4, 2, rfl, (by decide), (fun u hu => by cases hu), (by decide), (by decide), clw_L_19, ca_1, (by decide), Or.inr ⟨(zdk hL_add 9 rfl), rfl⟩, ?_⟩
      show zS l G mL_add 11 430 0 0 15 _ _ _ _
      refine s_iconstv (v := nI 1) (zdk hL_add 10 rfl) zc_iconst_1 ?_
      refine s_ireturn (zdk hL_add 11 rfl) rfl rfl ?_
      exact Or.inr ⟨_, hq, rfl⟩
    · refine ⟨[_], _, _, 4, 2, rfl, (by decide), (fun u hu => by rw [List.mem_singleton.mp hu]; exact ⟨1, by decide, by decide, by decide, clw_L_19⟩), (by decide), (by decide), clw_L_25, ca_2, (by decide), Or.inr ⟨(zdk hL_add 12 rfl), rfl⟩, ?_⟩
      show zS l G mL_add 11 430 0 0 19 _ _ _ _
      refine s_iconstv (v := nI 2) (zdk hL_add 13 rfl) zc_iconst_2 ?_
      refine s_ireturn (zdk hL_add 14 rfl) rfl rfl ?_
      exact Or.inr ⟨_, hq, rfl⟩
  · obtain ⟨⟨x, rfl⟩, hk, hn, -⟩ := hw.1 v M1 hq
    refine s_i2l (zdk hL_add 6 rfl) ?_
    refine s_lastoreN (N := 1) (j := 0) (zdk hL_add 7 rfl) hk hn (by decide) (by decide) ?_
    refine s_goto 21 (zdk hL_add 8 rfl) (by decide) ?_
    refine s_iconstv (v := nI 0) (zdk hL_add 15 rfl) zc_iconst_0 ?_
    refine s_ireturn (zdk hL_add 16 rfl) rfl rfl ?_
    exact Or.inl ⟨x, M1, hq, rfl, rfl⟩
theorem c_L_drop (hl : l.stackTraces = false) {M : zMem} (hK0 : zK M 0 = 8 + 1) (p0 : Int32) {Q1 : zOut → zMem → Prop} (hM : zCx2 l G mX8_drop 10 400 5 30 [.ref 0, .int p0] M Q1) (hw : wI Q1 [2]) : zCh l G mL_drop 11 430 5 30 [.ref 0, .int p0, .ref 956] M (wQ Q1 (fun x => 1)) := by
  refine zCh.of (ls0 := [some (.ref 0), some (.int p0), some (.ref 956), none]) (by decide +kernel) hl rfl (Nat.le_of_ble_eq_true rfl) (fun v M' q h0 => absurd (q.h hw) (by rw [h0]; decide)) (fun x M' q => by rcases q with q | q <;> simp_all) ?_
  refine s_aload_n (zdk hL_drop 0 rfl) rfl ?_
  refine s_iconstv (v := nI 0) (zdk hL_drop 1 rfl) zc_iconst_0 ?_
  refine s_aload_n (zdk hL_drop 2 rfl) rfl ?_
  refine s_iload_n (zdk hL_drop 3 rfl) rfl ?_
  refine s_callVH (ci := 8) (as := [.int p0]) (st := [.int (nI 0), .ref 956]) (mc := 5) (ms := 30) (bc := 0) (bs := 0) (zdk hL_drop 4 rfl) cw_L_73 hK0 (by decide) rfl rfl rfl (Nat.le_of_ble_eq_true rfl) (by decide) hM (fun x M1 hq => ?_) (fun v M1 hq => ?_)
  · have hx9 := (hw.2 x M1 hq).1
    have hx8 : x = 2 := by simpa using hx9
    subst hx8
    refine ⟨[], _, _, 3, 1, rfl, (by decide), (fun u hu => by cases hu), (by decide), (by decide), clw_L_25, ca_2, (by decide), Or.inl ⟨3, rfl, (zdk hL_drop 8 rfl), rfl⟩, ?_⟩
    show zS l G mL_drop 11 430 0 0 13 _ _ _ _
    refine s_iconstv (v := nI 1) (zdk hL_drop 9 rfl) zc_iconst_1 ?_
    refine s_ireturn (zdk hL_drop 10 rfl) rfl rfl ?_
    exact Or.inr ⟨_, hq, rfl⟩
  · obtain ⟨⟨x, rfl⟩, hk, hn, -⟩ := hw.1 v M1 hq
    refine s_i2l (zdk hL_drop 5 rfl) ?_
    refine s_lastoreN (N := 1) (j := 0) (zdk hL_drop 6 rfl) hk hn (by decide) (by decide) ?_
    refine s_goto 15 (zdk hL_drop 7 rfl) (by decide) ?_
    refine s_iconstv (v := nI 0) (zdk hL_drop 11 rfl) zc_iconst_0 ?_
    refine s_ireturn (zdk hL_drop 12 rfl) rfl rfl ?_
    exact Or.inl ⟨x, M1, hq, rfl, rfl⟩
theorem c_L_use (hl : l.stackTraces = false) {M : zMem} (hK0 : zK M 0 = 8 + 1) (p0 : Int32) (p1 : Int32) {Q1 : zOut → zMem → Prop} (hM : zCx2 l G mX8_use 10 400 5 30 [.ref 0, .int p0, .int p1] M Q1) (hw : wI Q1 [2, 1]) : zCh l G mL_use 11 430 5 30 [.ref 0, .int p0, .int p1, .ref 956] M (wQ Q1 (fun x => if x = 2 then 1 else 2)) := by
  refine zCh.of (ls0 := [some (.ref 0), some (.int p0), some (.int p1), some (.ref 956), none]) (by decide +kernel) hl rfl (Nat.le_of_ble_eq_true rfl) (fun v M' q h0 => absurd (q.h hw) (by rw [h0]; decide)) (fun x M' q => by rcases q with q | q <;> simp_all) ?_
  refine s_aload_n (zdk hL_use 0 rfl) rfl ?_
  refine s_iconstv (v := nI 0) (zdk hL_use 1 rfl) zc_iconst_0 ?_
  refine s_aload_n (zdk hL_use 2 rfl) rfl ?_
  refine s_iload_n (zdk hL_use 3 rfl) rfl ?_
  refine s_iload_n (zdk hL_use 4 rfl) rfl ?_
  refine s_callVH (ci := 8) (as := [.int p0, .int p1]) (st := [.int (nI 0), .ref 956]) (mc := 5) (ms := 30) (bc := 0) (bs := 0) (zdk hL_use 5 rfl) cw_L_76 hK0 (by decide) rfl rfl rfl (Nat.le_of_ble_eq_true rfl) (by decide) hM (fun x M1 hq => ?_) (fun v M1 hq => ?_)
  · have hx9 := (hw.2 x M1 hq).1
    have hx8 : x = 2 ∨ x = 1 := by simpa using hx9
    rcases hx8 with rfl | rfl
    · refine ⟨[], _, _, 4, 2, rfl, (by decide), (fun u hu => by cases hu), (by decide), (by decide), clw_L_25, ca_2, (by decide), Or.inr ⟨(zdk hL_use 9 rfl), rfl⟩, ?_⟩
      show zS l G mL_use 11 430 0 0 15 _ _ _ _
      refine s_iconstv (v := nI 1) (zdk hL_use 10 rfl) zc_iconst_1 ?_
      refine s_ireturn (zdk hL_use 11 rfl) rfl rfl ?_
      exact Or.inr ⟨_, hq, rfl⟩
    · refine ⟨[_], _, _, 4, 2, rfl, (by decide), (fun u hu => by rw [List.mem_singleton.mp hu]; exact ⟨2, by decide, by decide, by decide, clw_L_25⟩), (by decide), (by decide), clw_L_19, ca_1, (by decide), Or.inr ⟨(zdk hL_use 12 rfl), rfl⟩, ?_⟩
      show zS l G mL_use 11 430 0 0 19 _ _ _ _
      refine s_iconstv (v := nI 2) (zdk hL_use 13 rfl) zc_iconst_2 ?_
      refine s_ireturn (zdk hL_use 14 rfl) rfl rfl ?_
      exact Or.inr ⟨_, hq, rfl⟩
  · obtain ⟨⟨x, rfl⟩, hk, hn, -⟩ := hw.1 v M1 hq
    refine s_i2l (zdk hL_use 6 rfl) ?_
    refine s_lastoreN (N := 1) (j := 0) (zdk hL_use 7 rfl) hk hn (by decide) (by decide) ?_
    refine s_goto 21 (zdk hL_use 8 rfl) (by decide) ?_
    refine s_iconstv (v := nI 0) (zdk hL_use 15 rfl) zc_iconst_0 ?_
    refine s_ireturn (zdk hL_use 16 rfl) rfl rfl ?_
    exact Or.inl ⟨x, M1, hq, rfl, rfl⟩
theorem c_L_move (hl : l.stackTraces = false) {M : zMem} (hK0 : zK M 0 = 8 + 1) (p0 : Int32) (p1 : Int32) {Q1 : zOut → zMem → Prop} (hM : zCx2 l G mX8_move 10 400 5 30 [.ref 0, .int p0, .int p1] M Q1) (hw : wI Q1 [2]) : zCh l G mL_move 11 430 5 30 [.ref 0, .int p0, .int p1, .ref 956] M (wQ Q1 (fun x => 1)) := by
  refine zCh.of (ls0 := [some (.ref 0), some (.int p0), some (.int p1), some (.ref 956), none]) (by decide +kernel) hl rfl (Nat.le_of_ble_eq_true rfl) (fun v M' q h0 => absurd (q.h hw) (by rw [h0]; decide)) (fun x M' q => by rcases q with q | q <;> simp_all) ?_
  refine s_aload_n (zdk hL_move 0 rfl) rfl ?_
  refine s_iconstv (v := nI 0) (zdk hL_move 1 rfl) zc_iconst_0 ?_
  refine s_aload_n (zdk hL_move 2 rfl) rfl ?_
  refine s_iload_n (zdk hL_move 3 rfl) rfl ?_
  refine s_iload_n (zdk hL_move 4 rfl) rfl ?_
  refine s_callVH (ci := 8) (as := [.int p0, .int p1]) (st := [.int (nI 0), .ref 956]) (mc := 5) (ms := 30) (bc := 0) (bs := 0) (zdk hL_move 5 rfl) cw_L_79 hK0 (by decide) rfl rfl rfl (Nat.le_of_ble_eq_true rfl) (by decide) hM (fun x M1 hq => ?_) (fun v M1 hq => ?_)
  · have hx9 := (hw.2 x M1 hq).1
    have hx8 : x = 2 := by simpa using hx9
    subst hx8
    refine ⟨[], _, _, 4, 2, rfl, (by decide), (fun u hu => by cases hu), (by decide), (by decide), clw_L_25, ca_2, (by decide), Or.inr ⟨(zdk hL_move 9 rfl), rfl⟩, ?_⟩
    show zS l G mL_move 11 430 0 0 15 _ _ _ _
    refine s_iconstv (v := nI 1) (zdk hL_move 10 rfl) zc_iconst_1 ?_
    refine s_ireturn (zdk hL_move 11 rfl) rfl rfl ?_
    exact Or.inr ⟨_, hq, rfl⟩
  · obtain ⟨⟨x, rfl⟩, hk, hn, -⟩ := hw.1 v M1 hq
    refine s_i2l (zdk hL_move 6 rfl) ?_
    refine s_lastoreN (N := 1) (j := 0) (zdk hL_move 7 rfl) hk hn (by decide) (by decide) ?_
    refine s_goto 17 (zdk hL_move 8 rfl) (by decide) ?_
    refine s_iconstv (v := nI 0) (zdk hL_move 12 rfl) zc_iconst_0 ?_
    refine s_ireturn (zdk hL_move 13 rfl) rfl rfl ?_
    exact Or.inl ⟨x, M1, hq, rfl, rfl⟩
theorem c_L_pin (hl : l.stackTraces = false) {M : zMem} (hK0 : zK M 0 = 8 + 1) (p0 : Int32) (p1 : Int32) {Q1 : zOut → zMem → Prop} (hM : zCx2 l G mX8_pin 10 400 5 30 [.ref 0, .int p0, .int p1] M Q1) (hw : wI Q1 [2, 1]) : zCh l G mL_pin 11 430 5 30 [.ref 0, .int p0, .int p1, .ref 956] M (wQ Q1 (fun x => if x = 2 then 1 else 2)) := by
  refine zCh.of (ls0 := [some (.ref 0), some (.int p0), some (.int p1), some (.ref 956), none]) (by decide +kernel) hl rfl (Nat.le_of_ble_eq_true rfl) (fun v M' q h0 => absurd (q.h hw) (by rw [h0]; decide)) (fun x M' q => by rcases q with q | q <;> simp_all) ?_
  refine s_aload_n (zdk hL_pin 0 rfl) rfl ?_
  refine s_iconstv (v := nI 0) (zdk hL_pin 1 rfl) zc_iconst_0 ?_
  refine s_aload_n (zdk hL_pin 2 rfl) rfl ?_
  refine s_iload_n (zdk hL_pin 3 rfl) rfl ?_
  refine s_iload_n (zdk hL_pin 4 rfl) rfl ?_
  refine s_callVH (ci := 8) (as := [.int p0, .int p1]) (st := [.int (nI 0), .ref 956]) (mc := 5) (ms := 30) (bc := 0) (bs := 0) (zdk hL_pin 5 rfl) cw_L_82 hK0 (by decide) rfl rfl rfl (Nat.le_of_ble_eq_true rfl) (by decide) hM (fun x M1 hq => ?_) (fun v M1 hq => ?_)
  · have hx9 := (hw.2 x M1 hq).1
    have hx8 : x = 2 ∨ x = 1 := by simpa using hx9
    rcases hx8 with rfl | rfl
    · refine ⟨[], _, _, 4, 2, rfl, (by decide), (fun u hu => by cases hu), (by decide), (by decide), clw_L_25, ca_2, (by decide), Or.inr ⟨(zdk hL_pin 9 rfl), rfl⟩, ?_⟩
      show zS l G mL_pin 11 430 0 0 15 _ _ _ _
      refine s_iconstv (v := nI 1) (zdk hL_pin 10 rfl) zc_iconst_1 ?_
      refine s_ireturn (zdk hL_pin 11 rfl) rfl rfl ?_
      exact Or.inr ⟨_, hq, rfl⟩
    · refine ⟨[_], _, _, 4, 2, rfl, (by decide), (fun u hu => by rw [List.mem_singleton.mp hu]; exact ⟨2, by decide, by decide, by decide, clw_L_25⟩), (by decide), (by decide), clw_L_19, ca_1, (by decide), Or.inr ⟨(zdk hL_pin 12 rfl), rfl⟩, ?_⟩
      show zS l G mL_pin 11 430 0 0 19 _ _ _ _
      refine s_iconstv (v := nI 2) (zdk hL_pin 13 rfl) zc_iconst_2 ?_
      refine s_ireturn (zdk hL_pin 14 rfl) rfl rfl ?_
      exact Or.inr ⟨_, hq, rfl⟩
  · obtain ⟨⟨x, rfl⟩, hk, hn, -⟩ := hw.1 v M1 hq
    refine s_i2l (zdk hL_pin 6 rfl) ?_
    refine s_lastoreN (N := 1) (j := 0) (zdk hL_pin 7 rfl) hk hn (by decide) (by decide) ?_
    refine s_goto 21 (zdk hL_pin 8 rfl) (by decide) ?_
    refine s_iconstv (v := nI 0) (zdk hL_pin 15 rfl) zc_iconst_0 ?_
    refine s_ireturn (zdk hL_pin 16 rfl) rfl rfl ?_
    exact Or.inl ⟨x, M1, hq, rfl, rfl⟩
theorem c_L_act (hl : l.stackTraces = false) {M : zMem} (hK0 : zK M 0 = 8 + 1) (p0 : Int32) {Q1 : zOut → zMem → Prop} (hM : zCx2 l G mX8_act 10 400 5 30 [.ref 0, .int p0] M Q1) (hw : wI Q1 [1]) : zCh l G mL_act 11 430 5 30 [.ref 0, .int p0, .ref 956] M (wQ Q1 (fun x => 1)) := by
  refine zCh.of (ls0 := [some (.ref 0), some (.int p0), some (.ref 956), none]) (by decide +kernel) hl rfl (Nat.le_of_ble_eq_true rfl) (fun v M' q h0 => absurd (q.h hw) (by rw [h0]; decide)) (fun x M' q => by rcases q with q | q <;> simp_all) ?_
  refine s_aload_n (zdk hL_act 0 rfl) rfl ?_
  refine s_iconstv (v := nI 0) (zdk hL_act 1 rfl) zc_iconst_0 ?_
  refine s_aload_n (zdk hL_act 2 rfl) rfl ?_
  refine s_iload_n (zdk hL_act 3 rfl) rfl ?_
  refine s_callVH (ci := 8) (as := [.int p0]) (st := [.int (nI 0), .ref 956]) (mc := 5) (ms := 30) (bc := 0) (bs := 0) (zdk hL_act 4 rfl) cw_L_85 hK0 (by decide) rfl rfl rfl (Nat.le_of_ble_eq_true rfl) (by decide) hM (fun x M1 hq => ?_) (fun v M1 hq => ?_)
  · have hx9 := (hw.2 x M1 hq).1
    have hx8 : x = 1 := by simpa using hx9
    subst hx8
    refine ⟨[], _, _, 3, 1, rfl, (by decide), (fun u hu => by cases hu), (by decide), (by decide), clw_L_19, ca_1, (by decide), Or.inl ⟨3, rfl, (zdk hL_act 8 rfl), rfl⟩, ?_⟩
    show zS l G mL_act 11 430 0 0 13 _ _ _ _
    refine s_iconstv (v := nI 1) (zdk hL_act 9 rfl) zc_iconst_1 ?_
    refine s_ireturn (zdk hL_act 10 rfl) rfl rfl ?_
    exact Or.inr ⟨_, hq, rfl⟩
  · obtain ⟨⟨x, rfl⟩, hk, hn, -⟩ := hw.1 v M1 hq
    refine s_i2l (zdk hL_act 5 rfl) ?_
    refine s_lastoreN (N := 1) (j := 0) (zdk hL_act 6 rfl) hk hn (by decide) (by decide) ?_
    refine s_goto 15 (zdk hL_act 7 rfl) (by decide) ?_
    refine s_iconstv (v := nI 0) (zdk hL_act 11 rfl) zc_iconst_0 ?_
    refine s_ireturn (zdk hL_act 12 rfl) rfl rfl ?_
    exact Or.inl ⟨x, M1, hq, rfl, rfl⟩
theorem c_L_learn (hl : l.stackTraces = false) {M : zMem} (hK0 : zK M 0 = 8 + 1) (p0 : Int32) (p1 : Int32) {Q1 : zOut → zMem → Prop} (hM : zCx2 l G mX8_learn 10 400 5 30 [.ref 0, .int p0, .int p1] M Q1) (hw : wI Q1 [1]) : zCh l G mL_learn 11 430 5 30 [.ref 0, .int p0, .int p1, .ref 956] M (wQ Q1 (fun x => 1)) := by
  refine zCh.of (ls0 := [some (.ref 0), some (.int p0), some (.int p1), some (.ref 956), none]) (by decide +kernel) hl rfl (Nat.le_of_ble_eq_true rfl) (fun v M' q h0 => absurd (q.h hw) (by rw [h0]; decide)) (fun x M' q => by rcases q with q | q <;> simp_all) ?_
  refine s_aload_n (zdk hL_learn 0 rfl) rfl ?_
  refine s_iconstv (v := nI 0) (zdk hL_learn 1 rfl) zc_iconst_0 ?_
  refine s_aload_n (zdk hL_learn 2 rfl) rfl ?_
  refine s_iload_n (zdk hL_learn 3 rfl) rfl ?_
  refine s_iload_n (zdk hL_learn 4 rfl) rfl ?_
  refine s_callVH (ci := 8) (as := [.int p0, .int p1]) (st := [.int (nI 0), .ref 956]) (mc := 5) (ms := 30) (bc := 0) (bs := 0) (zdk hL_learn 5 rfl) cw_L_88 hK0 (by decide) rfl rfl rfl (Nat.le_of_ble_eq_true rfl) (by decide) hM (fun x M1 hq => ?_) (fun v M1 hq => ?_)
  · have hx9 := (hw.2 x M1 hq).1
    have hx8 : x = 1 := by simpa using hx9
    subst hx8
    refine ⟨[], _, _, 4, 2, rfl, (by decide), (fun u hu => by cases hu), (by decide), (by decide), clw_L_19, ca_1, (by decide), Or.inr ⟨(zdk hL_learn 9 rfl), rfl⟩, ?_⟩
    show zS l G mL_learn 11 430 0 0 15 _ _ _ _
    refine s_iconstv (v := nI 1) (zdk hL_learn 10 rfl) zc_iconst_1 ?_
    refine s_ireturn (zdk hL_learn 11 rfl) rfl rfl ?_
    exact Or.inr ⟨_, hq, rfl⟩
  · obtain ⟨⟨x, rfl⟩, hk, hn, -⟩ := hw.1 v M1 hq
    refine s_i2l (zdk hL_learn 6 rfl) ?_
    refine s_lastoreN (N := 1) (j := 0) (zdk hL_learn 7 rfl) hk hn (by decide) (by decide) ?_
    refine s_goto 17 (zdk hL_learn 8 rfl) (by decide) ?_
    refine s_iconstv (v := nI 0) (zdk hL_learn 12 rfl) zc_iconst_0 ?_
    refine s_ireturn (zdk hL_learn 13 rfl) rfl rfl ?_
    exact Or.inl ⟨x, M1, hq, rfl, rfl⟩
theorem c_L_setTier (hl : l.stackTraces = false) {M : zMem} (hK0 : zK M 0 = 8 + 1) (p0 : Int32) (p1 : Int32) (p2 : Int32) {Q1 : zOut → zMem → Prop} (hM : zCx2 l G mX8_setTier 10 400 5 30 [.ref 0, .int p0, .int p1, .int p2] M Q1) (hw : wI Q1 [2, 1]) : zCh l G mL_setTier 11 430 5 30 [.ref 0, .int p0, .int p1, .int p2, .ref 956] M (wQ Q1 (fun x => if x = 2 then 1 else 2)) := by
  refine zCh.of (ls0 := [some (.ref 0), some (.int p0), some (.int p1), some (.int p2), some (.ref 956), none]) (by decide +kernel) hl rfl (Nat.le_of_ble_eq_true rfl) (fun v M' q h0 => absurd (q.h hw) (by rw [h0]; decide)) (fun x M' q => by rcases q with q | q <;> simp_all) ?_
  refine s_aload (zdk hL_setTier 0 rfl) rfl ?_
  refine s_iconstv (v := nI 0) (zdk hL_setTier 1 rfl) zc_iconst_0 ?_
  refine s_aload_n (zdk hL_setTier 2 rfl) rfl ?_
  refine s_iload_n (zdk hL_setTier 3 rfl) rfl ?_
  refine s_iload_n (zdk hL_setTier 4 rfl) rfl ?_
  refine s_iload_n (zdk hL_setTier 5 rfl) rfl ?_
  refine s_callVH (ci := 8) (as := [.int p0, .int p1, .int p2]) (st := [.int (nI 0), .ref 956]) (mc := 5) (ms := 30) (bc := 0) (bs := 0) (zdk hL_setTier 6 rfl) cw_L_91 hK0 (by decide) rfl rfl rfl (Nat.le_of_ble_eq_true rfl) (by decide) hM (fun x M1 hq => ?_) (fun v M1 hq => ?_)
  · have hx9 := (hw.2 x M1 hq).1
    have hx8 : x = 2 ∨ x = 1 := by simpa using hx9
    rcases hx8 with rfl | rfl
    · refine ⟨[], _, _, 5, 2, rfl, (by decide), (fun u hu => by cases hu), (by decide), (by decide), clw_L_25, ca_2, (by decide), Or.inr ⟨(zdk hL_setTier 10 rfl), rfl⟩, ?_⟩
      show zS l G mL_setTier 11 430 0 0 17 _ _ _ _
      refine s_iconstv (v := nI 1) (zdk hL_setTier 11 rfl) zc_iconst_1 ?_
      refine s_ireturn (zdk hL_setTier 12 rfl) rfl rfl ?_
      exact Or.inr ⟨_, hq, rfl⟩
    · refine ⟨[_], _, _, 5, 2, rfl, (by decide), (fun u hu => by rw [List.mem_singleton.mp hu]; exact ⟨2, by decide, by decide, by decide, clw_L_25⟩), (by decide), (by decide), clw_L_19, ca_1, (by decide), Or.inr ⟨(zdk hL_setTier 13 rfl), rfl⟩, ?_⟩
      show zS l G mL_setTier 11 430 0 0 21 _ _ _ _
      refine s_iconstv (v := nI 2) (zdk hL_setTier 14 rfl) zc_iconst_2 ?_
      refine s_ireturn (zdk hL_setTier 15 rfl) rfl rfl ?_
      exact Or.inr ⟨_, hq, rfl⟩
  · obtain ⟨⟨x, rfl⟩, hk, hn, -⟩ := hw.1 v M1 hq
    refine s_i2l (zdk hL_setTier 7 rfl) ?_
    refine s_lastoreN (N := 1) (j := 0) (zdk hL_setTier 8 rfl) hk hn (by decide) (by decide) ?_
    refine s_goto 23 (zdk hL_setTier 9 rfl) (by decide) ?_
    refine s_iconstv (v := nI 0) (zdk hL_setTier 16 rfl) zc_iconst_0 ?_
    refine s_ireturn (zdk hL_setTier 17 rfl) rfl rfl ?_
    exact Or.inl ⟨x, M1, hq, rfl, rfl⟩
theorem c_L_undo (hl : l.stackTraces = false) {M : zMem} (hK0 : zK M 0 = 8 + 1) {Q1 : zOut → zMem → Prop} (hM : zCx2 l G mX8_undo 10 400 5 30 [.ref 0] M Q1) (hw : wI Q1 [0]) : zCh l G mL_undo 11 430 5 30 [.ref 0, .ref 956] M (wQ Q1 (fun x => 1)) := by
  refine zCh.of (ls0 := [some (.ref 0), some (.ref 956), none]) (by decide +kernel) hl rfl (Nat.le_of_ble_eq_true rfl) (fun v M' q h0 => absurd (q.h hw) (by rw [h0]; decide)) (fun x M' q => by rcases q with q | q <;> simp_all) ?_
  refine s_aload_n (zdk hL_undo 0 rfl) rfl ?_
  refine s_iconstv (v := nI 0) (zdk hL_undo 1 rfl) zc_iconst_0 ?_
  refine s_aload_n (zdk hL_undo 2 rfl) rfl ?_
  refine s_callVH (ci := 8) (as := []) (st := [.int (nI 0), .ref 956]) (mc := 5) (ms := 30) (bc := 0) (bs := 0) (zdk hL_undo 3 rfl) cw_L_94 hK0 (by decide) rfl rfl rfl (Nat.le_of_ble_eq_true rfl) (by decide) hM (fun x M1 hq => ?_) (fun v M1 hq => ?_)
  · have hx9 := (hw.2 x M1 hq).1
    have hx8 : x = 0 := by simpa using hx9
    subst hx8
    refine ⟨[], _, _, 2, 1, rfl, (by decide), (fun u hu => by cases hu), (by decide), (by decide), clw_L_13, ca_0, (by decide), Or.inl ⟨2, rfl, (zdk hL_undo 7 rfl), rfl⟩, ?_⟩
    show zS l G mL_undo 11 430 0 0 12 _ _ _ _
    refine s_iconstv (v := nI 1) (zdk hL_undo 8 rfl) zc_iconst_1 ?_
    refine s_ireturn (zdk hL_undo 9 rfl) rfl rfl ?_
    exact Or.inr ⟨_, hq, rfl⟩
  · obtain ⟨⟨x, rfl⟩, hk, hn, -⟩ := hw.1 v M1 hq
    refine s_i2l (zdk hL_undo 4 rfl) ?_
    refine s_lastoreN (N := 1) (j := 0) (zdk hL_undo 5 rfl) hk hn (by decide) (by decide) ?_
    refine s_goto 14 (zdk hL_undo 6 rfl) (by decide) ?_
    refine s_iconstv (v := nI 0) (zdk hL_undo 10 rfl) zc_iconst_0 ?_
    refine s_ireturn (zdk hL_undo 11 rfl) rfl rfl ?_
    exact Or.inl ⟨x, M1, hq, rfl, rfl⟩
theorem c_L_save (hl : l.stackTraces = false) {M : zMem} (hK0 : zK M 0 = 8 + 1) (p0 : Int32) {Q1 : zOut → zMem → Prop} (hM : zCx2 l G mX8_save 10 400 5 30 [.ref 0, .int p0] M Q1) (hw : wV Q1 [2]) : zCh l G mL_save 11 430 5 30 [.ref 0, .int p0] M (wQV Q1 (fun x => 1)) := by
  refine zCh.of (ls0 := [some (.ref 0), some (.int p0), none]) (by decide +kernel) hl rfl (Nat.le_of_ble_eq_true rfl) (fun v M' q h0 => absurd (q.h hw) (by rw [h0]; decide)) (fun x M' q => by rcases q with q | q <;> simp_all) ?_
  refine s_aload_n (zdk hL_save 0 rfl) rfl ?_
  refine s_iload_n (zdk hL_save 1 rfl) rfl ?_
  refine s_callVH (ci := 8) (as := [.int p0]) (st := []) (mc := 5) (ms := 30) (bc := 0) (bs := 0) (zdk hL_save 2 rfl) cw_L_98 hK0 (by decide) rfl rfl rfl (Nat.le_of_ble_eq_true rfl) (by decide) hM (fun x M1 hq => ?_) (fun v M1 hq => ?_)
  · have hx9 := (hw.2 x M1 hq).1
    have hx8 : x = 2 := by simpa using hx9
    subst hx8
    refine ⟨[], _, _, 2, 1, rfl, (by decide), (fun u hu => by cases hu), (by decide), (by decide), clw_L_25, ca_2, (by decide), Or.inl ⟨2, rfl, (zdk hL_save 4 rfl), rfl⟩, ?_⟩
    show zS l G mL_save 11 430 0 0 9 _ _ _ _
    refine s_iconstv (v := nI 1) (zdk hL_save 5 rfl) zc_iconst_1 ?_
    refine s_ireturn (zdk hL_save 6 rfl) rfl rfl ?_
    exact Or.inr ⟨_, hq, rfl⟩
  · have hv := (hw.1 v M1 hq).1
    subst hv
    refine s_goto 11 (zdk hL_save 3 rfl) (by decide) ?_
    refine s_iconstv (v := nI 0) (zdk hL_save 7 rfl) zc_iconst_0 ?_
    refine s_ireturn (zdk hL_save 8 rfl) rfl rfl ?_
    exact Or.inl ⟨hq, rfl⟩
theorem c_L_restore (hl : l.stackTraces = false) {M : zMem} (hK0 : zK M 0 = 8 + 1) (p0 : Int32) {Q1 : zOut → zMem → Prop} (hM : zCx2 l G mX8_restore 10 400 5 30 [.ref 0, .int p0] M Q1) (hw : wI Q1 [2, 0]) : zCh l G mL_restore 11 430 5 30 [.ref 0, .int p0, .ref 956] M (wQ Q1 (fun x => if x = 2 then 1 else 2)) := by
  refine zCh.of (ls0 := [some (.ref 0), some (.int p0), some (.ref 956), none]) (by decide +kernel) hl rfl (Nat.le_of_ble_eq_true rfl) (fun v M' q h0 => absurd (q.h hw) (by rw [h0]; decide)) (fun x M' q => by rcases q with q | q <;> simp_all) ?_
  refine s_aload_n (zdk hL_restore 0 rfl) rfl ?_
  refine s_iconstv (v := nI 0) (zdk hL_restore 1 rfl) zc_iconst_0 ?_
  refine s_aload_n (zdk hL_restore 2 rfl) rfl ?_
  refine s_iload_n (zdk hL_restore 3 rfl) rfl ?_
  refine s_callVH (ci := 8) (as := [.int p0]) (st := [.int (nI 0), .ref 956]) (mc := 5) (ms := 30) (bc := 0) (bs := 0) (zdk hL_restore 4 rfl) cw_L_102 hK0 (by decide) rfl rfl rfl (Nat.le_of_ble_eq_true rfl) (by decide) hM (fun x M1 hq => ?_) (fun v M1 hq => ?_)
  · have hx9 := (hw.2 x M1 hq).1
    have hx8 : x = 2 ∨ x = 0 := by simpa using hx9
    rcases hx8 with rfl | rfl
    · refine ⟨[], _, _, 3, 1, rfl, (by decide), (fun u hu => by cases hu), (by decide), (by decide), clw_L_25, ca_2, (by decide), Or.inl ⟨3, rfl, (zdk hL_restore 8 rfl), rfl⟩, ?_⟩
      show zS l G mL_restore 11 430 0 0 13 _ _ _ _
      refine s_iconstv (v := nI 1) (zdk hL_restore 9 rfl) zc_iconst_1 ?_
      refine s_ireturn (zdk hL_restore 10 rfl) rfl rfl ?_
      exact Or.inr ⟨_, hq, rfl⟩
    · refine ⟨[_], _, _, 3, 1, rfl, (by decide), (fun u hu => by rw [List.mem_singleton.mp hu]; exact ⟨2, by decide, by decide, by decide, clw_L_25⟩), (by decide), (by decide), clw_L_13, ca_0, (by decide), Or.inl ⟨3, rfl, (zdk hL_restore 11 rfl), rfl⟩, ?_⟩
      show zS l G mL_restore 11 430 0 0 16 _ _ _ _
      refine s_iconstv (v := nI 2) (zdk hL_restore 12 rfl) zc_iconst_2 ?_
      refine s_ireturn (zdk hL_restore 13 rfl) rfl rfl ?_
      exact Or.inr ⟨_, hq, rfl⟩
  · obtain ⟨⟨x, rfl⟩, hk, hn, -⟩ := hw.1 v M1 hq
    refine s_i2l (zdk hL_restore 5 rfl) ?_
    refine s_lastoreN (N := 1) (j := 0) (zdk hL_restore 6 rfl) hk hn (by decide) (by decide) ?_
    refine s_goto 18 (zdk hL_restore 7 rfl) (by decide) ?_
    refine s_iconstv (v := nI 0) (zdk hL_restore 14 rfl) zc_iconst_0 ?_
    refine s_ireturn (zdk hL_restore 15 rfl) rfl rfl ?_
    exact Or.inl ⟨x, M1, hq, rfl, rfl⟩
theorem c_L_writtenByte (hl : l.stackTraces = false) {M : zMem} (hK0 : zK M 0 = 8 + 1) (p0 : Int32) {Q1 : zOut → zMem → Prop} (hM : zCx2 l G mX8_writtenByte 10 400 5 30 [.ref 0, .int p0] M Q1) (hw : wI Q1 [2]) : zCh l G mL_writtenByte 11 430 5 30 [.ref 0, .int p0, .ref 956] M (wQ Q1 (fun x => 1)) := by
  refine zCh.of (ls0 := [some (.ref 0), some (.int p0), some (.ref 956), none]) (by decide +kernel) hl rfl (Nat.le_of_ble_eq_true rfl) (fun v M' q h0 => absurd (q.h hw) (by rw [h0]; decide)) (fun x M' q => by rcases q with q | q <;> simp_all) ?_
  refine s_aload_n (zdk hL_writtenByte 0 rfl) rfl ?_
  refine s_iconstv (v := nI 0) (zdk hL_writtenByte 1 rfl) zc_iconst_0 ?_
  refine s_aload_n (zdk hL_writtenByte 2 rfl) rfl ?_
  refine s_iload_n (zdk hL_writtenByte 3 rfl) rfl ?_
  refine s_callVH (ci := 8) (as := [.int p0]) (st := [.int (nI 0), .ref 956]) (mc := 5) (ms := 30) (bc := 0) (bs := 0) (zdk hL_writtenByte 4 rfl) cw_L_105 hK0 (by decide) rfl rfl rfl (Nat.le_of_ble_eq_true rfl) (by decide) hM (fun x M1 hq => ?_) (fun v M1 hq => ?_)
  · have hx9 := (hw.2 x M1 hq).1
    have hx8 : x = 2 := by simpa using hx9
    subst hx8
    refine ⟨[], _, _, 3, 1, rfl, (by decide), (fun u hu => by cases hu), (by decide), (by decide), clw_L_25, ca_2, (by decide), Or.inl ⟨3, rfl, (zdk hL_writtenByte 8 rfl), rfl⟩, ?_⟩
    show zS l G mL_writtenByte 11 430 0 0 13 _ _ _ _
    refine s_iconstv (v := nI 1) (zdk hL_writtenByte 9 rfl) zc_iconst_1 ?_
    refine s_ireturn (zdk hL_writtenByte 10 rfl) rfl rfl ?_
    exact Or.inr ⟨_, hq, rfl⟩
  · obtain ⟨⟨x, rfl⟩, hk, hn, -⟩ := hw.1 v M1 hq
    refine s_i2l (zdk hL_writtenByte 5 rfl) ?_
    refine s_lastoreN (N := 1) (j := 0) (zdk hL_writtenByte 6 rfl) hk hn (by decide) (by decide) ?_
    refine s_goto 15 (zdk hL_writtenByte 7 rfl) (by decide) ?_
    refine s_iconstv (v := nI 0) (zdk hL_writtenByte 11 rfl) zc_iconst_0 ?_
    refine s_ireturn (zdk hL_writtenByte 12 rfl) rfl rfl ?_
    exact Or.inl ⟨x, M1, hq, rfl, rfl⟩
end
