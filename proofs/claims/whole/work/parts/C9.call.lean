/-! ===== the class reads all tiers, all files ===== -/
theorem rTR_w {u : Nat → Int32} {n t : Nat} {g g' : Nat → Int64} {r r' : rRd} (w : ¬ r.2.2.2.2.1 = 0) (h : rTR u n t g r g' r') : g' = g ∧ r' = r := by
  obtain ⟨r0, v1, ra, rb, nv, rc, h0, hv, ha, hb, hn, hc, hh⟩ := h
  have e0 : r0 = r := by
    rw [← h0]
    split
    · exact rFl_n w
    · rfl
  subst e0
  have ea : ra = r0 := ha.symm.trans (rMu_w w)
  have e : rc = r0 := (rX_w hb hn hc (by rw [ea]; exact w)).trans ea
  rcases hh with ⟨q, -⟩ | ⟨-, e1, e2, -⟩
  · rw [e] at q
    exact absurd q w
  · exact ⟨e1, e2.trans e⟩
/-- tiers: f must be there, k are told besides -/
def rTl (u : Nat → Int32) (n : Nat) : Nat → Nat → (Nat → Int64) → rRd → (Nat → Int64) → rRd → Prop
  | 0, k, g, r, g', r' => rTs u n k g r g' r'
  | f + 1, k, g, r, g', r' => ∃ g1 r1, rTR u n (gN g 2) g r g1 r1 ∧ rTl u n f k g1 r1 g' r'
theorem rTs_w {u : Nat → Int32} {n k : Nat} {g g' : Nat → Int64} {r r' : rRd} (w : ¬ r.2.2.2.2.1 = 0) (h : rTs u n k g r g' r') : g' = g ∧ r' = r := by
  cases k with
  | zero => exact h.2
  | succ k => exact absurd (rIw_n w) h.1
theorem rTl_w {u : Nat → Int32} {n k : Nat} {g' : Nat → Int64} {r' : rRd} : ∀ f (g : Nat → Int64) (r : rRd), ¬ r.2.2.2.2.1 = 0 → rTl u n f k g r g' r' → g' = g ∧ r' = r
  | 0, g, r, w, h => rTs_w w h
  | f + 1, g, r, w, h => by
    obtain ⟨g1, r1, h1, h2⟩ := h
    obtain ⟨rfl, rfl⟩ := rTR_w w h1
    exact rTl_w f _ _ w h2
theorem rFs_w {u : Nat → Int32} {n k : Nat} {g g' : Nat → Int64} {r r' : rRd} (w : ¬ r.2.2.2.2.1 = 0) (h : rFs u n k g r g' r') : g' = g ∧ r' = r := by
  cases k with
  | zero => exact h.2
  | succ k => exact absurd (rIw_n w) h.1
/-- and what holds then -/
def zQP (B : zMem) (a n s : Nat) (u : Nat → Int32) (g' : Nat → Int64) (r' : rRd) (P : Prop) : zOut → zMem → Prop := fun o M => tQ B a n s u g' r' o M ∧ (r'.2.2.2.2.1 = 0 → P)
section
variable {l : Launch} {G : zG}
theorem e_next (hl : l.stackTraces = false) {M : zMem} {a n p : Nat} {u : Nat → Int32} {r : rRd} (hb : eB M a n u) (hp : zI M a 3 = nI p) (hs : eSy u n p r) : zCm l G mX4_nextByte 0 0 0 0 [.ref a] M (fun o M1 => o = .inl (some (.int (zrb u n r.1))) ∧ eR M M1 a n u r ∧ zI M1 a 3 = nI r.1) := by
  obtain ⟨h1, h2, h3, rfl⟩ := hb
  refine zCm.imp (c_X4_nextByte hl h1 h2 h3 hp hs.1) (fun v M1 q => ?_)
  obtain ⟨q1, rfl⟩ := q
  have c := eSy_cs hs rfl
  refine ⟨q1.trans (by rw [c.1]), eR_at hs.at c.1.symm, ?_⟩
  exact (congrFun zI_Ie 3).trans (zw1_e.trans (by rw [c.1]))
theorem w_X4_readTiers_2 (hl : l.stackTraces = false) {B : zMem} {a n s : Nat} {u : Nat → Int32} (hd : a + 2 ≤ s ∨ s + 77 ≤ a) {g' : Nat → Int64} {r' : rRd} : ∀ (k i : Nat) (N : zMem) (p : Nat) (g : Nat → Int64) (r : rRd) (q : Nat → Nat) (f k9 : Nat), eM B N a s → eB N a n u → zI N a 3 = nI p → eSy u n p r → rSt N s g q → gRI g → gN g 3 = 0 → gN g 2 = i → f = 2 - i → rTl u n f k9 g r g' r' → 5 - i < k → zS l G mX4_readTiers 7 240 0 0 2 [some (.ref a), some (.ref s), some (.int (nI i))] [] N (zQP B a n s u g' r' (gRI g' ∧ gN g' 3 = 0 ∧ 2 ≤ gN g' 2)) := by
  intro k
  induction k with
  | zero => intros; omega
  | succ k ih =>
    intro i N p g r q f k9 hM hbN hp hs hr hR h3 hi hf hl9 hk
    have f2 := hR.1.2.1.2
    have h2 : g 2 = (nI (gN g 2)).toInt64 := by
      have e := hR.2.1 2 (by omega) (fun f _ => by omega)
      rw [hR.1.2.1.1] at e
      exact e
    refine s_iload_n (zdk hX4_readTiers 2 rfl) rfl ?_
    refine s_iconstv (v := nI 4) (zdk hX4_readTiers 3 rfl) zc_iconst_4 ?_
    refine s_icmp_gt 37 (zdk hX4_readTiers 4 rfl) (by decide) (fun c4 => ?_) (fun c4 => ?_)
    · have n4 : 4 < i := nlt' c4 (by omega) (by omega)
      omega
    · have n4 : i ≤ 4 := nge' c4 (by omega) (by omega)
      refine s_iload_n (zdk hX4_readTiers 5 rfl) rfl ?_
      refine s_iconstv (v := nI 2) (zdk hX4_readTiers 6 rfl) zc_iconst_2 ?_
      refine s_icmp_lt 21 (zdk hX4_readTiers 7 rfl) (by decide) (fun c9 => ?_) (fun c9 => ?_)
      · have n9 : i < 2 := nlt' c9 (by omega) (by omega)
        obtain ⟨f2, rfl⟩ : ∃ f2, f = f2 + 1 := ⟨f - 1, by omega⟩
        obtain ⟨gg1, rr1, t1, l1⟩ := hl9
        refine s_aload_n (zdk hX4_readTiers 12 rfl) rfl ?_
        refine s_aload_n (zdk hX4_readTiers 13 rfl) rfl ?_
        refine s_callV1 (ci := 4) [.ref s] (zdk hX4_readTiers 14 rfl) cw_X4_78 (hbN.1.1) (by decide) rfl rfl rfl (Nat.le_of_ble_eq_true rfl) (by decide) (c_X4_readTier hl hbN hd hp hs hr hR.2.2.1 h2 hR.2.2.2.2.2.1 t1 (Or.inl (by omega))) ?_
        intro v9 M2 q9
        have t2 := q9
        obtain ⟨q8, -⟩ := q9
        cases q8
        have t3 := hM.tq t2
        have hb2 : eB M2 a n u := hbN.mv hd t2.2.1 t2.2.2.1 t2.2.2.2.1
        have m3 := hM
        refine s_if_ne 31 (zdk hX4_readTiers 15 rfl) (by decide) (fun c26 => ?_) (fun c26 => ?_)
        · have b26 : rr1.2.2.2.2.1 = 0 := b01_ne c26
          refine s_iinc (r := nI (i + 1)) (zdk hX4_readTiers 18 rfl) (Nat.le_of_ble_eq_true rfl) rfl (nI_1 _) ?_
          refine s_ls (ls' := [some (.ref a), some (.ref s), some (.int (nI (i + 1)))]) rfl ?_
          refine s_goto 2 (zdk hX4_readTiers 19 rfl) (by decide) ?_
          obtain ⟨m2, ⟨p2, hp2, hs2⟩, q2, hr2⟩ := t2.y b26
          have gi := gRI_T t1 hs hR h3 b26
          exact ih (i + 1) M2 p2 gg1 rr1 q2 _ _ (m3.tr m2) hb2 hp2 hs2 hr2 gi.1 gi.2.1 (gi.2.2.trans (by omega)) (by omega) l1 (by omega)
        · have b26 : ¬ (rr1.2.2.2.2.1 = 0) := b01_eq c26
          refine s_iconstv (v := nI 0) (zdk hX4_readTiers 16 rfl) zc_iconst_0 ?_
          refine s_ireturn (zdk hX4_readTiers 17 rfl) rfl rfl ?_
          have e := rTl_w _ _ _ b26 l1
          rw [if_neg b26] at t3
          rw [e.1, e.2]
          exact ⟨t3, fun z => absurd z b26⟩
      · have n9 : 2 ≤ i := nge' c9 (by omega) (by omega)
        obtain rfl : f = 0 := by omega
        refine s_aload_n (zdk hX4_readTiers 8 rfl) rfl ?_
        refine s_ldcS (tx := "tier") (k := 2) (zdk hX4_readTiers 9 rfl) (by decide +kernel) (by decide) ?_
        refine s_callV1 (ci := 4) [.ref (1000000 + 2)] (zdk hX4_readTiers 10 rfl) cw_X4_65 (hbN.1.1) (by decide) rfl rfl rfl (Nat.le_of_ble_eq_true rfl) (by decide) (e_word hl hbN hp hs (w := 2) (by decide)) ?_
        intro v9 M1 q9
        obtain ⟨q8, k1, z1, y1⟩ := q9
        cases q8
        have hb1 := hbN.keep k1
        have r1 := hr.keep (k1.1.mono (fun c hc => by omega))
        refine s_if_eq 37 (zdk hX4_readTiers 11 rfl) (by decide) (fun c18 => ?_) (fun c18 => ?_)
        · obtain ⟨e1, e2⟩ : g' = g ∧ r' = r := by
            cases k9 with
            | zero => exact hl9.2
            | succ k8 => exact absurd c18 hl9.1
          refine s_iconstv (v := nI 1) (zdk hX4_readTiers 20 rfl) zc_iconst_1 ?_
          refine s_ireturn (zdk hX4_readTiers 21 rfl) rfl rfl ?_
          rw [e1, e2]
          refine ⟨?_, fun _ => ⟨hR, h3, by omega⟩⟩
          have z := hM.q (g' := g) k1 r1 (fun _ => rfl)
          rw [if_pos hs.2.1] at z
          exact z
        · obtain ⟨k8, gg1, rr1, t1, l1⟩ : ∃ k8 gg1 rr1, rTR u n (gN g 2) g r gg1 rr1 ∧ rTl u n 0 k8 gg1 rr1 g' r' := by
            cases k9 with
            | zero => exact absurd hl9.1 c18
            | succ k8 =>
              obtain ⟨-, gg1, rr1, q1, q2⟩ := hl9
              exact ⟨k8, gg1, rr1, q1, q2⟩
          refine s_aload_n (zdk hX4_readTiers 12 rfl) rfl ?_
          refine s_aload_n (zdk hX4_readTiers 13 rfl) rfl ?_
          refine s_callV1 (ci := 4) [.ref s] (zdk hX4_readTiers 14 rfl) cw_X4_78 (hb1.1.1) (by decide) rfl rfl rfl (Nat.le_of_ble_eq_true rfl) (by decide) (c_X4_readTier hl hb1 hd z1 hs.at r1 hR.2.2.1 h2 hR.2.2.2.2.2.1 t1 (Or.inr c18)) ?_
          intro v9 M2 q9
          have t2 := q9
          obtain ⟨q8, -⟩ := q9
          cases q8
          have t3 := (hM.step k1 hs.2.1).tq t2
          have hb2 : eB M2 a n u := hb1.mv hd t2.2.1 t2.2.2.1 t2.2.2.2.1
          have m3 := (hM.step k1 hs.2.1)
          refine s_if_ne 31 (zdk hX4_readTiers 15 rfl) (by decide) (fun c26 => ?_) (fun c26 => ?_)
          · have b26 : rr1.2.2.2.2.1 = 0 := b01_ne c26
            refine s_iinc (r := nI (i + 1)) (zdk hX4_readTiers 18 rfl) (Nat.le_of_ble_eq_true rfl) rfl (nI_1 _) ?_
            refine s_ls (ls' := [some (.ref a), some (.ref s), some (.int (nI (i + 1)))]) rfl ?_
            refine s_goto 2 (zdk hX4_readTiers 19 rfl) (by decide) ?_
            obtain ⟨m2, ⟨p2, hp2, hs2⟩, q2, hr2⟩ := t2.y b26
            have gi := gRI_T t1 hs hR h3 b26
            exact ih (i + 1) M2 p2 gg1 rr1 q2 _ _ (m3.tr m2) hb2 hp2 hs2 hr2 gi.1 gi.2.1 (gi.2.2.trans (by omega)) (by omega) l1 (by omega)
          · have b26 : ¬ (rr1.2.2.2.2.1 = 0) := b01_eq c26
            refine s_iconstv (v := nI 0) (zdk hX4_readTiers 16 rfl) zc_iconst_0 ?_
            refine s_ireturn (zdk hX4_readTiers 17 rfl) rfl rfl ?_
            have e := rTl_w _ _ _ b26 l1
            rw [if_neg b26] at t3
            rw [e.1, e.2]
            exact ⟨t3, fun z => absurd z b26⟩
theorem c_X4_readTiers (hl : l.stackTraces = false) {M : zMem} {a n s : Nat} {u : Nat → Int32} (hb : eB M a n u) (hd : a + 2 ≤ s ∨ s + 77 ≤ a) {p : Nat} {r : rRd} (hp : zI M a 3 = nI p) (hs : eSy u n p r) {g : Nat → Int64} {q : Nat → Nat} (hg : rSt M s g q) (hR : gRI g) (h3 : gN g 3 = 0) (h2 : gN g 2 = 0) {k9 : Nat} {g' : Nat → Int64} {r' : rRd} (hl9 : rTl u n 2 k9 g r g' r') : zCm l G mX4_readTiers 7 240 0 0 [.ref a, .ref s] M (zQP M a n s u g' r' (gRI g' ∧ gN g' 3 = 0 ∧ 2 ≤ gN g' 2)) := by
  refine zCm.of0 (ls0 := [some (.ref a), some (.ref s), none]) (by decide +kernel) rfl hl rfl (Nat.le_of_ble_eq_true rfl) (fun v' M' q => q.1.2.1.1) (fun x M' q => by cases q.1.1) ?_
  refine s_iconstv (v := nI 0) (zdk hX4_readTiers 0 rfl) zc_iconst_0 ?_
  refine s_istore_n (zdk hX4_readTiers 1 rfl) (Nat.le_of_ble_eq_true rfl) ?_
  refine s_ls (ls' := [some (.ref a), some (.ref s), some (.int (nI 0))]) rfl ?_
  exact w_X4_readTiers_2 hl hd 6 0 M p g r q 2 k9 eM.refl hb hp hs hg hR h3 h2 rfl hl9 (by omega)
theorem w_X4_readFiles_2 (hl : l.stackTraces = false) {B : zMem} {a n s : Nat} {u : Nat → Int32} (hd : a + 2 ≤ s ∨ s + 77 ≤ a) (hu1 : ∀ j, j < n → ¬ u j = -1) {ge : Nat → Int64} {r5 re : rRd} (hre : (if r5.2.2.2.2.1 = 0 ∧ ¬ r5.2.2.1 = 3 then rFl r5 (-2) else r5) = re) : ∀ (k i : Nat) (N : zMem) (p : Nat) (g : Nat → Int64) (r : rRd) (q : Nat → Nat) (k9 : Nat), eM B N a s → eB N a n u → zI N a 3 = nI p → eSy u n p r → rSt N s g q → gRI g → 2 ≤ gN g 2 → gN g 3 = i → rFs u n k9 g r ge r5 → 21 - i < k → zS l G mX4_readFiles 7 240 0 0 2 [some (.ref a), some (.ref s), some (.int (nI i))] [] N (zQP B a n s u ge re (gRI ge ∧ 2 ≤ gN ge 2)) := by
  intro k
  induction k with
  | zero => intros; omega
  | succ k ih =>
    intro i N p g r q k9 hM hbN hp hs hr hR h2 hi hl9 hk
    have f3 := hR.1.2.2.1.2
    have h3 : g 3 = (nI (gN g 3)).toInt64 := by
      have e := hR.2.1 3 (by omega) (fun f _ => by omega)
      rw [hR.1.2.2.1.1] at e
      exact e
    refine s_iload_n (zdk hX4_readFiles 2 rfl) rfl ?_
    refine s_bipushv (v := nI 20) (zdk hX4_readFiles 3 rfl) zc_bipush_20 ?_
    refine s_icmp_gt 32 (zdk hX4_readFiles 4 rfl) (by decide) (fun c5 => ?_) (fun c5 => ?_)
    · have n5 : 20 < i := nlt' c5 (by omega) (by omega)
      omega
    · have n5 : i ≤ 20 := nge' c5 (by omega) (by omega)
      refine s_aload_n (zdk hX4_readFiles 5 rfl) rfl ?_
      refine s_callV1 (ci := 4) [] (zdk hX4_readFiles 6 rfl) cw_X4_114 (hbN.1.1) (by decide) rfl rfl rfl (Nat.le_of_ble_eq_true rfl) (by decide) (e_next hl hbN hp hs) ?_
      intro v9 M1 q9
      obtain ⟨q8, k1, z1⟩ := q9
      cases q8
      have hb1 := hbN.keep k1
      have r1 := hr.keep (k1.1.mono (fun c hc => by omega))
      refine s_iconstv (v := (-1)) (zdk hX4_readFiles 7 rfl) zc_iconst_m1 ?_
      refine s_icmp_eq 32 (zdk hX4_readFiles 8 rfl) (by decide) (fun c13 => ?_) (fun c13 => ?_)
      · have kk3 : r.2.2.1 = 3 := by
          have c := eSy_cs hs rfl
          rcases c.2.2.2 with ⟨a9, k9, -, e9⟩ | ⟨a9, b9, k9, e9, g9⟩ | ⟨a9, b9, k9, -, -, e9⟩ | ⟨a9, b9, d9, k9, -, e9⟩
          · exact k9
          · rw [c.1, show zrb u n _ = u _ from if_pos a9] at c13
            exact absurd c13 (hu1 _ a9)
          · rw [c.1, show zrb u n _ = u _ from if_pos a9] at c13
            exact absurd c13 (hu1 _ a9)
          · rw [c.1, show zrb u n _ = u _ from if_pos a9] at c13
            exact absurd c13 (hu1 _ a9)
        have w3 : rIw u 3 r = 0 := (if_neg (fun q9 => absurd (q9.2.1.symm.trans kk3) (by decide))).trans (by decide)
        obtain ⟨e1, e2⟩ : ge = g ∧ r5 = r := by
          cases k9 with
          | zero => exact hl9.2
          | succ k8 => exact absurd w3 hl9.1
        have e3 : re = r := by rw [← hre, e2]; exact if_neg (fun q9 => q9.2 kk3)
        refine s_iconstv (v := nI 1) (zdk hX4_readFiles 17 rfl) zc_iconst_1 ?_
        refine s_ireturn (zdk hX4_readFiles 18 rfl) rfl rfl ?_
        rw [e1, e3]
        refine ⟨?_, fun _ => ⟨hR, h2⟩⟩
        have z := hM.q (g' := g) k1 r1 (fun _ => rfl)
        rw [if_pos hs.2.1] at z
        exact z
      · have kk3 : ¬ r.2.2.1 = 3 := fun q9 => by
          have c := eSy_cs hs rfl
          rcases c.2.2.2 with ⟨a9, k9, -, e9⟩ | ⟨a9, b9, k9, e9, g9⟩ | ⟨a9, b9, k9, -, -, e9⟩ | ⟨a9, b9, d9, k9, -, e9⟩
          · rw [c.1] at c13
            exact c13 (if_neg (by omega))
          · omega
          · omega
          · omega
        by_cases w3 : rIw u 3 r = 0
        · obtain ⟨e1, e2⟩ : ge = g ∧ r5 = r := by
            cases k9 with
            | zero => exact hl9.2
            | succ k8 => exact absurd w3 hl9.1
          have e3 : re = rFl r (-2) := by rw [← hre, e2]; exact if_pos ⟨hs.2.1, kk3⟩
          refine s_aload_n (zdk hX4_readFiles 9 rfl) rfl ?_
          refine s_aload_n (zdk hX4_readFiles 10 rfl) rfl ?_
          refine s_callV1 (ci := 4) [.ref s] (zdk hX4_readFiles 11 rfl) cw_X4_118 (hb1.1.1) (by decide) rfl rfl rfl (Nat.le_of_ble_eq_true rfl) (by decide) (c_X4_readFile_e hl hb1 hd z1 hs.at r1 w3 ge) ?_
          intro v9 M2 q9
          have t2 := q9
          obtain ⟨q8, -⟩ := q9
          cases q8
          have t3 := (hM.step k1 hs.2.1).tq t2
          refine s_if_ne 26 (zdk hX4_readFiles 12 rfl) (by decide) (fun c21 => ?_) (fun c21 => ?_)
          · have b21 : (rFl r (-2)).2.2.2.2.1 = 0 := b01_ne c21
            rw [rFl_w hs.2.1] at b21
            exact absurd b21 (by decide)
          · have b21 : ¬ ((rFl r (-2)).2.2.2.2.1 = 0) := b01_eq c21
            refine s_iconstv (v := nI 0) (zdk hX4_readFiles 13 rfl) zc_iconst_0 ?_
            refine s_ireturn (zdk hX4_readFiles 14 rfl) rfl rfl ?_
            rw [if_neg b21] at t3
            rw [e3]
            exact ⟨t3, fun z => absurd z b21⟩
        · obtain ⟨k8, gg1, rr1, t1, l1⟩ : ∃ k8 gg1 rr1, rFR u n (gN g 3) g r gg1 rr1 ∧ rFs u n k8 gg1 rr1 ge r5 := by
            cases k9 with
            | zero => exact absurd hl9.1 w3
            | succ k8 =>
              obtain ⟨-, gg1, rr1, q1, q2⟩ := hl9
              exact ⟨k8, gg1, rr1, q1, q2⟩
          refine s_aload_n (zdk hX4_readFiles 9 rfl) rfl ?_
          refine s_aload_n (zdk hX4_readFiles 10 rfl) rfl ?_
          refine s_callV1 (ci := 4) [.ref s] (zdk hX4_readFiles 11 rfl) cw_X4_118 (hb1.1.1) (by decide) rfl rfl rfl (Nat.le_of_ble_eq_true rfl) (by decide) (c_X4_readFile hl hb1 hd z1 hs.at r1 hR.2.2.1 hR.2.2.2.1 h3 (fun t ht => (hR.2.2.2.2.1.2.1 t ht).1) (fun f hf => (hR.2.2.2.2.1.2.2 f hf).1) t1 w3) ?_
          intro v9 M2 q9
          have t2 := q9
          obtain ⟨q8, -⟩ := q9
          cases q8
          have t3 := (hM.step k1 hs.2.1).tq t2
          have hb2 : eB M2 a n u := hb1.mv hd t2.2.1 t2.2.2.1 t2.2.2.2.1
          refine s_if_ne 26 (zdk hX4_readFiles 12 rfl) (by decide) (fun c21 => ?_) (fun c21 => ?_)
          · have b21 : rr1.2.2.2.2.1 = 0 := b01_ne c21
            refine s_iinc (r := nI (i + 1)) (zdk hX4_readFiles 15 rfl) (Nat.le_of_ble_eq_true rfl) rfl (nI_1 _) ?_
            refine s_ls (ls' := [some (.ref a), some (.ref s), some (.int (nI (i + 1)))]) rfl ?_
            refine s_goto 2 (zdk hX4_readFiles 16 rfl) (by decide) ?_
            obtain ⟨m2, ⟨p2, hp2, hs2⟩, q2, hr2⟩ := t2.y b21
            have gi := gRI_F t1 hs hR b21
            exact ih (i + 1) M2 p2 gg1 rr1 q2 k8 ((hM.step k1 hs.2.1).tr m2) hb2 hp2 hs2 hr2 gi.1 (by rw [gi.2.2]; exact h2) (gi.2.1.trans (by omega)) l1 (by omega)
          · have b21 : ¬ (rr1.2.2.2.2.1 = 0) := b01_eq c21
            refine s_iconstv (v := nI 0) (zdk hX4_readFiles 13 rfl) zc_iconst_0 ?_
            refine s_ireturn (zdk hX4_readFiles 14 rfl) rfl rfl ?_
            have e := rFs_w b21 l1
            have e3 : re = rr1 := by rw [← hre, e.2]; exact if_neg (fun q9 => b21 q9.1)
            rw [if_neg b21] at t3
            rw [e.1, e3]
            exact ⟨t3, fun z => absurd z b21⟩
theorem c_X4_readFiles (hl : l.stackTraces = false) {M : zMem} {a n s : Nat} {u : Nat → Int32} (hb : eB M a n u) (hd : a + 2 ≤ s ∨ s + 77 ≤ a) (hu1 : ∀ j, j < n → ¬ u j = -1) {p : Nat} {r : rRd} (hp : zI M a 3 = nI p) (hs : eSy u n p r) {g : Nat → Int64} {q : Nat → Nat} (hg : rSt M s g q) (hR : gRI g) (h2 : 2 ≤ gN g 2) (h3 : gN g 3 = 0) {k9 : Nat} {ge : Nat → Int64} {r5 re : rRd} (hl9 : rFs u n k9 g r ge r5) (hre : (if r5.2.2.2.2.1 = 0 ∧ ¬ r5.2.2.1 = 3 then rFl r5 (-2) else r5) = re) : zCm l G mX4_readFiles 7 240 0 0 [.ref a, .ref s] M (zQP M a n s u ge re (gRI ge ∧ 2 ≤ gN ge 2)) := by
  refine zCm.of0 (ls0 := [some (.ref a), some (.ref s), none]) (by decide +kernel) rfl hl rfl (Nat.le_of_ble_eq_true rfl) (fun v' M' q => q.1.2.1.1) (fun x M' q => by cases q.1.1) ?_
  refine s_iconstv (v := nI 0) (zdk hX4_readFiles 0 rfl) zc_iconst_0 ?_
  refine s_istore_n (zdk hX4_readFiles 1 rfl) (Nat.le_of_ble_eq_true rfl) ?_
  refine s_ls (ls' := [some (.ref a), some (.ref s), some (.int (nI 0))]) rfl ?_
  exact w_X4_readFiles_2 hl hd hu1 hre 22 0 M p g r q k9 eM.refl hb hp hs hg hR h2 h3 hl9 (by omega)
end
