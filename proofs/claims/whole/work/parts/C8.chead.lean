/-! ===== the class reads the head ===== -/
theorem tQ.y {M M1 : zMem} {a n s : Nat} {u : Nat → Int32} {g' : Nat → Int64} {r' : rRd} {o : zOut} (h : tQ M a n s u g' r' o M1) (w : r'.2.2.2.2.1 = 0) : eM M M1 a s ∧ (∃ p, zI M1 a 3 = nI p ∧ eSy u n p r') ∧ ∃ q, rSt M1 s g' q := by
  obtain ⟨-, h2, h3, h4, h5, hh, q, hr, he⟩ := h
  rcases h5 with z | z
  · exact ⟨⟨h2, h3, h4, z.2.1⟩, z.2.2, q, by rw [← he w]; exact hr⟩
  · exact absurd w z.1
theorem eM.tr {B M M1 : zMem} {a s : Nat} (k : eM B M a s) (h : eM M M1 a s) : eM B M1 a s := ⟨k.1.trans h.1, h.2.1.trans k.2.1, h.2.2.1.trans k.2.2.1, h.2.2.2.trans k.2.2.2⟩
theorem eB.mv {N M2 : zMem} {a n s : Nat} {u : Nat → Int32} (h : eB N a n u) (hd : a + 2 ≤ s ∨ s + 77 ≤ a) (k : zag N M2 (fun c => c ≠ a ∧ (c < s ∨ s + 77 ≤ c))) (k2 : zR M2 a = zR N a) (k3 : zI M2 a 0 = zI N a 0) : eB M2 a n u := by
  obtain ⟨h1, h2, h3, h4⟩ := h
  refine ⟨?_, k3.trans h2, h3, by rw [(k.2 (a + 1) (by omega)).1]; exact h4⟩
  unfold eSh at *
  rw [zsh_K k.1, zsh_K k.1, zsh_N k.1, k2]
  exact h1
theorem eM.tq {B M M1 : zMem} {a n s : Nat} {u : Nat → Int32} {g' : Nat → Int64} {r' : rRd} {o : zOut} (k : eM B M a s) (h : tQ M a n s u g' r' o M1) : tQ B a n s u g' r' o M1 := by
  obtain ⟨h1, h2, h3, h4, h5, h6⟩ := h
  refine ⟨h1, k.1.trans h2, h3.trans k.2.1, h4.trans k.2.2.1, ?_, h6⟩
  rcases h5 with z | z
  · exact Or.inl ⟨z.1, z.2.1.trans k.2.2.2, z.2.2⟩
  · exact Or.inr z
theorem tQ.g {M M1 : zMem} {a n s : Nat} {u : Nat → Int32} {g' g2 : Nat → Int64} {r' : rRd} {o : zOut} (h : tQ M a n s u g' r' o M1) (w : ¬ r'.2.2.2.2.1 = 0) : tQ M a n s u g2 r' o M1 := by
  obtain ⟨h1, h2, h3, h4, h5, hh, q, hr, he⟩ := h
  exact ⟨h1, h2, h3, h4, h5, hh, q, hr, fun z => absurd z w⟩
section
variable {l : Launch} {G : zG}
theorem w_X4_readHead_63 (hl : l.stackTraces = false) {B N : zMem} {a n s : Nat} {u : Nat → Int32} (hd : a + 2 ≤ s ∨ s + 77 ≤ a) (hM : eM B N a s) (hbN : eB N a n u) {p c : Nat} {rt : Int32} {y : (Nat → Int64) × rRd} (hp : zI N a 3 = nI p) (hs : eSy u n p y.2) {g0 : Nat → Int64} {q : Nat → Nat} (hr : rSt N s g0 q) (hc : 2 ≤ c ∧ c ≤ 12) (i0 : its y.1 0 = nI c) (i1 : its y.1 1 = rt) (i2 : its y.1 2 = nI 0) (i3 : its y.1 3 = nI 0) (i4 : its y.1 4 = nI 0) (i5 : its y.1 5 = nI 0) : zS l G mX4_readHead 6 200 0 0 63 [some (.ref a), some (.ref s), some (.int (nI c)), some (.int (rt))] [] N (tQ B a n s u y.1 (rEn u n y.2)) := by
  refine s_aload_n (zdk hX4_readHead 34 rfl) rfl ?_
  refine s_iload_n (zdk hX4_readHead 35 rfl) rfl ?_
  refine s_iload_n (zdk hX4_readHead 36 rfl) rfl ?_
  refine s_callV1 (ci := 5) [.int (nI c), .int (rt)] (zdk hX4_readHead 37 rfl) cw_X4_68 (hr.K) (by decide) rfl rfl rfl (Nat.le_of_ble_eq_true rfl) (by decide) (c_X5_startAs hl hr (c := c) (r := rt) hc i0 i1 i2 i3 i4 i5) ?_
  intro v9 M1 q9
  obtain ⟨q8, a3, r3⟩ := q9
  cases q8
  have hb1 := hbN.st hd a3
  have hp1 := (congrFun (a3.2 a (by omega)).1 3).trans hp
  refine s_aload_n (zdk hX4_readHead 38 rfl) rfl ?_
  refine s_callV1 (ci := 4) [] (zdk hX4_readHead 39 rfl) cw_X4_72 (hb1.1.1) (by decide) rfl rfl rfl (Nat.le_of_ble_eq_true rfl) (by decide) (e_semi hl hb1 hp1 hs) ?_
  intro v9 M2 q9
  obtain ⟨q8, k2⟩ := q9
  cases q8
  have hb2 := hb1.keep k2
  have r2 := r3.keep (k2.1.mono (fun c hc => by omega))
  refine s_ireturn (zdk hX4_readHead 40 rfl) rfl nar01 ?_
  exact (hM.st (by omega) a3).q k2 r2 (fun _ => rfl)
theorem c_X4_readHead (hl : l.stackTraces = false) {M : zMem} {a n s : Nat} {u : Nat → Int32} (hb : eB M a n u) (hd : a + 2 ≤ s ∨ s + 77 ≤ a) {p : Nat} {r : rRd} (hp : zI M a 3 = nI p) (hs : eSy u n p r) {g0 : Nat → Int64} {q : Nat → Nat} (hg : rSt M s g0 q) {g : Nat → Int64} (g1 : its g 1 = nI 4) (g2 : its g 2 = nI 0) (g3 : its g 3 = nI 0) (g4 : its g 4 = nI 0) (g5 : its g 5 = nI 0) {g' : Nat → Int64} {r' : rRd} (hh : rHR u n g r g' r') : zCm l G mX4_readHead 6 200 0 0 [.ref a, .ref s] M (tQ M a n s u g' r') := by
  obtain ⟨v1, r1, x, v3, y, hv1, hr1, hx, hv3, hy, rfl, rfl, ok⟩ := hh
  refine zCm.of0 (ls0 := [some (.ref a), some (.ref s), none, none]) (by decide +kernel) rfl hl rfl (Nat.le_of_ble_eq_true rfl) (fun v' M' q => q.2.1.1) (fun x M' q => by cases q.1) ?_
  refine s_aload_n (zdk hX4_readHead 0 rfl) rfl ?_
  refine s_ldcS (tx := "cycle") (k := 0) (zdk hX4_readHead 1 rfl) (by decide +kernel) (by decide) ?_
  refine s_callV1 (ci := 4) [.ref (1000000 + 0)] (zdk hX4_readHead 2 rfl) cw_X4_55 (hb.1.1) (by decide) rfl rfl rfl (Nat.le_of_ble_eq_true rfl) (by decide) (e_pass hl hb hp hs (w := 0) (by decide)) ?_
  intro v9 M1 q9
  rw [hv1, hr1] at q9
  obtain ⟨q8, k1⟩ := q9
  cases q8
  have hb1 := hb.keep k1
  have s1 := hg.keep (k1.1.mono (fun c hc => by omega))
  refine s_if_eq 19 (zdk hX4_readHead 3 rfl) (by decide) (fun c6 => ?_) (fun c6 => ?_)
  · have b6 : ¬ (r1.2.2.2.2.1 = 0) := b01_eq c6
    refine s_iconstv (v := nI 0) (zdk hX4_readHead 9 rfl) zc_iconst_0 ?_
    refine s_ireturn (zdk hX4_readHead 10 rfl) rfl rfl ?_
    have e2 : x.2 = r1 := by rw [← hx, rTa_n b6]
    have e3 : v3 = 0 := by rw [← hv3, e2, rIw_n b6]
    rw [if_pos e3] at hy
    have e4 : y.2 = r1 := by rw [← hy]; exact e2
    rw [e4, rEn_w b6]
    exact tQ_n b6 k1 s1
  · have b6 : r1.2.2.2.2.1 = 0 := b01_ne c6
    obtain ⟨e1, p1, hp1, hs1⟩ := k1.y b6
    refine s_aload_n (zdk hX4_readHead 4 rfl) rfl ?_
    refine s_iconstv (v := nI 2) (zdk hX4_readHead 5 rfl) zc_iconst_2 ?_
    refine s_bipushv (v := nI 12) (zdk hX4_readHead 6 rfl) zc_bipush_12 ?_
    refine s_callV1 (ci := 4) [.int (nI 2), .int (nI 12)] (zdk hX4_readHead 7 rfl) cw_X4_59 (hb1.1.1) (by decide) rfl rfl rfl (Nat.le_of_ble_eq_true rfl) (by decide) (e_num hl hb1 hp1 hs1 (nI 2) (hi := nI 12) (by decide)) ?_
    intro v9 M2 q9
    rw [hx] at q9
    obtain ⟨q8, k2, m2⟩ := q9
    cases q8
    have hb2 := hb1.keep k2
    have s2 := s1.keep (k2.1.mono (fun c hc => by omega))
    refine s_if_ne 21 (zdk hX4_readHead 8 rfl) (by decide) (fun c16 => ?_) (fun c16 => ?_)
    · have b16 : x.2.2.2.2.2.1 = 0 := b01_ne c16
      obtain ⟨e2, p2, hp2, hs2⟩ := k2.y b16
      obtain ⟨c, ec, c1, c2⟩ := nLe_ta (u := u) (n := n) (r := r1) (lo := 2) (hi := 12) (by omega) (by omega) (by rw [hx]; exact b16)
      rw [hx] at ec
      refine s_aload_n (zdk hX4_readHead 11 rfl) rfl ?_
      refine s_getI (zdk hX4_readHead 12 rfl) fw_X4_28 rfl (hb2.1.1) ?_
      refine s_topi (b := nI c) ((m2 b16).trans ec) ?_
      refine s_istore_n (zdk hX4_readHead 13 rfl) (Nat.le_of_ble_eq_true rfl) ?_
      refine s_ls (ls' := [some (.ref a), some (.ref s), some (.int (nI c)), none]) rfl ?_
      refine s_iconstv (v := nI 4) (zdk hX4_readHead 14 rfl) zc_iconst_4 ?_
      refine s_istore_n (zdk hX4_readHead 15 rfl) (Nat.le_of_ble_eq_true rfl) ?_
      refine s_ls (ls' := [some (.ref a), some (.ref s), some (.int (nI c)), some (.int (nI 4))]) rfl ?_
      refine s_aload_n (zdk hX4_readHead 16 rfl) rfl ?_
      refine s_ldcS (tx := "rate") (k := 1) (zdk hX4_readHead 17 rfl) (by decide +kernel) (by decide) ?_
      refine s_callV1 (ci := 4) [.ref (1000000 + 1)] (zdk hX4_readHead 18 rfl) cw_X4_65 (hb2.1.1) (by decide) rfl rfl rfl (Nat.le_of_ble_eq_true rfl) (by decide) (e_word hl hb2 hp2 hs2 (w := 1) (by decide)) ?_
      intro v9 M3 q9
      rw [hv3] at q9
      obtain ⟨q8, k3, z3, y3⟩ := q9
      cases q8
      have hb3 := hb2.keep k3
      have s3 := s2.keep (k3.1.mono (fun c hc => by omega))
      refine s_if_eq 63 (zdk hX4_readHead 19 rfl) (by decide) (fun c34 => ?_) (fun c34 => ?_)
      · rw [if_pos c34] at hy
        subst hy
        refine w_X4_readHead_63 hl hd (((eM.refl.step k1 b6).step k2 b16).step k3 b16) hb3 z3 hs2.at s3 ⟨c1, c2⟩ ?_ ?_ ?_ ?_ ?_ ?_
        · exact its_e2.trans ((i64 _).trans ec)
        · exact (its_eq (zwL_n (by decide))).trans g1
        · exact (its_eq (zwL_n (by decide))).trans g2
        · exact (its_eq (zwL_n (by decide))).trans g3
        · exact (its_eq (zwL_n (by decide))).trans g4
        · exact (its_eq (zwL_n (by decide))).trans g5
      · rw [if_neg c34] at hy
        have em : rMu u n v3 x.2 = rNx u n x.2 := (if_neg c34).trans (if_pos b16)
        refine s_aload_n (zdk hX4_readHead 20 rfl) rfl ?_
        refine s_ldcS (tx := "rate") (k := 1) (zdk hX4_readHead 21 rfl) (by decide +kernel) (by decide) ?_
        refine s_callV1 (ci := 4) [.ref (1000000 + 1)] (zdk hX4_readHead 22 rfl) cw_X4_55 (hb3.1.1) (by decide) rfl rfl rfl (Nat.le_of_ble_eq_true rfl) (by decide) (e_pass hl hb3 z3 hs2.at (w := 1) (by decide)) ?_
        intro v9 M4 q9
        rw [hv3, em] at q9
        obtain ⟨q8, k4⟩ := q9
        cases q8
        have hb4 := hb3.keep k4
        have s4 := s3.keep (k4.1.mono (fun c hc => by omega))
        refine s_if_eq 56 (zdk hX4_readHead 23 rfl) (by decide) (fun c43 => ?_) (fun c43 => ?_)
        · have b43 : ¬ ((rNx u n x.2).2.2.2.2.1 = 0) := b01_eq c43
          exact absurd hs2.nx.2.1 b43
        · have b43 : (rNx u n x.2).2.2.2.2.1 = 0 := b01_ne c43
          obtain ⟨e4, p4, hp4, hs4⟩ := k4.y b43
          refine s_aload_n (zdk hX4_readHead 24 rfl) rfl ?_
          refine s_iconstv (v := nI 1) (zdk hX4_readHead 25 rfl) zc_iconst_1 ?_
          refine s_bipushv (v := nI 8) (zdk hX4_readHead 26 rfl) zc_bipush_8 ?_
          refine s_callV1 (ci := 4) [.int (nI 1), .int (nI 8)] (zdk hX4_readHead 27 rfl) cw_X4_59 (hb4.1.1) (by decide) rfl rfl rfl (Nat.le_of_ble_eq_true rfl) (by decide) (e_num hl hb4 hp4 hs4 (nI 1) (hi := nI 8) (by decide)) ?_
          intro v9 M5 q9
          obtain ⟨q8, k5, m5⟩ := q9
          cases q8
          have hb5 := hb4.keep k5
          have s5 := s4.keep (k5.1.mono (fun c hc => by omega))
          refine s_if_ne 58 (zdk hX4_readHead 28 rfl) (by decide) (fun c53 => ?_) (fun c53 => ?_)
          · have b53 : (rTa u n (nI 1) (nI 8) (rNx u n x.2)).2.2.2.2.2.1 = 0 := b01_ne c53
            obtain ⟨e5, p5, hp5, hs5⟩ := k5.y b53
            refine s_aload_n (zdk hX4_readHead 31 rfl) rfl ?_
            refine s_getI (zdk hX4_readHead 32 rfl) fw_X4_28 rfl (hb5.1.1) ?_
            refine s_topi (b := (rTa u n (nI 1) (nI 8) (rNx u n x.2)).1) (m5 b53) ?_
            refine s_istore_n (zdk hX4_readHead 33 rfl) (Nat.le_of_ble_eq_true rfl) ?_
            refine s_ls (ls' := [some (.ref a), some (.ref s), some (.int (nI c)), some (.int ((rTa u n (nI 1) (nI 8) (rNx u n x.2)).1))]) rfl ?_
            subst hy
            refine w_X4_readHead_63 hl hd (((((eM.refl.step k1 b6).step k2 b16).step k3 b16).step k4 b43).step k5 b53) hb5 hp5 hs5 s5 ⟨c1, c2⟩ ?_ ?_ ?_ ?_ ?_ ?_
            · exact (its_eq (zwL_n (by decide))).trans (its_e2.trans ((i64 _).trans ec))
            · exact its_e2.trans (i64 _)
            · exact (its_eq (zwL_n (by decide))).trans ((its_eq (zwL_n (by decide))).trans g2)
            · exact (its_eq (zwL_n (by decide))).trans ((its_eq (zwL_n (by decide))).trans g3)
            · exact (its_eq (zwL_n (by decide))).trans ((its_eq (zwL_n (by decide))).trans g4)
            · exact (its_eq (zwL_n (by decide))).trans ((its_eq (zwL_n (by decide))).trans g5)
          · have b53 : ¬ ((rTa u n (nI 1) (nI 8) (rNx u n x.2)).2.2.2.2.2.1 = 0) := b01_eq c53
            refine s_iconstv (v := nI 0) (zdk hX4_readHead 29 rfl) zc_iconst_0 ?_
            refine s_ireturn (zdk hX4_readHead 30 rfl) rfl rfl ?_
            have e4 : y.2 = (rTa u n (nI 1) (nI 8) (rNx u n x.2)).2 := by rw [← hy]
            rw [e4, rEn_w b53]
            exact tQ_n b53 ((((k1.tr b6 k2).tr b16 k3).tr b16 k4).tr b43 k5) s5
    · have b16 : ¬ (x.2.2.2.2.2.1 = 0) := b01_eq c16
      refine s_iconstv (v := nI 0) (zdk hX4_readHead 9 rfl) zc_iconst_0 ?_
      refine s_ireturn (zdk hX4_readHead 10 rfl) rfl rfl ?_
      have e3 : v3 = 0 := by rw [← hv3, rIw_n b16]
      rw [if_pos e3] at hy
      have e4 : y.2 = x.2 := by rw [← hy]
      rw [e4, rEn_w b16]
      exact tQ_n b16 (k1.tr b6 k2) s2
end
