/-! ===== the plan is carried out ===== -/
def zCo (g : Nat → Int64) (F : Nat → Nat) (O : Nat → Option Nat) (T : Nat → Nat) : Nat → Nat → Int64
  | 0 => g
  | i + 1 => match O i with
    | none => oGo (zCo g F O T i) (F i) (T i)
    | some j => oGo (oGo (zCo g F O T i) (F i) (T i)) j (gN (zCo g F O T i) (58 + 51 * F i + 1))
def zMv (O : Nat → Option Nat) : Nat → Nat
  | 0 => 0
  | i + 1 => match O i with
    | none => zMv O i + 1
    | some _ => zMv O i + 1 + 1
def zOi (o : Option Nat) : Int32 := match o with | none => (-1) | some j => nI j
theorem zMv_le (O : Nat → Option Nat) : ∀ i, zMv O i ≤ 2 * i
  | 0 => Nat.le_refl 0
  | i + 1 => by
    unfold zMv
    have := zMv_le O i
    split <;> omega
theorem oGo_n {g : Nat → Int64} {f t k : Nat} (hg : gN g 5 ≤ 60) (hk : k < 58) (h5 : k ≠ 5) : oGo g f t k = g k := by
  unfold oGo
  rw [oPut_n (by rw [gN_eq (oPays_n (by omega)), gN_eq (oPays_n (by omega)), gN_n (by omega)]; exact hg) h5 (by omega), oPays_n (by omega), oPays_n (by omega), zwL_n (by omega)]
theorem nI_ne1 {j : Nat} (h : j < 100000) : ¬ nI j = -1 := fun q => by
  have h1 := nI_pos' (n := j) (by omega)
  rw [q] at h1
  exact absurd h1 (by decide)
section
variable {l : Launch} {G : zG}

theorem w_X3_carryOut_4 (hl : l.stackTraces = false) {M : zMem} {a s : Nat} {g : Nat → Int64} {p : Nat → Nat} {n : Nat} {F : Nat → Nat} {O : Nat → Option Nat} {T : Nat → Nat} (ha : nSh M a) (hd : a + 7 ≤ s ∨ s + 77 ≤ a) (hn : zI M a 0 = nI n) (hn2 : n ≤ 20) (hF : ∀ i, i < n → zI M (a + 1) i = nI (F i) ∧ F i < gN g 3) (hO : ∀ i, i < n → zI M (a + 2) i = zOi (O i) ∧ ∀ j, O i = some j → j < gN g 3) (hT : ∀ i, i < n → zI M (a + 3) i = nI (T i) ∧ T i < gN g 2) (hs3 : gN g 3 ≤ 20) : ∀ (k : Nat) (M1 : zMem) (i : Nat) (x4 : Option Value), zag M M1 (fun b => b < s ∨ s + 77 ≤ b) → rSt M1 s (zCo g F O T i) p → (∀ k, k < 58 → k ≠ 5 → zCo g F O T i k = g k) → i ≤ n → n - i < k → zS l G mX3_carryOut 4 110 0 0 4 [some (.ref a), some (.ref s), some (.int (nI (zMv O i))), some (.int (nI i)), x4] [] M1 (zU M s (some (.int (nI (zMv O n)))) (zCo g F O T n) p) := by
  intro k
  induction k with
  | zero => intros; omega
  | succ k ih =>
    intro M1 i x4 e h hN hi hk
    have n3 : gN (zCo g F O T i) 3 = gN g 3 := gN_eq (hN 3 (by omega) (by omega))
    have n2 : gN (zCo g F O T i) 2 = gN g 2 := gN_eq (hN 2 (by omega) (by omega))
    have ha1 : nSh M1 a := by
      have e9 := e.1
      unfold nSh at ha ⊢
      rw [zsh_K e9, zsh_K e9, zsh_K e9, zsh_K e9, zsh_K e9, zsh_K e9, zsh_K e9, zsh_N e9, zsh_N e9, zsh_N e9, zsh_N e9, zsh_N e9, zsh_N e9, (e.2 a (by omega)).2.2]
      exact ha
    refine s_iload_n (zdk hX3_carryOut 4 rfl) rfl ?_
    refine s_aload_n (zdk hX3_carryOut 5 rfl) rfl ?_
    refine s_getI (zdk hX3_carryOut 6 rfl) fw_X3_9 rfl (ha1.1) ?_
    refine s_topi (b := nI n) ((congrFun (e.2 a (by omega)).1 0).trans hn) ?_
    refine s_icmp_ge 80 (zdk hX3_carryOut 7 rfl) (by decide) (fun c9 => ?_) (fun c9 => ?_)
    · obtain rfl : i = n := by have := nle c9 (by omega) (by omega); omega
      refine s_iload_n (zdk hX3_carryOut 46 rfl) rfl ?_
      refine s_ireturn (zdk hX3_carryOut 47 rfl) rfl rfl ?_
      exact ⟨rfl, e, h⟩
    · have hi2 : i < n := nlt c9 (by omega) (by omega)
      have f3 := (hF i hi2).2
      have t3 := (hT i hi2).2
      have fi3 : F i < gN (zCo g F O T i) 3 := by rw [n3]; exact f3
      have ti3 : T i < gN (zCo g F O T i) 2 := by rw [n2]; exact t3
      have ho3 := h.b.onL fi3
      have hb60 := h.b.2.2.2.2.1.2
      refine s_aload_n (zdk hX3_carryOut 8 rfl) rfl ?_
      refine s_getR (zdk hX3_carryOut 9 rfl) fw_X3_80 rfl (h.K) (h.r6) ?_
      refine s_aload_n (zdk hX3_carryOut 10 rfl) rfl ?_
      refine s_getR (zdk hX3_carryOut 11 rfl) fw_X3_19 rfl (ha1.1) (ha1.2.1) ?_
      refine s_iload_n (zdk hX3_carryOut 12 rfl) rfl ?_
      refine s_ialoadN (N := 20) (j := i) (zdk hX3_carryOut 13 rfl) (ha1.2.2.2.2.2.2.1) (ha1.2.2.2.2.2.2.2.1) (by omega) (by decide) ?_
      refine s_topi (b := nI (F i)) ((congrFun (e.2 (a + 1) (by omega)).1 i).trans (hF i hi2).1) ?_
      refine s_aaloadN (N := 20) (j := (F i)) (zdk hX3_carryOut 14 rfl) (h.fK) (by decide) (h.fN) (h.fL fi3) (by decide) (h.rR fi3) ?_
      refine s_getI (zdk hX3_carryOut 15 rfl) fw_X3_104 rfl ((h.rS fi3).1) ?_
      refine s_topi (b := nI (gN (zCo g F O T i) (58 + 51 * F i + 1))) ((h.f2 fi3).trans (h.b.on fi3)) ?_
      refine s_istore (zdk hX3_carryOut 16 rfl) (Nat.le_of_ble_eq_true rfl) ?_
      refine s_ls (ls' := [some (.ref a), some (.ref s), some (.int (nI (zMv O i))), some (.int (nI i)), some (.int (nI (gN (zCo g F O T i) (58 + 51 * F i + 1))))]) rfl ?_
      refine s_aload_n (zdk hX3_carryOut 17 rfl) rfl ?_
      refine s_aload_n (zdk hX3_carryOut 18 rfl) rfl ?_
      refine s_getR (zdk hX3_carryOut 19 rfl) fw_X3_19 rfl (ha1.1) (ha1.2.1) ?_
      refine s_iload_n (zdk hX3_carryOut 20 rfl) rfl ?_
      refine s_ialoadN (N := 20) (j := i) (zdk hX3_carryOut 21 rfl) (ha1.2.2.2.2.2.2.1) (ha1.2.2.2.2.2.2.2.1) (by omega) (by decide) ?_
      refine s_topi (b := nI (F i)) ((congrFun (e.2 (a + 1) (by omega)).1 i).trans (hF i hi2).1) ?_
      refine s_aload_n (zdk hX3_carryOut 22 rfl) rfl ?_
      refine s_getR (zdk hX3_carryOut 23 rfl) fw_X3_26 rfl (ha1.1) (ha1.2.2.2.1) ?_
      refine s_iload_n (zdk hX3_carryOut 24 rfl) rfl ?_
      refine s_ialoadN (N := 20) (j := i) (zdk hX3_carryOut 25 rfl) (ha1.2.2.2.2.2.2.2.2.2.2.1) (ha1.2.2.2.2.2.2.2.2.2.2.2.1) (by omega) (by decide) ?_
      refine s_topi (b := nI (T i)) ((congrFun (e.2 (a + 3) (by omega)).1 i).trans (hT i hi2).1) ?_
      refine s_callV1 (ci := 5) [.int (nI (F i)), .int (nI (T i))] (zdk hX3_carryOut 26 rfl) cw_X3_107 (h.K) (by decide) rfl rfl rfl (Nat.le_of_ble_eq_true rfl) (by decide) (c_X5_carry hl h fi3 ti3) ?_
      intro v2 M2 q2
      obtain ⟨q3, e2, h2⟩ := q2
      cases q3
      have m3 : gN (oGo (zCo g F O T i) (F i) (T i)) 3 = gN g 3 := (gN_eq (oGo_n hb60 (by omega) (by omega))).trans n3
      have m2 : gN (oGo (zCo g F O T i) (F i) (T i)) 2 = gN g 2 := (gN_eq (oGo_n hb60 (by omega) (by omega))).trans n2
      have ha2 : nSh M2 a := by
        have e9 := e2.1
        unfold nSh at ha1 ⊢
        rw [zsh_K e9, zsh_K e9, zsh_K e9, zsh_K e9, zsh_K e9, zsh_K e9, zsh_K e9, zsh_N e9, zsh_N e9, zsh_N e9, zsh_N e9, zsh_N e9, zsh_N e9, (e2.2 a (by omega)).2.2]
        exact ha1
      refine s_popi (zdk hX3_carryOut 27 rfl) ?_
      refine s_iinc (r := nI (zMv O i + 1)) (zdk hX3_carryOut 28 rfl) (Nat.le_of_ble_eq_true rfl) rfl (nI_1 _) ?_
      refine s_ls (ls' := [some (.ref a), some (.ref s), some (.int (nI (zMv O i + 1))), some (.int (nI i)), some (.int (nI (gN (zCo g F O T i) (58 + 51 * F i + 1))))]) rfl ?_
      refine s_aload_n (zdk hX3_carryOut 29 rfl) rfl ?_
      refine s_getR (zdk hX3_carryOut 30 rfl) fw_X3_23 rfl (ha2.1) (ha2.2.2.1) ?_
      refine s_iload_n (zdk hX3_carryOut 31 rfl) rfl ?_
      refine s_ialoadN (N := 20) (j := i) (zdk hX3_carryOut 32 rfl) (ha2.2.2.2.2.2.2.2.2.1) (ha2.2.2.2.2.2.2.2.2.2.1) (by omega) (by decide) ?_
      refine s_topi (b := zOi (O i)) ((congrFun (e2.2 (a + 2) (by omega)).1 i).trans ((congrFun (e.2 (a + 2) (by omega)).1 i).trans (hO i hi2).1)) ?_
      refine s_iconstv (v := (-1)) (zdk hX3_carryOut 33 rfl) zc_iconst_m1 ?_
      cases hoi : O i with
      | none =>
        have eg : zCo g F O T (i + 1) = (oGo (zCo g F O T i) (F i) (T i)) := by show (match O i with | none => _ | some j => _) = _; rw [hoi]
        have em : zMv O (i + 1) = zMv O i + 1 := by show (match O i with | none => _ | some j => _) = _; rw [hoi]
        rw [show zOi none = (-1) from rfl]
        refine s_icmp_eq 74 (zdk hX3_carryOut 34 rfl) (by decide) (fun c55 => ?_) (fun c55 => ?_)
        · have hN2 : (∀ k, k < 58 → k ≠ 5 → zCo g F O T (i + 1) k = g k) := fun k hk h5 => by rw [eg, oGo_n hb60 hk h5]; exact hN k hk h5
          rw [← eg] at h2
          rw [← em]
          refine s_iinc (r := nI (i + 1)) (zdk hX3_carryOut 44 rfl) (Nat.le_of_ble_eq_true rfl) rfl (nI_1 i) ?_
          refine s_ls (ls' := [some (.ref a), some (.ref s), some (.int (nI (zMv O (i + 1)))), some (.int (nI (i + 1))), some (.int (nI (gN (zCo g F O T i) (58 + 51 * F i + 1))))]) rfl ?_
          refine s_goto 4 (zdk hX3_carryOut 45 rfl) (by decide) ?_
          exact ih M2 (i + 1) _ (e.trans e2) h2 hN2 (by omega) (by omega)
        · exact absurd rfl c55
      | some j =>
        have hj := (hO i hi2).2 j hoi
        rw [show zOi (some j) = nI j from rfl]
        refine s_icmp_eq 74 (zdk hX3_carryOut 34 rfl) (by decide) (fun c55 => ?_) (fun c55 => ?_)
        · exact absurd c55 (nI_ne1 (by omega))
        · have hb61 := h2.b.2.2.2.2.1.2
          have eg : zCo g F O T (i + 1) = (oGo (oGo (zCo g F O T i) (F i) (T i)) j (gN (zCo g F O T i) (58 + 51 * F i + 1))) := by show (match O i with | none => _ | some j => _) = _; rw [hoi]
          have em : zMv O (i + 1) = zMv O i + 1 + 1 := by show (match O i with | none => _ | some j => _) = _; rw [hoi]
          have hN3 : (∀ k, k < 58 → k ≠ 5 → zCo g F O T (i + 1) k = g k) := fun k hk h5 => by rw [eg, oGo_n hb61 hk h5, oGo_n hb60 hk h5]; exact hN k hk h5
          refine s_aload_n (zdk hX3_carryOut 35 rfl) rfl ?_
          refine s_aload_n (zdk hX3_carryOut 36 rfl) rfl ?_
          refine s_getR (zdk hX3_carryOut 37 rfl) fw_X3_23 rfl (ha2.1) (ha2.2.2.1) ?_
          refine s_iload_n (zdk hX3_carryOut 38 rfl) rfl ?_
          refine s_ialoadN (N := 20) (j := i) (zdk hX3_carryOut 39 rfl) (ha2.2.2.2.2.2.2.2.2.1) (ha2.2.2.2.2.2.2.2.2.2.1) (by omega) (by decide) ?_
          refine s_topi (b := nI j) ((congrFun (e2.2 (a + 2) (by omega)).1 i).trans ((congrFun (e.2 (a + 2) (by omega)).1 i).trans ((hO i hi2).1.trans (by rw [hoi]; rfl)))) ?_
          refine s_iload (zdk hX3_carryOut 40 rfl) rfl ?_
          refine s_callV1 (ci := 5) [.int (nI j), .int (nI (gN (zCo g F O T i) (58 + 51 * F i + 1)))] (zdk hX3_carryOut 41 rfl) cw_X3_107 (h2.K) (by decide) rfl rfl rfl (Nat.le_of_ble_eq_true rfl) (by decide) (c_X5_carry hl h2 (f := j) (t := (gN (zCo g F O T i) (58 + 51 * F i + 1))) (by rw [m3]; exact hj) (by rw [m2, ← n2]; exact ho3)) ?_
          intro v3 M3 q2
          obtain ⟨q3, e3, h3⟩ := q2
          cases q3
          refine s_popi (zdk hX3_carryOut 42 rfl) ?_
          refine s_iinc (r := nI (zMv O i + 1 + 1)) (zdk hX3_carryOut 43 rfl) (Nat.le_of_ble_eq_true rfl) rfl (nI_1 _) ?_
          refine s_ls (ls' := [some (.ref a), some (.ref s), some (.int (nI (zMv O i + 1 + 1))), some (.int (nI i)), some (.int (nI (gN (zCo g F O T i) (58 + 51 * F i + 1))))]) rfl ?_
          rw [← eg] at h3
          rw [← em]
          refine s_iinc (r := nI (i + 1)) (zdk hX3_carryOut 44 rfl) (Nat.le_of_ble_eq_true rfl) rfl (nI_1 i) ?_
          refine s_ls (ls' := [some (.ref a), some (.ref s), some (.int (nI (zMv O (i + 1)))), some (.int (nI (i + 1))), some (.int (nI (gN (zCo g F O T i) (58 + 51 * F i + 1))))]) rfl ?_
          refine s_goto 4 (zdk hX3_carryOut 45 rfl) (by decide) ?_
          exact ih M3 (i + 1) _ ((e.trans e2).trans e3) h3 hN3 (by omega) (by omega)
theorem c_X3_carryOut (hl : l.stackTraces = false) {M : zMem} {a s : Nat} {g : Nat → Int64} {p : Nat → Nat} {n : Nat} {F : Nat → Nat} {O : Nat → Option Nat} {T : Nat → Nat} (ha : nSh M a) (hd : a + 7 ≤ s ∨ s + 77 ≤ a) (hn : zI M a 0 = nI n) (hn2 : n ≤ 20) (hF : ∀ i, i < n → zI M (a + 1) i = nI (F i) ∧ F i < gN g 3) (hO : ∀ i, i < n → zI M (a + 2) i = zOi (O i) ∧ ∀ j, O i = some j → j < gN g 3) (hT : ∀ i, i < n → zI M (a + 3) i = nI (T i) ∧ T i < gN g 2) (hs3 : gN g 3 ≤ 20) (h : rSt M s g p) : zCm l G mX3_carryOut 4 110 0 0 [.ref a, .ref s] M (zU M s (some (.int (nI (zMv O n)))) (zCo g F O T n) p) := by
  refine zCu.of (ls0 := [some (.ref a), some (.ref s), none, none, none]) (by decide +kernel) rfl hl rfl (Nat.le_of_ble_eq_true rfl) ?_
  refine s_iconstv (v := nI 0) (zdk hX3_carryOut 0 rfl) zc_iconst_0 ?_
  refine s_istore_n (zdk hX3_carryOut 1 rfl) (Nat.le_of_ble_eq_true rfl) ?_
  refine s_ls (ls' := [some (.ref a), some (.ref s), some (.int (nI 0)), none, none]) rfl ?_
  refine s_iconstv (v := nI 0) (zdk hX3_carryOut 2 rfl) zc_iconst_0 ?_
  refine s_istore_n (zdk hX3_carryOut 3 rfl) (Nat.le_of_ble_eq_true rfl) ?_
  refine s_ls (ls' := [some (.ref a), some (.ref s), some (.int (nI 0)), some (.int (nI 0)), none]) rfl ?_
  exact w_X3_carryOut_4 hl ha hd hn hn2 hF hO hT hs3 (n + 1) M 0 none (zag.refl _ _) h (fun _ _ _ => rfl) (by omega) (by omega)
end
