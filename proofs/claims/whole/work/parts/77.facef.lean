/-! ===== the face: append, the common cycle, plans ===== -/
theorem zMw_id {M : zMem} {a n : Nat} (hn : zI M a 0 = nI n) : zMw M a (n, zI M (a + 1)) = M := by
  unfold zMw
  show zsA (zsI M a 0 (nI n)) (a + 1) (zI M (a + 1)) = M
  rw [zsI_id hn, zsA_id]
theorem zoc_at (u : Nat → Int32) (n : Nat) : ∀ k, (zoc u n k).1 = (-1) ∨ ∃ j, 2 ≤ j ∧ j < k + 2 ∧ (zoc u n k).1 = nI j
  | 0 => Or.inl rfl
  | k + 1 => by
    unfold zoc
    split
    · exact Or.inr ⟨k + 2, by omega, by omega, rfl⟩
    · rcases zoc_at u n k with q | ⟨j, h1, h2, h3⟩
      · exact Or.inl q
      · exact Or.inr ⟨j, h1, by omega, h3⟩
def zZr (u : Nat → Int32) (i : Nat) : Nat → Int32 := fun k => if k < i then nI 0 else u k
theorem zZr_1 {u : Nat → Int32} {i : Nat} : zw1 (zZr u i) i (nI 0) = zZr u (i + 1) := by
  funext k
  unfold zw1 zZr
  by_cases q : k = i
  · rw [if_pos q, if_pos (by omega)]
  · rw [if_neg q]
    by_cases q2 : k < i
    · rw [if_pos q2, if_pos (by omega)]
    · rw [if_neg q2, if_neg (by omega)]
theorem zZr_0 {u : Nat → Int32} : zZr u 0 = u := by funext k; unfold zZr; rw [if_neg (by omega)]
def zCf (g : Nat → Int64) (r : Nat → Int32) : Nat → Nat → Int32
  | 0 => r
  | f + 1 => if vOwn g f = (-1) then zCf g r f else zw1 (zCf g r f) (vOwn g f).toNatClampNeg (zCf g r f (vOwn g f).toNatClampNeg + nI 1)
def zBc (r : Nat → Int32) : Nat → Int32 × Int32
  | 0 => (-1, nI 0)
  | k + 1 => if r (k + 2) ≤ (zBc r k).2 then zBc r k else (nI (k + 2), r (k + 2))
theorem xSh.keepP {M M' : zMem} (h : xSh M) (e : zag M M' (fun c => c < 5 ∨ 12 ≤ c)) (hn : nSh M' 5) : xSh M' := by
  have kk := fun b => zsh_K e.1 b
  have nn := fun b => zsh_N e.1 b
  have er : ∀ b, b < 5 ∨ 12 ≤ b → zR M' b = zR M b := fun b hb => (e.2 b hb).2.2
  obtain ⟨⟨a1, a2⟩, b1, b2, b3, b4, ⟨b5, b6, b7⟩, ⟨b8, b9⟩, b10, b11⟩ := h
  refine ⟨⟨by rw [kk]; exact a1, fun q hq => by rw [er 0 (by omega)]; exact a2 q hq⟩, ?_, ?_, hn, ?_, ⟨by rw [kk]; exact b5, by rw [nn]; exact b6, fun i hi => by rw [er 784 (by omega)]; exact b7 i hi⟩, ⟨by rw [kk]; exact b8, by rw [nn]; exact b9⟩, by rw [kk]; exact b10, by rw [nn]; exact b11⟩
  · unfold eSh at *
    rw [kk, kk, nn, er 1 (by omega)]
    exact b1
  · unfold wSh at *
    rw [kk, kk, nn, er 3 (by omega)]
    exact b2
  · unfold hSh at *
    rw [kk, kk, nn, er 12 (by omega), er 13 (by omega)]
    exact b4
/-- the plan's last state -/
def plQ (M : zMem) (g : Nat → Int64) (n : Nat) : zPs := zPln g (zgA g n (zJ M (5 + 4)) (gN g 3)) 20 (zQ0 M 5 g 0 (nI 0))
/-- behind a call that plans: only the planner has changed -/
def plP (M : zMem) (v : Option Value) : Option Value → zMem → Prop := fun v' M' => v' = v ∧ zag M M' (fun c => c < 5 ∨ 12 ≤ c) ∧ nSh M' 5
def zXg (e : Option Nat) (P : Option Value → zMem → Prop) (R : zMem → Prop) : zOut → zMem → Prop := fun o M' => match o with | .inl v => e = none ∧ P v M' | .inr x => e = some x ∧ R M'
section
variable {l : Launch} {G : zG}
theorem zCxg.of {y : zMD} {fr lo mc ms : Nat} {as : List Value} {M : zMem} {e : Option Nat} {P : Option Value → zMem → Prop} {R : zMem → Prop} {ls0 : List (Option Value)} (hpn : plainName (yN y).cls = true) (hH : yH y = []) (hl : l.stackTraces = false) (hen : zen (yL y) as = ls0) (hle : (zea as).length ≤ yL y)
    (hf : zF M = 1) (hP : ∀ v M', P v M' → zF M' = zF M) (hR : ∀ M', R M' → zF M' = zF M) (h : zS l G y fr lo mc ms 0 ls0 [] M (zXg e P R)) : zCx2 l G y fr lo mc ms as M (zXg e P R) :=
  zCx2.of hpn hH hl hen hle (fun v M' q h0 => absurd h0 (by rw [hP v M' q.2, hf]; decide)) (fun x M' q => by rw [hR M' q.2, hf]; decide) h
theorem c_X8_append_x (hl : l.stackTraces = false) {M : zMem} (hx : xSh M) (hf : zF M = 1) {n : Nat} (hn : zI M 1 0 = nI n) (hn6 : n ≤ 600) (a b c d e : Int32) (hr : 600 < n + (zbd a 4 0 + zbd b 4 0 + zbd c 4 0 + zbd d 4 0 + zbd e 4 0)) : zCx2 l G mX8_append 10 400 5 30 [.ref 0, .int (a), .int (b), .int (c), .int (d), .int (e)] M (zXr (some 0) M (fun _ _ => False)) := by
  refine zCxr.of (ls0 := [some (.ref 0), some (.int (a)), some (.int (b)), some (.int (c)), some (.int (d)), some (.int (e)), none]) (by decide +kernel) rfl hl rfl (Nat.le_of_ble_eq_true rfl) hf (by first | exact (fun v9 M9 q9 => by rw [q9.2]; rfl) | exact (fun v9 M9 q9 => q9.elim)) ?_
  have za := zbd_le (v := a) 4 0
  have zb := zbd_le (v := b) 4 0
  have zc := zbd_le (v := c) 4 0
  have zd := zbd_le (v := d) 4 0
  have ze := zbd_le (v := e) 4 0
  refine s_iload_n (zdk hX8_append 0 rfl) rfl ?_
  refine s_callS0 [.int (a)] (zdk hX8_append 1 rfl) cw_X8_62 rfl (Nat.le_of_ble_eq_true rfl) (by decide) (c_X8_bytesIn hl _ a) ?_
  refine s_iload_n (zdk hX8_append 2 rfl) rfl ?_
  refine s_callS0 [.int (b)] (zdk hX8_append 3 rfl) cw_X8_62 rfl (Nat.le_of_ble_eq_true rfl) (by decide) (c_X8_bytesIn hl _ b) ?_
  refine s_iadd (zdk hX8_append 4 rfl) ?_
  refine s_topi (b := nI (zbd a 4 0 + zbd b 4 0)) (nI_add _ _) ?_
  refine s_iload_n (zdk hX8_append 5 rfl) rfl ?_
  refine s_callS0 [.int (c)] (zdk hX8_append 6 rfl) cw_X8_62 rfl (Nat.le_of_ble_eq_true rfl) (by decide) (c_X8_bytesIn hl _ c) ?_
  refine s_iadd (zdk hX8_append 7 rfl) ?_
  refine s_topi (b := nI (zbd a 4 0 + zbd b 4 0 + zbd c 4 0)) (nI_add _ _) ?_
  refine s_iload (zdk hX8_append 8 rfl) rfl ?_
  refine s_callS0 [.int (d)] (zdk hX8_append 9 rfl) cw_X8_62 rfl (Nat.le_of_ble_eq_true rfl) (by decide) (c_X8_bytesIn hl _ d) ?_
  refine s_iadd (zdk hX8_append 10 rfl) ?_
  refine s_topi (b := nI (zbd a 4 0 + zbd b 4 0 + zbd c 4 0 + zbd d 4 0)) (nI_add _ _) ?_
  refine s_iload (zdk hX8_append 11 rfl) rfl ?_
  refine s_callS0 [.int (e)] (zdk hX8_append 12 rfl) cw_X8_62 rfl (Nat.le_of_ble_eq_true rfl) (by decide) (c_X8_bytesIn hl _ e) ?_
  refine s_iadd (zdk hX8_append 13 rfl) ?_
  refine s_topi (b := nI (zbd a 4 0 + zbd b 4 0 + zbd c 4 0 + zbd d 4 0 + zbd e 4 0)) (nI_add _ _) ?_
  refine s_istore (zdk hX8_append 14 rfl) (Nat.le_of_ble_eq_true rfl) ?_
  refine s_ls (ls' := [some (.ref 0), some (.int (a)), some (.int (b)), some (.int (c)), some (.int (d)), some (.int (e)), some (.int (nI (zbd a 4 0 + zbd b 4 0 + zbd c 4 0 + zbd d 4 0 + zbd e 4 0)))]) rfl ?_
  refine s_aload_n (zdk hX8_append 15 rfl) rfl ?_
  refine s_getR (zdk hX8_append 16 rfl) fw_X8_10 rfl (hx.K) (show _ = some 1 from (hx.r (i := 0) rfl)) ?_
  refine s_getI (zdk hX8_append 17 rfl) fw_X8_66 rfl (hx.rd.1) ?_
  refine s_topi (b := nI n) (hn) ?_
  refine s_iload (zdk hX8_append 18 rfl) rfl ?_
  refine s_iadd (zdk hX8_append 19 rfl) ?_
  refine s_topi (b := nI (n + (zbd a 4 0 + zbd b 4 0 + zbd c 4 0 + zbd d 4 0 + zbd e 4 0))) (nI_add _ _) ?_
  refine s_sipushv (v := nI 600) (zdk hX8_append 20 rfl) zc_sipush_600 ?_
  refine s_icmp_le 52 (zdk hX8_append 21 rfl) (by decide) (fun c41 => ?_) (fun c41 => ?_)
  · have n41 : n + (zbd a 4 0 + zbd b 4 0 + zbd c 4 0 + zbd d 4 0 + zbd e 4 0) ≤ 600 := nle c41 (by omega) (by omega)
    exact absurd n41 (by omega)
  · have n41 : 600 < n + (zbd a 4 0 + zbd b 4 0 + zbd c 4 0 + zbd d 4 0 + zbd e 4 0) := nlt c41 (by omega) (by omega)
    refine s_throw (x := 0) ⟨70, 72, (zdk hX8_append 22 rfl), (zdk hX8_append 23 rfl), (zdk hX8_append 24 rfl), (zdk hX8_append 25 rfl), clw_X8_70, xi_0, rfl, (by decide), (by decide), (by decide), xw_0⟩ ?_ (by decide)
    rw [zth_id hf]
    exact ⟨rfl, rfl⟩
theorem c_X8_append (hl : l.stackTraces = false) {M : zMem} (hx : xSh M) (hf : zF M = 1) {n : Nat} (hn : zI M 1 0 = nI n) (hn6 : n ≤ 600) (a b c d e : Int32) (hr : n + (zbd a 4 0 + zbd b 4 0 + zbd c 4 0 + zbd d 4 0 + zbd e 4 0) ≤ 600) : zCx2 l G mX8_append 10 400 5 30 [.ref 0, .int (a), .int (b), .int (c), .int (d), .int (e)] M (zXr none M (zP1 (some (.int (nI (tPb e 4 (tPb d 4 (tPb c 4 (tPb b 4 (tPb a 4 (n, zI M 2)))))).1))) (zMw M 1 (tPb e 4 (tPb d 4 (tPb c 4 (tPb b 4 (tPb a 4 (n, zI M 2))))))))) := by
  refine zCxr.of (ls0 := [some (.ref 0), some (.int (a)), some (.int (b)), some (.int (c)), some (.int (d)), some (.int (e)), none]) (by decide +kernel) rfl hl rfl (Nat.le_of_ble_eq_true rfl) hf (by first | exact (fun v9 M9 q9 => by rw [q9.2]; rfl) | exact (fun v9 M9 q9 => q9.elim)) ?_
  have za := zbd_le (v := a) 4 0
  have zb := zbd_le (v := b) 4 0
  have zc := zbd_le (v := c) 4 0
  have zd := zbd_le (v := d) 4 0
  have ze := zbd_le (v := e) 4 0
  refine s_iload_n (zdk hX8_append 0 rfl) rfl ?_
  refine s_callS0 [.int (a)] (zdk hX8_append 1 rfl) cw_X8_62 rfl (Nat.le_of_ble_eq_true rfl) (by decide) (c_X8_bytesIn hl _ a) ?_
  refine s_iload_n (zdk hX8_append 2 rfl) rfl ?_
  refine s_callS0 [.int (b)] (zdk hX8_append 3 rfl) cw_X8_62 rfl (Nat.le_of_ble_eq_true rfl) (by decide) (c_X8_bytesIn hl _ b) ?_
  refine s_iadd (zdk hX8_append 4 rfl) ?_
  refine s_topi (b := nI (zbd a 4 0 + zbd b 4 0)) (nI_add _ _) ?_
  refine s_iload_n (zdk hX8_append 5 rfl) rfl ?_
  refine s_callS0 [.int (c)] (zdk hX8_append 6 rfl) cw_X8_62 rfl (Nat.le_of_ble_eq_true rfl) (by decide) (c_X8_bytesIn hl _ c) ?_
  refine s_iadd (zdk hX8_append 7 rfl) ?_
  refine s_topi (b := nI (zbd a 4 0 + zbd b 4 0 + zbd c 4 0)) (nI_add _ _) ?_
  refine s_iload (zdk hX8_append 8 rfl) rfl ?_
  refine s_callS0 [.int (d)] (zdk hX8_append 9 rfl) cw_X8_62 rfl (Nat.le_of_ble_eq_true rfl) (by decide) (c_X8_bytesIn hl _ d) ?_
  refine s_iadd (zdk hX8_append 10 rfl) ?_
  refine s_topi (b := nI (zbd a 4 0 + zbd b 4 0 + zbd c 4 0 + zbd d 4 0)) (nI_add _ _) ?_
  refine s_iload (zdk hX8_append 11 rfl) rfl ?_
  refine s_callS0 [.int (e)] (zdk hX8_append 12 rfl) cw_X8_62 rfl (Nat.le_of_ble_eq_true rfl) (by decide) (c_X8_bytesIn hl _ e) ?_
  refine s_iadd (zdk hX8_append 13 rfl) ?_
  refine s_topi (b := nI (zbd a 4 0 + zbd b 4 0 + zbd c 4 0 + zbd d 4 0 + zbd e 4 0)) (nI_add _ _) ?_
  refine s_istore (zdk hX8_append 14 rfl) (Nat.le_of_ble_eq_true rfl) ?_
  refine s_ls (ls' := [some (.ref 0), some (.int (a)), some (.int (b)), some (.int (c)), some (.int (d)), some (.int (e)), some (.int (nI (zbd a 4 0 + zbd b 4 0 + zbd c 4 0 + zbd d 4 0 + zbd e 4 0)))]) rfl ?_
  refine s_aload_n (zdk hX8_append 15 rfl) rfl ?_
  refine s_getR (zdk hX8_append 16 rfl) fw_X8_10 rfl (hx.K) (show _ = some 1 from (hx.r (i := 0) rfl)) ?_
  refine s_getI (zdk hX8_append 17 rfl) fw_X8_66 rfl (hx.rd.1) ?_
  refine s_topi (b := nI n) (hn) ?_
  refine s_iload (zdk hX8_append 18 rfl) rfl ?_
  refine s_iadd (zdk hX8_append 19 rfl) ?_
  refine s_topi (b := nI (n + (zbd a 4 0 + zbd b 4 0 + zbd c 4 0 + zbd d 4 0 + zbd e 4 0))) (nI_add _ _) ?_
  refine s_sipushv (v := nI 600) (zdk hX8_append 20 rfl) zc_sipush_600 ?_
  refine s_icmp_le 52 (zdk hX8_append 21 rfl) (by decide) (fun c41 => ?_) (fun c41 => ?_)
  · have n41 : n + (zbd a 4 0 + zbd b 4 0 + zbd c 4 0 + zbd d 4 0 + zbd e 4 0) ≤ 600 := nle c41 (by omega) (by omega)
    refine s_mem (M' := (zMw M 1 (n, zI M 2))) (zMw_id hn).symm ?_
    have y0 : (n, zI M 2).1 ≤ 600 := by show n ≤ 600; omega
    have y1 : (tPb a 4 (n, zI M 2)).1 ≤ 600 := tPb_le 4 _ y0
    have y2 : (tPb b 4 (tPb a 4 (n, zI M 2))).1 ≤ 600 := tPb_le 4 _ y1
    have y3 : (tPb c 4 (tPb b 4 (tPb a 4 (n, zI M 2)))).1 ≤ 600 := tPb_le 4 _ y2
    have y4 : (tPb d 4 (tPb c 4 (tPb b 4 (tPb a 4 (n, zI M 2))))).1 ≤ 600 := tPb_le 4 _ y3
    have y5 : (tPb e 4 (tPb d 4 (tPb c 4 (tPb b 4 (tPb a 4 (n, zI M 2)))))).1 ≤ 600 := tPb_le 4 _ y4
    refine s_aload_n (zdk hX8_append 26 rfl) rfl ?_
    refine s_getR (zdk hX8_append 27 rfl) fw_X8_10 rfl (hx.K) (show _ = some 1 from (hx.r (i := 0) rfl)) ?_
    refine s_iload_n (zdk hX8_append 28 rfl) rfl ?_
    refine s_callV0 (ci := 4) [.int (a)] (zdk hX8_append 29 rfl) cw_X8_73 (hx.rd.1) (by decide) rfl rfl rfl (Nat.le_of_ble_eq_true rfl) (by decide) (c_X4_putBytesOf hl (M := M) hx.rd (w := (n, zI M 2)) y0 a) ?_
    refine s_aload_n (zdk hX8_append 30 rfl) rfl ?_
    refine s_getR (zdk hX8_append 31 rfl) fw_X8_10 rfl (hx.K) (show _ = some 1 from (hx.r (i := 0) rfl)) ?_
    refine s_iload_n (zdk hX8_append 32 rfl) rfl ?_
    refine s_callV0 (ci := 4) [.int (b)] (zdk hX8_append 33 rfl) cw_X8_73 (hx.rd.1) (by decide) rfl rfl rfl (Nat.le_of_ble_eq_true rfl) (by decide) (c_X4_putBytesOf hl (M := M) hx.rd (w := (tPb a 4 (n, zI M 2))) y1 b) ?_
    refine s_aload_n (zdk hX8_append 34 rfl) rfl ?_
    refine s_getR (zdk hX8_append 35 rfl) fw_X8_10 rfl (hx.K) (show _ = some 1 from (hx.r (i := 0) rfl)) ?_
    refine s_iload_n (zdk hX8_append 36 rfl) rfl ?_
    refine s_callV0 (ci := 4) [.int (c)] (zdk hX8_append 37 rfl) cw_X8_73 (hx.rd.1) (by decide) rfl rfl rfl (Nat.le_of_ble_eq_true rfl) (by decide) (c_X4_putBytesOf hl (M := M) hx.rd (w := (tPb b 4 (tPb a 4 (n, zI M 2)))) y2 c) ?_
    refine s_aload_n (zdk hX8_append 38 rfl) rfl ?_
    refine s_getR (zdk hX8_append 39 rfl) fw_X8_10 rfl (hx.K) (show _ = some 1 from (hx.r (i := 0) rfl)) ?_
    refine s_iload (zdk hX8_append 40 rfl) rfl ?_
    refine s_callV0 (ci := 4) [.int (d)] (zdk hX8_append 41 rfl) cw_X8_73 (hx.rd.1) (by decide) rfl rfl rfl (Nat.le_of_ble_eq_true rfl) (by decide) (c_X4_putBytesOf hl (M := M) hx.rd (w := (tPb c 4 (tPb b 4 (tPb a 4 (n, zI M 2))))) y3 d) ?_
    refine s_aload_n (zdk hX8_append 42 rfl) rfl ?_
    refine s_getR (zdk hX8_append 43 rfl) fw_X8_10 rfl (hx.K) (show _ = some 1 from (hx.r (i := 0) rfl)) ?_
    refine s_iload (zdk hX8_append 44 rfl) rfl ?_
    refine s_callV0 (ci := 4) [.int (e)] (zdk hX8_append 45 rfl) cw_X8_73 (hx.rd.1) (by decide) rfl rfl rfl (Nat.le_of_ble_eq_true rfl) (by decide) (c_X4_putBytesOf hl (M := M) hx.rd (w := (tPb d 4 (tPb c 4 (tPb b 4 (tPb a 4 (n, zI M 2)))))) y4 e) ?_
    refine s_aload_n (zdk hX8_append 46 rfl) rfl ?_
    refine s_getR (zdk hX8_append 47 rfl) fw_X8_10 rfl (hx.K) (show _ = some 1 from (hx.r (i := 0) rfl)) ?_
    refine s_getI (zdk hX8_append 48 rfl) fw_X8_66 rfl (hx.rd.1) ?_
    refine s_topi (b := nI (tPb e 4 (tPb d 4 (tPb c 4 (tPb b 4 (tPb a 4 (n, zI M 2)))))).1) (zMw_0) ?_
    refine s_ireturn (zdk hX8_append 49 rfl) rfl rfl ?_
    exact ⟨rfl, rfl, rfl⟩
  · have n41 : 600 < n + (zbd a 4 0 + zbd b 4 0 + zbd c 4 0 + zbd d 4 0 + zbd e 4 0) := nlt c41 (by omega) (by omega)
    exact absurd n41 (by omega)
theorem w_X8_commonCycle_74 (hl : l.stackTraces = false) {M : zMem} {g : Nat → Int64} {p : Nat → Nat} (hx : xSh M) (h : rSt M 630 g p) : ∀ (k : Nat) (i : Nat), i ≤ 11 → 11 - i < k → zS l G mX8_commonCycle 4 100 0 0 74 [some (.ref 0), some (.int ((zBc (zCf g (zZr (zI M 786) 13) (gN g 3)) i).1)), some (.int ((zBc (zCf g (zZr (zI M 786) 13) (gN g 3)) i).2)), some (.int (nI (i + 2)))] [] (zsA M 786 (zCf g (zZr (zI M 786) 13) (gN g 3))) (zD (some (.int (zBc (zCf g (zZr (zI M 786) 13) (gN g 3)) 11).1)) (zsA M 786 (zCf g (zZr (zI M 786) 13) (gN g 3)))) := by
  intro k
  induction k with
  | zero => intros; omega
  | succ k ih =>
    intro i hi hk
    refine s_iload_n (zdk hX8_commonCycle_0 45 rfl) rfl ?_
    refine s_bipushv (v := nI 12) (zdk hX8_commonCycle_0 46 rfl) zc_bipush_12 ?_
    refine s_icmp_gt 105 (zdk hX8_commonCycle_0 47 rfl) (by decide) (fun c77 => ?_) (fun c77 => ?_)
    · have n77 : 12 < i + 2 := nlt' c77 (by omega) (by omega)
      obtain rfl : i = 11 := by omega
      refine s_iload_n (zdk hX8_commonCycle_1 3 rfl) rfl ?_
      refine s_ireturn (zdk hX8_commonCycle_1 4 rfl) rfl rfl ?_
      exact ⟨rfl, rfl⟩
    · have n77 : i + 2 ≤ 12 := nge' c77 (by omega) (by omega)
      refine s_aload_n (zdk hX8_commonCycle_0 48 rfl) rfl ?_
      refine s_getR (zdk hX8_commonCycle_0 49 rfl) fw_X8_55 rfl (hx.K) (show _ = some 786 from (hx.r (i := 8) rfl)) ?_
      refine s_iload_n (zdk hX8_commonCycle_0 50 rfl) rfl ?_
      refine s_ialoadN (N := 13) (j := i + 2) (zdk hX8_commonCycle_0 51 rfl) (hx.cK) (hx.cN) (by omega) (by decide) ?_
      refine s_topi (b := (zCf g (zZr (zI M 786) 13) (gN g 3)) (i + 2)) (congrFun (zI_A _ _ _) _) ?_
      refine s_iload_n (zdk hX8_commonCycle_0 52 rfl) rfl ?_
      refine s_icmp_le 99 (zdk hX8_commonCycle_0 53 rfl) (by decide) (fun c87 => ?_) (fun c87 => ?_)
      · have e1 : zBc (zCf g (zZr (zI M 786) 13) (gN g 3)) (i + 1) = zBc (zCf g (zZr (zI M 786) 13) (gN g 3)) i := if_pos c87
        refine s_ls (ls' := [some (.ref 0), some (.int ((zBc (zCf g (zZr (zI M 786) 13) (gN g 3)) (i + 1)).1)), some (.int ((zBc (zCf g (zZr (zI M 786) 13) (gN g 3)) (i + 1)).2)), some (.int (nI (i + 2)))]) (by rw [e1]) ?_
        refine s_iinc (r := nI (i + 1 + 2)) (zdk hX8_commonCycle_1 1 rfl) (Nat.le_of_ble_eq_true rfl) rfl ((nI_1 _).trans (congrArg nI (by omega))) ?_
        refine s_ls (ls' := [some (.ref 0), some (.int ((zBc (zCf g (zZr (zI M 786) 13) (gN g 3)) (i + 1)).1)), some (.int ((zBc (zCf g (zZr (zI M 786) 13) (gN g 3)) (i + 1)).2)), some (.int (nI (i + 1 + 2)))]) rfl ?_
        refine s_goto 74 (zdk hX8_commonCycle_1 2 rfl) (by decide) ?_
        exact ih (i + 1) (by omega) (by omega)
      · have e1 : zBc (zCf g (zZr (zI M 786) 13) (gN g 3)) (i + 1) = (nI (i + 2), (zCf g (zZr (zI M 786) 13) (gN g 3)) (i + 2)) := if_neg c87
        refine s_aload_n (zdk hX8_commonCycle_0 54 rfl) rfl ?_
        refine s_getR (zdk hX8_commonCycle_0 55 rfl) fw_X8_55 rfl (hx.K) (show _ = some 786 from (hx.r (i := 8) rfl)) ?_
        refine s_iload_n (zdk hX8_commonCycle_0 56 rfl) rfl ?_
        refine s_ialoadN (N := 13) (j := i + 2) (zdk hX8_commonCycle_0 57 rfl) (hx.cK) (hx.cN) (by omega) (by decide) ?_
        refine s_topi (b := (zCf g (zZr (zI M 786) 13) (gN g 3)) (i + 2)) (congrFun (zI_A _ _ _) _) ?_
        refine s_istore_n (zdk hX8_commonCycle_0 58 rfl) (Nat.le_of_ble_eq_true rfl) ?_
        refine s_ls (ls' := [some (.ref 0), some (.int ((zBc (zCf g (zZr (zI M 786) 13) (gN g 3)) i).1)), some (.int ((zCf g (zZr (zI M 786) 13) (gN g 3)) (i + 2))), some (.int (nI (i + 2)))]) rfl ?_
        refine s_iload_n (zdk hX8_commonCycle_0 59 rfl) rfl ?_
        refine s_istore_n (zdk hX8_commonCycle_1 0 rfl) (Nat.le_of_ble_eq_true rfl) ?_
        refine s_ls (ls' := [some (.ref 0), some (.int (nI (i + 2))), some (.int ((zCf g (zZr (zI M 786) 13) (gN g 3)) (i + 2))), some (.int (nI (i + 2)))]) rfl ?_
        refine s_ls (ls' := [some (.ref 0), some (.int ((zBc (zCf g (zZr (zI M 786) 13) (gN g 3)) (i + 1)).1)), some (.int ((zBc (zCf g (zZr (zI M 786) 13) (gN g 3)) (i + 1)).2)), some (.int (nI (i + 2)))]) (by rw [e1]) ?_
        refine s_iinc (r := nI (i + 1 + 2)) (zdk hX8_commonCycle_1 1 rfl) (Nat.le_of_ble_eq_true rfl) rfl ((nI_1 _).trans (congrArg nI (by omega))) ?_
        refine s_ls (ls' := [some (.ref 0), some (.int ((zBc (zCf g (zZr (zI M 786) 13) (gN g 3)) (i + 1)).1)), some (.int ((zBc (zCf g (zZr (zI M 786) 13) (gN g 3)) (i + 1)).2)), some (.int (nI (i + 1 + 2)))]) rfl ?_
        refine s_goto 74 (zdk hX8_commonCycle_1 2 rfl) (by decide) ?_
        exact ih (i + 1) (by omega) (by omega)
theorem w_X8_commonCycle_23 (hl : l.stackTraces = false) {M : zMem} {g : Nat → Int64} {p : Nat → Nat} (hx : xSh M) (h : rSt M 630 g p) : ∀ (k : Nat) (i : Nat) (x2 x3 : Option Value), i ≤ gN g 3 → gN g 3 - i < k → zS l G mX8_commonCycle 4 100 0 0 23 [some (.ref 0), some (.int (nI i)), x2, x3] [] (zsA M 786 (zCf g (zZr (zI M 786) 13) i)) (zD (some (.int (zBc (zCf g (zZr (zI M 786) 13) (gN g 3)) 11).1)) (zsA M 786 (zCf g (zZr (zI M 786) 13) (gN g 3)))) := by
  intro k
  induction k with
  | zero => intros; omega
  | succ k ih =>
    intro i x2 x3 hi hk
    have h20 := h.b.2.2.1.2
    have h2 : rSt (zsA M 786 (zCf g (zZr (zI M 786) 13) i)) 630 g p := h.keep ((zag_A _ _ _).mono fun b hb => by omega)
    refine s_iload_n (zdk hX8_commonCycle_0 14 rfl) rfl ?_
    refine s_aload_n (zdk hX8_commonCycle_0 15 rfl) rfl ?_
    refine s_getR (zdk hX8_commonCycle_0 16 rfl) fw_X8_40 rfl (hx.K) (show _ = some 630 from (hx.r (i := 4) rfl)) ?_
    refine s_getI (zdk hX8_commonCycle_0 17 rfl) fw_X8_100 rfl (h2.K) ?_
    refine s_topi (b := nI (gN g 3)) (h2.v4) ?_
    refine s_icmp_ge 68 (zdk hX8_commonCycle_0 18 rfl) (by decide) (fun c31 => ?_) (fun c31 => ?_)
    · have n31 : gN g 3 ≤ i := nle c31 (by omega) (by omega)
      obtain rfl : i = gN g 3 := by omega
      refine s_iconstv (v := (-1)) (zdk hX8_commonCycle_0 39 rfl) zc_iconst_m1 ?_
      refine s_istore_n (zdk hX8_commonCycle_0 40 rfl) (Nat.le_of_ble_eq_true rfl) ?_
      refine s_ls (ls' := [some (.ref 0), some (.int ((-1))), x2, x3]) rfl ?_
      refine s_iconstv (v := nI 0) (zdk hX8_commonCycle_0 41 rfl) zc_iconst_0 ?_
      refine s_istore_n (zdk hX8_commonCycle_0 42 rfl) (Nat.le_of_ble_eq_true rfl) ?_
      refine s_ls (ls' := [some (.ref 0), some (.int ((-1))), some (.int (nI 0)), x3]) rfl ?_
      refine s_iconstv (v := nI 2) (zdk hX8_commonCycle_0 43 rfl) zc_iconst_2 ?_
      refine s_istore_n (zdk hX8_commonCycle_0 44 rfl) (Nat.le_of_ble_eq_true rfl) ?_
      refine s_ls (ls' := [some (.ref 0), some (.int ((-1))), some (.int (nI 0)), some (.int (nI 2))]) rfl ?_
      exact w_X8_commonCycle_74 hl hx h 12 0 (by omega) (by omega)
    · have n31 : i < gN g 3 := nlt c31 (by omega) (by omega)
      refine s_aload_n (zdk hX8_commonCycle_0 19 rfl) rfl ?_
      refine s_getR (zdk hX8_commonCycle_0 20 rfl) fw_X8_40 rfl (hx.K) (show _ = some 630 from (hx.r (i := 4) rfl)) ?_
      refine s_getR (zdk hX8_commonCycle_0 21 rfl) fw_X8_149 rfl (h2.K) (h2.r6) ?_
      refine s_iload_n (zdk hX8_commonCycle_0 22 rfl) rfl ?_
      refine s_aaloadN (N := 20) (j := i) (zdk hX8_commonCycle_0 23 rfl) (h2.fK) (by decide) (h2.fN) (h2.fL n31) (by decide) (h2.rR n31) ?_
      refine s_callV0 (ci := 0) [] (zdk hX8_commonCycle_0 24 rfl) cw_X8_203 ((h2.rS n31).1) (by decide) rfl rfl rfl (Nat.le_of_ble_eq_true rfl) (by decide) (c_X0_ownCycle hl (h2.rS n31) ((h2.f7 n31).trans (h2.b.ke n31)) (h2.b.keL n31)) ?_
      refine s_topi (b := vOwn g i) (congrArg Prod.fst (zoc_eq (h2.fu n31) _ (Nat.le_refl _))) ?_
      refine s_istore_n (zdk hX8_commonCycle_0 25 rfl) (Nat.le_of_ble_eq_true rfl) ?_
      refine s_ls (ls' := [some (.ref 0), some (.int (nI i)), some (.int (vOwn g i)), x3]) rfl ?_
      refine s_iload_n (zdk hX8_commonCycle_0 26 rfl) rfl ?_
      refine s_iconstv (v := (-1)) (zdk hX8_commonCycle_0 27 rfl) zc_iconst_m1 ?_
      refine s_icmp_eq 62 (zdk hX8_commonCycle_0 28 rfl) (by decide) (fun c49 => ?_) (fun c49 => ?_)
      · have e1 : (zCf g (zZr (zI M 786) 13) (i + 1)) = (zCf g (zZr (zI M 786) 13) i) := if_pos c49
        refine s_mem (M' := (zsA M 786 (zCf g (zZr (zI M 786) 13) (i + 1)))) (by rw [e1]) ?_
        refine s_iinc (r := nI (i + 1)) (zdk hX8_commonCycle_0 37 rfl) (Nat.le_of_ble_eq_true rfl) rfl (nI_1 _) ?_
        refine s_ls (ls' := [some (.ref 0), some (.int (nI (i + 1))), some (.int (vOwn g i)), x3]) rfl ?_
        refine s_goto 23 (zdk hX8_commonCycle_0 38 rfl) (by decide) ?_
        exact ih (i + 1) _ _ (by omega) (by omega)
      · obtain ⟨j, hj2, hj, ej⟩ := (zoc_at (gu g i) (gN g (58 + 51 * i + 4)) (zon (gN g (58 + 51 * i + 4)))).resolve_left c49
        have hzo : zon (gN g (58 + 51 * i + 4)) ≤ 11 := by unfold zon; omega
        have ej2 : vOwn g i = nI j := ej
        have e1 : (zCf g (zZr (zI M 786) 13) (i + 1)) = zw1 (zCf g (zZr (zI M 786) 13) i) j ((zCf g (zZr (zI M 786) 13) i) j + nI 1) := (if_neg c49).trans (by rw [ej2, nI_clamp (by omega)])
        refine s_ls (ls' := [some (.ref 0), some (.int (nI i)), some (.int (nI j)), x3]) (by rw [ej2]) ?_
        refine s_aload_n (zdk hX8_commonCycle_0 29 rfl) rfl ?_
        refine s_getR (zdk hX8_commonCycle_0 30 rfl) fw_X8_55 rfl (hx.K) (show _ = some 786 from (hx.r (i := 8) rfl)) ?_
        refine s_iload_n (zdk hX8_commonCycle_0 31 rfl) rfl ?_
        refine s_dup2ir (zdk hX8_commonCycle_0 32 rfl) ?_
        refine s_ialoadN (N := 13) (j := j) (zdk hX8_commonCycle_0 33 rfl) (hx.cK) (hx.cN) (by omega) (by decide) ?_
        refine s_topi (b := (zCf g (zZr (zI M 786) 13) i) j) (congrFun (zI_A _ _ _) _) ?_
        refine s_iconstv (v := nI 1) (zdk hX8_commonCycle_0 34 rfl) zc_iconst_1 ?_
        refine s_iadd (zdk hX8_commonCycle_0 35 rfl) ?_
        refine s_iastoreN (N := 13) (j := j) (zdk hX8_commonCycle_0 36 rfl) (hx.cK) (hx.cN) (by omega) (by decide) ?_
        refine s_mem (M' := (zsA M 786 (zCf g (zZr (zI M 786) 13) (i + 1)))) ((zsA_1 _ _ _ _ _).trans (zsA_g e1.symm)) ?_
        refine s_iinc (r := nI (i + 1)) (zdk hX8_commonCycle_0 37 rfl) (Nat.le_of_ble_eq_true rfl) rfl (nI_1 _) ?_
        refine s_ls (ls' := [some (.ref 0), some (.int (nI (i + 1))), some (.int (nI j)), x3]) rfl ?_
        refine s_goto 23 (zdk hX8_commonCycle_0 38 rfl) (by decide) ?_
        exact ih (i + 1) _ _ (by omega) (by omega)
theorem w_X8_commonCycle_2 (hl : l.stackTraces = false) {M : zMem} {g : Nat → Int64} {p : Nat → Nat} (hx : xSh M) (h : rSt M 630 g p) : ∀ (k : Nat) (i : Nat), i ≤ 13 → 13 - i < k → zS l G mX8_commonCycle 4 100 0 0 2 [some (.ref 0), some (.int (nI i)), none, none] [] (zsA M 786 (zZr (zI M 786) i)) (zD (some (.int (zBc (zCf g (zZr (zI M 786) 13) (gN g 3)) 11).1)) (zsA M 786 (zCf g (zZr (zI M 786) 13) (gN g 3)))) := by
  intro k
  induction k with
  | zero => intros; omega
  | succ k ih =>
    intro i hi hk
    refine s_iload_n (zdk hX8_commonCycle_0 2 rfl) rfl ?_
    refine s_bipushv (v := nI 12) (zdk hX8_commonCycle_0 3 rfl) zc_bipush_12 ?_
    refine s_icmp_gt 21 (zdk hX8_commonCycle_0 4 rfl) (by decide) (fun c5 => ?_) (fun c5 => ?_)
    · have n5 : 12 < i := nlt' c5 (by omega) (by omega)
      obtain rfl : i = 13 := by omega
      refine s_iconstv (v := nI 0) (zdk hX8_commonCycle_0 12 rfl) zc_iconst_0 ?_
      refine s_istore_n (zdk hX8_commonCycle_0 13 rfl) (Nat.le_of_ble_eq_true rfl) ?_
      refine s_ls (ls' := [some (.ref 0), some (.int (nI 0)), none, none]) rfl ?_
      exact w_X8_commonCycle_23 hl hx h (gN g 3 + 1) 0 none none (by omega) (by omega)
    · have n5 : i ≤ 12 := nge' c5 (by omega) (by omega)
      refine s_aload_n (zdk hX8_commonCycle_0 5 rfl) rfl ?_
      refine s_getR (zdk hX8_commonCycle_0 6 rfl) fw_X8_55 rfl (hx.K) (show _ = some 786 from (hx.r (i := 8) rfl)) ?_
      refine s_iload_n (zdk hX8_commonCycle_0 7 rfl) rfl ?_
      refine s_iconstv (v := nI 0) (zdk hX8_commonCycle_0 8 rfl) zc_iconst_0 ?_
      refine s_iastoreN (N := 13) (j := i) (zdk hX8_commonCycle_0 9 rfl) (hx.cK) (hx.cN) (by omega) (by decide) ?_
      refine s_mem (M' := (zsA M 786 (zZr (zI M 786) (i + 1)))) ((zsA_1 _ _ _ _ _).trans (zsA_g zZr_1)) ?_
      refine s_iinc (r := nI (i + 1)) (zdk hX8_commonCycle_0 10 rfl) (Nat.le_of_ble_eq_true rfl) rfl (nI_1 _) ?_
      refine s_ls (ls' := [some (.ref 0), some (.int (nI (i + 1))), none, none]) rfl ?_
      refine s_goto 2 (zdk hX8_commonCycle_0 11 rfl) (by decide) ?_
      exact ih (i + 1) (by omega) (by omega)
theorem c_X8_commonCycle (hl : l.stackTraces = false) {M : zMem} {g : Nat → Int64} {p : Nat → Nat} (hx : xSh M) (h : rSt M 630 g p) : zCm l G mX8_commonCycle 4 100 0 0 [.ref 0] M (zD (some (.int (zBc (zCf g (zZr (zI M 786) 13) (gN g 3)) 11).1)) (zsA M 786 (zCf g (zZr (zI M 786) 13) (gN g 3)))) := by
  refine zCd.of (ls0 := [some (.ref 0), none, none, none]) (by decide +kernel) rfl hl rfl (Nat.le_of_ble_eq_true rfl) rfl ?_
  refine s_iconstv (v := nI 0) (zdk hX8_commonCycle_0 0 rfl) zc_iconst_0 ?_
  refine s_istore_n (zdk hX8_commonCycle_0 1 rfl) (Nat.le_of_ble_eq_true rfl) ?_
  refine s_ls (ls' := [some (.ref 0), some (.int (nI 0)), none, none]) rfl ?_
  have q := w_X8_commonCycle_2 (l := l) (G := G) hl hx h 14 0 (by omega) (by omega)
  rw [zZr_0, zsA_id] at q
  exact q
end
