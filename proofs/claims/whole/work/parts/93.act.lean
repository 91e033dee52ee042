/-! ===== act: the steps of a plan name files and tiers; the reference carries them out ===== -/
theorem gBd.msh {g : Nat → Int64} (h : gBd g) (hn : gN g 5 = 60) : gBd (oMsh g) := by
  have e5 : its (oMsh g) 5 = nI 59 := by unfold oMsh; rw [its_e, i64]
  have n5 : gN (oMsh g) 5 = 59 := gN_of e5 (by decide)
  refine h.moves (fun k h1 h2 => oMsh_n h1 h2) ⟨by rw [n5]; exact e5, by omega⟩ fun w hw => ?_
  rw [n5] at hw
  unfold gm
  rw [oMsh_i (k := 0) hw (by omega), oMsh_i (k := 1) hw (by omega), oMsh_i (k := 2) hw (by omega), oMsh_N (k := 0) hw (by omega), oMsh_N (k := 1) hw (by omega), oMsh_N (k := 2) hw (by omega)]
  exact h.2.2.2.2.2.2 (w + 1) (by omega)
theorem gBd.put1 {g : Nat → Int64} {n f a b : Nat} {oc ic : Int32} (h : gBd g) (hn : gN g 5 = n) (h60 : n < 60) (hf : f < gN g 3) (ha : a < gN g 2) (hb : b < gN g 2) : gBd (oPut1 g n (nI f) (nI a) (nI b) oc ic) := by
  have e5 : gN (oPut1 g n (nI f) (nI a) (nI b) oc ic) 5 = n + 1 := gN_of oPut1_5 (by omega)
  have hf2 := h.2.2.1.2
  have ht2 := h.2.1.2
  have n0 : gN (oPut1 g n (nI f) (nI a) (nI b) oc ic) (1078 + 5 * n + 0) = f := gN_of oPut1_0 (by omega)
  have n1 : gN (oPut1 g n (nI f) (nI a) (nI b) oc ic) (1078 + 5 * n + 1) = a := gN_of oPut1_1 (by omega)
  have n2 : gN (oPut1 g n (nI f) (nI a) (nI b) oc ic) (1078 + 5 * n + 2) = b := gN_of oPut1_2 (by omega)
  refine h.moves (fun k h1 h2 => oPut1_n h1 (by omega)) ⟨by rw [e5]; exact oPut1_5, by omega⟩ fun w hw => ?_
  rw [e5] at hw
  unfold gm
  by_cases q : w = n
  · rw [q, oPut1_0, oPut1_1, oPut1_2, n0, n1, n2]
    exact ⟨⟨rfl, hf⟩, ⟨rfl, ha⟩, ⟨rfl, hb⟩⟩
  · have e0 := oPut1_n (g := g) (n := n) (k := 1078 + 5 * w + 0) (f := nI f) (fr := nI a) (to := nI b) (oc := oc) (ic := ic) (by omega) (by omega)
    have e1 := oPut1_n (g := g) (n := n) (k := 1078 + 5 * w + 1) (f := nI f) (fr := nI a) (to := nI b) (oc := oc) (ic := ic) (by omega) (by omega)
    have e2 := oPut1_n (g := g) (n := n) (k := 1078 + 5 * w + 2) (f := nI f) (fr := nI a) (to := nI b) (oc := oc) (ic := ic) (by omega) (by omega)
    rw [its_eq e0, its_eq e1, its_eq e2, gN_eq e0, gN_eq e1, gN_eq e2]
    exact h.2.2.2.2.2.2 w (by omega)
theorem gBd.put {g : Nat → Int64} {f a b : Nat} {oc ic : Int32} (h : gBd g) (hf : f < gN g 3) (ha : a < gN g 2) (hb : b < gN g 2) : gBd (oPut g (nI f) (nI a) (nI b) oc ic) := by
  have h5 := h.2.2.2.2.1.2
  unfold oPut
  by_cases q : gN g 5 = 60
  · rw [if_pos q]
    have n5 : gN (oMsh g) 5 = 59 := gN_of (by unfold oMsh; rw [its_e, i64]) (by decide)
    refine (h.msh q).put1 n5 (by decide) ?_ ?_ ?_
    · rw [gN_eq (oMsh_n (by decide) (by omega))]; exact hf
    · rw [gN_eq (oMsh_n (by decide) (by omega))]; exact ha
    · rw [gN_eq (oMsh_n (by decide) (by omega))]; exact hb
  · rw [if_neg q]
    exact h.put1 rfl (by omega) hf ha hb
theorem gBd.pays {g : Nat → Int64} {t k : Nat} {x : Int64} (h : gBd g) : gBd (oPays g t k x) := h.tier fun j _ h2 => oPays_n (by omega)
theorem gBd.go {g : Nat → Int64} {f t : Nat} (h : gBd g) (hf : f < gN g 3) (ht : t < gN g 2) : gBd (oGo g f t) := by
  have ho := (h.2.2.2.2.2.1 f hf).1.2
  have h20 := h.2.2.1.2
  have e2 : ∀ x y, gN (oPays (oPays (zwL g (58 + 51 * f + 1) (nI t).toInt64) (gN g (58 + 51 * f + 1)) 2 x) t 2 y) 2 = gN g 2 := fun x y => by rw [gN_eq (oPays_n (by omega)), gN_eq (oPays_n (by omega)), gN_n (by omega)]
  have e3 : ∀ x y, gN (oPays (oPays (zwL g (58 + 51 * f + 1) (nI t).toInt64) (gN g (58 + 51 * f + 1)) 2 x) t 2 y) 3 = gN g 3 := fun x y => by rw [gN_eq (oPays_n (by omega)), gN_eq (oPays_n (by omega)), gN_n (by omega)]
  unfold oGo
  exact ((h.home hf ht).pays.pays).put (by rw [e3]; exact hf) (by rw [e2]; exact ho) (by rw [e2]; exact ht)
theorem oPut_5 {g : Nat → Int64} {f fr to oc ic : Int32} : oPut g f fr to oc ic 5 = (its (oPut g f fr to oc ic) 5).toInt64 := by
  have h : ∀ h n, oPut1 h n f fr to oc ic 5 = (nI (n + 1)).toInt64 := fun h n => zwL_e
  unfold oPut
  split
  · unfold its; rw [h, i64]
  · unfold its; rw [h, i64]
theorem oGo_5 {g : Nat → Int64} {f t : Nat} : oGo g f t 5 = (its (oGo g f t) 5).toInt64 := oPut_5
/-- the steps of a plan name files and tiers -/
def pOk (g : Nat → Int64) (q : zPs) (F : Nat → Nat) (O : Nat → Option Nat) (T : Nat → Nat) : Prop := ∀ i, i < q.1 → (q.2.2.1 i = nI (F i) ∧ F i < gN g 3) ∧ (q.2.2.2.1 i = zOi (O i) ∧ ∀ j, O i = some j → j < gN g 3) ∧ q.2.2.2.2.1 i = nI (T i) ∧ T i < gN g 2
theorem pOk.take {g : Nat → Int64} {q : zPs} {F : Nat → Nat} {O : Nat → Option Nat} {T : Nat → Nat} {f t : Nat} {o : Option Nat} {v : Int64} (h : pOk g q F O T) (hf : f < gN g 3) (ht : t < gN g 2) (ho : ∀ j, o = some j → j < gN g 3) : pOk g (zTake g q f o t v) (fun i => if i = q.1 then f else F i) (fun i => if i = q.1 then o else O i) (fun i => if i = q.1 then t else T i) := by
  intro i hi
  have hi2 : i < q.1 + 1 := hi
  show (zw1 q.2.2.1 q.1 (nI f) i = _ ∧ _) ∧ (zw1 q.2.2.2.1 q.1 (zOi o) i = _ ∧ _) ∧ zw1 q.2.2.2.2.1 q.1 (nI t) i = _ ∧ _
  rw [zw1_if, zw1_if, zw1_if]
  by_cases c : i = q.1
  · dsimp only
    rw [if_pos c, if_pos c, if_pos c, if_pos c, if_pos c, if_pos c]
    exact ⟨⟨rfl, hf⟩, ⟨rfl, ho⟩, rfl, ht⟩
  · dsimp only
    rw [if_neg c, if_neg c, if_neg c, if_neg c, if_neg c, if_neg c]
    exact h i (by omega)
theorem zPln_ok {g gn : Nat → Int64} (hb : gBd g) : ∀ (k : Nat) (q : zPs), (∃ F O T, pOk g q F O T) → ∃ F O T, pOk g (zPln g gn k q) F O T
  | 0, _, h => h
  | k + 1, q, h => by
    by_cases c : (zBst g gn q.2.2.2.2.2.1 q.2.2.2.2.2.2).2.2.2 ≤ lN 0
    · rw [zPln_no (zStp_no0 c)]
      exact h
    · obtain ⟨F, O, T, h⟩ := h
      rcases zBst_form hb c with ⟨f, t, v, y1, y2, y3, y4, y5⟩ | ⟨f, j, v, y1, y2, y3, y6, y4, y5⟩
      · rw [zPln_s y5]
        exact zPln_ok hb k _ ⟨_, _, _, h.take y1 y2 (fun j e => by cases e)⟩
      · rw [zPln_s y5]
        exact zPln_ok hb k _ ⟨_, _, _, h.take (by omega) (hb.onL y2) (fun i e => by cases e; exact y2)⟩
theorem zPln_ok0 {g gn : Nat → Int64} {q0 q : zPs} (hb : gBd g) (h0 : q0.1 = 0) (hqe : zPln g gn 20 q0 = q) : ∃ F O T, pOk g q F O T := by
  rw [← hqe]
  exact zPln_ok hb 20 q0 ⟨fun _ => 0, fun _ => none, fun _ => 0, fun i hi => by omega⟩
theorem zCo_s {g : Nat → Int64} {F : Nat → Nat} {O : Nat → Option Nat} {T : Nat → Nat} {i : Nat} : (O i = none → zCo g F O T (i + 1) = oGo (zCo g F O T i) (F i) (T i) ∧ zMv O (i + 1) = zMv O i + 1) ∧ ∀ j, O i = some j → zCo g F O T (i + 1) = oGo (oGo (zCo g F O T i) (F i) (T i)) j (gN (zCo g F O T i) (58 + 51 * F i + 1)) ∧ zMv O (i + 1) = zMv O i + 1 + 1 := by
  refine ⟨fun h => ?_, fun j h => ?_⟩
  · constructor
    · show (match O i with | none => _ | some j => _) = _; rw [h]
    · show (match O i with | none => _ | some j => _) = _; rw [h]
  · constructor
    · show (match O i with | none => _ | some j => _) = _; rw [h]
    · show (match O i with | none => _ | some j => _) = _; rw [h]
/-- what act keeps true of the row -/
def pGd (g h : Nat → Int64) : Prop := gBd h ∧ h 5 = (its h 5).toInt64 ∧ gN h 3 = gN g 3 ∧ gN h 2 = gN g 2
theorem pGd.go {g h : Nat → Int64} {f t : Nat} (p : pGd g h) (hf : f < gN g 3) (ht : t < gN g 2) : pGd g (oGo h f t) := by
  obtain ⟨p1, p2, p3, p4⟩ := p
  have h60 := p1.2.2.2.2.1.2
  exact ⟨p1.go (by omega) (by omega), oGo_5, (gN_eq (oGo_n h60 (by omega) (by omega))).trans p3, (gN_eq (oGo_n h60 (by omega) (by omega))).trans p4⟩
theorem zCo_d {g : Nat → Int64} {q : zPs} {F : Nat → Nat} {O : Nat → Option Nat} {T : Nat → Nat} (hb : gBd g) (h5 : g 5 = (its g 5).toInt64) (hp : pOk g q F O T) : ∀ i, i ≤ q.1 → pGd g (zCo g F O T i)
  | 0, _ => ⟨hb, h5, rfl, rfl⟩
  | i + 1, hi => by
    have d := zCo_d hb h5 hp i (by omega)
    obtain ⟨⟨a1, a2⟩, ⟨b1, b2⟩, c1, c2⟩ := hp i (by omega)
    have ho := d.1.onL (f := F i) (by rw [d.2.2.1]; exact a2)
    rw [d.2.2.2] at ho
    cases hoi : O i with
    | none => rw [(zCo_s.1 hoi).1]; exact d.go a2 c2
    | some j => rw [(zCo_s.2 j hoi).1]; exact (d.go a2 c2).go (b2 j hoi) ho
theorem pFr_29 {K X : zMem} {v : Int32} (h : pFr K X) : pFr K (zsI X 941 29 v) := by
  refine h.trans ⟨rfl, fun b q1 q2 => ⟨zI_In q1, fun _ => rfl⟩, fun b => rfl, fun k q => ?_⟩
  rw [si_I, if_pos rfl, if_neg (by omega)]
/-- behind act -/
def pAq (K : zMem) (g : Nat → Int64) (n : Nat) : zOut → zMem → Prop := fun o M' => o = .inl (some (.int (nI n))) ∧ ∃ X, M' = zsL X 942 g ∧ pFr K X
section
variable {l : Launch} {G : zG}
theorem c_X9_act_x (hl : l.stackTraces = false) {M : zMem} (hm : mSh M) {g : Nat → Int64} (hb : gBd g) (n : Int32) (hx : ¬ (nI 1 ≤ n ∧ n ≤ nI 24)) : zCm l G mX9_act 3 70 0 0 [.ref 941, .int (n)] (zsL M 942 g) (zD (some (.int (nI 0))) (zsL (zsI M 941 6 (nI (1))) 942 g)) := by
  refine zCd.of (ls0 := [some (.ref 941), some (.int (n)), none, none, none]) (by decide +kernel) rfl hl rfl (Nat.le_of_ble_eq_true rfl) rfl ?_
  refine s_aload_n (zdk hX9_act_0 0 rfl) rfl ?_
  refine s_iload_n (zdk hX9_act_0 1 rfl) rfl ?_
  refine s_callS0 [.int (n)] (zdk hX9_act_0 2 rfl) cw_X9_320 rfl (Nat.le_of_ble_eq_true rfl) (by decide) (c_X9_isSpan hl (zsL M 942 g) (n)) ?_
  refine s_if_eq 12 (zdk hX9_act_0 3 rfl) (by decide) (fun c5 => ?_) (fun c5 => ?_)
  · have b5 : ¬ (nI 1 ≤ n ∧ n ≤ nI 24) := b01_eq c5
    refine s_iconstv (v := nI 1) (zdk hX9_act_0 6 rfl) zc_iconst_1 ?_
    refine s_putI (zdk hX9_act_0 7 rfl) fw_X9_69 rfl pw_9_6 (hm.1) ?_
    refine s_mem (M' := (zsL (zsI M 941 6 (nI 1)) 942 g)) rfl ?_
    refine s_aload_n (zdk hX9_act_0 8 rfl) rfl ?_
    refine s_getI (zdk hX9_act_0 9 rfl) fw_X9_69 rfl (hm.1) ?_
    refine s_topi (b := nI 1) ((congrFun (zI_Ie (M := M) (a := 941) (k := 6) (v := (nI 1))) 6).trans zw1_e) ?_
    refine s_if_le 25 (zdk hX9_act_0 10 rfl) (by decide) (fun c20 => ?_) (fun c20 => ?_)
    · exact absurd c20 (by decide)
    · refine s_iconstv (v := nI 0) (zdk hX9_act_0 11 rfl) zc_iconst_0 ?_
      refine s_ireturn (zdk hX9_act_0 12 rfl) rfl rfl ?_
      exact ⟨rfl, rfl⟩
  · have b5 : nI 1 ≤ n ∧ n ≤ nI 24 := b01_ne c5
    refine s_iconstv (v := nI 0) (zdk hX9_act_0 4 rfl) zc_iconst_0 ?_
    refine s_goto 13 (zdk hX9_act_0 5 rfl) (by decide) ?_
    refine s_putI (zdk hX9_act_0 7 rfl) fw_X9_69 rfl pw_9_6 (hm.1) ?_
    refine s_mem (M' := (zsL (zsI M 941 6 (nI 0)) 942 g)) rfl ?_
    refine s_aload_n (zdk hX9_act_0 8 rfl) rfl ?_
    refine s_getI (zdk hX9_act_0 9 rfl) fw_X9_69 rfl (hm.1) ?_
    refine s_topi (b := nI 0) ((congrFun (zI_Ie (M := M) (a := 941) (k := 6) (v := (nI 0))) 6).trans zw1_e) ?_
    refine s_if_le 25 (zdk hX9_act_0 10 rfl) (by decide) (fun c20 => ?_) (fun c20 => ?_)
    · exact absurd b5 hx
    · exact absurd (by decide) c20
theorem w_X9_act_52 (hl : l.stackTraces = false) {X : zMem} (hm : mSh X) {g : Nat → Int64} (hb : gBd g) (h5 : g 5 = (its g 5).toInt64) {q : zPs} (hq20 : q.1 ≤ 20) {F : Nat → Nat} {O : Nat → Option Nat} {T : Nat → Nat} (hp : pOk g q F O T) (hr : ∀ i, i < q.1 → zI X 949 i = q.2.2.1 i ∧ zI X 950 i = q.2.2.2.1 i ∧ zI X 951 i = q.2.2.2.2.1 i) {i : Nat} (hi2 : i < q.1) (hoi : O i = none) (n : Nat) (x4 : Option Value) {Q : zOut → zMem → Prop} (kk : zS l G mX9_act 7 220 0 0 44 [some (.ref 941), some (.int (nI n)), some (.int (nI (zMv O (i + 1)))), some (.int (nI (i + 1))), some (.int (nI (gN (zCo g F O T i) (58 + 51 * F i + 1))))] [] (zsL (zsI X 941 29 (oOut (zCo g F O T i) (F i) + oInc (zCo g F O T i) (F i) (T i))) 942 (zCo g F O T (i + 1))) Q) : zS l G mX9_act 7 220 0 0 52 [some (.ref 941), some (.int (nI n)), some (.int (nI (zMv O i))), some (.int (nI i)), x4] [] (zsL X 942 (zCo g F O T i)) Q := by
  have hd := zCo_d hb h5 hp i (by omega)
  have hp1 := hp i hi2
  have hF3 := hp1.1.2
  have hT2 := hp1.2.2.2
  have h20 := hb.2.2.1.2
  have h4 := hb.2.1.2
  have hFi : F i < gN (zCo g F O T i) 3 := by rw [hd.2.2.1]; exact hp1.1.2
  have hho := hd.1.onL hFi
  have hmv := zMv_le O i
  have hz := zCo_s (g := g) (F := F) (O := O) (T := T) (i := i)
  refine s_aload_n (zdk hX9_act_0 30 rfl) rfl ?_
  refine s_aload_n (zdk hX9_act_0 31 rfl) rfl ?_
  refine s_getR (zdk hX9_act_0 32 rfl) fw_X9_37 rfl (hm.1) (show _ = some 949 from (hm.r (i := 7) rfl).1) ?_
  refine s_iload_n (zdk hX9_act_0 33 rfl) rfl ?_
  refine s_ialoadN (N := 20) (j := i) (zdk hX9_act_0 34 rfl) ((hm.r (i := 7) rfl).2.1) ((hm.r (i := 7) rfl).2.2) (by omega) (by decide) ?_
  refine s_topi (b := nI (F i)) ((hr i hi2).1.trans hp1.1.1) ?_
  refine s_iconstv (v := nI 1) (zdk hX9_act_0 35 rfl) zc_iconst_1 ?_
  refine s_callV0 (ci := 9) [.int (nI (F i)), .int (nI 1)] (zdk hX9_act_0 36 rfl) cw_X9_211 (hm.1) (by decide) rfl rfl rfl (Nat.le_of_ble_eq_true rfl) (by decide) (c_X9_of hl hm (g := (zCo g F O T i)) (f := F i) (k := 1) (by omega)) ?_
  refine s_topi (b := nI (gN (zCo g F O T i) (58 + 51 * F i + 1))) (hd.1.on hFi) ?_
  refine s_istore (zdk hX9_act_0 37 rfl) (Nat.le_of_ble_eq_true rfl) ?_
  refine s_ls (ls' := [some (.ref 941), some (.int (nI n)), some (.int (nI (zMv O i))), some (.int (nI i)), some (.int (nI (gN (zCo g F O T i) (58 + 51 * F i + 1))))]) rfl ?_
  refine s_aload_n (zdk hX9_act_0 38 rfl) rfl ?_
  refine s_aload_n (zdk hX9_act_0 39 rfl) rfl ?_
  refine s_aload_n (zdk hX9_act_0 40 rfl) rfl ?_
  refine s_getR (zdk hX9_act_0 41 rfl) fw_X9_37 rfl (hm.1) (show _ = some 949 from (hm.r (i := 7) rfl).1) ?_
  refine s_iload_n (zdk hX9_act_0 42 rfl) rfl ?_
  refine s_ialoadN (N := 20) (j := i) (zdk hX9_act_0 43 rfl) ((hm.r (i := 7) rfl).2.1) ((hm.r (i := 7) rfl).2.2) (by omega) (by decide) ?_
  refine s_topi (b := nI (F i)) ((hr i hi2).1.trans hp1.1.1) ?_
  refine s_aload_n (zdk hX9_act_0 44 rfl) rfl ?_
  refine s_getR (zdk hX9_act_0 45 rfl) fw_X9_43 rfl (hm.1) (show _ = some 951 from (hm.r (i := 9) rfl).1) ?_
  refine s_iload_n (zdk hX9_act_0 46 rfl) rfl ?_
  refine s_ialoadN (N := 20) (j := i) (zdk hX9_act_0 47 rfl) ((hm.r (i := 9) rfl).2.1) ((hm.r (i := 9) rfl).2.2) (by omega) (by decide) ?_
  refine s_topi (b := nI (T i)) ((hr i hi2).2.2.trans hp1.2.2.1) ?_
  refine s_callV0 (ci := 9) [.int (nI (F i)), .int (nI (T i))] (zdk hX9_act_0 48 rfl) cw_X9_342 (hm.1) (by decide) rfl rfl rfl (Nat.le_of_ble_eq_true rfl) (by decide) (c_X9_goes hl (M := X) hm hd.1 hd.2.1 (f := F i) (t := T i) hFi (by rw [hd.2.2.2]; exact hp1.2.2.2)) ?_
  refine s_putI (zdk hX9_act_0 49 rfl) fw_X9_345 rfl pw_9_29 (hm.1) ?_
  refine s_mem (M' := (zsL (zsI X 941 29 (oOut (zCo g F O T i) (F i) + oInc (zCo g F O T i) (F i) (T i))) 942 (oGo (zCo g F O T i) (F i) (T i)))) rfl ?_
  refine s_iinc (r := nI (zMv O i + 1)) (zdk hX9_act_0 50 rfl) (Nat.le_of_ble_eq_true rfl) rfl (nI_1 _) ?_
  refine s_ls (ls' := [some (.ref 941), some (.int (nI n)), some (.int (nI (zMv O i + 1))), some (.int (nI i)), some (.int (nI (gN (zCo g F O T i) (58 + 51 * F i + 1))))]) rfl ?_
  refine s_aload_n (zdk hX9_act_0 51 rfl) rfl ?_
  refine s_getR (zdk hX9_act_0 52 rfl) fw_X9_40 rfl (hm.1) (show _ = some 950 from (hm.r (i := 8) rfl).1) ?_
  refine s_iload_n (zdk hX9_act_0 53 rfl) rfl ?_
  refine s_ialoadN (N := 20) (j := i) (zdk hX9_act_0 54 rfl) ((hm.r (i := 8) rfl).2.1) ((hm.r (i := 8) rfl).2.2) (by omega) (by decide) ?_
  refine s_topi (b := (-1)) (((show zI (zsI X 941 29 (oOut (zCo g F O T i) (F i) + oInc (zCo g F O T i) (F i) (T i))) 950 i = _ from (congrFun (zI_In (by decide)) i).trans ((hr i hi2).2.1.trans hp1.2.1.1))).trans (by rw [hoi]; rfl)) ?_
  refine s_iconstv (v := (-1)) (zdk hX9_act_0 55 rfl) zc_iconst_m1 ?_
  refine s_icmp_ne 101 (zdk hX9_act_0 56 rfl) (by decide) (fun c95 => ?_) (fun c95 => ?_)
  · exact absurd rfl c95
  · refine s_goto 120 (zdk hX9_act_0 57 rfl) (by decide) ?_
    rw [← (hz.1 hoi).2]
    rw [← (hz.1 hoi).1]
    refine s_iinc (r := nI (i + 1)) (zdk hX9_act_1 8 rfl) (Nat.le_of_ble_eq_true rfl) rfl (nI_1 _) ?_
    refine s_ls (ls' := [some (.ref 941), some (.int (nI n)), some (.int (nI (zMv O (i + 1)))), some (.int (nI (i + 1))), some (.int (nI (gN (zCo g F O T i) (58 + 51 * F i + 1))))]) rfl ?_
    refine s_goto 44 (zdk hX9_act_1 9 rfl) (by decide) ?_
    exact kk
theorem w_X9_act_52x (hl : l.stackTraces = false) {X : zMem} (hm : mSh X) {g : Nat → Int64} (hb : gBd g) (h5 : g 5 = (its g 5).toInt64) {q : zPs} (hq20 : q.1 ≤ 20) {F : Nat → Nat} {O : Nat → Option Nat} {T : Nat → Nat} (hp : pOk g q F O T) (hr : ∀ i, i < q.1 → zI X 949 i = q.2.2.1 i ∧ zI X 950 i = q.2.2.2.1 i ∧ zI X 951 i = q.2.2.2.2.1 i) {i : Nat} (hi2 : i < q.1) {j : Nat} (hoi : O i = some j) (n : Nat) (x4 : Option Value) {Q : zOut → zMem → Prop} (kk : zS l G mX9_act 7 220 0 0 44 [some (.ref 941), some (.int (nI n)), some (.int (nI (zMv O (i + 1)))), some (.int (nI (i + 1))), some (.int (nI (gN (zCo g F O T i) (58 + 51 * F i + 1))))] [] (zsL (zsI (zsI X 941 29 (oOut (zCo g F O T i) (F i) + oInc (zCo g F O T i) (F i) (T i))) 941 29 (oOut (oGo (zCo g F O T i) (F i) (T i)) j + oInc (oGo (zCo g F O T i) (F i) (T i)) j (gN (zCo g F O T i) (58 + 51 * F i + 1)))) 942 (zCo g F O T (i + 1))) Q) : zS l G mX9_act 7 220 0 0 52 [some (.ref 941), some (.int (nI n)), some (.int (nI (zMv O i))), some (.int (nI i)), x4] [] (zsL X 942 (zCo g F O T i)) Q := by
  have hd := zCo_d hb h5 hp i (by omega)
  have hp1 := hp i hi2
  have hF3 := hp1.1.2
  have hT2 := hp1.2.2.2
  have h20 := hb.2.2.1.2
  have h4 := hb.2.1.2
  have hFi : F i < gN (zCo g F O T i) 3 := by rw [hd.2.2.1]; exact hp1.1.2
  have hho := hd.1.onL hFi
  have hmv := zMv_le O i
  have hz := zCo_s (g := g) (F := F) (O := O) (T := T) (i := i)
  have hj := hp1.2.1.2 j hoi
  have hd1 := hd.go hp1.1.2 hp1.2.2.2
  have hh : gN (zCo g F O T i) (58 + 51 * F i + 1) < gN g 2 := by rw [← hd.2.2.2]; exact hho
  refine s_aload_n (zdk hX9_act_0 30 rfl) rfl ?_
  refine s_aload_n (zdk hX9_act_0 31 rfl) rfl ?_
  refine s_getR (zdk hX9_act_0 32 rfl) fw_X9_37 rfl (hm.1) (show _ = some 949 from (hm.r (i := 7) rfl).1) ?_
  refine s_iload_n (zdk hX9_act_0 33 rfl) rfl ?_
  refine s_ialoadN (N := 20) (j := i) (zdk hX9_act_0 34 rfl) ((hm.r (i := 7) rfl).2.1) ((hm.r (i := 7) rfl).2.2) (by omega) (by decide) ?_
  refine s_topi (b := nI (F i)) ((hr i hi2).1.trans hp1.1.1) ?_
  refine s_iconstv (v := nI 1) (zdk hX9_act_0 35 rfl) zc_iconst_1 ?_
  refine s_callV0 (ci := 9) [.int (nI (F i)), .int (nI 1)] (zdk hX9_act_0 36 rfl) cw_X9_211 (hm.1) (by decide) rfl rfl rfl (Nat.le_of_ble_eq_true rfl) (by decide) (c_X9_of hl hm (g := (zCo g F O T i)) (f := F i) (k := 1) (by omega)) ?_
  refine s_topi (b := nI (gN (zCo g F O T i) (58 + 51 * F i + 1))) (hd.1.on hFi) ?_
  refine s_istore (zdk hX9_act_0 37 rfl) (Nat.le_of_ble_eq_true rfl) ?_
  refine s_ls (ls' := [some (.ref 941), some (.int (nI n)), some (.int (nI (zMv O i))), some (.int (nI i)), some (.int (nI (gN (zCo g F O T i) (58 + 51 * F i + 1))))]) rfl ?_
  refine s_aload_n (zdk hX9_act_0 38 rfl) rfl ?_
  refine s_aload_n (zdk hX9_act_0 39 rfl) rfl ?_
  refine s_aload_n (zdk hX9_act_0 40 rfl) rfl ?_
  refine s_getR (zdk hX9_act_0 41 rfl) fw_X9_37 rfl (hm.1) (show _ = some 949 from (hm.r (i := 7) rfl).1) ?_
  refine s_iload_n (zdk hX9_act_0 42 rfl) rfl ?_
  refine s_ialoadN (N := 20) (j := i) (zdk hX9_act_0 43 rfl) ((hm.r (i := 7) rfl).2.1) ((hm.r (i := 7) rfl).2.2) (by omega) (by decide) ?_
  refine s_topi (b := nI (F i)) ((hr i hi2).1.trans hp1.1.1) ?_
  refine s_aload_n (zdk hX9_act_0 44 rfl) rfl ?_
  refine s_getR (zdk hX9_act_0 45 rfl) fw_X9_43 rfl (hm.1) (show _ = some 951 from (hm.r (i := 9) rfl).1) ?_
  refine s_iload_n (zdk hX9_act_0 46 rfl) rfl ?_
  refine s_ialoadN (N := 20) (j := i) (zdk hX9_act_0 47 rfl) ((hm.r (i := 9) rfl).2.1) ((hm.r (i := 9) rfl).2.2) (by omega) (by decide) ?_
  refine s_topi (b := nI (T i)) ((hr i hi2).2.2.trans hp1.2.2.1) ?_
  refine s_callV0 (ci := 9) [.int (nI (F i)), .int (nI (T i))] (zdk hX9_act_0 48 rfl) cw_X9_342 (hm.1) (by decide) rfl rfl rfl (Nat.le_of_ble_eq_true rfl) (by decide) (c_X9_goes hl (M := X) hm hd.1 hd.2.1 (f := F i) (t := T i) hFi (by rw [hd.2.2.2]; exact hp1.2.2.2)) ?_
  refine s_putI (zdk hX9_act_0 49 rfl) fw_X9_345 rfl pw_9_29 (hm.1) ?_
  refine s_mem (M' := (zsL (zsI X 941 29 (oOut (zCo g F O T i) (F i) + oInc (zCo g F O T i) (F i) (T i))) 942 (oGo (zCo g F O T i) (F i) (T i)))) rfl ?_
  refine s_iinc (r := nI (zMv O i + 1)) (zdk hX9_act_0 50 rfl) (Nat.le_of_ble_eq_true rfl) rfl (nI_1 _) ?_
  refine s_ls (ls' := [some (.ref 941), some (.int (nI n)), some (.int (nI (zMv O i + 1))), some (.int (nI i)), some (.int (nI (gN (zCo g F O T i) (58 + 51 * F i + 1))))]) rfl ?_
  refine s_aload_n (zdk hX9_act_0 51 rfl) rfl ?_
  refine s_getR (zdk hX9_act_0 52 rfl) fw_X9_40 rfl (hm.1) (show _ = some 950 from (hm.r (i := 8) rfl).1) ?_
  refine s_iload_n (zdk hX9_act_0 53 rfl) rfl ?_
  refine s_ialoadN (N := 20) (j := i) (zdk hX9_act_0 54 rfl) ((hm.r (i := 8) rfl).2.1) ((hm.r (i := 8) rfl).2.2) (by omega) (by decide) ?_
  refine s_topi (b := nI j) (((show zI (zsI X 941 29 (oOut (zCo g F O T i) (F i) + oInc (zCo g F O T i) (F i) (T i))) 950 i = _ from (congrFun (zI_In (by decide)) i).trans ((hr i hi2).2.1.trans hp1.2.1.1))).trans (by rw [hoi]; rfl)) ?_
  refine s_iconstv (v := (-1)) (zdk hX9_act_0 55 rfl) zc_iconst_m1 ?_
  refine s_icmp_ne 101 (zdk hX9_act_0 56 rfl) (by decide) (fun c95 => ?_) (fun c95 => ?_)
  · refine s_aload_n (zdk hX9_act_0 58 rfl) rfl ?_
    refine s_aload_n (zdk hX9_act_0 59 rfl) rfl ?_
    refine s_aload_n (zdk hX9_act_1 0 rfl) rfl ?_
    refine s_getR (zdk hX9_act_1 1 rfl) fw_X9_40 rfl (hm.1) (show _ = some 950 from (hm.r (i := 8) rfl).1) ?_
    refine s_iload_n (zdk hX9_act_1 2 rfl) rfl ?_
    refine s_ialoadN (N := 20) (j := i) (zdk hX9_act_1 3 rfl) ((hm.r (i := 8) rfl).2.1) ((hm.r (i := 8) rfl).2.2) (by omega) (by decide) ?_
    refine s_topi (b := nI j) (((show zI (zsI X 941 29 (oOut (zCo g F O T i) (F i) + oInc (zCo g F O T i) (F i) (T i))) 950 i = _ from (congrFun (zI_In (by decide)) i).trans ((hr i hi2).2.1.trans hp1.2.1.1))).trans (by rw [hoi]; rfl)) ?_
    refine s_iload (zdk hX9_act_1 4 rfl) rfl ?_
    refine s_callV0 (ci := 9) [.int (nI j), .int (nI (gN (zCo g F O T i) (58 + 51 * F i + 1)))] (zdk hX9_act_1 5 rfl) cw_X9_342 (hm.1) (by decide) rfl rfl rfl (Nat.le_of_ble_eq_true rfl) (by decide) (c_X9_goes hl (M := (zsI X 941 29 (oOut (zCo g F O T i) (F i) + oInc (zCo g F O T i) (F i) (T i)))) hm (g := (oGo (zCo g F O T i) (F i) (T i))) hd1.1 hd1.2.1 (f := j) (t := gN (zCo g F O T i) (58 + 51 * F i + 1)) (by rw [hd1.2.2.1]; exact hj) (by rw [hd1.2.2.2]; exact hh)) ?_
    refine s_putI (zdk hX9_act_1 6 rfl) fw_X9_345 rfl pw_9_29 (hm.1) ?_
    refine s_mem (M' := (zsL (zsI (zsI X 941 29 (oOut (zCo g F O T i) (F i) + oInc (zCo g F O T i) (F i) (T i))) 941 29 (oOut (oGo (zCo g F O T i) (F i) (T i)) j + oInc (oGo (zCo g F O T i) (F i) (T i)) j (gN (zCo g F O T i) (58 + 51 * F i + 1)))) 942 (oGo (oGo (zCo g F O T i) (F i) (T i)) j (gN (zCo g F O T i) (58 + 51 * F i + 1))))) rfl ?_
    refine s_iinc (r := nI (zMv O i + 1 + 1)) (zdk hX9_act_1 7 rfl) (Nat.le_of_ble_eq_true rfl) rfl (nI_1 _) ?_
    refine s_ls (ls' := [some (.ref 941), some (.int (nI n)), some (.int (nI (zMv O i + 1 + 1))), some (.int (nI i)), some (.int (nI (gN (zCo g F O T i) (58 + 51 * F i + 1))))]) rfl ?_
    rw [← (hz.2 j hoi).2]
    rw [← (hz.2 j hoi).1]
    refine s_iinc (r := nI (i + 1)) (zdk hX9_act_1 8 rfl) (Nat.le_of_ble_eq_true rfl) rfl (nI_1 _) ?_
    refine s_ls (ls' := [some (.ref 941), some (.int (nI n)), some (.int (nI (zMv O (i + 1)))), some (.int (nI (i + 1))), some (.int (nI (gN (zCo g F O T i) (58 + 51 * F i + 1))))]) rfl ?_
    refine s_goto 44 (zdk hX9_act_1 9 rfl) (by decide) ?_
    exact kk
  · exact absurd c95 (nI_ne1 (by omega))
end
