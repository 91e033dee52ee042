/-! ===== plans: the contract; steps, saving, withRoom, step ===== -/
/-- a tier's free places as a plan begins -/
def pFe (g : Nat → Int64) (tt x : Int32) (t : Nat) : Int32 := oSp g t + if nI t = tt then x else nI 0
/-- how a plan begins -/
def pS (g : Nat → Int64) (tt x : Int32) (q : zPs) : Prop := q.1 = 0 ∧ q.2.1 = lN 0 ∧ (∀ f, f < gN g 3 → (¬ nI (gN g 4) < gf g f 3 ↔ ¬ q.2.2.2.2.2.1 f = 0)) ∧ ∀ t, t < gN g 2 → pFe g tt x t = q.2.2.2.2.2.2 t
def pI1 (M : zMem) (ot : Nat → Int64) (g : Nat → Int64) (tt x : Int32) (X : zMem) (t : Nat) : Prop := pFr M X ∧ zJ X 954 = ot ∧ zI X 941 23 = nI 0 ∧ zJ X 941 27 = lN 0 ∧ ∀ j, j < t → zI X 953 j = pFe g tt x j
def pI2 (M : zMem) (ot : Nat → Int64) (g : Nat → Int64) (tt x : Int32) (X : zMem) (i : Nat) : Prop := pI1 M ot g tt x X (gN g 2) ∧ ∀ f, f < i → zI X 948 f = nI (gN g (58 + 51 * f + 1)) ∧ zI X 952 f = 0
theorem pFr_I {X : zMem} {c k : Nat} {v : Int32} (h : 948 ≤ c ∧ c ≤ 954) : pFr X (zsI X c k v) := ⟨rfl, fun b q1 q2 => ⟨zI_In (by omega), fun _ => rfl⟩, fun b => rfl, fun k q => by rw [zI_In (by omega)]⟩
theorem pI1.next {M X : zMem} {ot g : Nat → Int64} {tt x v : Int32} {t : Nat} (h : pI1 M ot g tt x X t) (hv : v = pFe g tt x t) : pI1 M ot g tt x (zsI X 953 t v) (t + 1) := by
  obtain ⟨h1, h2, h3, h4, h5⟩ := h
  refine ⟨h1.trans (pFr_I (by decide)), h2, by rw [zI_In (by decide)]; exact h3, h4, fun j hj => ?_⟩
  rw [si_I, if_pos rfl]
  by_cases q : j = t
  · rw [if_pos q, hv, q]
  · rw [if_neg q]
    exact h5 j (by omega)
theorem pI2.next {M X : zMem} {ot g : Nat → Int64} {tt x : Int32} {i : Nat} (h : pI2 M ot g tt x X i) : pI2 M ot g tt x (zsI (zsI X 948 i (nI (gN g (58 + 51 * i + 1)))) 952 i (nI 0)) (i + 1) := by
  obtain ⟨⟨h1, h2, h3, h4, h5⟩, h6⟩ := h
  refine ⟨⟨h1.trans ((pFr_I (by decide)).trans (pFr_I (by decide))), h2, by rw [zI_In (by decide), zI_In (by decide)]; exact h3, h4, fun j hj => by rw [zI_In (by decide), zI_In (by decide)]; exact h5 j hj⟩, fun f hf => ?_⟩
  rw [zI_In (show 948 ≠ 952 by decide), si_I, if_pos rfl, si_I, if_pos rfl, zI_In (show 952 ≠ 948 by decide)]
  by_cases q : f = i
  · rw [if_pos q, if_pos q, q]
    exact ⟨rfl, rfl⟩
  · rw [if_neg q, if_neg q]
    exact h6 f (by omega)
theorem pI2.mPl {M X : zMem} {ot g : Nat → Int64} {tt x : Int32} {q : zPs} (hb : gBd g) (h : pI2 M ot g tt x X (gN g 3)) (hq : pS g tt x q) : mPl X g q (fun f => gN g (58 + 51 * f + 1)) := by
  obtain ⟨⟨h1, h2, h3, h4, h5⟩, h6⟩ := h
  obtain ⟨q1, q2, q3, q4⟩ := hq
  refine ⟨by rw [q1]; exact h3, by rw [q2]; exact h4, fun i hi => by omega, fun f hf => ⟨(h6 f hf).1, (hb.2.2.2.2.2.1 f hf).1.2⟩, fun f hf => ?_, fun f hf _ => rfl, fun t ht => (h5 t ht).trans (q4 t ht)⟩
  rw [(h6 f hf).2]
  exact ⟨fun z => (q3 f hf).mp z.1, fun z => ⟨(q3 f hf).mpr z, rfl⟩⟩
/-- an answer behind plans -/
def rPq (M : zMem) (g : Nat → Int64) (th : Nat) (v : Value) : zOut → zMem → Prop := fun o M' => o = .inl (some v) ∧ ∃ X, M' = zsL X 942 g ∧ pFr (zsI M 941 6 (nI th)) X
section
variable {l : Launch} {G : zG}
theorem zCp.of {y : zMD} {fr lo : Nat} {as : List Value} {M : zMem} {g : Nat → Int64} {th : Nat} {v : Value} {ls0 : List (Option Value)} (hpn : plainName (yN y).cls = true) (hH : yH y = []) (hl : l.stackTraces = false) (hen : zen (yL y) as = ls0) (hle : (zea as).length ≤ yL y)
    (h : zS l G y fr lo 0 0 0 ls0 [] (zsL M 942 g) (rPq M g th v)) : zCm l G y fr lo 0 0 as (zsL M 942 g) (rPq M g th v) :=
  zCm.of0 hpn hH hl hen hle (fun v' M' q => by obtain ⟨-, X, rfl, h3⟩ := q; exact h3.1) (fun x M' q => by cases q.1) h
theorem w_X9_plans_18 (hl : l.stackTraces = false) {M : zMem} (hm0 : mSh M) {g ot : Nat → Int64} (hb : gBd g) (n tt x : Int32) {Q : zOut → zMem → Prop} (kk : ∀ X, pI1 M ot g tt x X (gN g 2) → zS l G mX9_plans 6 170 0 0 58 [some (.ref 941), some (.int (n)), some (.int (tt)), some (.int (x)), some (.int (nI (gN g 2)))] [] (zsL X 942 g) Q) : ∀ (k : Nat) (t : Nat) (X : zMem), pI1 M ot g tt x X t → t ≤ gN g 2 → gN g 2 - t < k → zS l G mX9_plans 6 170 0 0 18 [some (.ref 941), some (.int (n)), some (.int (tt)), some (.int (x)), some (.int (nI t))] [] (zsL X 942 g) Q := by
  intro k
  induction k with
  | zero => intros; omega
  | succ k ih =>
    intro t X hI hi hk
    have hm := hI.1.sh hm0
    have hn2 := hb.2.2.1.2
    have ht4 := hb.2.1.2

    refine s_iload (zdk hX9_plans_0 11 rfl) rfl ?_
    refine s_aload_n (zdk hX9_plans_0 12 rfl) rfl ?_
    refine s_callV0 (ci := 9) [] (zdk hX9_plans_0 13 rfl) cw_X9_154 (hm.1) (by decide) rfl rfl rfl (Nat.le_of_ble_eq_true rfl) (by decide) (c_X9_tiers hl (M := X) (g := g) hm hb) ?_
    refine s_icmp_ge 58 (zdk hX9_plans_0 14 rfl) (by decide) (fun c24 => ?_) (fun c24 => ?_)
    · have n24 : gN g 2 ≤ t := nle c24 (by omega) (by omega)
      obtain rfl : t = gN g 2 := by omega
      exact kk X hI
    · have n24 : t < gN g 2 := nlt c24 (by omega) (by omega)
      refine s_aload_n (zdk hX9_plans_0 15 rfl) rfl ?_
      refine s_getR (zdk hX9_plans_0 16 rfl) fw_X9_49 rfl (hm.1) (show _ = some 953 from (hm.r (i := 11) rfl).1) ?_
      refine s_iload (zdk hX9_plans_0 17 rfl) rfl ?_
      refine s_aload_n (zdk hX9_plans_0 18 rfl) rfl ?_
      refine s_iload (zdk hX9_plans_0 19 rfl) rfl ?_
      refine s_callV0 (ci := 9) [.int (nI t)] (zdk hX9_plans_0 20 rfl) cw_X9_188 (hm.1) (by decide) rfl rfl rfl (Nat.le_of_ble_eq_true rfl) (by decide) (c_X9_freeOn hl (M := X) (g := g) hm hb (t := t) (by omega)) ?_
      refine s_iload (zdk hX9_plans_0 21 rfl) rfl ?_
      refine s_iload_n (zdk hX9_plans_0 22 rfl) rfl ?_
      refine s_icmp_ne 49 (zdk hX9_plans_0 23 rfl) (by decide) (fun c42 => ?_) (fun c42 => ?_)
      · refine s_iconstv (v := nI 0) (zdk hX9_plans_0 26 rfl) zc_iconst_0 ?_
        refine s_iadd (zdk hX9_plans_0 27 rfl) ?_
        refine s_iastoreN (N := 4) (j := t) (zdk hX9_plans_0 28 rfl) ((hm.r (i := 11) rfl).2.1) ((hm.r (i := 11) rfl).2.2) (by omega) (by decide) ?_
        refine s_mem (M' := (zsL (zsI X 953 t ((gt g t 0 - zfull g (nI t) (gN g 3)) + (nI 0))) 942 g)) rfl ?_
        refine s_iinc (r := nI (t + 1)) (zdk hX9_plans_0 29 rfl) (Nat.le_of_ble_eq_true rfl) rfl (nI_1 _) ?_
        refine s_ls (ls' := [some (.ref 941), some (.int (n)), some (.int (tt)), some (.int (x)), some (.int (nI (t + 1)))]) rfl ?_
        refine s_goto 18 (zdk hX9_plans_0 30 rfl) (by decide) ?_
        exact ih (t + 1) _ (hI.next (by unfold pFe oSp; first | rw [if_pos c42] | rw [if_neg c42])) (by omega) (by omega)
      · refine s_iload_n (zdk hX9_plans_0 24 rfl) rfl ?_
        refine s_goto 50 (zdk hX9_plans_0 25 rfl) (by decide) ?_
        refine s_iadd (zdk hX9_plans_0 27 rfl) ?_
        refine s_iastoreN (N := 4) (j := t) (zdk hX9_plans_0 28 rfl) ((hm.r (i := 11) rfl).2.1) ((hm.r (i := 11) rfl).2.2) (by omega) (by decide) ?_
        refine s_mem (M' := (zsL (zsI X 953 t ((gt g t 0 - zfull g (nI t) (gN g 3)) + (x))) 942 g)) rfl ?_
        refine s_iinc (r := nI (t + 1)) (zdk hX9_plans_0 29 rfl) (Nat.le_of_ble_eq_true rfl) rfl (nI_1 _) ?_
        refine s_ls (ls' := [some (.ref 941), some (.int (n)), some (.int (tt)), some (.int (x)), some (.int (nI (t + 1)))]) rfl ?_
        refine s_goto 18 (zdk hX9_plans_0 30 rfl) (by decide) ?_
        exact ih (t + 1) _ (hI.next (by unfold pFe oSp; first | rw [if_pos c42] | rw [if_neg c42])) (by omega) (by omega)
theorem w_X9_plans_61 (hl : l.stackTraces = false) {M : zMem} (hm0 : mSh M) {g ot : Nat → Int64} (hb : gBd g) (n tt x : Int32) {Q : zOut → zMem → Prop} (kk : ∀ X, pI2 M ot g tt x X (gN g 3) → zS l G mX9_plans 6 170 0 0 98 [some (.ref 941), some (.int (n)), some (.int (tt)), some (.int (x)), some (.int (nI (gN g 3)))] [] (zsL X 942 g) Q) : ∀ (k : Nat) (i : Nat) (X : zMem), pI2 M ot g tt x X i → i ≤ gN g 3 → gN g 3 - i < k → zS l G mX9_plans 6 170 0 0 61 [some (.ref 941), some (.int (n)), some (.int (tt)), some (.int (x)), some (.int (nI i))] [] (zsL X 942 g) Q := by
  intro k
  induction k with
  | zero => intros; omega
  | succ k ih =>
    intro i X hI hi hk
    have hm := hI.1.1.sh hm0
    have hn2 := hb.2.2.1.2
    have ht4 := hb.2.1.2

    refine s_iload (zdk hX9_plans_0 33 rfl) rfl ?_
    refine s_aload_n (zdk hX9_plans_0 34 rfl) rfl ?_
    refine s_callV0 (ci := 9) [] (zdk hX9_plans_0 35 rfl) cw_X9_180 (hm.1) (by decide) rfl rfl rfl (Nat.le_of_ble_eq_true rfl) (by decide) (c_X9_files hl (M := X) (g := g) hm hb) ?_
    refine s_icmp_ge 98 (zdk hX9_plans_0 36 rfl) (by decide) (fun c67 => ?_) (fun c67 => ?_)
    · have n67 : gN g 3 ≤ i := nle c67 (by omega) (by omega)
      obtain rfl : i = gN g 3 := by omega
      exact kk X hI
    · have n67 : i < gN g 3 := nlt c67 (by omega) (by omega)
      have ho := hb.2.2.2.2.2.1 i n67
      refine s_aload_n (zdk hX9_plans_0 37 rfl) rfl ?_
      refine s_getR (zdk hX9_plans_0 38 rfl) fw_X9_34 rfl (hm.1) (show _ = some 948 from (hm.r (i := 6) rfl).1) ?_
      refine s_iload (zdk hX9_plans_0 39 rfl) rfl ?_
      refine s_aload_n (zdk hX9_plans_0 40 rfl) rfl ?_
      refine s_iload (zdk hX9_plans_0 41 rfl) rfl ?_
      refine s_iconstv (v := nI 1) (zdk hX9_plans_0 42 rfl) zc_iconst_1 ?_
      refine s_callV0 (ci := 9) [.int (nI i), .int (nI 1)] (zdk hX9_plans_0 43 rfl) cw_X9_211 (hm.1) (by decide) rfl rfl rfl (Nat.le_of_ble_eq_true rfl) (by decide) (c_X9_of hl (M := X) (g := g) hm (f := i) (k := 1) (by omega)) ?_
      refine s_topi (b := nI (gN g (58 + 51 * i + 1))) (ho.1.1) ?_
      refine s_iastoreN (N := 20) (j := i) (zdk hX9_plans_0 44 rfl) ((hm.r (i := 6) rfl).2.1) ((hm.r (i := 6) rfl).2.2) (by omega) (by decide) ?_
      refine s_mem (M' := (zsL (zsI X 948 i (nI (gN g (58 + 51 * i + 1)))) 942 g)) rfl ?_
      refine s_aload_n (zdk hX9_plans_0 45 rfl) rfl ?_
      refine s_getR (zdk hX9_plans_0 46 rfl) fw_X9_46 rfl (hm.1) (show _ = some 952 from (hm.r (i := 10) rfl).1) ?_
      refine s_iload (zdk hX9_plans_0 47 rfl) rfl ?_
      refine s_iconstv (v := nI 0) (zdk hX9_plans_0 48 rfl) zc_iconst_0 ?_
      refine s_bastoreN (N := 20) (j := i) (zdk hX9_plans_0 49 rfl) ((hm.r (i := 10) rfl).2.1) ((hm.r (i := 10) rfl).2.2) (by omega) (by decide) (rfl) ?_
      refine s_mem (M' := (zsL (zsI (zsI X 948 i (nI (gN g (58 + 51 * i + 1)))) 952 i (nI 0)) 942 g)) rfl ?_
      refine s_iinc (r := nI (i + 1)) (zdk hX9_plans_0 50 rfl) (Nat.le_of_ble_eq_true rfl) rfl (nI_1 _) ?_
      refine s_ls (ls' := [some (.ref 941), some (.int (n)), some (.int (tt)), some (.int (x)), some (.int (nI (i + 1)))]) rfl ?_
      refine s_goto 61 (zdk hX9_plans_0 51 rfl) (by decide) ?_
      exact ih (i + 1) _ hI.next (by omega) (by omega)
theorem c_X9_plans (hl : l.stackTraces = false) {M : zMem} (hm0 : mSh M) {g gn : Nat → Int64} (hb : gBd g) (hi4 : g 4 = (its g 4).toInt64) {n : Nat} (hn24 : n ≤ 24) (tt x : Int32) (hg : pGn g (rLay g n (zJ M 954) (gN g 3)) gn) {q0 q : zPs} (hq : pS g tt x q0) (hqe : zPln g gn 20 q0 = q) : zCm l G mX9_plans 6 170 0 0 [.ref 941, .int (nI n), .int (tt), .int (x)] (zsL M 942 g) (pQ M g (rLay g n (zJ M 954) (gN g 3)) q) := by
  refine zCm.of0 (ls0 := [some (.ref 941), some (.int (nI n)), some (.int (tt)), some (.int (x)), none]) (by decide +kernel) rfl hl rfl (Nat.le_of_ble_eq_true rfl) (fun v' M' q => by obtain ⟨-, X, pa, rfl, h3, -⟩ := q; exact h3.1) (fun x M' q => by cases q.1) ?_
  have hm := hm0
  refine s_aload_n (zdk hX9_plans_0 0 rfl) rfl ?_
  refine s_iload_n (zdk hX9_plans_0 1 rfl) rfl ?_
  refine s_callV0 (ci := 9) [.int (nI n)] (zdk hX9_plans_0 2 rfl) cw_X9_297 (hm.1) (by decide) rfl rfl rfl (Nat.le_of_ble_eq_true rfl) (by decide) (c_X9_laysCosts hl (M := M) (g := g) hm hb (n := n) (by omega)) ?_
  refine s_aload_n (zdk hX9_plans_0 3 rfl) rfl ?_
  refine s_iconstv (v := nI 0) (zdk hX9_plans_0 4 rfl) zc_iconst_0 ?_
  refine s_putI (zdk hX9_plans_0 5 rfl) fw_X9_300 rfl pw_9_23 (hm.1) ?_
  refine s_mem (M' := (zsL (zsI (zsL M 954 (rLay g n (zJ M 954) (gN g 3))) 941 23 (nI 0)) 942 g)) rfl ?_
  refine s_aload_n (zdk hX9_plans_0 6 rfl) rfl ?_
  refine s_lconstv (v := lN 0) (zdk hX9_plans_0 7 rfl) rfl ?_
  refine s_putJ (zdk hX9_plans_0 8 rfl) fw_X9_303 rfl pw_9_27 (hm.1) ?_
  refine s_mem (M' := (zsL (zsJ (zsI (zsL M 954 (rLay g n (zJ M 954) (gN g 3))) 941 23 (nI 0)) 941 27 (lN 0)) 942 g)) (zsL_Jn (a := 942) (b := 941) (by decide)) ?_
  refine s_iconstv (v := nI 0) (zdk hX9_plans_0 9 rfl) zc_iconst_0 ?_
  refine s_istore (zdk hX9_plans_0 10 rfl) (Nat.le_of_ble_eq_true rfl) ?_
  refine s_ls (ls' := [some (.ref 941), some (.int (nI n)), some (.int (tt)), some (.int (x)), some (.int (nI 0))]) rfl ?_
  refine w_X9_plans_18 hl hm0 (ot := rLay g n (zJ M 954) (gN g 3)) hb (nI n) tt x (fun X hI => ?_) (gN g 2 + 1) 0 (zsJ (zsI (zsL M 954 (rLay g n (zJ M 954) (gN g 3))) 941 23 (nI 0)) 941 27 (lN 0)) ⟨⟨rfl, fun b q1 q2 => ⟨zI_In q1, fun q3 => (zJ_Jn q1).trans (zJ_Ln (by omega))⟩, fun b => rfl, fun k q => by rw [zI_J, si_I, if_pos rfl, if_neg (by omega), zI_L]⟩, (zJ_Jn (by decide)).trans zJ_Le, by rw [zI_J, si_I, if_pos rfl, if_pos rfl], by rw [sj_J, if_pos rfl, if_pos rfl], fun j hj => by omega⟩ (by omega) (by omega)
  refine s_iconstv (v := nI 0) (zdk hX9_plans_0 31 rfl) zc_iconst_0 ?_
  refine s_istore (zdk hX9_plans_0 32 rfl) (Nat.le_of_ble_eq_true rfl) ?_
  refine s_ls (ls' := [some (.ref 941), some (.int (nI n)), some (.int tt), some (.int x), some (.int (nI 0))]) rfl ?_
  refine w_X9_plans_61 hl hm0 (ot := rLay g n (zJ M 954) (gN g 3)) hb (nI n) tt x (fun X hI => ?_) (gN g 3 + 1) 0 X ⟨hI, fun f hf => by omega⟩ (by omega) (by omega)
  have h20 := hb.2.2.1.2
  have hoc := oCt_le q0.2.2.2.2.2.1 (gN g 3)
  rw [← hqe]
  refine w_X9_plans_98 hl hm0 hb hi4 hg (nI n) tt x 21 20 X q0 _ _ hI.1.1 hI.1.2.1 (hI.mPl hb hq) (by omega) (by rw [hq.1]; omega) (by omega)
theorem c_X9_steps_x (hl : l.stackTraces = false) {M : zMem} (hm : mSh M) {g : Nat → Int64} (hb : gBd g) (n : Int32) (hx : ¬ (nI 1 ≤ n ∧ n ≤ nI 24)) : zCm l G mX9_steps 3 70 0 0 [.ref 941, .int (n)] (zsL M 942 g) (zD (some (.int (nI 0))) (zsL (zsI M 941 6 (nI (1))) 942 g)) := by
  refine zCd.of (ls0 := [some (.ref 941), some (.int (n))]) (by decide +kernel) rfl hl rfl (Nat.le_of_ble_eq_true rfl) rfl ?_
  refine s_aload_n (zdk hX9_steps 0 rfl) rfl ?_
  refine s_iload_n (zdk hX9_steps 1 rfl) rfl ?_
  refine s_callS0 [.int (n)] (zdk hX9_steps 2 rfl) cw_X9_320 rfl (Nat.le_of_ble_eq_true rfl) (by decide) (c_X9_isSpan hl (zsL M 942 g) (n)) ?_
  refine s_if_eq 12 (zdk hX9_steps 3 rfl) (by decide) (fun c5 => ?_) (fun c5 => ?_)
  · have b5 : ¬ (nI 1 ≤ n ∧ n ≤ nI 24) := b01_eq c5
    refine s_iconstv (v := nI 1) (zdk hX9_steps 6 rfl) zc_iconst_1 ?_
    refine s_putI (zdk hX9_steps 7 rfl) fw_X9_69 rfl pw_9_6 (hm.1) ?_
    refine s_mem (M' := (zsL (zsI M 941 6 (nI 1)) 942 g)) rfl ?_
    refine s_aload_n (zdk hX9_steps 8 rfl) rfl ?_
    refine s_getI (zdk hX9_steps 9 rfl) fw_X9_69 rfl (hm.1) ?_
    refine s_topi (b := nI 1) ((congrFun (zI_Ie (M := M) (a := 941) (k := 6) (v := (nI 1))) 6).trans zw1_e) ?_
    refine s_if_le 25 (zdk hX9_steps 10 rfl) (by decide) (fun c20 => ?_) (fun c20 => ?_)
    · exact absurd c20 (by decide)
    · refine s_iconstv (v := nI 0) (zdk hX9_steps 11 rfl) zc_iconst_0 ?_
      refine s_ireturn (zdk hX9_steps 12 rfl) rfl rfl ?_
      exact ⟨rfl, rfl⟩
  · have b5 : nI 1 ≤ n ∧ n ≤ nI 24 := b01_ne c5
    refine s_iconstv (v := nI 0) (zdk hX9_steps 4 rfl) zc_iconst_0 ?_
    refine s_goto 13 (zdk hX9_steps 5 rfl) (by decide) ?_
    refine s_putI (zdk hX9_steps 7 rfl) fw_X9_69 rfl pw_9_6 (hm.1) ?_
    refine s_mem (M' := (zsL (zsI M 941 6 (nI 0)) 942 g)) rfl ?_
    refine s_aload_n (zdk hX9_steps 8 rfl) rfl ?_
    refine s_getI (zdk hX9_steps 9 rfl) fw_X9_69 rfl (hm.1) ?_
    refine s_topi (b := nI 0) ((congrFun (zI_Ie (M := M) (a := 941) (k := 6) (v := (nI 0))) 6).trans zw1_e) ?_
    refine s_if_le 25 (zdk hX9_steps 10 rfl) (by decide) (fun c20 => ?_) (fun c20 => ?_)
    · exact absurd b5 hx
    · exact absurd (by decide) c20
theorem c_X9_steps (hl : l.stackTraces = false) {M : zMem} (hm : mSh M) {g : Nat → Int64} (hb : gBd g) (hi4 : g 4 = (its g 4).toInt64) {n : Nat} (hn1 : 1 ≤ n) (hn24 : n ≤ 24) {gn : Nat → Int64} (hg : ∀ r, pGn g (rLay g n r (gN g 3)) gn) {q0 q : zPs} (hq : pS g (-1) (nI 0) q0) (hqe : zPln g gn 20 q0 = q) : zCm l G mX9_steps 7 220 0 0 [.ref 941, .int (nI n)] (zsL M 942 g) (rPq M g 0 (.int (nI q.1))) := by
  refine zCp.of (ls0 := [some (.ref 941), some (.int (nI n))]) (by decide +kernel) rfl hl rfl (Nat.le_of_ble_eq_true rfl) ?_
  refine s_aload_n (zdk hX9_steps 0 rfl) rfl ?_
  refine s_iload_n (zdk hX9_steps 1 rfl) rfl ?_
  refine s_callS0 [.int (nI n)] (zdk hX9_steps 2 rfl) cw_X9_320 rfl (Nat.le_of_ble_eq_true rfl) (by decide) (c_X9_isSpan hl (zsL M 942 g) (nI n)) ?_
  refine s_if_eq 12 (zdk hX9_steps 3 rfl) (by decide) (fun c5 => ?_) (fun c5 => ?_)
  · have b5 : ¬ (nI 1 ≤ nI n ∧ nI n ≤ nI 24) := b01_eq c5
    exact absurd ⟨nI_le hn1 (by omega), nI_le hn24 (by omega)⟩ b5
  · have b5 : nI 1 ≤ nI n ∧ nI n ≤ nI 24 := b01_ne c5
    refine s_iconstv (v := nI 0) (zdk hX9_steps 4 rfl) zc_iconst_0 ?_
    refine s_goto 13 (zdk hX9_steps 5 rfl) (by decide) ?_
    refine s_putI (zdk hX9_steps 7 rfl) fw_X9_69 rfl pw_9_6 (hm.1) ?_
    refine s_mem (M' := (zsL (zsI M 941 6 (nI 0)) 942 g)) rfl ?_
    refine s_aload_n (zdk hX9_steps 8 rfl) rfl ?_
    refine s_getI (zdk hX9_steps 9 rfl) fw_X9_69 rfl (hm.1) ?_
    refine s_topi (b := nI 0) ((congrFun (zI_Ie (M := M) (a := 941) (k := 6) (v := (nI 0))) 6).trans zw1_e) ?_
    refine s_if_le 25 (zdk hX9_steps 10 rfl) (by decide) (fun c20 => ?_) (fun c20 => ?_)
    · refine s_aload_n (zdk hX9_steps 13 rfl) rfl ?_
      refine s_iload_n (zdk hX9_steps 14 rfl) rfl ?_
      refine s_iconstv (v := (-1)) (zdk hX9_steps 15 rfl) zc_iconst_m1 ?_
      refine s_iconstv (v := nI 0) (zdk hX9_steps 16 rfl) zc_iconst_0 ?_
      refine s_callV1 (ci := 9) [.int (nI n), .int ((-1)), .int (nI 0)] (zdk hX9_steps 17 rfl) cw_X9_323 (hm.1) (by decide) rfl rfl rfl (Nat.le_of_ble_eq_true rfl) (by decide) (c_X9_plans hl (M := (zsI M 941 6 (nI 0))) hm hb hi4 (n := n) hn24 (-1) (nI 0) (hg _) hq hqe) ?_
      intro v1 N1 z1
      obtain ⟨y1, X1, pa1, rfl, hF1, h51, hP1⟩ := z1
      cases y1
      have hm1 := hF1.sh hm
      refine s_aload_n (zdk hX9_steps 18 rfl) rfl ?_
      refine s_getI (zdk hX9_steps 19 rfl) fw_X9_300 rfl (hm1.1) ?_
      refine s_topi (b := nI q.1) (hP1.1) ?_
      refine s_ireturn (zdk hX9_steps 20 rfl) rfl rfl ?_
      exact ⟨rfl, X1, rfl, hF1⟩
    · exact absurd (by decide) c20
theorem c_X9_saving_x (hl : l.stackTraces = false) {M : zMem} (hm : mSh M) {g : Nat → Int64} (hb : gBd g) (n : Int32) (hx : ¬ (nI 1 ≤ n ∧ n ≤ nI 24)) : zCm l G mX9_saving 3 70 0 0 [.ref 941, .int (n)] (zsL M 942 g) (zD (some (.long (lN 0))) (zsL (zsI M 941 6 (nI (1))) 942 g)) := by
  refine zCd.of (ls0 := [some (.ref 941), some (.int (n))]) (by decide +kernel) rfl hl rfl (Nat.le_of_ble_eq_true rfl) rfl ?_
  refine s_aload_n (zdk hX9_saving 0 rfl) rfl ?_
  refine s_iload_n (zdk hX9_saving 1 rfl) rfl ?_
  refine s_callS0 [.int (n)] (zdk hX9_saving 2 rfl) cw_X9_320 rfl (Nat.le_of_ble_eq_true rfl) (by decide) (c_X9_isSpan hl (zsL M 942 g) (n)) ?_
  refine s_if_eq 12 (zdk hX9_saving 3 rfl) (by decide) (fun c5 => ?_) (fun c5 => ?_)
  · have b5 : ¬ (nI 1 ≤ n ∧ n ≤ nI 24) := b01_eq c5
    refine s_iconstv (v := nI 1) (zdk hX9_saving 6 rfl) zc_iconst_1 ?_
    refine s_putI (zdk hX9_saving 7 rfl) fw_X9_69 rfl pw_9_6 (hm.1) ?_
    refine s_mem (M' := (zsL (zsI M 941 6 (nI 1)) 942 g)) rfl ?_
    refine s_aload_n (zdk hX9_saving 8 rfl) rfl ?_
    refine s_getI (zdk hX9_saving 9 rfl) fw_X9_69 rfl (hm.1) ?_
    refine s_topi (b := nI 1) ((congrFun (zI_Ie (M := M) (a := 941) (k := 6) (v := (nI 1))) 6).trans zw1_e) ?_
    refine s_if_le 25 (zdk hX9_saving 10 rfl) (by decide) (fun c20 => ?_) (fun c20 => ?_)
    · exact absurd c20 (by decide)
    · refine s_lconstv (v := lN 0) (zdk hX9_saving 11 rfl) rfl ?_
      refine s_lreturn (zdk hX9_saving 12 rfl) rfl  ?_
      exact ⟨rfl, rfl⟩
  · have b5 : nI 1 ≤ n ∧ n ≤ nI 24 := b01_ne c5
    refine s_iconstv (v := nI 0) (zdk hX9_saving 4 rfl) zc_iconst_0 ?_
    refine s_goto 13 (zdk hX9_saving 5 rfl) (by decide) ?_
    refine s_putI (zdk hX9_saving 7 rfl) fw_X9_69 rfl pw_9_6 (hm.1) ?_
    refine s_mem (M' := (zsL (zsI M 941 6 (nI 0)) 942 g)) rfl ?_
    refine s_aload_n (zdk hX9_saving 8 rfl) rfl ?_
    refine s_getI (zdk hX9_saving 9 rfl) fw_X9_69 rfl (hm.1) ?_
    refine s_topi (b := nI 0) ((congrFun (zI_Ie (M := M) (a := 941) (k := 6) (v := (nI 0))) 6).trans zw1_e) ?_
    refine s_if_le 25 (zdk hX9_saving 10 rfl) (by decide) (fun c20 => ?_) (fun c20 => ?_)
    · exact absurd b5 hx
    · exact absurd (by decide) c20
theorem c_X9_saving (hl : l.stackTraces = false) {M : zMem} (hm : mSh M) {g : Nat → Int64} (hb : gBd g) (hi4 : g 4 = (its g 4).toInt64) {n : Nat} (hn1 : 1 ≤ n) (hn24 : n ≤ 24) {gn : Nat → Int64} (hg : ∀ r, pGn g (rLay g n r (gN g 3)) gn) {q0 q : zPs} (hq : pS g (-1) (nI 0) q0) (hqe : zPln g gn 20 q0 = q) : zCm l G mX9_saving 7 220 0 0 [.ref 941, .int (nI n)] (zsL M 942 g) (rPq M g 0 (.long (q.2.1))) := by
  refine zCp.of (ls0 := [some (.ref 941), some (.int (nI n))]) (by decide +kernel) rfl hl rfl (Nat.le_of_ble_eq_true rfl) ?_
  refine s_aload_n (zdk hX9_saving 0 rfl) rfl ?_
  refine s_iload_n (zdk hX9_saving 1 rfl) rfl ?_
  refine s_callS0 [.int (nI n)] (zdk hX9_saving 2 rfl) cw_X9_320 rfl (Nat.le_of_ble_eq_true rfl) (by decide) (c_X9_isSpan hl (zsL M 942 g) (nI n)) ?_
  refine s_if_eq 12 (zdk hX9_saving 3 rfl) (by decide) (fun c5 => ?_) (fun c5 => ?_)
  · have b5 : ¬ (nI 1 ≤ nI n ∧ nI n ≤ nI 24) := b01_eq c5
    exact absurd ⟨nI_le hn1 (by omega), nI_le hn24 (by omega)⟩ b5
  · have b5 : nI 1 ≤ nI n ∧ nI n ≤ nI 24 := b01_ne c5
    refine s_iconstv (v := nI 0) (zdk hX9_saving 4 rfl) zc_iconst_0 ?_
    refine s_goto 13 (zdk hX9_saving 5 rfl) (by decide) ?_
    refine s_putI (zdk hX9_saving 7 rfl) fw_X9_69 rfl pw_9_6 (hm.1) ?_
    refine s_mem (M' := (zsL (zsI M 941 6 (nI 0)) 942 g)) rfl ?_
    refine s_aload_n (zdk hX9_saving 8 rfl) rfl ?_
    refine s_getI (zdk hX9_saving 9 rfl) fw_X9_69 rfl (hm.1) ?_
    refine s_topi (b := nI 0) ((congrFun (zI_Ie (M := M) (a := 941) (k := 6) (v := (nI 0))) 6).trans zw1_e) ?_
    refine s_if_le 25 (zdk hX9_saving 10 rfl) (by decide) (fun c20 => ?_) (fun c20 => ?_)
    · refine s_aload_n (zdk hX9_saving 13 rfl) rfl ?_
      refine s_iload_n (zdk hX9_saving 14 rfl) rfl ?_
      refine s_iconstv (v := (-1)) (zdk hX9_saving 15 rfl) zc_iconst_m1 ?_
      refine s_iconstv (v := nI 0) (zdk hX9_saving 16 rfl) zc_iconst_0 ?_
      refine s_callV1 (ci := 9) [.int (nI n), .int ((-1)), .int (nI 0)] (zdk hX9_saving 17 rfl) cw_X9_323 (hm.1) (by decide) rfl rfl rfl (Nat.le_of_ble_eq_true rfl) (by decide) (c_X9_plans hl (M := (zsI M 941 6 (nI 0))) hm hb hi4 (n := n) hn24 (-1) (nI 0) (hg _) hq hqe) ?_
      intro v1 N1 z1
      obtain ⟨y1, X1, pa1, rfl, hF1, h51, hP1⟩ := z1
      cases y1
      have hm1 := hF1.sh hm
      refine s_aload_n (zdk hX9_saving 18 rfl) rfl ?_
      refine s_getJ (zdk hX9_saving 19 rfl) fw_X9_303 rfl (hm1.1) ?_
      refine s_topl (b := q.2.1) (hP1.2.1) ?_
      refine s_lreturn (zdk hX9_saving 20 rfl) rfl  ?_
      exact ⟨rfl, X1, rfl, hF1⟩
    · exact absurd (by decide) c20
end
