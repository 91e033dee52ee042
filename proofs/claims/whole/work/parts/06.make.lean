/-! ===== making cells ===== -/
theorem zWd.low {G : zG} {M : zMem} {s : State} {H : Heap} {locs : List Loc} {cells : Nat} (h : zWd G M s H locs cells) (hb : gB G ≤ s.heap.size) : gB G + zT M ≤ H.size := by
  obtain ⟨h1, h2, h3, h4⟩ := h
  rcases Nat.eq_zero_or_pos (zT M) with q | q
  · rw [q]; exact Nat.le_trans hb h3.1
  · have h5 := (h2 (zT M - 1) _ (zW_get (by omega))).lt
    have h6 : gB G + (zT M - 1) < H.size := h5
    omega
theorem znw_wf {M : zMem} {kd n : Nat} (h : zwf M) (ht : zT M < 1000000) : zwf (znw M kd n) := by
  refine ⟨fun a ha => ?_, ht⟩
  have ha' : zT M + 1 ≤ a := ha
  show (if a = zT M then kd else zK M a) = 0
  rw [if_neg (by omega)]
  exact h.1 a (by omega)
theorem znw_cl {G : zG} {M : zMem} {kd n c : Nat} (h : c < zT M) : zcl G (znw M kd n) c = zcl G M c := by
  have hne : c ≠ zT M := by omega
  have e0 : zK (znw M kd n) c = zK M c := if_neg hne
  have e4 : zN (znw M kd n) c = zN M c := if_neg hne
  have e1 : zI (znw M kd n) c = zI M c := if_neg hne
  have e2 : zJ (znw M kd n) c = zJ M c := if_neg hne
  have e3 : zR (znw M kd n) c = zR M c := if_neg hne
  have e5 : ∀ ci, zfl G (znw M kd n) ci c = zfl G M ci c := fun ci => List.map_congr_left fun k _ => by unfold zfv; rw [e1, e2, e3]
  unfold zcl
  rw [e0, e1, e2, e3, e4, e5]
theorem zWd.push {G : zG} {M : zMem} {s : State} {H H1 : Heap} {locs : List Loc} {cells kd n : Nat} (h : zWd G M s H locs cells) (hb : gB G ≤ s.heap.size) (hf : zF M = 0) (hup : H.size ≤ s.heap.size + cells) (ht : zT M < 1000000)
    (hz : H1.size = H.size + 1) (ho : ∀ q, q < H.size → H1[q]? = H[q]?) (hc : va_at (gD G) vwCl (gB G + zT M, zcl G (znw M kd n) (zT M)) H1) : H.size = zad G (zT M) ∧ zWd G (znw M kd n) s H1 locs (cells + 1) := by
  have hlow := h.low hb
  obtain ⟨h1, h2, h3, h4⟩ := h
  have h5 := h4 hf
  refine ⟨by rw [zad_in ht]; omega, znw_wf h1 ht, ?_, ⟨by have := h3.1; omega, fun q q1 q2 => (ho q (Nat.lt_of_lt_of_le q1 h3.1)).trans (h3.2.1 q q1 q2), h3.2.2⟩, fun _ => ?_⟩
  · rw [← zW_push (G := G) (M := M) (M' := znw M kd n) (e := zcl G (znw M kd n) (zT M)) rfl rfl (fun c hc => znw_cl hc)]
    refine (h2.kept (fun k x hx => ho x.1 ((h2 k x hx).lt))).app (fun k x hx => ?_)
    have hk : k < 1 := (List.getElem?_eq_some_iff.mp hx).1
    rw [show k = 0 by omega] at hx
    cases hx
    exact hc
  · show s.heap.size + (cells + 1) ≤ gB G + (zT M + 1)
    omega
theorem znw_K {M : zMem} {kd n : Nat} : zK (znw M kd n) (zT M) = kd := if_pos rfl
theorem znw_N {M : zMem} {kd n : Nat} : zN (znw M kd n) (zT M) = n := if_pos rfl
theorem znw_I {M : zMem} {kd n k : Nat} : zI (znw M kd n) (zT M) k = 0 := by show zur M.1 (zT M) _ (zT M) k = 0; unfold zur; rw [if_pos rfl]
theorem znw_J {M : zMem} {kd n k : Nat} : zJ (znw M kd n) (zT M) k = 0 := by show zur M.2.1 (zT M) _ (zT M) k = 0; unfold zur; rw [if_pos rfl]
theorem znw_R {M : zMem} {kd n k : Nat} : zR (znw M kd n) (zT M) k = none := by show zur M.2.2.1 (zT M) _ (zT M) k = none; unfold zur; rw [if_pos rfl]
section ZN
variable {l : Launch} {G : zG} {y : zMD} {fr lo bc bs pc : Nat} {ls : List (Option Value)} {st : List Value} {M : zMem} {Q : zOut → zMem → Prop}
/-- what is needed for 'new' of class ci -/
def znk (own : String) (i ci : Nat) : Prop :=
  ci < 10 ∧ (∀ w ∈ u_ws (zCl ci).1 (zCl ci).2.1 (zCl ci).2.2, w ∈ zGW) ∧ vwCl[ci]? = some (zCl ci) ∧ (zCl ci).2.2 = znf ci ∧ Cond.classLink own i (zCl ci).1 ∈ zGW ∧ Cond.instantiable (zCl ci).1 (znf ci) ∈ zGW ∧ Cond.initialized (zCl ci).1 ∈ zGW ∧
  ∃ ty : Nat → FieldType, (∀ j, j < znf ci → parseFieldDescriptor ((zCl ci).2.1 j).2.2.1 = some (ty j)) ∧ ∀ j, j < znf ci → defaultValue (ty j) = (match zfty ci j with | 0 => .int 0 | 1 => .long 0 | _ => .null)
theorem s_new {i ci : Nat} (hd : decode (yC y) pc = .ok (.new i, 3)) (hw : znk (yN y).cls i ci) (hf : zF M = 0) (ht : zT M < 1000000)
    (kk : zS l G y fr lo bc bs (pc + 3) ls (.ref (zT M) :: st) (znw M (ci + 1) 0) Q) : zS l G y fr lo (bc + 1) (bs + znf ci) pc ls st M Q := by
  intro p e R s m args below meth c H locs cells slots X la F hc1 hs1 hW hl hE T hT XX
  have hup : H.size ≤ s.heap.size + cells := by rw [← hT]; exact XX.heapSize
  suffices hh : W p l e R s m args below meth c H locs cells slots X (F0 m pc la (List.map (zv G) st)) from hh T hT XX
  obtain ⟨w1, w3, w4, w5, w6, w7, w8, ty, p1, p2⟩ := hw
  have hK := F.2.2.2.2.2.2.2.2.2.2.2.2.1
  have hKn := hK.1 ci _ w4
  have hb : gB G ≤ s.heap.size := F.2.2.2.2.2.2.2.2.2.2.2.2.2.2.2.2.2.2.1
  refine W.newcK F.1 F.2.1 F.2.2.2.1 (F.2.2.2.2.1 _ w6) (F.2.2.2.2.1 _ w7) (F.2.2.2.2.1 _ w8) rfl hd (by omega) (by omega) hKn.2.1 rfl (fun H1 kC hkC e1 z1 o1 => ?_)
  have hat : va_at (gD G) vwCl (gB G + zT M, zcl G (znw M (ci + 1) 0) (zT M)) H1 := by
    rw [zcl_obj znw_K w1]
    refine ⟨_, w4, ?_⟩
    have e2 : gB G + zT M = H.size := by
      have := hW.low hb
      have := hW.2.2.2 hf
      omega
    show t_OB (gB G + zT M) _ _ _ H1 _
    rw [e2]
    refine (u_born ty F.2.2.2.2.1 w3 hKn hkC e1 (by rw [w5]; exact p1)).to (fun j hj => ?_)
    rw [w5] at hj
    rw [p2 j hj]
    show _ = (zfl G (znw M (ci + 1) 0) ci (zT M)).getD j .null
    rw [List.getD_eq_getElem?_getD, zfl_at hj]
    unfold zfv
    rw [znw_I, znw_J, znw_R]
    rfl
  obtain ⟨e3, hW1⟩ := hW.push hb hf hup ht z1 o1 hat
  have k2 := kk p e R s m args below meth c H1 locs (cells + 1) (slots + znf ci) X la F (by omega) (by omega) hW1 hl hE
  rw [e3]
  exact k2
theorem zrow_cls {G : zG} {s : State} {k : Nat} {cA : ClassId} {ty : FieldType} (hK : va_K (gD G) vwCl (zty G) s) (hk : (zty G)[k]? = some (gC G k, ty)) (hp : ∀ C, ty ≠ .object C) (hn : s.vm.findClass ("[" ++ ty.toString) = some cA) : cA = gC G k := by
  have h := (hK.2 k _ hk).2
  have h2 : s.vm.findClass ("[" ++ ty.toString) = some (gC G k) := by
    cases ty with
    | object C => exact absurd rfl (hp C)
    | _ => exact h
  exact Option.some.inj (hn.symm.trans h2)
theorem s_newI {n : Int32} {N : Nat} (hd : decode (yC y) pc = .ok (.newarray .int, 2)) (hw : Cond.arrayClass .int ∈ zGW) (hn : ¬ n < 0) (hN : n.toNatClampNeg = N) (hb4 : N ≤ 100000) (hf : zF M = 0) (ht : zT M < 1000000)
    (kk : zS l G y fr lo bc bs (pc + 2) ls (.ref (zT M) :: st) (znw M 11 N) Q) : zS l G y fr lo (bc + 1) (bs + N) pc ls (.int n :: st) M Q := by
  intro p e R s m args below meth c H locs cells slots X la F hc1 hs1 hW hl hE T hT XX
  have hup : H.size ≤ s.heap.size + cells := by rw [← hT]; exact XX.heapSize
  suffices hh : W p l e R s m args below meth c H locs cells slots X (F0 m pc la (List.map (zv G) (.int n :: st))) from hh T hT XX
  have hK := F.2.2.2.2.2.2.2.2.2.2.2.2.1
  have hb : gB G ≤ s.heap.size := F.2.2.2.2.2.2.2.2.2.2.2.2.2.2.2.2.2.2.1
  refine va_newaK (atype := .int) F.1 F.2.1 (F.2.2.2.2.1 _ hw) rfl hd rfl hn hN (by show N * 4 ≤ _; omega) (by omega) (by omega) rfl (fun H1 cA e1 z1 o1 hAr hNm => ?_)
  have hcA := zrow_cls hK (k := 0) rfl (fun C h => by cases h) hNm
  subst hcA
  have hat : va_at (gD G) vwCl (gB G + zT M, zcl G (znw M 11 N) (zT M)) H1 := by
    rw [zcl_I znw_K]
    have e2 : gB G + zT M = H.size := by
      have := hW.low hb
      have := hW.2.2.2 hf
      omega
    show H1[gB G + zT M]? = some (vp_cell _ _)
    rw [e2, e1, znw_N, vp_cell_i]
    congr 2
    funext k
    rw [znw_I]; rfl
  obtain ⟨e3, hW1⟩ := hW.push hb hf hup ht z1 o1 hat
  have k2 := kk p e R s m args below meth c H1 locs (cells + 1) (slots + N) X la F (by omega) (by omega) hW1 hl hE
  rw [e3]
  exact k2
theorem s_newJ {n : Int32} {N : Nat} (hd : decode (yC y) pc = .ok (.newarray .long, 2)) (hw : Cond.arrayClass .long ∈ zGW) (hn : ¬ n < 0) (hN : n.toNatClampNeg = N) (hb4 : N ≤ 100000) (hf : zF M = 0) (ht : zT M < 1000000)
    (kk : zS l G y fr lo bc bs (pc + 2) ls (.ref (zT M) :: st) (znw M 12 N) Q) : zS l G y fr lo (bc + 1) (bs + N) pc ls (.int n :: st) M Q := by
  intro p e R s m args below meth c H locs cells slots X la F hc1 hs1 hW hl hE T hT XX
  have hup : H.size ≤ s.heap.size + cells := by rw [← hT]; exact XX.heapSize
  suffices hh : W p l e R s m args below meth c H locs cells slots X (F0 m pc la (List.map (zv G) (.int n :: st))) from hh T hT XX
  have hK := F.2.2.2.2.2.2.2.2.2.2.2.2.1
  have hb : gB G ≤ s.heap.size := F.2.2.2.2.2.2.2.2.2.2.2.2.2.2.2.2.2.2.1
  refine va_newaK (atype := .long) F.1 F.2.1 (F.2.2.2.2.1 _ hw) rfl hd rfl hn hN (by show N * 8 ≤ _; omega) (by omega) (by omega) rfl (fun H1 cA e1 z1 o1 hAr hNm => ?_)
  have hcA := zrow_cls hK (k := 1) rfl (fun C h => by cases h) hNm
  subst hcA
  have hat : va_at (gD G) vwCl (gB G + zT M, zcl G (znw M 12 N) (zT M)) H1 := by
    rw [zcl_J znw_K]
    have e2 : gB G + zT M = H.size := by
      have := hW.low hb
      have := hW.2.2.2 hf
      omega
    show H1[gB G + zT M]? = some (vp_cell _ _)
    rw [e2, e1, znw_N, vp_cell_l]
    congr 2
    funext k
    rw [znw_J]; rfl
  obtain ⟨e3, hW1⟩ := hW.push hb hf hup ht z1 o1 hat
  have k2 := kk p e R s m args below meth c H1 locs (cells + 1) (slots + N) X la F (by omega) (by omega) hW1 hl hE
  rw [e3]
  exact k2
theorem s_newZ {n : Int32} {N : Nat} (hd : decode (yC y) pc = .ok (.newarray .boolean, 2)) (hw : Cond.arrayClass .boolean ∈ zGW) (hn : ¬ n < 0) (hN : n.toNatClampNeg = N) (hb4 : N ≤ 100000) (hf : zF M = 0) (ht : zT M < 1000000)
    (kk : zS l G y fr lo bc bs (pc + 2) ls (.ref (zT M) :: st) (znw M 13 N) Q) : zS l G y fr lo (bc + 1) (bs + N) pc ls (.int n :: st) M Q := by
  intro p e R s m args below meth c H locs cells slots X la F hc1 hs1 hW hl hE T hT XX
  have hup : H.size ≤ s.heap.size + cells := by rw [← hT]; exact XX.heapSize
  suffices hh : W p l e R s m args below meth c H locs cells slots X (F0 m pc la (List.map (zv G) (.int n :: st))) from hh T hT XX
  have hK := F.2.2.2.2.2.2.2.2.2.2.2.2.1
  have hb : gB G ≤ s.heap.size := F.2.2.2.2.2.2.2.2.2.2.2.2.2.2.2.2.2.2.1
  refine va_newaK (atype := .boolean) F.1 F.2.1 (F.2.2.2.2.1 _ hw) rfl hd rfl hn hN (by show N * 1 ≤ _; omega) (by omega) (by omega) rfl (fun H1 cA e1 z1 o1 hAr hNm => ?_)
  have hcA := zrow_cls hK (k := 2) rfl (fun C h => by cases h) hNm
  subst hcA
  have hat : va_at (gD G) vwCl (gB G + zT M, zcl G (znw M 13 N) (zT M)) H1 := by
    rw [zcl_Z znw_K]
    have e2 : gB G + zT M = H.size := by
      have := hW.low hb
      have := hW.2.2.2 hf
      omega
    show H1[gB G + zT M]? = some (vp_cell _ _)
    rw [e2, e1, znw_N, vp_cell_i]
    congr 2
    funext k
    rw [znw_I]; rfl
  obtain ⟨e3, hW1⟩ := hW.push hb hf hup ht z1 o1 hat
  have k2 := kk p e R s m args below meth c H1 locs (cells + 1) (slots + N) X la F (by omega) (by omega) hW1 hl hE
  rw [e3]
  exact k2
theorem s_anew {n : Int32} {N i j : Nat} {C : String} (hd : decode (yC y) pc = .ok (.anewarray i, 3)) (hw : Cond.classLink (yN y).cls i C ∈ zGW) (ho : Cond.arrayOver (.object C) ∈ zNW) (hty : ∀ G : zG, (zty G)[3 + j]? = some (gC G (3 + j), .object C)) (hn : ¬ n < 0) (hN : n.toNatClampNeg = N) (hb4 : N ≤ 100000) (hf : zF M = 0) (ht : zT M < 1000000)
    (kk : zS l G y fr lo bc bs (pc + 3) ls (.ref (zT M) :: st) (znw M (14 + j) N) Q) : zS l G y fr lo (bc + 1) (bs + N) pc ls (.int n :: st) M Q := by
  intro p e R s m args below meth c H locs cells slots X la F hc1 hs1 hW hl hE T hT XX
  have hup : H.size ≤ s.heap.size + cells := by rw [← hT]; exact XX.heapSize
  suffices hh : W p l e R s m args below meth c H locs cells slots X (F0 m pc la (List.map (zv G) (.int n :: st))) from hh T hT XX
  have hK := F.2.2.2.2.2.2.2.2.2.2.2.2.1
  have hb : gB G ≤ s.heap.size := F.2.2.2.2.2.2.2.2.2.2.2.2.2.2.2.2.2.2.1
  have hov : va_AO C s := F.2.2.2.2.2.2.2.2.2.2.2.2.2.1 _ ho
  subst hN
  refine W.anew F.1 F.2.1 F.2.2.2.1 (F.2.2.2.2.1 _ hw) (va_AO.use hov) rfl hd rfl hn (by omega) (by omega) (by omega) (fun cA kA comp f1 f2 f3 f4 => ?_)
  have hcA : cA = gC G (3 + j) := by
    obtain ⟨-, -, -, -, -, h4⟩ := (hK.2 (3 + j) _ (hty G)).2
    exact Option.some.inj (f1.symm.trans h4)
  subst hcA
  generalize hH1 : H.push ({ cls := gC G (3 + j), slots := Array.replicate n.toNatClampNeg .null, vm := .none } : Cell) = H1
  have z1 : H1.size = H.size + 1 := by rw [← hH1, Array.size_push]
  have e1 : H1[H.size]? = some (arrV (gC G (3 + j)) n.toNatClampNeg (fun _ => .null)) := by rw [← hH1, Array.getElem?_push_size, ← arrV_new]
  have o1 : ∀ q : Nat, q < H.size → H1[q]? = H[q]? := fun q hq => by rw [← hH1, Array.getElem?_push, if_neg (Nat.ne_of_lt hq)]
  have hat : va_at (gD G) vwCl (gB G + zT M, zcl G (znw M (14 + j) n.toNatClampNeg) (zT M)) H1 := by
    rw [zcl_R (j := j) znw_K]
    have e2 : gB G + zT M = H.size := by
      have := hW.low hb
      have := hW.2.2.2 hf
      omega
    show H1[gB G + zT M]? = some (vp_cell _ _)
    rw [e2, e1, znw_N, vp_cell_q]
    congr 2
    funext k
    rw [znw_R]; rfl
  obtain ⟨e3, hW1⟩ := hW.push hb hf hup ht z1 o1 hat
  have k2 := kk p e R s m args below meth c H1 locs (cells + 1) (slots + n.toNatClampNeg) X la F (by omega) (by omega) hW1 hl hE
  rw [e3]
  exact k2
/-- System.arraycopy of ints -/
theorem s_copyi {i a a0 : Nat} {sp dp n : Int32} (hd : decode (yC y) pc = .ok (.invokestatic i, 3)) (hw : Cond.methodLink (yN y).cls i arraycopyName ∈ zGW) (hnat : Cond.native arraycopyName ∈ zGW) (hstat : Cond.static arraycopyName ∈ zGW) (hini : Cond.initialized "java/lang/System" ∈ zGW)
    (hK0 : zK M a0 = 11) (hK1 : zK M a = 11) (h1 : ¬ sp < 0) (h2 : ¬ dp < 0) (h3 : ¬ n < 0) (h4 : sp.toNatClampNeg + n.toNatClampNeg ≤ zN M a0) (h5 : dp.toNatClampNeg + n.toNatClampNeg ≤ zN M a) (hfr : 1 ≤ fr) (hlo : (st.map fun v => v.category).sum + 18 ≤ lo)
    (kk : zS l G y fr lo bc bs (pc + 3) ls st (zsA M a (va_cpy (zI M a0) (zI M a) sp.toNatClampNeg dp.toNatClampNeg n.toNatClampNeg)) Q) : zS l G y fr lo bc bs pc ls (.int n :: .int dp :: .ref a :: .int sp :: .ref a0 :: st) M Q := by
  intro p e R s m args below meth c H locs cells slots X la F hc1 hs1 hW hl hE
  have hne : zK M a ≠ 0 := by rw [hK1]; omega
  have hc0 := hW.cell (a := a0) (by rw [hK0]; omega)
  rw [zcl_I hK0] at hc0
  have hcA := hW.cell hne
  rw [zcl_I hK1] at hcA
  have hcat : ((st.map (zv G)).map fun v => v.category) = st.map fun v => v.category := by rw [List.map_map]; exact List.map_congr_left fun v _ => zv_cat G v
  have hfrR := F.2.2.2.2.2.2.2.2.2.1
  have hloR := F.2.2.2.2.2.2.2.2.2.2.1
  refine va_copyi F.1 F.2.1 (F.2.2.1.trans hl.1.symm) F.2.2.2.1 (F.2.2.2.2.1 _ hw) (F.2.2.2.2.1 _ hnat) (F.2.2.2.2.1 _ hstat) (F.2.2.2.2.1 _ hini) F.2.2.2.2.2.2.2.2.2.2.2.2.1 hW.2.1 zW_D hW.2.2.1 a0 a 0 0 (ty := .int) hc0 hcA rfl rfl rfl h1 h2 h3 h4 h5 (fun _ _ => rfl) (by omega) (by
    rw [hcat]
    have : nativeFrameWords "java/lang/System" "arraycopy" 5 = 7 := by decide
    omega) hd (fun H1 locs1 hP1 hD1 hS1 => ?_)
  have e9 : zI (zsA M a (va_cpy (zI M a0) (zI M a) sp.toNatClampNeg dp.toNatClampNeg n.toNatClampNeg)) a = va_cpy (zI M a0) (zI M a) sp.toNatClampNeg dp.toNatClampNeg n.toNatClampNeg := if_pos rfl
  exact kk p e R s m args below meth c H1 locs1 cells slots X la F hc1 hs1 (hW.put rfl (zwf_lt hW.1 hne).2 (by rw [zcl_I (by exact hK1), e9]; rfl) (fun c hc => ⟨if_neg hc, rfl, rfl⟩) hP1 hS1) hl hE
/-- a literal -/
theorem s_ldcS {i k : Nat} {tx : String} (hd : decode (yC y) pc = .ok (.ldc i, 2)) (hw : ((yN y).cls, i, tx, k) ∈ zLR) (hk : k < 6)
    (kk : zS l G y fr lo bc bs (pc + 2) ls (.ref (1000000 + k) :: st) M Q) : zS l G y fr lo bc bs pc ls st M Q := by
  intro p e R s m args below meth c H locs cells slots X la F hc1 hs1 hW hl hE
  refine va_ldcS F.1 F.2.1 F.2.2.2.1 (F.2.2.2.2.2.2.2.2.2.2.2.2.2.2.1 _ hw) hd ?_
  have e9 : gS G k = zad G (1000000 + k) := by
    unfold zad
    rw [if_neg (by omega), if_pos (by omega), Nat.add_sub_cancel_left]
  rw [e9]
  exact kk p e R s m args below meth c H locs cells slots X la F hc1 hs1 hW hl hE
/-- Object's own constructor -/
theorem s_objInit {i a : Nat} (hd : decode (yC y) pc = .ok (.invokespecial i, 3)) (hw : Cond.methodLink (yN y).cls i Lib.objectInit ∈ zGW) (hin : Cond.instanceMethod Lib.objectInit ∈ zGW) (hcd : Cond.code Lib.objectInit ⟨#[0xb1]⟩ 1 none ∈ zGW) (hfr : 1 ≤ fr) (hlo : (st.map fun v => v.category).sum + 12 ≤ lo)
    (kk : zS l G y fr lo bc bs (pc + 3) ls st M Q) : zS l G y fr lo bc bs pc ls (.ref a :: st) M Q := by
  intro p e R s m args below meth c H locs cells slots X la F hc1 hs1 hW hl hE
  have hcat : ((st.map (zv G)).map fun v => v.category) = st.map fun v => v.category := by rw [List.map_map]; exact List.map_congr_left fun v _ => zv_cat G v
  have hfrR := F.2.2.2.2.2.2.2.2.2.1
  have hloR := F.2.2.2.2.2.2.2.2.2.2.1
  exact W.objInit F.1 F.2.1 F.2.2.2.1 (F.2.2.2.2.1 _ hw) (F.2.2.2.2.1 _ hin) (F.2.2.2.2.1 _ hcd) rfl (hl.1.trans F.2.2.1.symm) rfl hd (by omega) (by show 2 * 0 + _ + 12 ≤ _; rw [hcat]; omega) (kk p e R s m args below meth c H locs cells slots X la F hc1 hs1 hW hl hE)
end ZN
