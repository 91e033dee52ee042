/-! ===== literals, the script ===== -/
section ZT
variable {l : Launch} {G : zG} {y z : zMD} {fr lo fr1 lo1 mc ms bc bs pc i n : Nat} {ls : List (Option Value)} {st : List Value} {as : List Value} {M : zMem} {Q Q1 : zOut → zMem → Prop}
theorem zad_S {k : Nat} (h : k < 1000000) : zad G (1000000 + k) = gS G k := by
  unfold zad
  rw [if_neg (by omega), if_pos (by omega), Nat.add_sub_cancel_left]
theorem zad_X : zad G 2000000 = (gX G).1 := by
  unfold zad
  rw [if_neg (by omega), if_neg (by omega), if_pos (by omega)]
theorem zad_V {k : Nat} : zad G (3000000 + k) = gV G k := by
  unfold zad
  rw [if_neg (by omega), if_neg (by omega), if_neg (by omega), Nat.add_sub_cancel_left]
/-- a literal's coder, its bytes -/
theorem s_strC {k : Nat} (hk : k < 6) (hd : decode (yC y) pc = .ok (.getfield i, 3)) (hw : Cond.fieldLink (yN y).cls i "java/lang/String" "coder" "B" ∈ zGW)
    (kk : zS l G y fr lo bc bs (pc + 3) ls (.int 0 :: st) M Q) : zS l G y fr lo bc bs pc ls (.ref (1000000 + k) :: st) M Q := by
  intro p e R s m args below meth c H locs cells slots X la F hc hs hW hl hE
  have hV := F.2.2.2.2.2.2.2.2.2.2.2.2.2.2.2.1
  have k2 : W p l e R s m args below meth c H locs cells slots X (F0 m (pc + 3) la (.int 0 :: st.map (zv G))) := kk p e R s m args below meth c H locs cells slots X la F hc hs hW hl hE
  have z := vk_getf F.1 F.2.1 (hV.1 k hk).2.1 hW.2.2.1 F.2.2.2.1 (F.2.2.2.2.1 _ hw) (fun x h => h) hd k2
  rw [← zad_S (G := G) (k := k) (by omega)] at z
  exact z
theorem s_strV {k : Nat} (hk : k < 6) (hd : decode (yC y) pc = .ok (.getfield i, 3)) (hw : Cond.fieldLink (yN y).cls i "java/lang/String" "value" "[B" ∈ zGW)
    (kk : zS l G y fr lo bc bs (pc + 3) ls (.ref (3000000 + k) :: st) M Q) : zS l G y fr lo bc bs pc ls (.ref (1000000 + k) :: st) M Q := by
  intro p e R s m args below meth c H locs cells slots X la F hc hs hW hl hE
  have hV := F.2.2.2.2.2.2.2.2.2.2.2.2.2.2.2.1
  have k2 := kk p e R s m args below meth c H locs cells slots X la F hc hs hW hl hE
  have e9 : (Value.ref (3000000 + k) :: st).map (zv G) = .ref (gV G k) :: st.map (zv G) := by
    show Value.ref (zad G (3000000 + k)) :: _ = _
    rw [zad_V]
  rw [e9] at k2
  have z := vk_getf F.1 F.2.1 (hV.1 k hk).2.2.1 hW.2.2.1 F.2.2.2.1 (F.2.2.2.2.1 _ hw) (fun x h => h) hd k2
  rw [← zad_S (G := G) (k := k) (by omega)] at z
  exact z
theorem s_gstC (hd : decode (yC y) pc = .ok (.getstatic i, 3)) (hw : Cond.fieldLink (yN y).cls i "java/lang/String" "COMPACT_STRINGS" "Z" ∈ zGW)
    (kk : zS l G y fr lo bc bs (pc + 3) ls (.int 1 :: st) M Q) : zS l G y fr lo bc bs pc ls st M Q := by
  intro p e R s m args below meth c H locs cells slots X la F hc hs hW hl hE
  have hZ := F.2.2.2.2.2.2.2.2.2.2.2.2.2.2.2.2.2.2.2.2.2.1
  exact va_gets F.1 F.2.1 hZ hW.2.2.1 F.2.2.2.1 (F.2.2.2.2.1 _ hw) (fun x h => h) hd (kk p e R s m args below meth c H locs cells slots X la F hc hs hW hl hE)
theorem s_gstF (hd : decode (yC y) pc = .ok (.getstatic i, 3)) (hw : Cond.fieldLink (yN y).cls i "jdk/internal/util/Preconditions" "SIOOBE_FORMATTER" "Ljava/util/function/BiFunction;" ∈ zGW)
    (k0 : zS l G y fr lo bc bs (pc + 3) ls (.null :: st) M Q) (k1 : zS l G y fr lo bc bs (pc + 3) ls (.ref 3000006 :: st) M Q) : zS l G y fr lo bc bs pc ls st M Q := by
  intro p e R s m args below meth c H locs cells slots X la F hc hs hW hl hE
  have hZ := F.2.2.2.2.2.2.2.2.2.2.2.2.2.2.2.2.2.2.2.2.2.2.1
  rcases hZ with hZ | hZ
  · exact va_gets F.1 F.2.1 hZ hW.2.2.1 F.2.2.2.1 (F.2.2.2.2.1 _ hw) (fun x h => h) hd (k0 p e R s m args below meth c H locs cells slots X la F hc hs hW hl hE)
  · have k2 := k1 p e R s m args below meth c H locs cells slots X la F hc hs hW hl hE
    have e9 : (Value.ref 3000006 :: st).map (zv G) = .ref (gV G 6) :: st.map (zv G) := by
      show Value.ref (zad G (3000000 + 6)) :: _ = _
      rw [zad_V]
    rw [e9] at k2
    exact va_gets F.1 F.2.1 hZ hW.2.2.1 F.2.2.2.1 (F.2.2.2.2.1 _ hw) (fun x h => h) hd k2
theorem s_strL {k : Nat} (hk : k < 6) (hd : decode (yC y) pc = .ok (.arraylength, 1))
    (kk : zS l G y fr lo bc bs (pc + 1) ls (.int (nI (zLl.getD k 0)) :: st) M Q) : zS l G y fr lo bc bs pc ls (.ref (3000000 + k) :: st) M Q := by
  intro p e R s m args below meth c H locs cells slots X la F hc hs hW hl hE
  have hV := F.2.2.2.2.2.2.2.2.2.2.2.2.2.2.2.1
  have z := va_tlen F.1 F.2.1 (hV.1 k hk).2.2.2 hW.2.2.1 (v := nI (zLl.getD k 0)) rfl hd (kk p e R s m args below meth c H locs cells slots X la F hc hs hW hl hE)
  rw [← zad_V (G := G) (k := k)] at z
  exact z
theorem s_strB {k : Nat} {j : Int32} (hk : k < 6) (hd : decode (yC y) pc = .ok (.baload, 1)) (hj : vp_in j (zLl.getD k 0))
    (kk : zS l G y fr lo bc bs (pc + 1) ls (.int ((zLb.getD k []).getD j.toNatClampNeg 0) :: st) M Q) : zS l G y fr lo bc bs pc ls (.int j :: .ref (3000000 + k) :: st) M Q := by
  intro p e R s m args below meth c H locs cells slots X la F hc hs hW hl hE
  have hV := F.2.2.2.2.2.2.2.2.2.2.2.2.2.2.2.1
  have z := va_tb F.1 F.2.1 (hV.1 k hk).2.2.2 hW.2.2.1 hj (v := .int ((zLb.getD k []).getD j.toNatClampNeg 0)) rfl hd (kk p e R s m args below meth c H locs cells slots X la F hc hs hW hl hE)
  rw [← zad_V (G := G) (k := k)] at z
  exact z
theorem s_i2c {a v : Int32} (hd : decode (yC y) pc = .ok (.i2c, 1)) (hv : (a.toUInt32 % 65536).toInt32 = v) (k : zS l G y fr lo bc bs (pc + 1) ls (.int v :: st) M Q) : zS l G y fr lo bc bs pc ls (.int a :: st) M Q := by
  intro p e R s m args below meth c H locs cells slots X la F hc hs hW hl hE
  exact lv_i2c F.1 F.2.1 hd hv (k p e R s m args below meth c H locs cells slots X la F hc hs hW hl hE)
/-- the script -/
theorem s_scrL (hd : decode (yC y) pc = .ok (.arraylength, 1))
    (kk : zS l G y fr lo bc bs (pc + 1) ls (.int (nI (gX G).2.1) :: st) M Q) : zS l G y fr lo bc bs pc ls (.ref 2000000 :: st) M Q := by
  intro p e R s m args below meth c H locs cells slots X la F hc hs hW hl hE
  have hX := F.2.2.2.2.2.2.2.2.2.2.2.2.2.2.2.2.1
  have hb1 := F.2.2.2.2.2.2.2.2.2.2.2.2.2.2.2.2.2.1
  have hb2 := F.2.2.2.2.2.2.2.2.2.2.2.2.2.2.2.2.2.2.1
  have z := va_slen F.1 F.2.1 hX (by omega) (A := zA G) (by unfold zA; omega) hW.2.2.1 hd (kk p e R s m args below meth c H locs cells slots X la F hc hs hW hl hE)
  rw [← zad_X (G := G)] at z
  exact z
theorem s_scrI {j : Int32} (hd : decode (yC y) pc = .ok (.iaload, 1)) (hj : vp_in j (gX G).2.1)
    (kk : zS l G y fr lo bc bs (pc + 1) ls (.int ((gX G).2.2 j.toNatClampNeg) :: st) M Q) : zS l G y fr lo bc bs pc ls (.int j :: .ref 2000000 :: st) M Q := by
  intro p e R s m args below meth c H locs cells slots X la F hc hs hW hl hE
  have hX := F.2.2.2.2.2.2.2.2.2.2.2.2.2.2.2.2.1
  have hb1 := F.2.2.2.2.2.2.2.2.2.2.2.2.2.2.2.2.2.1
  have hb2 := F.2.2.2.2.2.2.2.2.2.2.2.2.2.2.2.2.2.2.1
  have z := va_sld F.1 F.2.1 hX (by omega) (A := zA G) (by unfold zA; omega) hW.2.2.1 hj hd (kk p e R s m args below meth c H locs cells slots X la F hc hs hW hl hE)
  rw [← zad_X (G := G)] at z
  exact z
theorem s_callVs {k : Nat} (hd : decode (yC y) pc = .ok (.invokevirtual i, 3)) (hw : zcv (yN y).cls i z n) (hk : k < 6) (hcn : (yN z).cls = "java/lang/String") (hn : as.length = n) (hst : (st.map fun v => v.category).sum ≤ 8) (hrm : fr1 + 1 ≤ fr ∧ 8 + (yL z + 11) + lo1 ≤ lo)
    (hM : zCm l G z fr1 lo1 mc ms (.ref (1000000 + k) :: as) M Q1) (kk : ∀ (v : Option Value) (M1 : zMem), Q1 (.inl v) M1 → zS l G y fr lo bc bs (pc + 3) ls (v.toList ++ st) M1 Q) :
    zS l G y fr lo (mc + bc) (ms + bs) pc ls (as.reverse ++ .ref (1000000 + k) :: st) M Q := by
  intro p e R s m args below meth c H locs cells slots X la F hc hs hW hl hE
  intro T hT XX
  have hup : H.size ≤ s.heap.size + cells := by rw [← hT]; exact XX.heapSize
  suffices hh : W p l e R s m args below meth c H locs cells slots X (F0 m pc la ((as.reverse ++ .ref (1000000 + k) :: st).map (zv G))) from hh T hT XX
  obtain ⟨w1, w2, w3, w4, w5, w6⟩ := hw
  have hfrR := F.2.2.2.2.2.2.2.2.2.1
  have hloR := F.2.2.2.2.2.2.2.2.2.2.1
  have hrec := vk_recv (i := k) F.2.2.2.2.2.2.2.2.2.2.2.2.2.2.2.1 hk hW.2.2.1
  rw [← zad_S (G := G) (k := k) (by omega), ← hcn] at hrec
  have cw : CallW R s args (yN y).cls (yN z).cls i (yN z) (yC z) (yL z) (yR z) (zws z) (zrm fr1 lo1 mc ms) mc ms n :=
    cwV n F.2.2.2.2.1 (fun w hw => by
      rcases List.mem_append.mp hw with h | h
      · rcases List.mem_cons.mp h with rfl | h
        · exact zGW_good _ w1
        · rcases List.mem_cons.mp h with rfl | h
          · exact zGW_good _ w2
          · rcases List.mem_cons.mp h with rfl | h
            · exact zGW_good _ w3
            · rw [List.mem_singleton.mp h]; exact zGW_good _ w4
      · exact zws_in w5 w h) rfl rfl rfl ⟨rfl, w6⟩ ⟨by show fr1 + 1 ≤ _; omega, by show 8 + (yL z + 11) + lo1 ≤ _; omega⟩
  have hstk : (as.reverse ++ .ref (1000000 + k) :: st).map (zv G) = (as.map (zv G)).reverse ++ .ref (zad G (1000000 + k)) :: st.map (zv G) := by simp [zv]
  rw [hstk]
  refine z_go (a := (Value.ref (zad G (1000000 + k)) :: as.map (zv G)).toArray) (mc := mc) (ms := ms) (bc := bc) (bs := bs) F hW hc hs hl hE ?_ kk
  exact va_runV (As := as.map (zv G)) (rest := st.map (zv G)) ⟨F.1, F.2.1, F.2.2.1, F.2.2.2.1, F.2.2.2.2.1⟩ hM cw ⟨zPc_blind, hrec, fun U hU hWm => zPc_in F hW hup U hU hWm⟩ rfl (by rw [List.length_map]; exact hn) hl.1 rfl (lv_room (by rw [zcat]; exact hst)) hd ⟨by omega, by omega⟩
end ZT
