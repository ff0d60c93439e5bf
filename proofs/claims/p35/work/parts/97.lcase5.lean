theorem dL_law_1784 : decode cL_law 1784 = .ok (.aload_n 1, 1) := by decide +kernel
theorem dL_law_1785 : decode cL_law 1785 = .ok (.aload_n 0, 1) := by decide +kernel
theorem dL_law_1786 : decode cL_law 1786 = .ok (.iload 4, 2) := by decide +kernel
theorem dL_law_1788 : decode cL_law 1788 = .ok (.iconst 1, 1) := by decide +kernel
theorem dL_law_1789 : decode cL_law 1789 = .ok (.iadd, 1) := by decide +kernel
theorem dL_law_1790 : decode cL_law 1790 = .ok (.iaload, 1) := by decide +kernel
theorem dL_law_1791 : decode cL_law 1791 = .ok (.aload_n 3, 1) := by decide +kernel
theorem dL_law_1792 : decode cL_law 1792 = .ok (.invokestatic 237, 3) := by decide +kernel
theorem dL_law_1795 : decode cL_law 1795 = .ok (.istore 5, 2) := by decide +kernel
theorem dL_law_1797 : decode cL_law 1797 = .ok (.aload_n 2, 1) := by decide +kernel
theorem dL_law_1798 : decode cL_law 1798 = .ok (.aload_n 0, 1) := by decide +kernel
theorem dL_law_1799 : decode cL_law 1799 = .ok (.iload 4, 2) := by decide +kernel
theorem dL_law_1801 : decode cL_law 1801 = .ok (.iconst 1, 1) := by decide +kernel
theorem dL_law_1802 : decode cL_law 1802 = .ok (.iadd, 1) := by decide +kernel
theorem dL_law_1803 : decode cL_law 1803 = .ok (.iaload, 1) := by decide +kernel
theorem dL_law_1804 : decode cL_law 1804 = .ok (.invokevirtual 239, 3) := by decide +kernel
theorem dL_law_1807 : decode cL_law 1807 = .ok (.istore 6, 2) := by decide +kernel
theorem dL_law_1809 : decode cL_law 1809 = .ok (.goto 43, 3) := by decide +kernel
set_option maxHeartbeats 4000000 in
set_option maxRecDepth 100000 in
theorem lc_30 : Lc 1784 := by
  intro κ p l e s m args below meth c A ret b L o i xs a a2 r2 r q q2 f f2 n v cells slots Q H locs ls hst hX hx9 hbl hbA hi hL hok hm hr hB hl hc hs kk
  have hx := hX.1.1
  have hb := hX.1.2.1
  refine lv_aload_n hx hb dL_law_1784 rfl (lv_at hl 1 rfl) ?_
  obtain ⟨z1, e1⟩ : ∃ z, xs (6 * i + 1) = z := ⟨_, rfl⟩
  refine lv_scr (k := 1) hX hB hx9 hbl hbA hi hL hl dL_law_1785 dL_law_1786 dL_law_1788 dL_law_1789 dL_law_1790 (by decide) (by decide) e1 ?_
  refine lv_aload_n hx hb dL_law_1791 rfl (lv_at hl 3 rfl) ?_
  replace hB := Lw_1 hB
  obtain ⟨Y, hY⟩ : ∃ Y, D_X5_house r q f z1 = Y := ⟨_, rfl⟩
  refine call_SW (n := 3) (As := [.ref (a 0), .int z1, .ref o]) (rest := []) hX hB (CMW_frame (mw κ a2 r2 f2 q2 (tb a2) []) (w_house κ l hst a r q f o n v z1 hok Y hY)) ⟨by decide, by decide, by decide +kernel⟩ wm_5_125 wm_5_126 wm_1_0 wm_5_127 ⟨Nat.le_of_ble_eq_true rfl, Nat.le_of_ble_eq_true rfl⟩ ⟨by show _ ≤ 600128; omega, by show _ ≤ 7301098; omega⟩ rfl hl.1 rfl (Nat.le_of_ble_eq_true rfl) dL_law_1792 (fun o9 w' H locs hp hB => ?_)
  obtain ⟨_, ⟨x1, n1, v1, rfl, ho, hq, hW, rfl⟩, rfl⟩ := hp
  refine W.eq (g2 := F0 m 1795 ls [.int x1]) rfl ?_
  refine lv_istore (lv' := [(5, .int x1), (0, .ref b), (1, .ref (a 0)), (2, .ref (a2 0)), (3, .ref o), (4, .int (nI (6 * i)))]) hx hb dL_law_1795 hl (by decide) rfl (fun ls hl => ?_)
  have hl0 := hl
  replace hl : lv_has ls 7 (Lv b (a 0) (a2 0) o i) := lv_sub hl [1, 2, 3, 4, 5] rfl
  refine lv_aload_n hx hb dL_law_1797 rfl (lv_at hl 2 rfl) ?_
  refine lv_scr (k := 1) hX hB hx9 hbl hbA hi hL hl dL_law_1798 dL_law_1799 dL_law_1801 dL_law_1802 dL_law_1803 (by decide) (by decide) e1 ?_
  replace hB := Lw_2 hB
  obtain ⟨Z, hZ⟩ : ∃ Z, D_X10_house r2 f2 q2 z1 = Z := ⟨_, rfl⟩
  refine call_V (n := 1) (k0 := 0) (As := [.int z1]) (rest := []) hX hB (k_X10_house κ l (cw κ a Y.2.2.1 Y.2.2.2.1 Y.2.2.2.2 ++ [Ot o n1 v1]) a2 r2 f2 q2 z1 hm _ _ (hZ.trans (te2 Z))) ⟨rfl, by decide, by decide, by decide +kernel⟩ wm_7_154 wm_7_155 wm_7_156 wm_1_6 wm_7_157 ⟨Nat.le_of_ble_eq_true rfl, Nat.le_of_ble_eq_true rfl⟩ ⟨by show _ ≤ 600128; omega, by show _ ≤ 7301098; omega⟩ mw0 rfl rfl rfl hl.1 rfl (Nat.le_of_ble_eq_true rfl) dL_law_1804 (fun o9 w' H locs hp hB => ?_)
  obtain ⟨rfl, hfq, rfl⟩ := hp
  have hK : RA r2 f2 q2 Y := by rw [← hY]; exact kp_house hr
  refine W.eq (g2 := F0 m 1807 ls [.int Z.1]) rfl ?_
  refine lv_istore (lv' := [(6, .int Z.1), (5, .int x1), (0, .ref b), (1, .ref (a 0)), (2, .ref (a2 0)), (3, .ref o), (4, .int (nI (6 * i)))]) hx hb dL_law_1807 hl0 (by decide) rfl (fun ls hl => ?_)
  have hl0 := hl
  replace hl : lv_has ls 7 (Lv b (a 0) (a2 0) o i) := lv_sub hl [2, 3, 4, 5, 6] rfl
  refine lv_goto (tgt := 1852) hx hb dL_law_1809 (by decide) ?_
  replace hB := Lw_3 hB
  refine W.widen (k := cells + 100) (n := slots + 70000) (by omega) (by omega) ?_
  exact kk _ _ _ _ _ _ _ _ _ _ _ _ (ho hok) hm (Rl_q hK hfq) rfl hB hl
theorem dL_law_1812 : decode cL_law 1812 = .ok (.aload_n 1, 1) := by decide +kernel
theorem dL_law_1813 : decode cL_law 1813 = .ok (.invokevirtual 240, 3) := by decide +kernel
theorem dL_law_1816 : decode cL_law 1816 = .ok (.pop, 1) := by decide +kernel
theorem dL_law_1817 : decode cL_law 1817 = .ok (.aload_n 2, 1) := by decide +kernel
theorem dL_law_1818 : decode cL_law 1818 = .ok (.invokevirtual 244, 3) := by decide +kernel
theorem dL_law_1821 : decode cL_law 1821 = .ok (.pop, 1) := by decide +kernel
theorem dL_law_1822 : decode cL_law 1822 = .ok (.goto 30, 3) := by decide +kernel
set_option maxHeartbeats 4000000 in
set_option maxRecDepth 100000 in
theorem lc_31 : Lc 1812 := by
  intro κ p l e s m args below meth c A ret b L o i xs a a2 r2 r q q2 f f2 n v cells slots Q H locs ls hst hX hx9 hbl hbA hi hL hok hm hr hB hl hc hs kk
  have hx := hX.1.1
  have hb := hX.1.2.1
  refine lv_aload_n hx hb dL_law_1812 rfl (lv_at hl 1 rfl) ?_
  refine call_V (n := 0) (k0 := 0) (As := []) (rest := []) hX hB (CM_frame ([Ot o n v] ++ mw κ a2 r2 f2 q2 (tb a2) []) (k_X5_knock κ l a r q f _ rfl)) ⟨rfl, by decide, by decide, by decide +kernel⟩ wm_1_168 wm_1_169 wm_1_170 wm_1_1 wm_1_171 ⟨Nat.le_of_ble_eq_true rfl, Nat.le_of_ble_eq_true rfl⟩ ⟨by show _ ≤ 600128; omega, by show _ ≤ 7301098; omega⟩ (app_at cw0) rfl rfl rfl hl.1 rfl (Nat.le_of_ble_eq_true rfl) dL_law_1813 (fun o9 w' H locs hp hB => ?_)
  obtain ⟨_, ⟨rfl, rfl⟩, rfl⟩ := hp
  refine W.eq (g2 := F0 m 1816 ls [.int (q 4 + 1)]) rfl ?_
  refine lv_pop hx hb dL_law_1816 rfl ?_
  refine lv_aload_n hx hb dL_law_1817 rfl (lv_at hl 2 rfl) ?_
  replace hB := Lw_2 (Lw_1 hB)
  refine call_V (n := 0) (k0 := 0) (As := []) (rest := []) hX hB (k_X10_knock κ l (cw κ a r (va_up q 4 (q 4 + 1)) f ++ [Ot o n v]) a2 r2 f2 q2  hm) ⟨rfl, by decide, by decide, by decide +kernel⟩ wm_7_162 wm_7_163 wm_7_164 wm_1_6 wm_7_165 ⟨Nat.le_of_ble_eq_true rfl, Nat.le_of_ble_eq_true rfl⟩ ⟨by show _ ≤ 600128; omega, by show _ ≤ 7301098; omega⟩ mw0 rfl rfl rfl hl.1 rfl (Nat.le_of_ble_eq_true rfl) dL_law_1818 (fun o9 w' H locs hp hB => ?_)
  obtain ⟨rfl, rfl⟩ := hp
  refine W.eq (g2 := F0 m 1821 ls [.int (q2 2 + 1)]) rfl ?_
  refine lv_pop hx hb dL_law_1821 rfl ?_
  refine lv_goto (tgt := 1852) hx hb dL_law_1822 (by decide) ?_
  replace hB := Lw_3 hB
  refine W.widen (k := cells + 100) (n := slots + 70000) (by omega) (by omega) ?_
  exact kk _ _ _ _ _ _ _ _ _ _ _ _ hok hm (Rl_knock hr) rfl hB hl
theorem dL_law_1825 : decode cL_law 1825 = .ok (.aload_n 1, 1) := by decide +kernel
theorem dL_law_1826 : decode cL_law 1826 = .ok (.invokevirtual 245, 3) := by decide +kernel
theorem dL_law_1829 : decode cL_law 1829 = .ok (.pop, 1) := by decide +kernel
theorem dL_law_1830 : decode cL_law 1830 = .ok (.aload_n 2, 1) := by decide +kernel
theorem dL_law_1831 : decode cL_law 1831 = .ok (.invokevirtual 249, 3) := by decide +kernel
theorem dL_law_1834 : decode cL_law 1834 = .ok (.pop, 1) := by decide +kernel
theorem dL_law_1835 : decode cL_law 1835 = .ok (.goto 17, 3) := by decide +kernel
set_option maxHeartbeats 4000000 in
set_option maxRecDepth 100000 in
theorem lc_32 : Lc 1825 := by
  intro κ p l e s m args below meth c A ret b L o i xs a a2 r2 r q q2 f f2 n v cells slots Q H locs ls hst hX hx9 hbl hbA hi hL hok hm hr hB hl hc hs kk
  have hx := hX.1.1
  have hb := hX.1.2.1
  refine lv_aload_n hx hb dL_law_1825 rfl (lv_at hl 1 rfl) ?_
  obtain ⟨Y, hY⟩ : ∃ Y, D_X5_isSound r q f = Y := ⟨_, rfl⟩
  refine call_V (n := 0) (k0 := 0) (As := []) (rest := []) hX hB (CM_frame ([Ot o n v] ++ mw κ a2 r2 f2 q2 (tb a2) []) (k_X5_isSound κ l a r q f hok _ _ _ _ (hY.trans (te4 Y)))) ⟨rfl, by decide, by decide, by decide +kernel⟩ wm_1_172 wm_1_173 wm_1_174 wm_1_1 wm_1_175 ⟨Nat.le_of_ble_eq_true rfl, Nat.le_of_ble_eq_true rfl⟩ ⟨by show _ ≤ 600128; omega, by show _ ≤ 7301098; omega⟩ (app_at cw0) rfl rfl rfl hl.1 rfl (Nat.le_of_ble_eq_true rfl) dL_law_1826 (fun o9 w' H locs hp hB => ?_)
  obtain ⟨_, ⟨rfl, bx, ho, hq, rfl⟩, rfl⟩ := hp
  refine W.eq (g2 := F0 m 1829 ls [.int Y.1]) rfl ?_
  refine lv_pop hx hb dL_law_1829 rfl ?_
  refine lv_aload_n hx hb dL_law_1830 rfl (lv_at hl 2 rfl) ?_
  replace hB := Lw_2 (Lw_1 hB)
  obtain ⟨Z, hZ⟩ : ∃ Z, D_X10_isSound r2 f2 q2 = Z := ⟨_, rfl⟩
  refine call_V (n := 0) (k0 := 0) (As := []) (rest := []) hX hB (k_X10_isSound κ l (cw κ a Y.2.1 Y.2.2.1 Y.2.2.2 ++ [Ot o n v]) a2 r2 f2 q2  hm _ _ (hZ.trans (te2 Z))) ⟨rfl, by decide, by decide, by decide +kernel⟩ wm_7_166 wm_7_167 wm_7_168 wm_1_6 wm_7_169 ⟨Nat.le_of_ble_eq_true rfl, Nat.le_of_ble_eq_true rfl⟩ ⟨by show _ ≤ 600128; omega, by show _ ≤ 7301098; omega⟩ mw0 rfl rfl rfl hl.1 rfl (Nat.le_of_ble_eq_true rfl) dL_law_1831 (fun o9 w' H locs hp hB => ?_)
  obtain ⟨rfl, hf0, hfq, rfl⟩ := hp
  have hK : RB r2 f2 q2 Y := by rw [← hY]; exact kp_isSound hr
  refine W.eq (g2 := F0 m 1834 ls [.int Z.1]) rfl ?_
  refine lv_pop hx hb dL_law_1834 rfl ?_
  refine lv_goto (tgt := 1852) hx hb dL_law_1835 (by decide) ?_
  replace hB := Lw_3 hB
  refine W.widen (k := cells + 100) (n := slots + 70000) (by omega) (by omega) ?_
  exact kk _ _ _ _ _ _ _ _ _ _ _ _ (ho hok) hm (Rl_q hK hfq) rfl hB hl
theorem dL_law_1838 : decode cL_law 1838 = .ok (.aload_n 1, 1) := by decide +kernel
theorem dL_law_1839 : decode cL_law 1839 = .ok (.invokevirtual 250, 3) := by decide +kernel
theorem dL_law_1842 : decode cL_law 1842 = .ok (.aload_n 2, 1) := by decide +kernel
theorem dL_law_1843 : decode cL_law 1843 = .ok (.invokevirtual 254, 3) := by decide +kernel
theorem dL_law_1846 : decode cL_law 1846 = .ok (.lcmp, 1) := by decide +kernel
theorem dL_law_1847 : decode cL_law 1847 = .ok (.ifCond .eq 5, 3) := by decide +kernel
set_option maxHeartbeats 4000000 in
set_option maxRecDepth 100000 in
theorem lc_33 : Lc 1838 := by
  intro κ p l e s m args below meth c A ret b L o i xs a a2 r2 r q q2 f f2 n v cells slots Q H locs ls hst hX hx9 hbl hbA hi hL hok hm hr hB hl hc hs kk
  have hx := hX.1.1
  have hb := hX.1.2.1
  refine lv_aload_n hx hb dL_law_1838 rfl (lv_at hl 1 rfl) ?_
  obtain ⟨Y, hY⟩ : ∃ Y, D_X5_digest r q f = Y := ⟨_, rfl⟩
  refine call_V (n := 0) (k0 := 0) (As := []) (rest := []) hX hB (CM_frame ([Ot o n v] ++ mw κ a2 r2 f2 q2 (tb a2) []) (k_X5_digest κ l a r q f hok _ _ _ _ (hY.trans (te4 Y)))) ⟨rfl, by decide, by decide, by decide +kernel⟩ wm_2_124 wm_2_125 wm_2_126 wm_1_1 wm_2_127 ⟨Nat.le_of_ble_eq_true rfl, Nat.le_of_ble_eq_true rfl⟩ ⟨by show _ ≤ 600128; omega, by show _ ≤ 7301098; omega⟩ (app_at cw0) rfl rfl rfl hl.1 rfl (Nat.le_of_ble_eq_true rfl) dL_law_1839 (fun o9 w' H locs hp hB => ?_)
  obtain ⟨_, ⟨rfl, ho, hq, rfl⟩, rfl⟩ := hp
  refine W.eq (g2 := F0 m 1842 ls [.long Y.1]) rfl ?_
  refine lv_aload_n hx hb dL_law_1842 rfl (lv_at hl 2 rfl) ?_
  replace hB := Lw_2 (Lw_1 hB)
  obtain ⟨Z, hZ⟩ : ∃ Z, D_X10_digest r2 f2 q2 = Z := ⟨_, rfl⟩
  refine call_V (n := 0) (k0 := 0) (As := []) (rest := [.long Y.1]) hX hB (k_X10_digest κ l (cw κ a Y.2.1 Y.2.2.1 Y.2.2.2 ++ [Ot o n v]) a2 r2 f2 q2  hm _ _ (hZ.trans (te2 Z))) ⟨rfl, by decide, by decide, by decide +kernel⟩ wm_7_174 wm_7_175 wm_7_176 wm_1_6 wm_7_177 ⟨Nat.le_of_ble_eq_true rfl, Nat.le_of_ble_eq_true rfl⟩ ⟨by show _ ≤ 600128; omega, by show _ ≤ 7301098; omega⟩ mw0 rfl rfl rfl hl.1 rfl (Nat.le_of_ble_eq_true rfl) dL_law_1843 (fun o9 w' H locs hp hB => ?_)
  obtain ⟨rfl, hfq, rfl⟩ := hp
  have hK : RC r2 f2 q2 Y := by rw [← hY]; exact kp_digest hr
  refine W.eq (g2 := F0 m 1846 ls [.long Z.1, .long Y.1]) rfl ?_
  refine W.lcmp hx hb dL_law_1846 ?_
  have hE : Y.1 = Z.1 := by rw [← hY, ← hZ]; exact an_digest hr
  refine lv_if_eq (tgt := 1852) hx hb dL_law_1847 (by decide) (fun _ => ?_) (fun c3 => absurd (lgE.mpr hE) c3)
  replace hB := Lw_3 hB
  refine W.widen (k := cells + 100) (n := slots + 70000) (by omega) (by omega) ?_
  exact kk _ _ _ _ _ _ _ _ _ _ _ _ (ho hok) hm (Rl_q hK hfq) rfl hB hl
