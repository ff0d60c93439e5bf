theorem dL_law_1820 : decode cL_law 1820 = .ok (.aload_n 1, 1) := by decide +kernel
theorem dL_law_1821 : decode cL_law 1821 = .ok (.aload_n 0, 1) := by decide +kernel
theorem dL_law_1822 : decode cL_law 1822 = .ok (.iload 4, 2) := by decide +kernel
theorem dL_law_1824 : decode cL_law 1824 = .ok (.iconst 1, 1) := by decide +kernel
theorem dL_law_1825 : decode cL_law 1825 = .ok (.iadd, 1) := by decide +kernel
theorem dL_law_1826 : decode cL_law 1826 = .ok (.iaload, 1) := by decide +kernel
theorem dL_law_1827 : decode cL_law 1827 = .ok (.aload_n 3, 1) := by decide +kernel
theorem dL_law_1828 : decode cL_law 1828 = .ok (.invokestatic 241, 3) := by decide +kernel
theorem dL_law_1831 : decode cL_law 1831 = .ok (.istore 5, 2) := by decide +kernel
theorem dL_law_1833 : decode cL_law 1833 = .ok (.aload_n 2, 1) := by decide +kernel
theorem dL_law_1834 : decode cL_law 1834 = .ok (.aload_n 0, 1) := by decide +kernel
theorem dL_law_1835 : decode cL_law 1835 = .ok (.iload 4, 2) := by decide +kernel
theorem dL_law_1837 : decode cL_law 1837 = .ok (.iconst 1, 1) := by decide +kernel
theorem dL_law_1838 : decode cL_law 1838 = .ok (.iadd, 1) := by decide +kernel
theorem dL_law_1839 : decode cL_law 1839 = .ok (.iaload, 1) := by decide +kernel
theorem dL_law_1840 : decode cL_law 1840 = .ok (.invokevirtual 243, 3) := by decide +kernel
theorem dL_law_1843 : decode cL_law 1843 = .ok (.istore 6, 2) := by decide +kernel
theorem dL_law_1845 : decode cL_law 1845 = .ok (.goto 42, 3) := by decide +kernel
set_option maxHeartbeats 4000000 in
set_option maxRecDepth 100000 in
theorem lc_30 : Lc 1820 := by
  intro κ p l e s m args below meth c A ret b L o i xs a a2 r2 r q q2 f f2 n v cells slots Q H locs ls hst hX hx9 hbl hbA hi hL hok hm hr hB hl hc hs kk
  have hx := hX.1.1
  have hb := hX.1.2.1
  refine lv_aload_n hx hb dL_law_1820 rfl (lv_at hl 1 rfl) ?_
  obtain ⟨z1, e1⟩ : ∃ z, xs (6 * i + 1) = z := ⟨_, rfl⟩
  refine lv_scr (k := 1) hX hB hx9 hbl hbA hi hL hl dL_law_1821 dL_law_1822 dL_law_1824 dL_law_1825 dL_law_1826 (by decide) (by decide) e1 ?_
  refine lv_aload_n hx hb dL_law_1827 rfl (lv_at hl 3 rfl) ?_
  replace hB := Lw_1 hB
  obtain ⟨Y, hY⟩ : ∃ Y, D_X5_house r q f z1 = Y := ⟨_, rfl⟩
  refine call_SW (n := 3) (As := [.ref (a 0), .int z1, .ref o]) (rest := []) hX hB (CMW_frame (mw κ a2 r2 f2 q2 (tb a2) []) (w_house κ l hst a r q f o n v z1 hok Y hY)) ⟨by decide, by decide, by decide +kernel⟩ wm_5_125 wm_5_126 wm_1_0 wm_5_127 ⟨Nat.le_of_ble_eq_true rfl, Nat.le_of_ble_eq_true rfl⟩ ⟨by show _ ≤ 600128; omega, by show _ ≤ 7301098; omega⟩ rfl hl.1 rfl (Nat.le_of_ble_eq_true rfl) dL_law_1828 (fun o9 w' H locs hp hB => ?_)
  obtain ⟨_, ⟨x1, n1, v1, rfl, ho, hq, hW, rfl⟩, rfl⟩ := hp
  refine W.eq (g2 := F0 m 1831 ls [.int x1]) rfl ?_
  refine lv_istore (lv' := [(5, .int x1), (0, .ref b), (1, .ref (a 0)), (2, .ref (a2 0)), (3, .ref o), (4, .int (nI (6 * i)))]) hx hb dL_law_1831 hl (by decide) rfl (fun ls hl => ?_)
  have hl0 := hl
  replace hl : lv_has ls 7 (Lv b (a 0) (a2 0) o i) := lv_sub hl [1, 2, 3, 4, 5] rfl
  refine lv_aload_n hx hb dL_law_1833 rfl (lv_at hl 2 rfl) ?_
  refine lv_scr (k := 1) hX hB hx9 hbl hbA hi hL hl dL_law_1834 dL_law_1835 dL_law_1837 dL_law_1838 dL_law_1839 (by decide) (by decide) e1 ?_
  replace hB := Lw_2 hB
  obtain ⟨Z, hZ⟩ : ∃ Z, D_X10_house r2 f2 q2 z1 = Z := ⟨_, rfl⟩
  refine call_V (n := 1) (k0 := 0) (As := [.int z1]) (rest := []) hX hB (k_X10_house κ l (cw κ a Y.2.2.1 Y.2.2.2.1 Y.2.2.2.2 ++ [Ot o n1 v1]) a2 r2 f2 q2 z1 hm _ _ (hZ.trans (te2 Z))) ⟨rfl, by decide, by decide, by decide +kernel⟩ wm_7_158 wm_7_159 wm_7_160 wm_1_6 wm_7_161 ⟨Nat.le_of_ble_eq_true rfl, Nat.le_of_ble_eq_true rfl⟩ ⟨by show _ ≤ 600128; omega, by show _ ≤ 7301098; omega⟩ mw0 rfl rfl rfl hl.1 rfl (Nat.le_of_ble_eq_true rfl) dL_law_1840 (fun o9 w' H locs hp hB => ?_)
  obtain ⟨rfl, hfq, rfl⟩ := hp
  have hK : RA r2 f2 q2 Y := by rw [← hY]; exact kp_house hr
  refine W.eq (g2 := F0 m 1843 ls [.int Z.1]) rfl ?_
  refine lv_istore (lv' := [(6, .int Z.1), (5, .int x1), (0, .ref b), (1, .ref (a 0)), (2, .ref (a2 0)), (3, .ref o), (4, .int (nI (6 * i)))]) hx hb dL_law_1843 hl0 (by decide) rfl (fun ls hl => ?_)
  have hl0 := hl
  replace hl : lv_has ls 7 (Lv b (a 0) (a2 0) o i) := lv_sub hl [2, 3, 4, 5, 6] rfl
  refine lv_goto (tgt := 1887) hx hb dL_law_1845 (by decide) ?_
  replace hB := Lw_3 hB
  refine W.widen (k := cells + 100) (n := slots + 70000) (by omega) (by omega) ?_
  exact kk _ _ _ _ _ _ _ _ _ _ _ _ (ho hok) hm (Rl_q hK hfq) rfl hB hl
theorem dL_law_1848 : decode cL_law 1848 = .ok (.aload_n 1, 1) := by decide +kernel
theorem dL_law_1849 : decode cL_law 1849 = .ok (.invokevirtual 244, 3) := by decide +kernel
theorem dL_law_1852 : decode cL_law 1852 = .ok (.pop, 1) := by decide +kernel
theorem dL_law_1853 : decode cL_law 1853 = .ok (.aload_n 2, 1) := by decide +kernel
theorem dL_law_1854 : decode cL_law 1854 = .ok (.invokevirtual 247, 3) := by decide +kernel
theorem dL_law_1857 : decode cL_law 1857 = .ok (.pop, 1) := by decide +kernel
theorem dL_law_1858 : decode cL_law 1858 = .ok (.goto 29, 3) := by decide +kernel
set_option maxHeartbeats 4000000 in
set_option maxRecDepth 100000 in
theorem lc_31 : Lc 1848 := by
  intro κ p l e s m args below meth c A ret b L o i xs a a2 r2 r q q2 f f2 n v cells slots Q H locs ls hst hX hx9 hbl hbA hi hL hok hm hr hB hl hc hs kk
  have hx := hX.1.1
  have hb := hX.1.2.1
  refine lv_aload_n hx hb dL_law_1848 rfl (lv_at hl 1 rfl) ?_
  refine call_V (n := 0) (k0 := 0) (As := []) (rest := []) hX hB (CM_frame ([Ot o n v] ++ mw κ a2 r2 f2 q2 (tb a2) []) (k_X5_knock κ l a r q f _ rfl)) ⟨rfl, by decide, by decide, by decide +kernel⟩ wm_1_168 wm_1_169 wm_1_170 wm_1_1 wm_1_171 ⟨Nat.le_of_ble_eq_true rfl, Nat.le_of_ble_eq_true rfl⟩ ⟨by show _ ≤ 600128; omega, by show _ ≤ 7301098; omega⟩ (app_at cw0) rfl rfl rfl hl.1 rfl (Nat.le_of_ble_eq_true rfl) dL_law_1849 (fun o9 w' H locs hp hB => ?_)
  obtain ⟨_, ⟨rfl, rfl⟩, rfl⟩ := hp
  refine W.eq (g2 := F0 m 1852 ls [.int (q 4 + 1)]) rfl ?_
  refine lv_pop hx hb dL_law_1852 rfl ?_
  refine lv_aload_n hx hb dL_law_1853 rfl (lv_at hl 2 rfl) ?_
  replace hB := Lw_2 (Lw_1 hB)
  refine call_V (n := 0) (k0 := 0) (As := []) (rest := []) hX hB (k_X10_knock κ l (cw κ a r (va_up q 4 (q 4 + 1)) f ++ [Ot o n v]) a2 r2 f2 q2  hm) ⟨rfl, by decide, by decide, by decide +kernel⟩ wm_7_166 wm_7_167 wm_7_168 wm_1_6 wm_7_169 ⟨Nat.le_of_ble_eq_true rfl, Nat.le_of_ble_eq_true rfl⟩ ⟨by show _ ≤ 600128; omega, by show _ ≤ 7301098; omega⟩ mw0 rfl rfl rfl hl.1 rfl (Nat.le_of_ble_eq_true rfl) dL_law_1854 (fun o9 w' H locs hp hB => ?_)
  obtain ⟨rfl, rfl⟩ := hp
  refine W.eq (g2 := F0 m 1857 ls [.int (q2 2 + 1)]) rfl ?_
  refine lv_pop hx hb dL_law_1857 rfl ?_
  refine lv_goto (tgt := 1887) hx hb dL_law_1858 (by decide) ?_
  replace hB := Lw_3 hB
  refine W.widen (k := cells + 100) (n := slots + 70000) (by omega) (by omega) ?_
  exact kk _ _ _ _ _ _ _ _ _ _ _ _ hok hm (Rl_knock hr) rfl hB hl
theorem dL_law_1861 : decode cL_law 1861 = .ok (.aload_n 1, 1) := by decide +kernel
theorem dL_law_1862 : decode cL_law 1862 = .ok (.invokevirtual 248, 3) := by decide +kernel
theorem dL_law_1865 : decode cL_law 1865 = .ok (.pop, 1) := by decide +kernel
theorem dL_law_1866 : decode cL_law 1866 = .ok (.aload_n 2, 1) := by decide +kernel
theorem dL_law_1867 : decode cL_law 1867 = .ok (.invokevirtual 252, 3) := by decide +kernel
theorem dL_law_1870 : decode cL_law 1870 = .ok (.pop, 1) := by decide +kernel
theorem dL_law_1871 : decode cL_law 1871 = .ok (.goto 16, 3) := by decide +kernel
set_option maxHeartbeats 4000000 in
set_option maxRecDepth 100000 in
theorem lc_32 : Lc 1861 := by
  intro κ p l e s m args below meth c A ret b L o i xs a a2 r2 r q q2 f f2 n v cells slots Q H locs ls hst hX hx9 hbl hbA hi hL hok hm hr hB hl hc hs kk
  have hx := hX.1.1
  have hb := hX.1.2.1
  refine lv_aload_n hx hb dL_law_1861 rfl (lv_at hl 1 rfl) ?_
  obtain ⟨Y, hY⟩ : ∃ Y, D_X5_isSound r q f = Y := ⟨_, rfl⟩
  refine call_V (n := 0) (k0 := 0) (As := []) (rest := []) hX hB (CM_frame ([Ot o n v] ++ mw κ a2 r2 f2 q2 (tb a2) []) (k_X5_isSound κ l a r q f hok _ _ _ _ (hY.trans (te4 Y)))) ⟨rfl, by decide, by decide, by decide +kernel⟩ wm_1_172 wm_1_173 wm_1_174 wm_1_1 wm_1_175 ⟨Nat.le_of_ble_eq_true rfl, Nat.le_of_ble_eq_true rfl⟩ ⟨by show _ ≤ 600128; omega, by show _ ≤ 7301098; omega⟩ (app_at cw0) rfl rfl rfl hl.1 rfl (Nat.le_of_ble_eq_true rfl) dL_law_1862 (fun o9 w' H locs hp hB => ?_)
  obtain ⟨_, ⟨rfl, bx, ho, hq, rfl⟩, rfl⟩ := hp
  refine W.eq (g2 := F0 m 1865 ls [.int Y.1]) rfl ?_
  refine lv_pop hx hb dL_law_1865 rfl ?_
  refine lv_aload_n hx hb dL_law_1866 rfl (lv_at hl 2 rfl) ?_
  replace hB := Lw_2 (Lw_1 hB)
  obtain ⟨Z, hZ⟩ : ∃ Z, D_X10_isSound r2 f2 q2 = Z := ⟨_, rfl⟩
  refine call_V (n := 0) (k0 := 0) (As := []) (rest := []) hX hB (k_X10_isSound κ l (cw κ a Y.2.1 Y.2.2.1 Y.2.2.2 ++ [Ot o n v]) a2 r2 f2 q2  hm _ _ (hZ.trans (te2 Z))) ⟨rfl, by decide, by decide, by decide +kernel⟩ wm_7_170 wm_7_171 wm_7_172 wm_1_6 wm_7_173 ⟨Nat.le_of_ble_eq_true rfl, Nat.le_of_ble_eq_true rfl⟩ ⟨by show _ ≤ 600128; omega, by show _ ≤ 7301098; omega⟩ mw0 rfl rfl rfl hl.1 rfl (Nat.le_of_ble_eq_true rfl) dL_law_1867 (fun o9 w' H locs hp hB => ?_)
  obtain ⟨rfl, hf0, hfq, rfl⟩ := hp
  have hK : RB r2 f2 q2 Y := by rw [← hY]; exact kp_isSound hr
  refine W.eq (g2 := F0 m 1870 ls [.int Z.1]) rfl ?_
  refine lv_pop hx hb dL_law_1870 rfl ?_
  refine lv_goto (tgt := 1887) hx hb dL_law_1871 (by decide) ?_
  replace hB := Lw_3 hB
  refine W.widen (k := cells + 100) (n := slots + 70000) (by omega) (by omega) ?_
  exact kk _ _ _ _ _ _ _ _ _ _ _ _ (ho hok) hm (Rl_q hK hfq) rfl hB hl
theorem dL_law_1874 : decode cL_law 1874 = .ok (.aload_n 1, 1) := by decide +kernel
theorem dL_law_1875 : decode cL_law 1875 = .ok (.invokevirtual 253, 3) := by decide +kernel
theorem dL_law_1878 : decode cL_law 1878 = .ok (.pop2, 1) := by decide +kernel
theorem dL_law_1879 : decode cL_law 1879 = .ok (.aload_n 2, 1) := by decide +kernel
theorem dL_law_1880 : decode cL_law 1880 = .ok (.invokevirtual 257, 3) := by decide +kernel
theorem dL_law_1883 : decode cL_law 1883 = .ok (.pop2, 1) := by decide +kernel
theorem dL_law_1884 : decode cL_law 1884 = .ok (.goto 3, 3) := by decide +kernel
set_option maxHeartbeats 4000000 in
set_option maxRecDepth 100000 in
theorem lc_33 : Lc 1874 := by
  intro κ p l e s m args below meth c A ret b L o i xs a a2 r2 r q q2 f f2 n v cells slots Q H locs ls hst hX hx9 hbl hbA hi hL hok hm hr hB hl hc hs kk
  have hx := hX.1.1
  have hb := hX.1.2.1
  refine lv_aload_n hx hb dL_law_1874 rfl (lv_at hl 1 rfl) ?_
  obtain ⟨Y, hY⟩ : ∃ Y, D_X5_digest r q f = Y := ⟨_, rfl⟩
  refine call_V (n := 0) (k0 := 0) (As := []) (rest := []) hX hB (CM_frame ([Ot o n v] ++ mw κ a2 r2 f2 q2 (tb a2) []) (k_X5_digest κ l a r q f hok _ _ _ _ (hY.trans (te4 Y)))) ⟨rfl, by decide, by decide, by decide +kernel⟩ wm_2_124 wm_2_125 wm_2_126 wm_1_1 wm_2_127 ⟨Nat.le_of_ble_eq_true rfl, Nat.le_of_ble_eq_true rfl⟩ ⟨by show _ ≤ 600128; omega, by show _ ≤ 7301098; omega⟩ (app_at cw0) rfl rfl rfl hl.1 rfl (Nat.le_of_ble_eq_true rfl) dL_law_1875 (fun o9 w' H locs hp hB => ?_)
  obtain ⟨_, ⟨rfl, ho, hq, rfl⟩, rfl⟩ := hp
  refine W.eq (g2 := F0 m 1878 ls [.long Y.1]) rfl ?_
  refine lv_pop2_2 hx hb dL_law_1878 rfl ?_
  refine lv_aload_n hx hb dL_law_1879 rfl (lv_at hl 2 rfl) ?_
  replace hB := Lw_2 (Lw_1 hB)
  obtain ⟨Z, hZ⟩ : ∃ Z, D_X10_digest r2 f2 q2 = Z := ⟨_, rfl⟩
  refine call_V (n := 0) (k0 := 0) (As := []) (rest := []) hX hB (k_X10_digest κ l (cw κ a Y.2.1 Y.2.2.1 Y.2.2.2 ++ [Ot o n v]) a2 r2 f2 q2  hm _ _ (hZ.trans (te2 Z))) ⟨rfl, by decide, by decide, by decide +kernel⟩ wm_7_178 wm_7_179 wm_7_180 wm_1_6 wm_7_181 ⟨Nat.le_of_ble_eq_true rfl, Nat.le_of_ble_eq_true rfl⟩ ⟨by show _ ≤ 600128; omega, by show _ ≤ 7301098; omega⟩ mw0 rfl rfl rfl hl.1 rfl (Nat.le_of_ble_eq_true rfl) dL_law_1880 (fun o9 w' H locs hp hB => ?_)
  obtain ⟨rfl, hfq, rfl⟩ := hp
  have hK : RC r2 f2 q2 Y := by rw [← hY]; exact kp_digest hr
  refine W.eq (g2 := F0 m 1883 ls [.long Z.1]) rfl ?_
  refine lv_pop2_2 hx hb dL_law_1883 rfl ?_
  refine lv_goto (tgt := 1887) hx hb dL_law_1884 (by decide) ?_
  replace hB := Lw_3 hB
  refine W.widen (k := cells + 100) (n := slots + 70000) (by omega) (by omega) ?_
  exact kk _ _ _ _ _ _ _ _ _ _ _ _ (ho hok) hm (Rl_q hK hfq) rfl hB hl
