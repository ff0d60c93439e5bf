theorem dL_law_1813 : decode cL_law 1813 = .ok (.aload_n 1, 1) := dz_e0 dz_43 hI_L_law (by decide +kernel)
theorem dL_law_1814 : decode cL_law 1814 = .ok (.aload_n 0, 1) := dz_e0 dz_42 hI_L_law (by decide +kernel)
theorem dL_law_1815 : decode cL_law 1815 = .ok (.iload 4, 2) := dz_e1 dz_21 hI_L_law (by decide +kernel)
theorem dL_law_1817 : decode cL_law 1817 = .ok (.iconst 1, 1) := dz_e0 dz_4 hI_L_law (by decide +kernel)
theorem dL_law_1818 : decode cL_law 1818 = .ok (.iadd, 1) := dz_e0 dz_96 hI_L_law (by decide +kernel)
theorem dL_law_1819 : decode cL_law 1819 = .ok (.iaload, 1) := dz_e0 dz_46 hI_L_law (by decide +kernel)
theorem dL_law_1820 : decode cL_law 1820 = .ok (.aload_n 3, 1) := dz_e0 dz_45 hI_L_law (by decide +kernel)
theorem dL_law_1821 : decode cL_law 1821 = .ok (.invokestatic 241, 3) := dz_e2 dz_184 hI_L_law (by decide +kernel)
theorem dL_law_1824 : decode cL_law 1824 = .ok (.istore 5, 2) := dz_e1 dz_54 hI_L_law (by decide +kernel)
theorem dL_law_1826 : decode cL_law 1826 = .ok (.aload_n 2, 1) := dz_e0 dz_44 hI_L_law (by decide +kernel)
theorem dL_law_1827 : decode cL_law 1827 = .ok (.aload_n 0, 1) := dz_e0 dz_42 hI_L_law (by decide +kernel)
theorem dL_law_1828 : decode cL_law 1828 = .ok (.iload 4, 2) := dz_e1 dz_21 hI_L_law (by decide +kernel)
theorem dL_law_1830 : decode cL_law 1830 = .ok (.iconst 1, 1) := dz_e0 dz_4 hI_L_law (by decide +kernel)
theorem dL_law_1831 : decode cL_law 1831 = .ok (.iadd, 1) := dz_e0 dz_96 hI_L_law (by decide +kernel)
theorem dL_law_1832 : decode cL_law 1832 = .ok (.iaload, 1) := dz_e0 dz_46 hI_L_law (by decide +kernel)
theorem dL_law_1833 : decode cL_law 1833 = .ok (.invokevirtual 243, 3) := dz_e2 dz_182 hI_L_law (by decide +kernel)
theorem dL_law_1836 : decode cL_law 1836 = .ok (.istore 6, 2) := dz_e1 dz_54 hI_L_law (by decide +kernel)
theorem dL_law_1838 : decode cL_law 1838 = .ok (.goto 42, 3) := dz_f2 dz_167 hI_L_law (by decide +kernel)
set_option maxHeartbeats 4000000 in
set_option maxRecDepth 100000 in
theorem lc_30 : Lc 1813 := by
  intro κ p l e s m args below meth c A ret b L o i xs a a2 r2 r q q2 f f2 n v cells slots Q H locs ls hst hX hx9 hbl hbA hi hL hok hm hr hB hl hc hs kk
  have hx := hX.1.1
  have hb := hX.1.2.1
  refine lv_aload_n hx hb dL_law_1813 rfl (lv_at hl 1 rfl) ?_
  obtain ⟨z1, e1⟩ : ∃ z, xs (6 * i + 1) = z := ⟨_, rfl⟩
  refine lv_scr (k := 1) hX hB hx9 hbl hbA hi hL hl dL_law_1814 dL_law_1815 dL_law_1817 dL_law_1818 dL_law_1819 (by decide) (by decide) e1 ?_
  refine lv_aload_n hx hb dL_law_1820 rfl (lv_at hl 3 rfl) ?_
  replace hB := Lw_1 hB
  obtain ⟨Y, hY⟩ : ∃ Y, D_X5_house r q f z1 = Y := ⟨_, rfl⟩
  refine call_SW (n := 3) (As := [.ref (a 0), .int z1, .ref o]) (rest := []) hX hB (CMW_frame (mw κ a2 r2 f2 q2 (tb a2) []) (w_house κ l hst a r q f o n v z1 hok Y hY)) ⟨by decide, by decide, by decide +kernel⟩ wm_5_125 wm_5_126 wm_1_0 wm_5_127 ⟨Nat.le_of_ble_eq_true rfl, Nat.le_of_ble_eq_true rfl⟩ ⟨by show _ ≤ 600128; omega, by show _ ≤ 7301098; omega⟩ rfl hl.1 rfl (Nat.le_of_ble_eq_true rfl) dL_law_1821 (fun o9 w' H locs hp hB => ?_)
  obtain ⟨_, ⟨x1, n1, v1, rfl, ho, hq, hW, rfl⟩, rfl⟩ := hp
  refine W.eq (g2 := F0 m 1824 ls [.int x1]) rfl ?_
  refine lv_istore (lv' := [(5, .int x1), (0, .ref b), (1, .ref (a 0)), (2, .ref (a2 0)), (3, .ref o), (4, .int (nI (6 * i)))]) hx hb dL_law_1824 hl (by decide) rfl (fun ls hl => ?_)
  have hl0 := hl
  replace hl : lv_has ls 7 (Lv b (a 0) (a2 0) o i) := lv_sub hl [1, 2, 3, 4, 5] rfl
  refine lv_aload_n hx hb dL_law_1826 rfl (lv_at hl 2 rfl) ?_
  refine lv_scr (k := 1) hX hB hx9 hbl hbA hi hL hl dL_law_1827 dL_law_1828 dL_law_1830 dL_law_1831 dL_law_1832 (by decide) (by decide) e1 ?_
  replace hB := Lw_2 hB
  obtain ⟨Z, hZ⟩ : ∃ Z, D_X10_house r2 f2 q2 z1 = Z := ⟨_, rfl⟩
  refine call_V (n := 1) (k0 := 0) (As := [.int z1]) (rest := []) hX hB (k_X10_house κ l (cw κ a Y.2.2.1 Y.2.2.2.1 Y.2.2.2.2 ++ [Ot o n1 v1]) a2 r2 f2 q2 z1 hm _ _ (hZ.trans (te2 Z))) ⟨rfl, by decide, by decide, by decide +kernel⟩ wm_7_158 wm_7_159 wm_7_160 wm_1_6 wm_7_161 ⟨Nat.le_of_ble_eq_true rfl, Nat.le_of_ble_eq_true rfl⟩ ⟨by show _ ≤ 600128; omega, by show _ ≤ 7301098; omega⟩ mw0 rfl rfl rfl hl.1 rfl (Nat.le_of_ble_eq_true rfl) dL_law_1833 (fun o9 w' H locs hp hB => ?_)
  obtain ⟨rfl, hfq, rfl⟩ := hp
  have hK : RA r2 f2 q2 Y := by rw [← hY]; exact kp_house hr
  refine W.eq (g2 := F0 m 1836 ls [.int Z.1]) rfl ?_
  refine lv_istore (lv' := [(6, .int Z.1), (5, .int x1), (0, .ref b), (1, .ref (a 0)), (2, .ref (a2 0)), (3, .ref o), (4, .int (nI (6 * i)))]) hx hb dL_law_1836 hl0 (by decide) rfl (fun ls hl => ?_)
  have hl0 := hl
  replace hl : lv_has ls 7 (Lv b (a 0) (a2 0) o i) := lv_sub hl [2, 3, 4, 5, 6] rfl
  refine lv_goto (tgt := 1880) hx hb dL_law_1838 (by decide) ?_
  replace hB := Lw_3 hB
  refine W.widen (k := cells + 100) (n := slots + 70000) (by omega) (by omega) ?_
  exact kk _ _ _ _ _ _ _ _ _ _ _ _ (ho hok) hm (Rl_q hK hfq) rfl hB hl
theorem dL_law_1841 : decode cL_law 1841 = .ok (.aload_n 1, 1) := dz_e0 dz_43 hI_L_law (by decide +kernel)
theorem dL_law_1842 : decode cL_law 1842 = .ok (.invokevirtual 244, 3) := dz_e2 dz_182 hI_L_law (by decide +kernel)
theorem dL_law_1845 : decode cL_law 1845 = .ok (.pop, 1) := dz_e0 dz_87 hI_L_law (by decide +kernel)
theorem dL_law_1846 : decode cL_law 1846 = .ok (.aload_n 2, 1) := dz_e0 dz_44 hI_L_law (by decide +kernel)
theorem dL_law_1847 : decode cL_law 1847 = .ok (.invokevirtual 247, 3) := dz_e2 dz_182 hI_L_law (by decide +kernel)
theorem dL_law_1850 : decode cL_law 1850 = .ok (.pop, 1) := dz_e0 dz_87 hI_L_law (by decide +kernel)
theorem dL_law_1851 : decode cL_law 1851 = .ok (.goto 29, 3) := dz_f2 dz_167 hI_L_law (by decide +kernel)
set_option maxHeartbeats 4000000 in
set_option maxRecDepth 100000 in
theorem lc_31 : Lc 1841 := by
  intro κ p l e s m args below meth c A ret b L o i xs a a2 r2 r q q2 f f2 n v cells slots Q H locs ls hst hX hx9 hbl hbA hi hL hok hm hr hB hl hc hs kk
  have hx := hX.1.1
  have hb := hX.1.2.1
  refine lv_aload_n hx hb dL_law_1841 rfl (lv_at hl 1 rfl) ?_
  refine call_V (n := 0) (k0 := 0) (As := []) (rest := []) hX hB (CM_frame ([Ot o n v] ++ mw κ a2 r2 f2 q2 (tb a2) []) (k_X5_knock κ l a r q f _ rfl)) ⟨rfl, by decide, by decide, by decide +kernel⟩ wm_1_168 wm_1_169 wm_1_170 wm_1_1 wm_1_171 ⟨Nat.le_of_ble_eq_true rfl, Nat.le_of_ble_eq_true rfl⟩ ⟨by show _ ≤ 600128; omega, by show _ ≤ 7301098; omega⟩ (app_at cw0) rfl rfl rfl hl.1 rfl (Nat.le_of_ble_eq_true rfl) dL_law_1842 (fun o9 w' H locs hp hB => ?_)
  obtain ⟨_, ⟨rfl, rfl⟩, rfl⟩ := hp
  refine W.eq (g2 := F0 m 1845 ls [.int (q 4 + 1)]) rfl ?_
  refine lv_pop hx hb dL_law_1845 rfl ?_
  refine lv_aload_n hx hb dL_law_1846 rfl (lv_at hl 2 rfl) ?_
  replace hB := Lw_2 (Lw_1 hB)
  refine call_V (n := 0) (k0 := 0) (As := []) (rest := []) hX hB (k_X10_knock κ l (cw κ a r (va_up q 4 (q 4 + 1)) f ++ [Ot o n v]) a2 r2 f2 q2  hm) ⟨rfl, by decide, by decide, by decide +kernel⟩ wm_7_166 wm_7_167 wm_7_168 wm_1_6 wm_7_169 ⟨Nat.le_of_ble_eq_true rfl, Nat.le_of_ble_eq_true rfl⟩ ⟨by show _ ≤ 600128; omega, by show _ ≤ 7301098; omega⟩ mw0 rfl rfl rfl hl.1 rfl (Nat.le_of_ble_eq_true rfl) dL_law_1847 (fun o9 w' H locs hp hB => ?_)
  obtain ⟨rfl, rfl⟩ := hp
  refine W.eq (g2 := F0 m 1850 ls [.int (q2 2 + 1)]) rfl ?_
  refine lv_pop hx hb dL_law_1850 rfl ?_
  refine lv_goto (tgt := 1880) hx hb dL_law_1851 (by decide) ?_
  replace hB := Lw_3 hB
  refine W.widen (k := cells + 100) (n := slots + 70000) (by omega) (by omega) ?_
  exact kk _ _ _ _ _ _ _ _ _ _ _ _ hok hm (Rl_knock hr) rfl hB hl
theorem dL_law_1854 : decode cL_law 1854 = .ok (.aload_n 1, 1) := dz_e0 dz_43 hI_L_law (by decide +kernel)
theorem dL_law_1855 : decode cL_law 1855 = .ok (.invokevirtual 248, 3) := dz_e2 dz_182 hI_L_law (by decide +kernel)
theorem dL_law_1858 : decode cL_law 1858 = .ok (.pop, 1) := dz_e0 dz_87 hI_L_law (by decide +kernel)
theorem dL_law_1859 : decode cL_law 1859 = .ok (.aload_n 2, 1) := dz_e0 dz_44 hI_L_law (by decide +kernel)
theorem dL_law_1860 : decode cL_law 1860 = .ok (.invokevirtual 252, 3) := dz_e2 dz_182 hI_L_law (by decide +kernel)
theorem dL_law_1863 : decode cL_law 1863 = .ok (.pop, 1) := dz_e0 dz_87 hI_L_law (by decide +kernel)
theorem dL_law_1864 : decode cL_law 1864 = .ok (.goto 16, 3) := dz_f2 dz_167 hI_L_law (by decide +kernel)
set_option maxHeartbeats 4000000 in
set_option maxRecDepth 100000 in
theorem lc_32 : Lc 1854 := by
  intro κ p l e s m args below meth c A ret b L o i xs a a2 r2 r q q2 f f2 n v cells slots Q H locs ls hst hX hx9 hbl hbA hi hL hok hm hr hB hl hc hs kk
  have hx := hX.1.1
  have hb := hX.1.2.1
  refine lv_aload_n hx hb dL_law_1854 rfl (lv_at hl 1 rfl) ?_
  obtain ⟨Y, hY⟩ : ∃ Y, D_X5_isSound r q f = Y := ⟨_, rfl⟩
  refine call_V (n := 0) (k0 := 0) (As := []) (rest := []) hX hB (CM_frame ([Ot o n v] ++ mw κ a2 r2 f2 q2 (tb a2) []) (k_X5_isSound κ l a r q f hok _ _ _ _ (hY.trans (te4 Y)))) ⟨rfl, by decide, by decide, by decide +kernel⟩ wm_1_172 wm_1_173 wm_1_174 wm_1_1 wm_1_175 ⟨Nat.le_of_ble_eq_true rfl, Nat.le_of_ble_eq_true rfl⟩ ⟨by show _ ≤ 600128; omega, by show _ ≤ 7301098; omega⟩ (app_at cw0) rfl rfl rfl hl.1 rfl (Nat.le_of_ble_eq_true rfl) dL_law_1855 (fun o9 w' H locs hp hB => ?_)
  obtain ⟨_, ⟨rfl, bx, ho, hq, rfl⟩, rfl⟩ := hp
  refine W.eq (g2 := F0 m 1858 ls [.int Y.1]) rfl ?_
  refine lv_pop hx hb dL_law_1858 rfl ?_
  refine lv_aload_n hx hb dL_law_1859 rfl (lv_at hl 2 rfl) ?_
  replace hB := Lw_2 (Lw_1 hB)
  obtain ⟨Z, hZ⟩ : ∃ Z, D_X10_isSound r2 f2 q2 = Z := ⟨_, rfl⟩
  refine call_V (n := 0) (k0 := 0) (As := []) (rest := []) hX hB (k_X10_isSound κ l (cw κ a Y.2.1 Y.2.2.1 Y.2.2.2 ++ [Ot o n v]) a2 r2 f2 q2  hm _ _ (hZ.trans (te2 Z))) ⟨rfl, by decide, by decide, by decide +kernel⟩ wm_7_170 wm_7_171 wm_7_172 wm_1_6 wm_7_173 ⟨Nat.le_of_ble_eq_true rfl, Nat.le_of_ble_eq_true rfl⟩ ⟨by show _ ≤ 600128; omega, by show _ ≤ 7301098; omega⟩ mw0 rfl rfl rfl hl.1 rfl (Nat.le_of_ble_eq_true rfl) dL_law_1860 (fun o9 w' H locs hp hB => ?_)
  obtain ⟨rfl, hf0, hfq, rfl⟩ := hp
  have hK : RB r2 f2 q2 Y := by rw [← hY]; exact kp_isSound hr
  refine W.eq (g2 := F0 m 1863 ls [.int Z.1]) rfl ?_
  refine lv_pop hx hb dL_law_1863 rfl ?_
  refine lv_goto (tgt := 1880) hx hb dL_law_1864 (by decide) ?_
  replace hB := Lw_3 hB
  refine W.widen (k := cells + 100) (n := slots + 70000) (by omega) (by omega) ?_
  exact kk _ _ _ _ _ _ _ _ _ _ _ _ (ho hok) hm (Rl_q hK hfq) rfl hB hl
theorem dL_law_1867 : decode cL_law 1867 = .ok (.aload_n 1, 1) := dz_e0 dz_43 hI_L_law (by decide +kernel)
theorem dL_law_1868 : decode cL_law 1868 = .ok (.invokevirtual 253, 3) := dz_e2 dz_182 hI_L_law (by decide +kernel)
theorem dL_law_1871 : decode cL_law 1871 = .ok (.pop2, 1) := dz_e0 dz_88 hI_L_law (by decide +kernel)
theorem dL_law_1872 : decode cL_law 1872 = .ok (.aload_n 2, 1) := dz_e0 dz_44 hI_L_law (by decide +kernel)
theorem dL_law_1873 : decode cL_law 1873 = .ok (.invokevirtual 257, 3) := dz_e2 dz_182 hI_L_law (by decide +kernel)
theorem dL_law_1876 : decode cL_law 1876 = .ok (.pop2, 1) := dz_e0 dz_88 hI_L_law (by decide +kernel)
theorem dL_law_1877 : decode cL_law 1877 = .ok (.goto 3, 3) := dz_f2 dz_167 hI_L_law (by decide +kernel)
set_option maxHeartbeats 4000000 in
set_option maxRecDepth 100000 in
theorem lc_33 : Lc 1867 := by
  intro κ p l e s m args below meth c A ret b L o i xs a a2 r2 r q q2 f f2 n v cells slots Q H locs ls hst hX hx9 hbl hbA hi hL hok hm hr hB hl hc hs kk
  have hx := hX.1.1
  have hb := hX.1.2.1
  refine lv_aload_n hx hb dL_law_1867 rfl (lv_at hl 1 rfl) ?_
  obtain ⟨Y, hY⟩ : ∃ Y, D_X5_digest r q f = Y := ⟨_, rfl⟩
  refine call_V (n := 0) (k0 := 0) (As := []) (rest := []) hX hB (CM_frame ([Ot o n v] ++ mw κ a2 r2 f2 q2 (tb a2) []) (k_X5_digest κ l a r q f hok _ _ _ _ (hY.trans (te4 Y)))) ⟨rfl, by decide, by decide, by decide +kernel⟩ wm_2_124 wm_2_125 wm_2_126 wm_1_1 wm_2_127 ⟨Nat.le_of_ble_eq_true rfl, Nat.le_of_ble_eq_true rfl⟩ ⟨by show _ ≤ 600128; omega, by show _ ≤ 7301098; omega⟩ (app_at cw0) rfl rfl rfl hl.1 rfl (Nat.le_of_ble_eq_true rfl) dL_law_1868 (fun o9 w' H locs hp hB => ?_)
  obtain ⟨_, ⟨rfl, ho, hq, rfl⟩, rfl⟩ := hp
  refine W.eq (g2 := F0 m 1871 ls [.long Y.1]) rfl ?_
  refine lv_pop2_2 hx hb dL_law_1871 rfl ?_
  refine lv_aload_n hx hb dL_law_1872 rfl (lv_at hl 2 rfl) ?_
  replace hB := Lw_2 (Lw_1 hB)
  obtain ⟨Z, hZ⟩ : ∃ Z, D_X10_digest r2 f2 q2 = Z := ⟨_, rfl⟩
  refine call_V (n := 0) (k0 := 0) (As := []) (rest := []) hX hB (k_X10_digest κ l (cw κ a Y.2.1 Y.2.2.1 Y.2.2.2 ++ [Ot o n v]) a2 r2 f2 q2  hm _ _ (hZ.trans (te2 Z))) ⟨rfl, by decide, by decide, by decide +kernel⟩ wm_7_178 wm_7_179 wm_7_180 wm_1_6 wm_7_181 ⟨Nat.le_of_ble_eq_true rfl, Nat.le_of_ble_eq_true rfl⟩ ⟨by show _ ≤ 600128; omega, by show _ ≤ 7301098; omega⟩ mw0 rfl rfl rfl hl.1 rfl (Nat.le_of_ble_eq_true rfl) dL_law_1873 (fun o9 w' H locs hp hB => ?_)
  obtain ⟨rfl, hfq, rfl⟩ := hp
  have hK : RC r2 f2 q2 Y := by rw [← hY]; exact kp_digest hr
  refine W.eq (g2 := F0 m 1876 ls [.long Z.1]) rfl ?_
  refine lv_pop2_2 hx hb dL_law_1876 rfl ?_
  refine lv_goto (tgt := 1880) hx hb dL_law_1877 (by decide) ?_
  replace hB := Lw_3 hB
  refine W.widen (k := cells + 100) (n := slots + 70000) (by omega) (by omega) ?_
  exact kk _ _ _ _ _ _ _ _ _ _ _ _ (ho hok) hm (Rl_q hK hfq) rfl hB hl
