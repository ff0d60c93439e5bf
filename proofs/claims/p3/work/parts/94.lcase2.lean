theorem dL_law_905 : decode cL_law 905 = .ok (.aload_n 1, 1) := dz_e0 dz_43 hI_L_law (by decide +kernel)
theorem dL_law_906 : decode cL_law 906 = .ok (.aload_n 0, 1) := dz_e0 dz_42 hI_L_law (by decide +kernel)
theorem dL_law_907 : decode cL_law 907 = .ok (.iload 4, 2) := dz_e1 dz_21 hI_L_law (by decide +kernel)
theorem dL_law_909 : decode cL_law 909 = .ok (.iconst 1, 1) := dz_e0 dz_4 hI_L_law (by decide +kernel)
theorem dL_law_910 : decode cL_law 910 = .ok (.iadd, 1) := dz_e0 dz_96 hI_L_law (by decide +kernel)
theorem dL_law_911 : decode cL_law 911 = .ok (.iaload, 1) := dz_e0 dz_46 hI_L_law (by decide +kernel)
theorem dL_law_912 : decode cL_law 912 = .ok (.aload_n 0, 1) := dz_e0 dz_42 hI_L_law (by decide +kernel)
theorem dL_law_913 : decode cL_law 913 = .ok (.iload 4, 2) := dz_e1 dz_21 hI_L_law (by decide +kernel)
theorem dL_law_915 : decode cL_law 915 = .ok (.iconst 2, 1) := dz_e0 dz_5 hI_L_law (by decide +kernel)
theorem dL_law_916 : decode cL_law 916 = .ok (.iadd, 1) := dz_e0 dz_96 hI_L_law (by decide +kernel)
theorem dL_law_917 : decode cL_law 917 = .ok (.iaload, 1) := dz_e0 dz_46 hI_L_law (by decide +kernel)
theorem dL_law_918 : decode cL_law 918 = .ok (.aload_n 0, 1) := dz_e0 dz_42 hI_L_law (by decide +kernel)
theorem dL_law_919 : decode cL_law 919 = .ok (.iload 4, 2) := dz_e1 dz_21 hI_L_law (by decide +kernel)
theorem dL_law_921 : decode cL_law 921 = .ok (.iconst 3, 1) := dz_e0 dz_6 hI_L_law (by decide +kernel)
theorem dL_law_922 : decode cL_law 922 = .ok (.iadd, 1) := dz_e0 dz_96 hI_L_law (by decide +kernel)
theorem dL_law_923 : decode cL_law 923 = .ok (.iaload, 1) := dz_e0 dz_46 hI_L_law (by decide +kernel)
theorem dL_law_924 : decode cL_law 924 = .ok (.ifCond .eq 7, 3) := dz_f2 dz_153 hI_L_law (by decide +kernel)
theorem dL_law_927 : decode cL_law 927 = .ok (.iconst 1, 1) := dz_e0 dz_4 hI_L_law (by decide +kernel)
theorem dL_law_928 : decode cL_law 928 = .ok (.goto 4, 3) := dz_f2 dz_167 hI_L_law (by decide +kernel)
theorem dL_law_931 : decode cL_law 931 = .ok (.iconst 0, 1) := dz_e0 dz_3 hI_L_law (by decide +kernel)
theorem dL_law_932 : decode cL_law 932 = .ok (.aload_n 0, 1) := dz_e0 dz_42 hI_L_law (by decide +kernel)
theorem dL_law_933 : decode cL_law 933 = .ok (.iload 4, 2) := dz_e1 dz_21 hI_L_law (by decide +kernel)
theorem dL_law_935 : decode cL_law 935 = .ok (.iconst 4, 1) := dz_e0 dz_7 hI_L_law (by decide +kernel)
theorem dL_law_936 : decode cL_law 936 = .ok (.iadd, 1) := dz_e0 dz_96 hI_L_law (by decide +kernel)
theorem dL_law_937 : decode cL_law 937 = .ok (.iaload, 1) := dz_e0 dz_46 hI_L_law (by decide +kernel)
theorem dL_law_938 : decode cL_law 938 = .ok (.aload_n 3, 1) := dz_e0 dz_45 hI_L_law (by decide +kernel)
theorem dL_law_939 : decode cL_law 939 = .ok (.invokestatic 186, 3) := dz_e2 dz_184 hI_L_law (by decide +kernel)
theorem dL_law_942 : decode cL_law 942 = .ok (.istore 5, 2) := dz_e1 dz_54 hI_L_law (by decide +kernel)
theorem dL_law_944 : decode cL_law 944 = .ok (.aload_n 2, 1) := dz_e0 dz_44 hI_L_law (by decide +kernel)
theorem dL_law_945 : decode cL_law 945 = .ok (.aload_n 0, 1) := dz_e0 dz_42 hI_L_law (by decide +kernel)
theorem dL_law_946 : decode cL_law 946 = .ok (.iload 4, 2) := dz_e1 dz_21 hI_L_law (by decide +kernel)
theorem dL_law_948 : decode cL_law 948 = .ok (.iconst 1, 1) := dz_e0 dz_4 hI_L_law (by decide +kernel)
theorem dL_law_949 : decode cL_law 949 = .ok (.iadd, 1) := dz_e0 dz_96 hI_L_law (by decide +kernel)
theorem dL_law_950 : decode cL_law 950 = .ok (.iaload, 1) := dz_e0 dz_46 hI_L_law (by decide +kernel)
theorem dL_law_951 : decode cL_law 951 = .ok (.aload_n 0, 1) := dz_e0 dz_42 hI_L_law (by decide +kernel)
theorem dL_law_952 : decode cL_law 952 = .ok (.iload 4, 2) := dz_e1 dz_21 hI_L_law (by decide +kernel)
theorem dL_law_954 : decode cL_law 954 = .ok (.iconst 2, 1) := dz_e0 dz_5 hI_L_law (by decide +kernel)
theorem dL_law_955 : decode cL_law 955 = .ok (.iadd, 1) := dz_e0 dz_96 hI_L_law (by decide +kernel)
theorem dL_law_956 : decode cL_law 956 = .ok (.iaload, 1) := dz_e0 dz_46 hI_L_law (by decide +kernel)
theorem dL_law_957 : decode cL_law 957 = .ok (.aload_n 0, 1) := dz_e0 dz_42 hI_L_law (by decide +kernel)
theorem dL_law_958 : decode cL_law 958 = .ok (.iload 4, 2) := dz_e1 dz_21 hI_L_law (by decide +kernel)
theorem dL_law_960 : decode cL_law 960 = .ok (.iconst 3, 1) := dz_e0 dz_6 hI_L_law (by decide +kernel)
theorem dL_law_961 : decode cL_law 961 = .ok (.iadd, 1) := dz_e0 dz_96 hI_L_law (by decide +kernel)
theorem dL_law_962 : decode cL_law 962 = .ok (.iaload, 1) := dz_e0 dz_46 hI_L_law (by decide +kernel)
theorem dL_law_963 : decode cL_law 963 = .ok (.ifCond .eq 7, 3) := dz_f2 dz_153 hI_L_law (by decide +kernel)
theorem dL_law_966 : decode cL_law 966 = .ok (.iconst 1, 1) := dz_e0 dz_4 hI_L_law (by decide +kernel)
theorem dL_law_967 : decode cL_law 967 = .ok (.goto 4, 3) := dz_f2 dz_167 hI_L_law (by decide +kernel)
theorem dL_law_970 : decode cL_law 970 = .ok (.iconst 0, 1) := dz_e0 dz_3 hI_L_law (by decide +kernel)
theorem dL_law_971 : decode cL_law 971 = .ok (.aload_n 0, 1) := dz_e0 dz_42 hI_L_law (by decide +kernel)
theorem dL_law_972 : decode cL_law 972 = .ok (.iload 4, 2) := dz_e1 dz_21 hI_L_law (by decide +kernel)
theorem dL_law_974 : decode cL_law 974 = .ok (.iconst 4, 1) := dz_e0 dz_7 hI_L_law (by decide +kernel)
theorem dL_law_975 : decode cL_law 975 = .ok (.iadd, 1) := dz_e0 dz_96 hI_L_law (by decide +kernel)
theorem dL_law_976 : decode cL_law 976 = .ok (.iaload, 1) := dz_e0 dz_46 hI_L_law (by decide +kernel)
theorem dL_law_977 : decode cL_law 977 = .ok (.invokevirtual 189, 3) := dz_e2 dz_182 hI_L_law (by decide +kernel)
theorem dL_law_980 : decode cL_law 980 = .ok (.istore 6, 2) := dz_e1 dz_54 hI_L_law (by decide +kernel)
theorem dL_law_982 : decode cL_law 982 = .ok (.goto 898, 3) := dz_f2 dz_167 hI_L_law (by decide +kernel)
set_option maxHeartbeats 4000000 in
set_option maxRecDepth 100000 in
theorem lc_12 : Lc 905 := by
  intro κ p l e s m args below meth c A ret b L o i xs a a2 r2 r q q2 f f2 n v cells slots Q H locs ls hst hX hx9 hbl hbA hi hL hok hm hr hB hl hc hs kk
  have hx := hX.1.1
  have hb := hX.1.2.1
  refine lv_aload_n hx hb dL_law_905 rfl (lv_at hl 1 rfl) ?_
  obtain ⟨z1, e1⟩ : ∃ z, xs (6 * i + 1) = z := ⟨_, rfl⟩
  refine lv_scr (k := 1) hX hB hx9 hbl hbA hi hL hl dL_law_906 dL_law_907 dL_law_909 dL_law_910 dL_law_911 (by decide) (by decide) e1 ?_
  obtain ⟨z2, e2⟩ : ∃ z, xs (6 * i + 2) = z := ⟨_, rfl⟩
  refine lv_scr (k := 2) hX hB hx9 hbl hbA hi hL hl dL_law_912 dL_law_913 dL_law_915 dL_law_916 dL_law_917 (by decide) (by decide) e2 ?_
  obtain ⟨z3, e3⟩ : ∃ z, xs (6 * i + 3) = z := ⟨_, rfl⟩
  refine lv_scr (k := 3) hX hB hx9 hbl hbA hi hL hl dL_law_918 dL_law_919 dL_law_921 dL_law_922 dL_law_923 (by decide) (by decide) e3 ?_
  obtain ⟨y3, dy3⟩ : ∃ z, bz z3 = z := ⟨_, rfl⟩
  refine lv_bool hX dL_law_924 dL_law_927 dL_law_928 dL_law_931 dy3 ?_
  obtain ⟨z4, e4⟩ : ∃ z, xs (6 * i + 4) = z := ⟨_, rfl⟩
  refine lv_scr (k := 4) hX hB hx9 hbl hbA hi hL hl dL_law_932 dL_law_933 dL_law_935 dL_law_936 dL_law_937 (by decide) (by decide) e4 ?_
  refine lv_aload_n hx hb dL_law_938 rfl (lv_at hl 3 rfl) ?_
  replace hB := Lw_1 hB
  obtain ⟨Y, hY⟩ : ∃ Y, D_X5_sum r q f z1 z2 y3 z4 = Y := ⟨_, rfl⟩
  refine call_SW (n := 6) (As := [.ref (a 0), .int z1, .int z2, .int y3, .int z4, .ref o]) (rest := []) hX hB (CMW_frame (mw κ a2 r2 f2 q2 (tb a2) []) (w_sum κ l hst a r q f o n v z1 z2 y3 z4 hok Y hY)) ⟨by decide, by decide, by decide +kernel⟩ wm_3_146 wm_3_147 wm_1_0 wm_3_148 ⟨Nat.le_of_ble_eq_true rfl, Nat.le_of_ble_eq_true rfl⟩ ⟨by show _ ≤ 600128; omega, by show _ ≤ 7301098; omega⟩ rfl hl.1 rfl (Nat.le_of_ble_eq_true rfl) dL_law_939 (fun o9 w' H locs hp hB => ?_)
  obtain ⟨_, ⟨x1, n1, v1, rfl, ho, hq, hW, rfl⟩, rfl⟩ := hp
  refine W.eq (g2 := F0 m 942 ls [.int x1]) rfl ?_
  refine lv_istore (lv' := [(5, .int x1), (0, .ref b), (1, .ref (a 0)), (2, .ref (a2 0)), (3, .ref o), (4, .int (nI (6 * i)))]) hx hb dL_law_942 hl (by decide) rfl (fun ls hl => ?_)
  have hl0 := hl
  replace hl : lv_has ls 7 (Lv b (a 0) (a2 0) o i) := lv_sub hl [1, 2, 3, 4, 5] rfl
  refine lv_aload_n hx hb dL_law_944 rfl (lv_at hl 2 rfl) ?_
  refine lv_scr (k := 1) hX hB hx9 hbl hbA hi hL hl dL_law_945 dL_law_946 dL_law_948 dL_law_949 dL_law_950 (by decide) (by decide) e1 ?_
  refine lv_scr (k := 2) hX hB hx9 hbl hbA hi hL hl dL_law_951 dL_law_952 dL_law_954 dL_law_955 dL_law_956 (by decide) (by decide) e2 ?_
  refine lv_scr (k := 3) hX hB hx9 hbl hbA hi hL hl dL_law_957 dL_law_958 dL_law_960 dL_law_961 dL_law_962 (by decide) (by decide) e3 ?_
  refine lv_bool hX dL_law_963 dL_law_966 dL_law_967 dL_law_970 dy3 ?_
  refine lv_scr (k := 4) hX hB hx9 hbl hbA hi hL hl dL_law_971 dL_law_972 dL_law_974 dL_law_975 dL_law_976 (by decide) (by decide) e4 ?_
  replace hB := Lw_2 hB
  obtain ⟨Z, hZ⟩ : ∃ Z, D_X10_sum r2 f2 q2 z1 z2 y3 z4 = Z := ⟨_, rfl⟩
  refine call_V (n := 4) (k0 := 0) (As := [.int z1, .int z2, .int y3, .int z4]) (rest := []) hX hB (k_X10_sum κ l (cw κ a Y.2.2.1 Y.2.2.2.1 Y.2.2.2.2 ++ [Ot o n1 v1]) a2 r2 f2 q2 z1 z2 y3 z4 hm _ _ _ _ (hZ.trans (te4 Z))) ⟨rfl, by decide, by decide, by decide +kernel⟩ wm_6_104 wm_6_105 wm_6_106 wm_1_6 wm_6_107 ⟨Nat.le_of_ble_eq_true rfl, Nat.le_of_ble_eq_true rfl⟩ ⟨by show _ ≤ 600128; omega, by show _ ≤ 7301098; omega⟩ mw0 rfl rfl rfl hl.1 rfl (Nat.le_of_ble_eq_true rfl) dL_law_977 (fun o9 w' H locs hp hB => ?_)
  obtain ⟨a3, rfl, hf0, hf1, hf2, rfl⟩ := hp
  have hO : Ok Y Z := by rw [← hY, ← hZ]; exact sum_eq hr
  refine W.eq (g2 := F0 m 980 ls [.int Z.1]) rfl ?_
  refine lv_istore (lv' := [(6, .int Z.1), (5, .int x1), (0, .ref b), (1, .ref (a 0)), (2, .ref (a2 0)), (3, .ref o), (4, .int (nI (6 * i)))]) hx hb dL_law_980 hl0 (by decide) rfl (fun ls hl => ?_)
  have hl0 := hl
  replace hl : lv_has ls 7 (Lv b (a 0) (a2 0) o i) := lv_sub hl [2, 3, 4, 5, 6] rfl
  refine lv_goto (tgt := 1880) hx hb dL_law_982 (by decide) ?_
  replace hB := Lw_3 hB
  refine W.widen (k := cells + 100) (n := slots + 70000) (by omega) (by omega) ?_
  exact kk _ _ _ _ _ _ _ _ _ _ _ _ (ho hok) hf1 hO.1 hf0 hB hl
theorem dL_law_985 : decode cL_law 985 = .ok (.aload_n 1, 1) := dz_e0 dz_43 hI_L_law (by decide +kernel)
theorem dL_law_986 : decode cL_law 986 = .ok (.aload_n 0, 1) := dz_e0 dz_42 hI_L_law (by decide +kernel)
theorem dL_law_987 : decode cL_law 987 = .ok (.iload 4, 2) := dz_e1 dz_21 hI_L_law (by decide +kernel)
theorem dL_law_989 : decode cL_law 989 = .ok (.iconst 1, 1) := dz_e0 dz_4 hI_L_law (by decide +kernel)
theorem dL_law_990 : decode cL_law 990 = .ok (.iadd, 1) := dz_e0 dz_96 hI_L_law (by decide +kernel)
theorem dL_law_991 : decode cL_law 991 = .ok (.iaload, 1) := dz_e0 dz_46 hI_L_law (by decide +kernel)
theorem dL_law_992 : decode cL_law 992 = .ok (.aload_n 0, 1) := dz_e0 dz_42 hI_L_law (by decide +kernel)
theorem dL_law_993 : decode cL_law 993 = .ok (.iload 4, 2) := dz_e1 dz_21 hI_L_law (by decide +kernel)
theorem dL_law_995 : decode cL_law 995 = .ok (.iconst 2, 1) := dz_e0 dz_5 hI_L_law (by decide +kernel)
theorem dL_law_996 : decode cL_law 996 = .ok (.iadd, 1) := dz_e0 dz_96 hI_L_law (by decide +kernel)
theorem dL_law_997 : decode cL_law 997 = .ok (.iaload, 1) := dz_e0 dz_46 hI_L_law (by decide +kernel)
theorem dL_law_998 : decode cL_law 998 = .ok (.aload_n 0, 1) := dz_e0 dz_42 hI_L_law (by decide +kernel)
theorem dL_law_999 : decode cL_law 999 = .ok (.iload 4, 2) := dz_e1 dz_21 hI_L_law (by decide +kernel)
theorem dL_law_1001 : decode cL_law 1001 = .ok (.iconst 3, 1) := dz_e0 dz_6 hI_L_law (by decide +kernel)
theorem dL_law_1002 : decode cL_law 1002 = .ok (.iadd, 1) := dz_e0 dz_96 hI_L_law (by decide +kernel)
theorem dL_law_1003 : decode cL_law 1003 = .ok (.iaload, 1) := dz_e0 dz_46 hI_L_law (by decide +kernel)
theorem dL_law_1004 : decode cL_law 1004 = .ok (.aload_n 3, 1) := dz_e0 dz_45 hI_L_law (by decide +kernel)
theorem dL_law_1005 : decode cL_law 1005 = .ok (.invokestatic 190, 3) := dz_e2 dz_184 hI_L_law (by decide +kernel)
theorem dL_law_1008 : decode cL_law 1008 = .ok (.istore 5, 2) := dz_e1 dz_54 hI_L_law (by decide +kernel)
theorem dL_law_1010 : decode cL_law 1010 = .ok (.aload_n 2, 1) := dz_e0 dz_44 hI_L_law (by decide +kernel)
theorem dL_law_1011 : decode cL_law 1011 = .ok (.aload_n 0, 1) := dz_e0 dz_42 hI_L_law (by decide +kernel)
theorem dL_law_1012 : decode cL_law 1012 = .ok (.iload 4, 2) := dz_e1 dz_21 hI_L_law (by decide +kernel)
theorem dL_law_1014 : decode cL_law 1014 = .ok (.iconst 1, 1) := dz_e0 dz_4 hI_L_law (by decide +kernel)
theorem dL_law_1015 : decode cL_law 1015 = .ok (.iadd, 1) := dz_e0 dz_96 hI_L_law (by decide +kernel)
theorem dL_law_1016 : decode cL_law 1016 = .ok (.iaload, 1) := dz_e0 dz_46 hI_L_law (by decide +kernel)
theorem dL_law_1017 : decode cL_law 1017 = .ok (.aload_n 0, 1) := dz_e0 dz_42 hI_L_law (by decide +kernel)
theorem dL_law_1018 : decode cL_law 1018 = .ok (.iload 4, 2) := dz_e1 dz_21 hI_L_law (by decide +kernel)
theorem dL_law_1020 : decode cL_law 1020 = .ok (.iconst 2, 1) := dz_e0 dz_5 hI_L_law (by decide +kernel)
theorem dL_law_1021 : decode cL_law 1021 = .ok (.iadd, 1) := dz_e0 dz_96 hI_L_law (by decide +kernel)
theorem dL_law_1022 : decode cL_law 1022 = .ok (.iaload, 1) := dz_e0 dz_46 hI_L_law (by decide +kernel)
theorem dL_law_1023 : decode cL_law 1023 = .ok (.aload_n 0, 1) := dz_e0 dz_42 hI_L_law (by decide +kernel)
theorem dL_law_1024 : decode cL_law 1024 = .ok (.iload 4, 2) := dz_e1 dz_21 hI_L_law (by decide +kernel)
theorem dL_law_1026 : decode cL_law 1026 = .ok (.iconst 3, 1) := dz_e0 dz_6 hI_L_law (by decide +kernel)
theorem dL_law_1027 : decode cL_law 1027 = .ok (.iadd, 1) := dz_e0 dz_96 hI_L_law (by decide +kernel)
theorem dL_law_1028 : decode cL_law 1028 = .ok (.iaload, 1) := dz_e0 dz_46 hI_L_law (by decide +kernel)
theorem dL_law_1029 : decode cL_law 1029 = .ok (.invokevirtual 192, 3) := dz_e2 dz_182 hI_L_law (by decide +kernel)
theorem dL_law_1032 : decode cL_law 1032 = .ok (.istore 6, 2) := dz_e1 dz_54 hI_L_law (by decide +kernel)
theorem dL_law_1034 : decode cL_law 1034 = .ok (.goto 846, 3) := dz_f2 dz_167 hI_L_law (by decide +kernel)
set_option maxHeartbeats 4000000 in
set_option maxRecDepth 100000 in
theorem lc_13 : Lc 985 := by
  intro κ p l e s m args below meth c A ret b L o i xs a a2 r2 r q q2 f f2 n v cells slots Q H locs ls hst hX hx9 hbl hbA hi hL hok hm hr hB hl hc hs kk
  have hx := hX.1.1
  have hb := hX.1.2.1
  refine lv_aload_n hx hb dL_law_985 rfl (lv_at hl 1 rfl) ?_
  obtain ⟨z1, e1⟩ : ∃ z, xs (6 * i + 1) = z := ⟨_, rfl⟩
  refine lv_scr (k := 1) hX hB hx9 hbl hbA hi hL hl dL_law_986 dL_law_987 dL_law_989 dL_law_990 dL_law_991 (by decide) (by decide) e1 ?_
  obtain ⟨z2, e2⟩ : ∃ z, xs (6 * i + 2) = z := ⟨_, rfl⟩
  refine lv_scr (k := 2) hX hB hx9 hbl hbA hi hL hl dL_law_992 dL_law_993 dL_law_995 dL_law_996 dL_law_997 (by decide) (by decide) e2 ?_
  obtain ⟨z3, e3⟩ : ∃ z, xs (6 * i + 3) = z := ⟨_, rfl⟩
  refine lv_scr (k := 3) hX hB hx9 hbl hbA hi hL hl dL_law_998 dL_law_999 dL_law_1001 dL_law_1002 dL_law_1003 (by decide) (by decide) e3 ?_
  refine lv_aload_n hx hb dL_law_1004 rfl (lv_at hl 3 rfl) ?_
  replace hB := Lw_1 hB
  obtain ⟨Y, hY⟩ : ∃ Y, D_X5_multiply r q f z1 z2 z3 = Y := ⟨_, rfl⟩
  refine call_SW (n := 5) (As := [.ref (a 0), .int z1, .int z2, .int z3, .ref o]) (rest := []) hX hB (CMW_frame (mw κ a2 r2 f2 q2 (tb a2) []) (w_multiply κ l hst a r q f o n v z1 z2 z3 hok Y hY)) ⟨by decide, by decide, by decide +kernel⟩ wm_3_157 wm_3_158 wm_1_0 wm_3_159 ⟨Nat.le_of_ble_eq_true rfl, Nat.le_of_ble_eq_true rfl⟩ ⟨by show _ ≤ 600128; omega, by show _ ≤ 7301098; omega⟩ rfl hl.1 rfl (Nat.le_of_ble_eq_true rfl) dL_law_1005 (fun o9 w' H locs hp hB => ?_)
  obtain ⟨_, ⟨x1, n1, v1, rfl, ho, hq, hW, rfl⟩, rfl⟩ := hp
  refine W.eq (g2 := F0 m 1008 ls [.int x1]) rfl ?_
  refine lv_istore (lv' := [(5, .int x1), (0, .ref b), (1, .ref (a 0)), (2, .ref (a2 0)), (3, .ref o), (4, .int (nI (6 * i)))]) hx hb dL_law_1008 hl (by decide) rfl (fun ls hl => ?_)
  have hl0 := hl
  replace hl : lv_has ls 7 (Lv b (a 0) (a2 0) o i) := lv_sub hl [1, 2, 3, 4, 5] rfl
  refine lv_aload_n hx hb dL_law_1010 rfl (lv_at hl 2 rfl) ?_
  refine lv_scr (k := 1) hX hB hx9 hbl hbA hi hL hl dL_law_1011 dL_law_1012 dL_law_1014 dL_law_1015 dL_law_1016 (by decide) (by decide) e1 ?_
  refine lv_scr (k := 2) hX hB hx9 hbl hbA hi hL hl dL_law_1017 dL_law_1018 dL_law_1020 dL_law_1021 dL_law_1022 (by decide) (by decide) e2 ?_
  refine lv_scr (k := 3) hX hB hx9 hbl hbA hi hL hl dL_law_1023 dL_law_1024 dL_law_1026 dL_law_1027 dL_law_1028 (by decide) (by decide) e3 ?_
  replace hB := Lw_2 hB
  obtain ⟨Z, hZ⟩ : ∃ Z, D_X10_multiply r2 f2 q2 z1 z2 z3 = Z := ⟨_, rfl⟩
  refine call_V (n := 3) (k0 := 0) (As := [.int z1, .int z2, .int z3]) (rest := []) hX hB (k_X10_multiply κ l (cw κ a Y.2.2.1 Y.2.2.2.1 Y.2.2.2.2 ++ [Ot o n1 v1]) a2 r2 f2 q2 z1 z2 z3 hm _ _ _ _ (hZ.trans (te4 Z))) ⟨rfl, by decide, by decide, by decide +kernel⟩ wm_6_112 wm_6_113 wm_6_114 wm_1_6 wm_6_115 ⟨Nat.le_of_ble_eq_true rfl, Nat.le_of_ble_eq_true rfl⟩ ⟨by show _ ≤ 600128; omega, by show _ ≤ 7301098; omega⟩ mw0 rfl rfl rfl hl.1 rfl (Nat.le_of_ble_eq_true rfl) dL_law_1029 (fun o9 w' H locs hp hB => ?_)
  obtain ⟨a3, rfl, hf0, hf1, hf2, rfl⟩ := hp
  have hO : Ok Y Z := by rw [← hY, ← hZ]; exact multiply_eq hr
  refine W.eq (g2 := F0 m 1032 ls [.int Z.1]) rfl ?_
  refine lv_istore (lv' := [(6, .int Z.1), (5, .int x1), (0, .ref b), (1, .ref (a 0)), (2, .ref (a2 0)), (3, .ref o), (4, .int (nI (6 * i)))]) hx hb dL_law_1032 hl0 (by decide) rfl (fun ls hl => ?_)
  have hl0 := hl
  replace hl : lv_has ls 7 (Lv b (a 0) (a2 0) o i) := lv_sub hl [2, 3, 4, 5, 6] rfl
  refine lv_goto (tgt := 1880) hx hb dL_law_1034 (by decide) ?_
  replace hB := Lw_3 hB
  refine W.widen (k := cells + 100) (n := slots + 70000) (by omega) (by omega) ?_
  exact kk _ _ _ _ _ _ _ _ _ _ _ _ (ho hok) hf1 hO.1 hf0 hB hl
theorem dL_law_1037 : decode cL_law 1037 = .ok (.aload_n 1, 1) := dz_e0 dz_43 hI_L_law (by decide +kernel)
theorem dL_law_1038 : decode cL_law 1038 = .ok (.aload_n 0, 1) := dz_e0 dz_42 hI_L_law (by decide +kernel)
theorem dL_law_1039 : decode cL_law 1039 = .ok (.iload 4, 2) := dz_e1 dz_21 hI_L_law (by decide +kernel)
theorem dL_law_1041 : decode cL_law 1041 = .ok (.iconst 1, 1) := dz_e0 dz_4 hI_L_law (by decide +kernel)
theorem dL_law_1042 : decode cL_law 1042 = .ok (.iadd, 1) := dz_e0 dz_96 hI_L_law (by decide +kernel)
theorem dL_law_1043 : decode cL_law 1043 = .ok (.iaload, 1) := dz_e0 dz_46 hI_L_law (by decide +kernel)
theorem dL_law_1044 : decode cL_law 1044 = .ok (.aload_n 0, 1) := dz_e0 dz_42 hI_L_law (by decide +kernel)
theorem dL_law_1045 : decode cL_law 1045 = .ok (.iload 4, 2) := dz_e1 dz_21 hI_L_law (by decide +kernel)
theorem dL_law_1047 : decode cL_law 1047 = .ok (.iconst 2, 1) := dz_e0 dz_5 hI_L_law (by decide +kernel)
theorem dL_law_1048 : decode cL_law 1048 = .ok (.iadd, 1) := dz_e0 dz_96 hI_L_law (by decide +kernel)
theorem dL_law_1049 : decode cL_law 1049 = .ok (.iaload, 1) := dz_e0 dz_46 hI_L_law (by decide +kernel)
theorem dL_law_1050 : decode cL_law 1050 = .ok (.aload_n 0, 1) := dz_e0 dz_42 hI_L_law (by decide +kernel)
theorem dL_law_1051 : decode cL_law 1051 = .ok (.iload 4, 2) := dz_e1 dz_21 hI_L_law (by decide +kernel)
theorem dL_law_1053 : decode cL_law 1053 = .ok (.iconst 3, 1) := dz_e0 dz_6 hI_L_law (by decide +kernel)
theorem dL_law_1054 : decode cL_law 1054 = .ok (.iadd, 1) := dz_e0 dz_96 hI_L_law (by decide +kernel)
theorem dL_law_1055 : decode cL_law 1055 = .ok (.iaload, 1) := dz_e0 dz_46 hI_L_law (by decide +kernel)
theorem dL_law_1056 : decode cL_law 1056 = .ok (.aload_n 3, 1) := dz_e0 dz_45 hI_L_law (by decide +kernel)
theorem dL_law_1057 : decode cL_law 1057 = .ok (.invokestatic 193, 3) := dz_e2 dz_184 hI_L_law (by decide +kernel)
theorem dL_law_1060 : decode cL_law 1060 = .ok (.istore 5, 2) := dz_e1 dz_54 hI_L_law (by decide +kernel)
theorem dL_law_1062 : decode cL_law 1062 = .ok (.aload_n 2, 1) := dz_e0 dz_44 hI_L_law (by decide +kernel)
theorem dL_law_1063 : decode cL_law 1063 = .ok (.aload_n 0, 1) := dz_e0 dz_42 hI_L_law (by decide +kernel)
theorem dL_law_1064 : decode cL_law 1064 = .ok (.iload 4, 2) := dz_e1 dz_21 hI_L_law (by decide +kernel)
theorem dL_law_1066 : decode cL_law 1066 = .ok (.iconst 1, 1) := dz_e0 dz_4 hI_L_law (by decide +kernel)
theorem dL_law_1067 : decode cL_law 1067 = .ok (.iadd, 1) := dz_e0 dz_96 hI_L_law (by decide +kernel)
theorem dL_law_1068 : decode cL_law 1068 = .ok (.iaload, 1) := dz_e0 dz_46 hI_L_law (by decide +kernel)
theorem dL_law_1069 : decode cL_law 1069 = .ok (.aload_n 0, 1) := dz_e0 dz_42 hI_L_law (by decide +kernel)
theorem dL_law_1070 : decode cL_law 1070 = .ok (.iload 4, 2) := dz_e1 dz_21 hI_L_law (by decide +kernel)
theorem dL_law_1072 : decode cL_law 1072 = .ok (.iconst 2, 1) := dz_e0 dz_5 hI_L_law (by decide +kernel)
theorem dL_law_1073 : decode cL_law 1073 = .ok (.iadd, 1) := dz_e0 dz_96 hI_L_law (by decide +kernel)
theorem dL_law_1074 : decode cL_law 1074 = .ok (.iaload, 1) := dz_e0 dz_46 hI_L_law (by decide +kernel)
theorem dL_law_1075 : decode cL_law 1075 = .ok (.aload_n 0, 1) := dz_e0 dz_42 hI_L_law (by decide +kernel)
theorem dL_law_1076 : decode cL_law 1076 = .ok (.iload 4, 2) := dz_e1 dz_21 hI_L_law (by decide +kernel)
theorem dL_law_1078 : decode cL_law 1078 = .ok (.iconst 3, 1) := dz_e0 dz_6 hI_L_law (by decide +kernel)
theorem dL_law_1079 : decode cL_law 1079 = .ok (.iadd, 1) := dz_e0 dz_96 hI_L_law (by decide +kernel)
theorem dL_law_1080 : decode cL_law 1080 = .ok (.iaload, 1) := dz_e0 dz_46 hI_L_law (by decide +kernel)
theorem dL_law_1081 : decode cL_law 1081 = .ok (.invokevirtual 195, 3) := dz_e2 dz_182 hI_L_law (by decide +kernel)
theorem dL_law_1084 : decode cL_law 1084 = .ok (.istore 6, 2) := dz_e1 dz_54 hI_L_law (by decide +kernel)
theorem dL_law_1086 : decode cL_law 1086 = .ok (.goto 794, 3) := dz_f2 dz_167 hI_L_law (by decide +kernel)
set_option maxHeartbeats 4000000 in
set_option maxRecDepth 100000 in
theorem lc_14 : Lc 1037 := by
  intro κ p l e s m args below meth c A ret b L o i xs a a2 r2 r q q2 f f2 n v cells slots Q H locs ls hst hX hx9 hbl hbA hi hL hok hm hr hB hl hc hs kk
  have hx := hX.1.1
  have hb := hX.1.2.1
  refine lv_aload_n hx hb dL_law_1037 rfl (lv_at hl 1 rfl) ?_
  obtain ⟨z1, e1⟩ : ∃ z, xs (6 * i + 1) = z := ⟨_, rfl⟩
  refine lv_scr (k := 1) hX hB hx9 hbl hbA hi hL hl dL_law_1038 dL_law_1039 dL_law_1041 dL_law_1042 dL_law_1043 (by decide) (by decide) e1 ?_
  obtain ⟨z2, e2⟩ : ∃ z, xs (6 * i + 2) = z := ⟨_, rfl⟩
  refine lv_scr (k := 2) hX hB hx9 hbl hbA hi hL hl dL_law_1044 dL_law_1045 dL_law_1047 dL_law_1048 dL_law_1049 (by decide) (by decide) e2 ?_
  obtain ⟨z3, e3⟩ : ∃ z, xs (6 * i + 3) = z := ⟨_, rfl⟩
  refine lv_scr (k := 3) hX hB hx9 hbl hbA hi hL hl dL_law_1050 dL_law_1051 dL_law_1053 dL_law_1054 dL_law_1055 (by decide) (by decide) e3 ?_
  refine lv_aload_n hx hb dL_law_1056 rfl (lv_at hl 3 rfl) ?_
  replace hB := Lw_1 hB
  obtain ⟨Y, hY⟩ : ∃ Y, D_X5_take r q f z1 z2 z3 = Y := ⟨_, rfl⟩
  refine call_SW (n := 5) (As := [.ref (a 0), .int z1, .int z2, .int z3, .ref o]) (rest := []) hX hB (CMW_frame (mw κ a2 r2 f2 q2 (tb a2) []) (w_take κ l hst a r q f o n v z1 z2 z3 hok Y hY)) ⟨by decide, by decide, by decide +kernel⟩ wm_3_164 wm_3_165 wm_1_0 wm_3_166 ⟨Nat.le_of_ble_eq_true rfl, Nat.le_of_ble_eq_true rfl⟩ ⟨by show _ ≤ 600128; omega, by show _ ≤ 7301098; omega⟩ rfl hl.1 rfl (Nat.le_of_ble_eq_true rfl) dL_law_1057 (fun o9 w' H locs hp hB => ?_)
  obtain ⟨_, ⟨x1, n1, v1, rfl, ho, hq, hW, rfl⟩, rfl⟩ := hp
  refine W.eq (g2 := F0 m 1060 ls [.int x1]) rfl ?_
  refine lv_istore (lv' := [(5, .int x1), (0, .ref b), (1, .ref (a 0)), (2, .ref (a2 0)), (3, .ref o), (4, .int (nI (6 * i)))]) hx hb dL_law_1060 hl (by decide) rfl (fun ls hl => ?_)
  have hl0 := hl
  replace hl : lv_has ls 7 (Lv b (a 0) (a2 0) o i) := lv_sub hl [1, 2, 3, 4, 5] rfl
  refine lv_aload_n hx hb dL_law_1062 rfl (lv_at hl 2 rfl) ?_
  refine lv_scr (k := 1) hX hB hx9 hbl hbA hi hL hl dL_law_1063 dL_law_1064 dL_law_1066 dL_law_1067 dL_law_1068 (by decide) (by decide) e1 ?_
  refine lv_scr (k := 2) hX hB hx9 hbl hbA hi hL hl dL_law_1069 dL_law_1070 dL_law_1072 dL_law_1073 dL_law_1074 (by decide) (by decide) e2 ?_
  refine lv_scr (k := 3) hX hB hx9 hbl hbA hi hL hl dL_law_1075 dL_law_1076 dL_law_1078 dL_law_1079 dL_law_1080 (by decide) (by decide) e3 ?_
  replace hB := Lw_2 hB
  obtain ⟨Z, hZ⟩ : ∃ Z, D_X10_take r2 f2 q2 z1 z2 z3 = Z := ⟨_, rfl⟩
  refine call_V (n := 3) (k0 := 0) (As := [.int z1, .int z2, .int z3]) (rest := []) hX hB (k_X10_take κ l (cw κ a Y.2.2.1 Y.2.2.2.1 Y.2.2.2.2 ++ [Ot o n1 v1]) a2 r2 f2 q2 z1 z2 z3 hm _ _ _ _ (hZ.trans (te4 Z))) ⟨rfl, by decide, by decide, by decide +kernel⟩ wm_6_120 wm_6_121 wm_6_122 wm_1_6 wm_6_123 ⟨Nat.le_of_ble_eq_true rfl, Nat.le_of_ble_eq_true rfl⟩ ⟨by show _ ≤ 600128; omega, by show _ ≤ 7301098; omega⟩ mw0 rfl rfl rfl hl.1 rfl (Nat.le_of_ble_eq_true rfl) dL_law_1081 (fun o9 w' H locs hp hB => ?_)
  obtain ⟨a3, rfl, hf0, hf1, hf2, rfl⟩ := hp
  have hO : Ok Y Z := by rw [← hY, ← hZ]; exact take_eq hr
  refine W.eq (g2 := F0 m 1084 ls [.int Z.1]) rfl ?_
  refine lv_istore (lv' := [(6, .int Z.1), (5, .int x1), (0, .ref b), (1, .ref (a 0)), (2, .ref (a2 0)), (3, .ref o), (4, .int (nI (6 * i)))]) hx hb dL_law_1084 hl0 (by decide) rfl (fun ls hl => ?_)
  have hl0 := hl
  replace hl : lv_has ls 7 (Lv b (a 0) (a2 0) o i) := lv_sub hl [2, 3, 4, 5, 6] rfl
  refine lv_goto (tgt := 1880) hx hb dL_law_1086 (by decide) ?_
  replace hB := Lw_3 hB
  refine W.widen (k := cells + 100) (n := slots + 70000) (by omega) (by omega) ?_
  exact kk _ _ _ _ _ _ _ _ _ _ _ _ (ho hok) hf1 hO.1 hf0 hB hl
theorem dL_law_1089 : decode cL_law 1089 = .ok (.aload_n 1, 1) := dz_e0 dz_43 hI_L_law (by decide +kernel)
theorem dL_law_1090 : decode cL_law 1090 = .ok (.aload_n 0, 1) := dz_e0 dz_42 hI_L_law (by decide +kernel)
theorem dL_law_1091 : decode cL_law 1091 = .ok (.iload 4, 2) := dz_e1 dz_21 hI_L_law (by decide +kernel)
theorem dL_law_1093 : decode cL_law 1093 = .ok (.iconst 1, 1) := dz_e0 dz_4 hI_L_law (by decide +kernel)
theorem dL_law_1094 : decode cL_law 1094 = .ok (.iadd, 1) := dz_e0 dz_96 hI_L_law (by decide +kernel)
theorem dL_law_1095 : decode cL_law 1095 = .ok (.iaload, 1) := dz_e0 dz_46 hI_L_law (by decide +kernel)
theorem dL_law_1096 : decode cL_law 1096 = .ok (.aload_n 0, 1) := dz_e0 dz_42 hI_L_law (by decide +kernel)
theorem dL_law_1097 : decode cL_law 1097 = .ok (.iload 4, 2) := dz_e1 dz_21 hI_L_law (by decide +kernel)
theorem dL_law_1099 : decode cL_law 1099 = .ok (.iconst 2, 1) := dz_e0 dz_5 hI_L_law (by decide +kernel)
theorem dL_law_1100 : decode cL_law 1100 = .ok (.iadd, 1) := dz_e0 dz_96 hI_L_law (by decide +kernel)
theorem dL_law_1101 : decode cL_law 1101 = .ok (.iaload, 1) := dz_e0 dz_46 hI_L_law (by decide +kernel)
theorem dL_law_1102 : decode cL_law 1102 = .ok (.aload_n 0, 1) := dz_e0 dz_42 hI_L_law (by decide +kernel)
theorem dL_law_1103 : decode cL_law 1103 = .ok (.iload 4, 2) := dz_e1 dz_21 hI_L_law (by decide +kernel)
theorem dL_law_1105 : decode cL_law 1105 = .ok (.iconst 3, 1) := dz_e0 dz_6 hI_L_law (by decide +kernel)
theorem dL_law_1106 : decode cL_law 1106 = .ok (.iadd, 1) := dz_e0 dz_96 hI_L_law (by decide +kernel)
theorem dL_law_1107 : decode cL_law 1107 = .ok (.iaload, 1) := dz_e0 dz_46 hI_L_law (by decide +kernel)
theorem dL_law_1108 : decode cL_law 1108 = .ok (.aload_n 0, 1) := dz_e0 dz_42 hI_L_law (by decide +kernel)
theorem dL_law_1109 : decode cL_law 1109 = .ok (.iload 4, 2) := dz_e1 dz_21 hI_L_law (by decide +kernel)
theorem dL_law_1111 : decode cL_law 1111 = .ok (.iconst 4, 1) := dz_e0 dz_7 hI_L_law (by decide +kernel)
theorem dL_law_1112 : decode cL_law 1112 = .ok (.iadd, 1) := dz_e0 dz_96 hI_L_law (by decide +kernel)
theorem dL_law_1113 : decode cL_law 1113 = .ok (.iaload, 1) := dz_e0 dz_46 hI_L_law (by decide +kernel)
theorem dL_law_1114 : decode cL_law 1114 = .ok (.aload_n 3, 1) := dz_e0 dz_45 hI_L_law (by decide +kernel)
theorem dL_law_1115 : decode cL_law 1115 = .ok (.invokestatic 196, 3) := dz_e2 dz_184 hI_L_law (by decide +kernel)
theorem dL_law_1118 : decode cL_law 1118 = .ok (.istore 5, 2) := dz_e1 dz_54 hI_L_law (by decide +kernel)
theorem dL_law_1120 : decode cL_law 1120 = .ok (.aload_n 2, 1) := dz_e0 dz_44 hI_L_law (by decide +kernel)
theorem dL_law_1121 : decode cL_law 1121 = .ok (.aload_n 0, 1) := dz_e0 dz_42 hI_L_law (by decide +kernel)
theorem dL_law_1122 : decode cL_law 1122 = .ok (.iload 4, 2) := dz_e1 dz_21 hI_L_law (by decide +kernel)
theorem dL_law_1124 : decode cL_law 1124 = .ok (.iconst 1, 1) := dz_e0 dz_4 hI_L_law (by decide +kernel)
theorem dL_law_1125 : decode cL_law 1125 = .ok (.iadd, 1) := dz_e0 dz_96 hI_L_law (by decide +kernel)
theorem dL_law_1126 : decode cL_law 1126 = .ok (.iaload, 1) := dz_e0 dz_46 hI_L_law (by decide +kernel)
theorem dL_law_1127 : decode cL_law 1127 = .ok (.aload_n 0, 1) := dz_e0 dz_42 hI_L_law (by decide +kernel)
theorem dL_law_1128 : decode cL_law 1128 = .ok (.iload 4, 2) := dz_e1 dz_21 hI_L_law (by decide +kernel)
theorem dL_law_1130 : decode cL_law 1130 = .ok (.iconst 2, 1) := dz_e0 dz_5 hI_L_law (by decide +kernel)
theorem dL_law_1131 : decode cL_law 1131 = .ok (.iadd, 1) := dz_e0 dz_96 hI_L_law (by decide +kernel)
theorem dL_law_1132 : decode cL_law 1132 = .ok (.iaload, 1) := dz_e0 dz_46 hI_L_law (by decide +kernel)
theorem dL_law_1133 : decode cL_law 1133 = .ok (.aload_n 0, 1) := dz_e0 dz_42 hI_L_law (by decide +kernel)
theorem dL_law_1134 : decode cL_law 1134 = .ok (.iload 4, 2) := dz_e1 dz_21 hI_L_law (by decide +kernel)
theorem dL_law_1136 : decode cL_law 1136 = .ok (.iconst 3, 1) := dz_e0 dz_6 hI_L_law (by decide +kernel)
theorem dL_law_1137 : decode cL_law 1137 = .ok (.iadd, 1) := dz_e0 dz_96 hI_L_law (by decide +kernel)
theorem dL_law_1138 : decode cL_law 1138 = .ok (.iaload, 1) := dz_e0 dz_46 hI_L_law (by decide +kernel)
theorem dL_law_1139 : decode cL_law 1139 = .ok (.aload_n 0, 1) := dz_e0 dz_42 hI_L_law (by decide +kernel)
theorem dL_law_1140 : decode cL_law 1140 = .ok (.iload 4, 2) := dz_e1 dz_21 hI_L_law (by decide +kernel)
theorem dL_law_1142 : decode cL_law 1142 = .ok (.iconst 4, 1) := dz_e0 dz_7 hI_L_law (by decide +kernel)
theorem dL_law_1143 : decode cL_law 1143 = .ok (.iadd, 1) := dz_e0 dz_96 hI_L_law (by decide +kernel)
theorem dL_law_1144 : decode cL_law 1144 = .ok (.iaload, 1) := dz_e0 dz_46 hI_L_law (by decide +kernel)
theorem dL_law_1145 : decode cL_law 1145 = .ok (.invokevirtual 198, 3) := dz_e2 dz_182 hI_L_law (by decide +kernel)
theorem dL_law_1148 : decode cL_law 1148 = .ok (.istore 6, 2) := dz_e1 dz_54 hI_L_law (by decide +kernel)
theorem dL_law_1150 : decode cL_law 1150 = .ok (.goto 730, 3) := dz_f2 dz_167 hI_L_law (by decide +kernel)
set_option maxHeartbeats 4000000 in
set_option maxRecDepth 100000 in
theorem lc_15 : Lc 1089 := by
  intro κ p l e s m args below meth c A ret b L o i xs a a2 r2 r q q2 f f2 n v cells slots Q H locs ls hst hX hx9 hbl hbA hi hL hok hm hr hB hl hc hs kk
  have hx := hX.1.1
  have hb := hX.1.2.1
  refine lv_aload_n hx hb dL_law_1089 rfl (lv_at hl 1 rfl) ?_
  obtain ⟨z1, e1⟩ : ∃ z, xs (6 * i + 1) = z := ⟨_, rfl⟩
  refine lv_scr (k := 1) hX hB hx9 hbl hbA hi hL hl dL_law_1090 dL_law_1091 dL_law_1093 dL_law_1094 dL_law_1095 (by decide) (by decide) e1 ?_
  obtain ⟨z2, e2⟩ : ∃ z, xs (6 * i + 2) = z := ⟨_, rfl⟩
  refine lv_scr (k := 2) hX hB hx9 hbl hbA hi hL hl dL_law_1096 dL_law_1097 dL_law_1099 dL_law_1100 dL_law_1101 (by decide) (by decide) e2 ?_
  obtain ⟨z3, e3⟩ : ∃ z, xs (6 * i + 3) = z := ⟨_, rfl⟩
  refine lv_scr (k := 3) hX hB hx9 hbl hbA hi hL hl dL_law_1102 dL_law_1103 dL_law_1105 dL_law_1106 dL_law_1107 (by decide) (by decide) e3 ?_
  obtain ⟨z4, e4⟩ : ∃ z, xs (6 * i + 4) = z := ⟨_, rfl⟩
  refine lv_scr (k := 4) hX hB hx9 hbl hbA hi hL hl dL_law_1108 dL_law_1109 dL_law_1111 dL_law_1112 dL_law_1113 (by decide) (by decide) e4 ?_
  refine lv_aload_n hx hb dL_law_1114 rfl (lv_at hl 3 rfl) ?_
  replace hB := Lw_1 hB
  obtain ⟨Y, hY⟩ : ∃ Y, D_X5_solve r q f z1 z2 z3 z4 = Y := ⟨_, rfl⟩
  refine call_SW (n := 6) (As := [.ref (a 0), .int z1, .int z2, .int z3, .int z4, .ref o]) (rest := []) hX hB (CMW_frame (mw κ a2 r2 f2 q2 (tb a2) []) (w_solve κ l hst a r q f o n v z1 z2 z3 z4 hok Y hY)) ⟨by decide, by decide, by decide +kernel⟩ wm_3_178 wm_3_179 wm_1_0 wm_3_180 ⟨Nat.le_of_ble_eq_true rfl, Nat.le_of_ble_eq_true rfl⟩ ⟨by show _ ≤ 600128; omega, by show _ ≤ 7301098; omega⟩ rfl hl.1 rfl (Nat.le_of_ble_eq_true rfl) dL_law_1115 (fun o9 w' H locs hp hB => ?_)
  obtain ⟨_, ⟨x1, n1, v1, rfl, ho, hq, hW, rfl⟩, rfl⟩ := hp
  refine W.eq (g2 := F0 m 1118 ls [.int x1]) rfl ?_
  refine lv_istore (lv' := [(5, .int x1), (0, .ref b), (1, .ref (a 0)), (2, .ref (a2 0)), (3, .ref o), (4, .int (nI (6 * i)))]) hx hb dL_law_1118 hl (by decide) rfl (fun ls hl => ?_)
  have hl0 := hl
  replace hl : lv_has ls 7 (Lv b (a 0) (a2 0) o i) := lv_sub hl [1, 2, 3, 4, 5] rfl
  refine lv_aload_n hx hb dL_law_1120 rfl (lv_at hl 2 rfl) ?_
  refine lv_scr (k := 1) hX hB hx9 hbl hbA hi hL hl dL_law_1121 dL_law_1122 dL_law_1124 dL_law_1125 dL_law_1126 (by decide) (by decide) e1 ?_
  refine lv_scr (k := 2) hX hB hx9 hbl hbA hi hL hl dL_law_1127 dL_law_1128 dL_law_1130 dL_law_1131 dL_law_1132 (by decide) (by decide) e2 ?_
  refine lv_scr (k := 3) hX hB hx9 hbl hbA hi hL hl dL_law_1133 dL_law_1134 dL_law_1136 dL_law_1137 dL_law_1138 (by decide) (by decide) e3 ?_
  refine lv_scr (k := 4) hX hB hx9 hbl hbA hi hL hl dL_law_1139 dL_law_1140 dL_law_1142 dL_law_1143 dL_law_1144 (by decide) (by decide) e4 ?_
  replace hB := Lw_2 hB
  obtain ⟨Z, hZ⟩ : ∃ Z, D_X10_solve r2 f2 q2 z1 z2 z3 z4 = Z := ⟨_, rfl⟩
  refine call_V (n := 4) (k0 := 0) (As := [.int z1, .int z2, .int z3, .int z4]) (rest := []) hX hB (k_X10_solve κ l (cw κ a Y.2.2.1 Y.2.2.2.1 Y.2.2.2.2 ++ [Ot o n1 v1]) a2 r2 f2 q2 z1 z2 z3 z4 hm _ _ _ _ (hZ.trans (te4 Z))) ⟨rfl, by decide, by decide, by decide +kernel⟩ wm_7_10 wm_7_11 wm_7_12 wm_1_6 wm_7_13 ⟨Nat.le_of_ble_eq_true rfl, Nat.le_of_ble_eq_true rfl⟩ ⟨by show _ ≤ 600128; omega, by show _ ≤ 7301098; omega⟩ mw0 rfl rfl rfl hl.1 rfl (Nat.le_of_ble_eq_true rfl) dL_law_1145 (fun o9 w' H locs hp hB => ?_)
  obtain ⟨a3, rfl, hf0, hf1, hf2, rfl⟩ := hp
  have hO : Ok Y Z := by rw [← hY, ← hZ]; exact solve_eq hr
  refine W.eq (g2 := F0 m 1148 ls [.int Z.1]) rfl ?_
  refine lv_istore (lv' := [(6, .int Z.1), (5, .int x1), (0, .ref b), (1, .ref (a 0)), (2, .ref (a2 0)), (3, .ref o), (4, .int (nI (6 * i)))]) hx hb dL_law_1148 hl0 (by decide) rfl (fun ls hl => ?_)
  have hl0 := hl
  replace hl : lv_has ls 7 (Lv b (a 0) (a2 0) o i) := lv_sub hl [2, 3, 4, 5, 6] rfl
  refine lv_goto (tgt := 1880) hx hb dL_law_1150 (by decide) ?_
  replace hB := Lw_3 hB
  refine W.widen (k := cells + 100) (n := slots + 70000) (by omega) (by omega) ?_
  exact kk _ _ _ _ _ _ _ _ _ _ _ _ (ho hok) hf1 hO.1 hf0 hB hl
theorem dL_law_1153 : decode cL_law 1153 = .ok (.aload_n 1, 1) := dz_e0 dz_43 hI_L_law (by decide +kernel)
theorem dL_law_1154 : decode cL_law 1154 = .ok (.aload_n 0, 1) := dz_e0 dz_42 hI_L_law (by decide +kernel)
theorem dL_law_1155 : decode cL_law 1155 = .ok (.iload 4, 2) := dz_e1 dz_21 hI_L_law (by decide +kernel)
theorem dL_law_1157 : decode cL_law 1157 = .ok (.iconst 1, 1) := dz_e0 dz_4 hI_L_law (by decide +kernel)
theorem dL_law_1158 : decode cL_law 1158 = .ok (.iadd, 1) := dz_e0 dz_96 hI_L_law (by decide +kernel)
theorem dL_law_1159 : decode cL_law 1159 = .ok (.iaload, 1) := dz_e0 dz_46 hI_L_law (by decide +kernel)
theorem dL_law_1160 : decode cL_law 1160 = .ok (.aload_n 0, 1) := dz_e0 dz_42 hI_L_law (by decide +kernel)
theorem dL_law_1161 : decode cL_law 1161 = .ok (.iload 4, 2) := dz_e1 dz_21 hI_L_law (by decide +kernel)
theorem dL_law_1163 : decode cL_law 1163 = .ok (.iconst 2, 1) := dz_e0 dz_5 hI_L_law (by decide +kernel)
theorem dL_law_1164 : decode cL_law 1164 = .ok (.iadd, 1) := dz_e0 dz_96 hI_L_law (by decide +kernel)
theorem dL_law_1165 : decode cL_law 1165 = .ok (.iaload, 1) := dz_e0 dz_46 hI_L_law (by decide +kernel)
theorem dL_law_1166 : decode cL_law 1166 = .ok (.ifCond .eq 7, 3) := dz_f2 dz_153 hI_L_law (by decide +kernel)
theorem dL_law_1169 : decode cL_law 1169 = .ok (.iconst 1, 1) := dz_e0 dz_4 hI_L_law (by decide +kernel)
theorem dL_law_1170 : decode cL_law 1170 = .ok (.goto 4, 3) := dz_f2 dz_167 hI_L_law (by decide +kernel)
theorem dL_law_1173 : decode cL_law 1173 = .ok (.iconst 0, 1) := dz_e0 dz_3 hI_L_law (by decide +kernel)
theorem dL_law_1174 : decode cL_law 1174 = .ok (.aload_n 3, 1) := dz_e0 dz_45 hI_L_law (by decide +kernel)
theorem dL_law_1175 : decode cL_law 1175 = .ok (.invokestatic 199, 3) := dz_e2 dz_184 hI_L_law (by decide +kernel)
theorem dL_law_1178 : decode cL_law 1178 = .ok (.istore 5, 2) := dz_e1 dz_54 hI_L_law (by decide +kernel)
theorem dL_law_1180 : decode cL_law 1180 = .ok (.aload_n 2, 1) := dz_e0 dz_44 hI_L_law (by decide +kernel)
theorem dL_law_1181 : decode cL_law 1181 = .ok (.aload_n 0, 1) := dz_e0 dz_42 hI_L_law (by decide +kernel)
theorem dL_law_1182 : decode cL_law 1182 = .ok (.iload 4, 2) := dz_e1 dz_21 hI_L_law (by decide +kernel)
theorem dL_law_1184 : decode cL_law 1184 = .ok (.iconst 1, 1) := dz_e0 dz_4 hI_L_law (by decide +kernel)
theorem dL_law_1185 : decode cL_law 1185 = .ok (.iadd, 1) := dz_e0 dz_96 hI_L_law (by decide +kernel)
theorem dL_law_1186 : decode cL_law 1186 = .ok (.iaload, 1) := dz_e0 dz_46 hI_L_law (by decide +kernel)
theorem dL_law_1187 : decode cL_law 1187 = .ok (.aload_n 0, 1) := dz_e0 dz_42 hI_L_law (by decide +kernel)
theorem dL_law_1188 : decode cL_law 1188 = .ok (.iload 4, 2) := dz_e1 dz_21 hI_L_law (by decide +kernel)
theorem dL_law_1190 : decode cL_law 1190 = .ok (.iconst 2, 1) := dz_e0 dz_5 hI_L_law (by decide +kernel)
theorem dL_law_1191 : decode cL_law 1191 = .ok (.iadd, 1) := dz_e0 dz_96 hI_L_law (by decide +kernel)
theorem dL_law_1192 : decode cL_law 1192 = .ok (.iaload, 1) := dz_e0 dz_46 hI_L_law (by decide +kernel)
theorem dL_law_1193 : decode cL_law 1193 = .ok (.ifCond .eq 7, 3) := dz_f2 dz_153 hI_L_law (by decide +kernel)
theorem dL_law_1196 : decode cL_law 1196 = .ok (.iconst 1, 1) := dz_e0 dz_4 hI_L_law (by decide +kernel)
theorem dL_law_1197 : decode cL_law 1197 = .ok (.goto 4, 3) := dz_f2 dz_167 hI_L_law (by decide +kernel)
theorem dL_law_1200 : decode cL_law 1200 = .ok (.iconst 0, 1) := dz_e0 dz_3 hI_L_law (by decide +kernel)
theorem dL_law_1201 : decode cL_law 1201 = .ok (.invokevirtual 201, 3) := dz_e2 dz_182 hI_L_law (by decide +kernel)
theorem dL_law_1204 : decode cL_law 1204 = .ok (.istore 6, 2) := dz_e1 dz_54 hI_L_law (by decide +kernel)
theorem dL_law_1206 : decode cL_law 1206 = .ok (.goto 674, 3) := dz_f2 dz_167 hI_L_law (by decide +kernel)
set_option maxHeartbeats 4000000 in
set_option maxRecDepth 100000 in
theorem lc_16 : Lc 1153 := by
  intro κ p l e s m args below meth c A ret b L o i xs a a2 r2 r q q2 f f2 n v cells slots Q H locs ls hst hX hx9 hbl hbA hi hL hok hm hr hB hl hc hs kk
  have hx := hX.1.1
  have hb := hX.1.2.1
  refine lv_aload_n hx hb dL_law_1153 rfl (lv_at hl 1 rfl) ?_
  obtain ⟨z1, e1⟩ : ∃ z, xs (6 * i + 1) = z := ⟨_, rfl⟩
  refine lv_scr (k := 1) hX hB hx9 hbl hbA hi hL hl dL_law_1154 dL_law_1155 dL_law_1157 dL_law_1158 dL_law_1159 (by decide) (by decide) e1 ?_
  obtain ⟨z2, e2⟩ : ∃ z, xs (6 * i + 2) = z := ⟨_, rfl⟩
  refine lv_scr (k := 2) hX hB hx9 hbl hbA hi hL hl dL_law_1160 dL_law_1161 dL_law_1163 dL_law_1164 dL_law_1165 (by decide) (by decide) e2 ?_
  obtain ⟨y2, dy2⟩ : ∃ z, bz z2 = z := ⟨_, rfl⟩
  refine lv_bool hX dL_law_1166 dL_law_1169 dL_law_1170 dL_law_1173 dy2 ?_
  refine lv_aload_n hx hb dL_law_1174 rfl (lv_at hl 3 rfl) ?_
  replace hB := Lw_1 hB
  obtain ⟨Y, hY⟩ : ∃ Y, D_X5_shape r q f z1 y2 = Y := ⟨_, rfl⟩
  refine call_SW (n := 4) (As := [.ref (a 0), .int z1, .int y2, .ref o]) (rest := []) hX hB (CMW_frame (mw κ a2 r2 f2 q2 (tb a2) []) (w_shape κ l hst a r q f o n v z1 y2 hok Y hY)) ⟨by decide, by decide, by decide +kernel⟩ wm_3_209 wm_3_210 wm_1_0 wm_3_211 ⟨Nat.le_of_ble_eq_true rfl, Nat.le_of_ble_eq_true rfl⟩ ⟨by show _ ≤ 600128; omega, by show _ ≤ 7301098; omega⟩ rfl hl.1 rfl (Nat.le_of_ble_eq_true rfl) dL_law_1175 (fun o9 w' H locs hp hB => ?_)
  obtain ⟨_, ⟨x1, n1, v1, rfl, ho, hq, hW, rfl⟩, rfl⟩ := hp
  refine W.eq (g2 := F0 m 1178 ls [.int x1]) rfl ?_
  refine lv_istore (lv' := [(5, .int x1), (0, .ref b), (1, .ref (a 0)), (2, .ref (a2 0)), (3, .ref o), (4, .int (nI (6 * i)))]) hx hb dL_law_1178 hl (by decide) rfl (fun ls hl => ?_)
  have hl0 := hl
  replace hl : lv_has ls 7 (Lv b (a 0) (a2 0) o i) := lv_sub hl [1, 2, 3, 4, 5] rfl
  refine lv_aload_n hx hb dL_law_1180 rfl (lv_at hl 2 rfl) ?_
  refine lv_scr (k := 1) hX hB hx9 hbl hbA hi hL hl dL_law_1181 dL_law_1182 dL_law_1184 dL_law_1185 dL_law_1186 (by decide) (by decide) e1 ?_
  refine lv_scr (k := 2) hX hB hx9 hbl hbA hi hL hl dL_law_1187 dL_law_1188 dL_law_1190 dL_law_1191 dL_law_1192 (by decide) (by decide) e2 ?_
  refine lv_bool hX dL_law_1193 dL_law_1196 dL_law_1197 dL_law_1200 dy2 ?_
  replace hB := Lw_2 hB
  obtain ⟨Z, hZ⟩ : ∃ Z, D_X10_shape r2 f2 q2 z1 y2 = Z := ⟨_, rfl⟩
  refine call_V (n := 2) (k0 := 0) (As := [.int z1, .int y2]) (rest := []) hX hB (k_X10_shape κ l (cw κ a Y.2.2.1 Y.2.2.2.1 Y.2.2.2.2 ++ [Ot o n1 v1]) a2 r2 f2 q2 z1 y2 hm _ _ (hZ.trans (te2 Z))) ⟨rfl, by decide, by decide, by decide +kernel⟩ wm_7_22 wm_7_23 wm_7_24 wm_1_6 wm_7_25 ⟨Nat.le_of_ble_eq_true rfl, Nat.le_of_ble_eq_true rfl⟩ ⟨by show _ ≤ 600128; omega, by show _ ≤ 7301098; omega⟩ mw0 rfl rfl rfl hl.1 rfl (Nat.le_of_ble_eq_true rfl) dL_law_1201 (fun o9 w' H locs hp hB => ?_)
  obtain ⟨rfl, hfq, rfl⟩ := hp
  have hK : RA r2 f2 q2 Y := by rw [← hY]; exact kp_shape hr
  refine W.eq (g2 := F0 m 1204 ls [.int Z.1]) rfl ?_
  refine lv_istore (lv' := [(6, .int Z.1), (5, .int x1), (0, .ref b), (1, .ref (a 0)), (2, .ref (a2 0)), (3, .ref o), (4, .int (nI (6 * i)))]) hx hb dL_law_1204 hl0 (by decide) rfl (fun ls hl => ?_)
  have hl0 := hl
  replace hl : lv_has ls 7 (Lv b (a 0) (a2 0) o i) := lv_sub hl [2, 3, 4, 5, 6] rfl
  refine lv_goto (tgt := 1880) hx hb dL_law_1206 (by decide) ?_
  replace hB := Lw_3 hB
  refine W.widen (k := cells + 100) (n := slots + 70000) (by omega) (by omega) ?_
  exact kk _ _ _ _ _ _ _ _ _ _ _ _ (ho hok) hm (Rl_q hK hfq) rfl hB hl
theorem dL_law_1209 : decode cL_law 1209 = .ok (.aload_n 1, 1) := dz_e0 dz_43 hI_L_law (by decide +kernel)
theorem dL_law_1210 : decode cL_law 1210 = .ok (.aload_n 0, 1) := dz_e0 dz_42 hI_L_law (by decide +kernel)
theorem dL_law_1211 : decode cL_law 1211 = .ok (.iload 4, 2) := dz_e1 dz_21 hI_L_law (by decide +kernel)
theorem dL_law_1213 : decode cL_law 1213 = .ok (.iconst 1, 1) := dz_e0 dz_4 hI_L_law (by decide +kernel)
theorem dL_law_1214 : decode cL_law 1214 = .ok (.iadd, 1) := dz_e0 dz_96 hI_L_law (by decide +kernel)
theorem dL_law_1215 : decode cL_law 1215 = .ok (.iaload, 1) := dz_e0 dz_46 hI_L_law (by decide +kernel)
theorem dL_law_1216 : decode cL_law 1216 = .ok (.aload_n 0, 1) := dz_e0 dz_42 hI_L_law (by decide +kernel)
theorem dL_law_1217 : decode cL_law 1217 = .ok (.iload 4, 2) := dz_e1 dz_21 hI_L_law (by decide +kernel)
theorem dL_law_1219 : decode cL_law 1219 = .ok (.iconst 2, 1) := dz_e0 dz_5 hI_L_law (by decide +kernel)
theorem dL_law_1220 : decode cL_law 1220 = .ok (.iadd, 1) := dz_e0 dz_96 hI_L_law (by decide +kernel)
theorem dL_law_1221 : decode cL_law 1221 = .ok (.iaload, 1) := dz_e0 dz_46 hI_L_law (by decide +kernel)
theorem dL_law_1222 : decode cL_law 1222 = .ok (.aload_n 0, 1) := dz_e0 dz_42 hI_L_law (by decide +kernel)
theorem dL_law_1223 : decode cL_law 1223 = .ok (.iload 4, 2) := dz_e1 dz_21 hI_L_law (by decide +kernel)
theorem dL_law_1225 : decode cL_law 1225 = .ok (.iconst 3, 1) := dz_e0 dz_6 hI_L_law (by decide +kernel)
theorem dL_law_1226 : decode cL_law 1226 = .ok (.iadd, 1) := dz_e0 dz_96 hI_L_law (by decide +kernel)
theorem dL_law_1227 : decode cL_law 1227 = .ok (.iaload, 1) := dz_e0 dz_46 hI_L_law (by decide +kernel)
theorem dL_law_1228 : decode cL_law 1228 = .ok (.aload_n 3, 1) := dz_e0 dz_45 hI_L_law (by decide +kernel)
theorem dL_law_1229 : decode cL_law 1229 = .ok (.invokestatic 202, 3) := dz_e2 dz_184 hI_L_law (by decide +kernel)
theorem dL_law_1232 : decode cL_law 1232 = .ok (.istore 5, 2) := dz_e1 dz_54 hI_L_law (by decide +kernel)
theorem dL_law_1234 : decode cL_law 1234 = .ok (.aload_n 2, 1) := dz_e0 dz_44 hI_L_law (by decide +kernel)
theorem dL_law_1235 : decode cL_law 1235 = .ok (.aload_n 0, 1) := dz_e0 dz_42 hI_L_law (by decide +kernel)
theorem dL_law_1236 : decode cL_law 1236 = .ok (.iload 4, 2) := dz_e1 dz_21 hI_L_law (by decide +kernel)
theorem dL_law_1238 : decode cL_law 1238 = .ok (.iconst 1, 1) := dz_e0 dz_4 hI_L_law (by decide +kernel)
theorem dL_law_1239 : decode cL_law 1239 = .ok (.iadd, 1) := dz_e0 dz_96 hI_L_law (by decide +kernel)
theorem dL_law_1240 : decode cL_law 1240 = .ok (.iaload, 1) := dz_e0 dz_46 hI_L_law (by decide +kernel)
theorem dL_law_1241 : decode cL_law 1241 = .ok (.aload_n 0, 1) := dz_e0 dz_42 hI_L_law (by decide +kernel)
theorem dL_law_1242 : decode cL_law 1242 = .ok (.iload 4, 2) := dz_e1 dz_21 hI_L_law (by decide +kernel)
theorem dL_law_1244 : decode cL_law 1244 = .ok (.iconst 2, 1) := dz_e0 dz_5 hI_L_law (by decide +kernel)
theorem dL_law_1245 : decode cL_law 1245 = .ok (.iadd, 1) := dz_e0 dz_96 hI_L_law (by decide +kernel)
theorem dL_law_1246 : decode cL_law 1246 = .ok (.iaload, 1) := dz_e0 dz_46 hI_L_law (by decide +kernel)
theorem dL_law_1247 : decode cL_law 1247 = .ok (.aload_n 0, 1) := dz_e0 dz_42 hI_L_law (by decide +kernel)
theorem dL_law_1248 : decode cL_law 1248 = .ok (.iload 4, 2) := dz_e1 dz_21 hI_L_law (by decide +kernel)
theorem dL_law_1250 : decode cL_law 1250 = .ok (.iconst 3, 1) := dz_e0 dz_6 hI_L_law (by decide +kernel)
theorem dL_law_1251 : decode cL_law 1251 = .ok (.iadd, 1) := dz_e0 dz_96 hI_L_law (by decide +kernel)
theorem dL_law_1252 : decode cL_law 1252 = .ok (.iaload, 1) := dz_e0 dz_46 hI_L_law (by decide +kernel)
theorem dL_law_1253 : decode cL_law 1253 = .ok (.invokevirtual 204, 3) := dz_e2 dz_182 hI_L_law (by decide +kernel)
theorem dL_law_1256 : decode cL_law 1256 = .ok (.istore 6, 2) := dz_e1 dz_54 hI_L_law (by decide +kernel)
theorem dL_law_1258 : decode cL_law 1258 = .ok (.goto 622, 3) := dz_f2 dz_167 hI_L_law (by decide +kernel)
set_option maxHeartbeats 4000000 in
set_option maxRecDepth 100000 in
theorem lc_17 : Lc 1209 := by
  intro κ p l e s m args below meth c A ret b L o i xs a a2 r2 r q q2 f f2 n v cells slots Q H locs ls hst hX hx9 hbl hbA hi hL hok hm hr hB hl hc hs kk
  have hx := hX.1.1
  have hb := hX.1.2.1
  refine lv_aload_n hx hb dL_law_1209 rfl (lv_at hl 1 rfl) ?_
  obtain ⟨z1, e1⟩ : ∃ z, xs (6 * i + 1) = z := ⟨_, rfl⟩
  refine lv_scr (k := 1) hX hB hx9 hbl hbA hi hL hl dL_law_1210 dL_law_1211 dL_law_1213 dL_law_1214 dL_law_1215 (by decide) (by decide) e1 ?_
  obtain ⟨z2, e2⟩ : ∃ z, xs (6 * i + 2) = z := ⟨_, rfl⟩
  refine lv_scr (k := 2) hX hB hx9 hbl hbA hi hL hl dL_law_1216 dL_law_1217 dL_law_1219 dL_law_1220 dL_law_1221 (by decide) (by decide) e2 ?_
  obtain ⟨z3, e3⟩ : ∃ z, xs (6 * i + 3) = z := ⟨_, rfl⟩
  refine lv_scr (k := 3) hX hB hx9 hbl hbA hi hL hl dL_law_1222 dL_law_1223 dL_law_1225 dL_law_1226 dL_law_1227 (by decide) (by decide) e3 ?_
  refine lv_aload_n hx hb dL_law_1228 rfl (lv_at hl 3 rfl) ?_
  replace hB := Lw_1 hB
  obtain ⟨Y, hY⟩ : ∃ Y, D_X5_at r q f z1 z2 z3 = Y := ⟨_, rfl⟩
  refine call_SW (n := 5) (As := [.ref (a 0), .int z1, .int z2, .int z3, .ref o]) (rest := []) hX hB (CMW_frame (mw κ a2 r2 f2 q2 (tb a2) []) (w_at κ l hst a r q f o n v z1 z2 z3 hok Y hY)) ⟨by decide, by decide, by decide +kernel⟩ wm_3_216 wm_3_217 wm_1_0 wm_3_218 ⟨Nat.le_of_ble_eq_true rfl, Nat.le_of_ble_eq_true rfl⟩ ⟨by show _ ≤ 600128; omega, by show _ ≤ 7301098; omega⟩ rfl hl.1 rfl (Nat.le_of_ble_eq_true rfl) dL_law_1229 (fun o9 w' H locs hp hB => ?_)
  obtain ⟨_, ⟨x1, n1, v1, rfl, ho, hq, hW, rfl⟩, rfl⟩ := hp
  refine W.eq (g2 := F0 m 1232 ls [.int x1]) rfl ?_
  refine lv_istore (lv' := [(5, .int x1), (0, .ref b), (1, .ref (a 0)), (2, .ref (a2 0)), (3, .ref o), (4, .int (nI (6 * i)))]) hx hb dL_law_1232 hl (by decide) rfl (fun ls hl => ?_)
  have hl0 := hl
  replace hl : lv_has ls 7 (Lv b (a 0) (a2 0) o i) := lv_sub hl [1, 2, 3, 4, 5] rfl
  refine lv_aload_n hx hb dL_law_1234 rfl (lv_at hl 2 rfl) ?_
  refine lv_scr (k := 1) hX hB hx9 hbl hbA hi hL hl dL_law_1235 dL_law_1236 dL_law_1238 dL_law_1239 dL_law_1240 (by decide) (by decide) e1 ?_
  refine lv_scr (k := 2) hX hB hx9 hbl hbA hi hL hl dL_law_1241 dL_law_1242 dL_law_1244 dL_law_1245 dL_law_1246 (by decide) (by decide) e2 ?_
  refine lv_scr (k := 3) hX hB hx9 hbl hbA hi hL hl dL_law_1247 dL_law_1248 dL_law_1250 dL_law_1251 dL_law_1252 (by decide) (by decide) e3 ?_
  replace hB := Lw_2 hB
  obtain ⟨Z, hZ⟩ : ∃ Z, D_X10_at r2 f2 q2 z1 z2 z3 = Z := ⟨_, rfl⟩
  refine call_V (n := 3) (k0 := 0) (As := [.int z1, .int z2, .int z3]) (rest := []) hX hB (k_X10_at κ l (cw κ a Y.2.2.1 Y.2.2.2.1 Y.2.2.2.2 ++ [Ot o n1 v1]) a2 r2 f2 q2 z1 z2 z3 hm _ _ (hZ.trans (te2 Z))) ⟨rfl, by decide, by decide, by decide +kernel⟩ wm_7_26 wm_7_27 wm_7_28 wm_1_6 wm_7_29 ⟨Nat.le_of_ble_eq_true rfl, Nat.le_of_ble_eq_true rfl⟩ ⟨by show _ ≤ 600128; omega, by show _ ≤ 7301098; omega⟩ mw0 rfl rfl rfl hl.1 rfl (Nat.le_of_ble_eq_true rfl) dL_law_1253 (fun o9 w' H locs hp hB => ?_)
  obtain ⟨rfl, hfq, rfl⟩ := hp
  have hK : RA r2 f2 q2 Y := by rw [← hY]; exact kp_at hr
  refine W.eq (g2 := F0 m 1256 ls [.int Z.1]) rfl ?_
  refine lv_istore (lv' := [(6, .int Z.1), (5, .int x1), (0, .ref b), (1, .ref (a 0)), (2, .ref (a2 0)), (3, .ref o), (4, .int (nI (6 * i)))]) hx hb dL_law_1256 hl0 (by decide) rfl (fun ls hl => ?_)
  have hl0 := hl
  replace hl : lv_has ls 7 (Lv b (a 0) (a2 0) o i) := lv_sub hl [2, 3, 4, 5, 6] rfl
  refine lv_goto (tgt := 1880) hx hb dL_law_1258 (by decide) ?_
  replace hB := Lw_3 hB
  refine W.widen (k := cells + 100) (n := slots + 70000) (by omega) (by omega) ?_
  exact kk _ _ _ _ _ _ _ _ _ _ _ _ (ho hok) hm (Rl_q hK hfq) rfl hB hl
