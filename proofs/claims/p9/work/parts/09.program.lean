/-! classes, fields, methods -/
theorem inzX1 : ∀ w ∈ u_ws RX1 TX1 8, w ∈ zT := by
  intro w hw
  obtain ⟨k, hk, rfl⟩ := List.mem_map.mp hw
  have hk := List.mem_range.mp hk
  match k, hk with
  | 0, _ => exact zw313
  | 1, _ => exact zw315
  | 2, _ => exact zw317
  | 3, _ => exact zw319
  | 4, _ => exact zw321
  | 5, _ => exact zw323
  | 6, _ => exact zw325
  | 7, _ => exact zw327
  | j + 8, hj => exact absurd hj (by omega)
theorem clX1 : zCls 0 RX1 TX1 8 := ⟨rfl, inzX1, nmX1, tyX1_ok⟩
theorem dvX1 : ∀ j, j < 8 → defaultValue (zty 0 j) = (match zkind (zty 0 j) with | 0 => .int 0 | 1 => .long 0 | _ => .null) := by decide +kernel
theorem inzX2 : ∀ w ∈ u_ws RX2 TX2 6, w ∈ zT := by
  intro w hw
  obtain ⟨k, hk, rfl⟩ := List.mem_map.mp hw
  have hk := List.mem_range.mp hk
  match k, hk with
  | 0, _ => exact zw234
  | 1, _ => exact zw236
  | 2, _ => exact zw238
  | 3, _ => exact zw240
  | 4, _ => exact zw242
  | 5, _ => exact zw244
  | j + 6, hj => exact absurd hj (by omega)
theorem clX2 : zCls 1 RX2 TX2 6 := ⟨rfl, inzX2, nmX2, tyX2_ok⟩
theorem dvX2 : ∀ j, j < 6 → defaultValue (zty 1 j) = (match zkind (zty 1 j) with | 0 => .int 0 | 1 => .long 0 | _ => .null) := by decide +kernel
theorem inzX3 : ∀ w ∈ u_ws RX3 TX3 4, w ∈ zT := by
  intro w hw
  obtain ⟨k, hk, rfl⟩ := List.mem_map.mp hw
  have hk := List.mem_range.mp hk
  match k, hk with
  | 0, _ => exact zw211
  | 1, _ => exact zw213
  | 2, _ => exact zw215
  | 3, _ => exact zw217
  | j + 4, hj => exact absurd hj (by omega)
theorem clX3 : zCls 2 RX3 TX3 4 := ⟨rfl, inzX3, nmX3, tyX3_ok⟩
theorem dvX3 : ∀ j, j < 4 → defaultValue (zty 2 j) = (match zkind (zty 2 j) with | 0 => .int 0 | 1 => .long 0 | _ => .null) := by decide +kernel
theorem inzX4 : ∀ w ∈ u_ws RX4 TX4 8, w ∈ zT := by
  intro w hw
  obtain ⟨k, hk, rfl⟩ := List.mem_map.mp hw
  have hk := List.mem_range.mp hk
  match k, hk with
  | 0, _ => exact zw123
  | 1, _ => exact zw125
  | 2, _ => exact zw127
  | 3, _ => exact zw129
  | 4, _ => exact zw131
  | 5, _ => exact zw133
  | 6, _ => exact zw135
  | 7, _ => exact zw137
  | j + 8, hj => exact absurd hj (by omega)
theorem clX4 : zCls 3 RX4 TX4 8 := ⟨rfl, inzX4, nmX4, tyX4_ok⟩
theorem dvX4 : ∀ j, j < 8 → defaultValue (zty 3 j) = (match zkind (zty 3 j) with | 0 => .int 0 | 1 => .long 0 | _ => .null) := by decide +kernel
theorem inzX5 : ∀ w ∈ u_ws RX5 TX5 9, w ∈ zT := by
  intro w hw
  obtain ⟨k, hk, rfl⟩ := List.mem_map.mp hw
  have hk := List.mem_range.mp hk
  match k, hk with
  | 0, _ => exact zw274
  | 1, _ => exact zw276
  | 2, _ => exact zw278
  | 3, _ => exact zw280
  | 4, _ => exact zw282
  | 5, _ => exact zw284
  | 6, _ => exact zw286
  | 7, _ => exact zw288
  | 8, _ => exact zw290
  | j + 9, hj => exact absurd hj (by omega)
theorem clX5 : zCls 4 RX5 TX5 9 := ⟨rfl, inzX5, nmX5, tyX5_ok⟩
theorem dvX5 : ∀ j, j < 9 → defaultValue (zty 4 j) = (match zkind (zty 4 j) with | 0 => .int 0 | 1 => .long 0 | _ => .null) := by decide +kernel
theorem inzX6 : ∀ w ∈ u_ws RX6 TX6 6, w ∈ zT := by
  intro w hw
  obtain ⟨k, hk, rfl⟩ := List.mem_map.mp hw
  have hk := List.mem_range.mp hk
  match k, hk with
  | 0, _ => exact zw187
  | 1, _ => exact zw189
  | 2, _ => exact zw191
  | 3, _ => exact zw193
  | 4, _ => exact zw195
  | 5, _ => exact zw197
  | j + 6, hj => exact absurd hj (by omega)
theorem clX6 : zCls 5 RX6 TX6 6 := ⟨rfl, inzX6, nmX6, tyX6_ok⟩
theorem dvX6 : ∀ j, j < 6 → defaultValue (zty 5 j) = (match zkind (zty 5 j) with | 0 => .int 0 | 1 => .long 0 | _ => .null) := by decide +kernel
theorem inzX7 : ∀ w ∈ u_ws RX7 TX7 7, w ∈ zT := by
  intro w hw
  obtain ⟨k, hk, rfl⟩ := List.mem_map.mp hw
  have hk := List.mem_range.mp hk
  match k, hk with
  | 0, _ => exact zw156
  | 1, _ => exact zw158
  | 2, _ => exact zw160
  | 3, _ => exact zw162
  | 4, _ => exact zw164
  | 5, _ => exact zw166
  | 6, _ => exact zw168
  | j + 7, hj => exact absurd hj (by omega)
theorem clX7 : zCls 6 RX7 TX7 7 := ⟨rfl, inzX7, nmX7, tyX7_ok⟩
theorem dvX7 : ∀ j, j < 7 → defaultValue (zty 6 j) = (match zkind (zty 6 j) with | 0 => .int 0 | 1 => .long 0 | _ => .null) := by decide +kernel
theorem inzX8 : ∀ w ∈ u_ws RX8 TX8 18, w ∈ zT := by
  intro w hw
  obtain ⟨k, hk, rfl⟩ := List.mem_map.mp hw
  have hk := List.mem_range.mp hk
  match k, hk with
  | 0, _ => exact zw348
  | 1, _ => exact zw350
  | 2, _ => exact zw352
  | 3, _ => exact zw354
  | 4, _ => exact zw356
  | 5, _ => exact zw358
  | 6, _ => exact zw360
  | 7, _ => exact zw362
  | 8, _ => exact zw364
  | 9, _ => exact zw366
  | 10, _ => exact zw368
  | 11, _ => exact zw370
  | 12, _ => exact zw372
  | 13, _ => exact zw374
  | 14, _ => exact zw376
  | 15, _ => exact zw378
  | 16, _ => exact zw380
  | 17, _ => exact zw382
  | j + 18, hj => exact absurd hj (by omega)
theorem clX8 : zCls 7 RX8 TX8 18 := ⟨rfl, inzX8, nmX8, tyX8_ok⟩
theorem dvX8 : ∀ j, j < 18 → defaultValue (zty 7 j) = (match zkind (zty 7 j) with | 0 => .int 0 | 1 => .long 0 | _ => .null) := by decide +kernel
theorem inzX9 : ∀ w ∈ u_ws RX9 TX9 53, w ∈ zT := by
  intro w hw
  obtain ⟨k, hk, rfl⟩ := List.mem_map.mp hw
  have hk := List.mem_range.mp hk
  match k, hk with
  | 0, _ => exact zw1003
  | 1, _ => exact zw1005
  | 2, _ => exact zw1007
  | 3, _ => exact zw1009
  | 4, _ => exact zw1011
  | 5, _ => exact zw1013
  | 6, _ => exact zw1015
  | 7, _ => exact zw1017
  | 8, _ => exact zw1019
  | 9, _ => exact zw1021
  | 10, _ => exact zw1023
  | 11, _ => exact zw1025
  | 12, _ => exact zw1027
  | 13, _ => exact zw1029
  | 14, _ => exact zw1031
  | 15, _ => exact zw1033
  | 16, _ => exact zw1035
  | 17, _ => exact zw1037
  | 18, _ => exact zw1039
  | 19, _ => exact zw1041
  | 20, _ => exact zw1043
  | 21, _ => exact zw1045
  | 22, _ => exact zw1047
  | 23, _ => exact zw1049
  | 24, _ => exact zw1051
  | 25, _ => exact zw1053
  | 26, _ => exact zw1055
  | 27, _ => exact zw1057
  | 28, _ => exact zw1059
  | 29, _ => exact zw1061
  | 30, _ => exact zw1063
  | 31, _ => exact zw1065
  | 32, _ => exact zw1067
  | 33, _ => exact zw1069
  | 34, _ => exact zw1071
  | 35, _ => exact zw1073
  | 36, _ => exact zw1075
  | 37, _ => exact zw1077
  | 38, _ => exact zw1079
  | 39, _ => exact zw1081
  | 40, _ => exact zw1083
  | 41, _ => exact zw1085
  | 42, _ => exact zw1087
  | 43, _ => exact zw1089
  | 44, _ => exact zw1091
  | 45, _ => exact zw1093
  | 46, _ => exact zw1095
  | 47, _ => exact zw1097
  | 48, _ => exact zw1099
  | 49, _ => exact zw1101
  | 50, _ => exact zw1103
  | 51, _ => exact zw1105
  | 52, _ => exact zw1107
  | j + 53, hj => exact absurd hj (by omega)
theorem clX9 : zCls 8 RX9 TX9 53 := ⟨rfl, inzX9, nmX9, tyX9_ok⟩
theorem dvX9 : ∀ j, j < 53 → defaultValue (zty 8 j) = (match zkind (zty 8 j) with | 0 => .int 0 | 1 => .long 0 | _ => .null) := by decide +kernel
theorem F_X4_11 : zFl RX4 11 3 0 true := ⟨_, _, _, clX4, by decide, zw108, rfl, fun _ => rfl⟩
theorem G_X4_11 : zFlg RX4 11 3 0 := zFl_g F_X4_11
theorem G_X8_97 : zFlg RX8 97 3 0 := ⟨_, _, _, clX4, by decide, zw109⟩
theorem F_X4_15 : zFl RX4 15 3 1 true := ⟨_, _, _, clX4, by decide, zw110, rfl, fun _ => rfl⟩
theorem G_X4_15 : zFlg RX4 15 3 1 := zFl_g F_X4_15
theorem G_X8_103 : zFlg RX8 103 3 1 := ⟨_, _, _, clX4, by decide, zw111⟩
theorem F_X4_18 : zFl RX4 18 3 2 true := ⟨_, _, _, clX4, by decide, zw112, rfl, fun _ => rfl⟩
theorem G_X4_18 : zFlg RX4 18 3 2 := zFl_g F_X4_18
theorem G_X8_106 : zFlg RX8 106 3 2 := ⟨_, _, _, clX4, by decide, zw113⟩
theorem F_X4_21 : zFl RX4 21 3 3 true := ⟨_, _, _, clX4, by decide, zw114, rfl, fun _ => rfl⟩
theorem G_X4_21 : zFlg RX4 21 3 3 := zFl_g F_X4_21
theorem G_X8_112 : zFlg RX8 112 3 3 := ⟨_, _, _, clX4, by decide, zw115⟩
theorem F_X4_24 : zFl RX4 24 3 4 true := ⟨_, _, _, clX4, by decide, zw116, rfl, fun _ => rfl⟩
theorem G_X4_24 : zFlg RX4 24 3 4 := zFl_g F_X4_24
theorem G_X8_100 : zFlg RX8 100 3 4 := ⟨_, _, _, clX4, by decide, zw117⟩
theorem F_X4_27 : zFl RX4 27 3 5 true := ⟨_, _, _, clX4, by decide, zw118, rfl, fun _ => rfl⟩
theorem G_X4_27 : zFlg RX4 27 3 5 := zFl_g F_X4_27
theorem G_X8_109 : zFlg RX8 109 3 5 := ⟨_, _, _, clX4, by decide, zw119⟩
theorem F_X4_30 : zFl RX4 30 3 6 true := ⟨_, _, _, clX4, by decide, zw120, rfl, fun _ => rfl⟩
theorem G_X4_30 : zFlg RX4 30 3 6 := zFl_g F_X4_30
theorem F_X8_159 : zFl RX8 159 3 7 false := ⟨_, _, _, clX4, by decide, zw121, rfl, fun h => by cases h⟩
theorem G_X8_159 : zFlg RX8 159 3 7 := zFl_g F_X8_159
theorem F_X4_76 : zFl RX4 76 3 7 false := ⟨_, _, _, clX4, by decide, zw122, rfl, fun h => by cases h⟩
theorem G_X4_76 : zFlg RX4 76 3 7 := zFl_g F_X4_76
theorem F_X7_9 : zFl RX7 9 6 0 true := ⟨_, _, _, clX7, by decide, zw147, rfl, fun _ => rfl⟩
theorem G_X7_9 : zFlg RX7 9 6 0 := zFl_g F_X7_9
theorem F_X7_13 : zFl RX7 13 6 1 true := ⟨_, _, _, clX7, by decide, zw148, rfl, fun _ => rfl⟩
theorem G_X7_13 : zFlg RX7 13 6 1 := zFl_g F_X7_13
theorem F_X7_16 : zFl RX7 16 6 2 true := ⟨_, _, _, clX7, by decide, zw149, rfl, fun _ => rfl⟩
theorem G_X7_16 : zFlg RX7 16 6 2 := zFl_g F_X7_16
theorem F_X7_26 : zFl RX7 26 6 3 false := ⟨_, _, _, clX7, by decide, zw150, rfl, fun h => by cases h⟩
theorem G_X7_26 : zFlg RX7 26 6 3 := zFl_g F_X7_26
theorem F_X7_30 : zFl RX7 30 6 4 false := ⟨_, _, _, clX7, by decide, zw151, rfl, fun h => by cases h⟩
theorem G_X7_30 : zFlg RX7 30 6 4 := zFl_g F_X7_30
theorem F_X7_38 : zFl RX7 38 6 5 false := ⟨_, _, _, clX7, by decide, zw152, rfl, fun h => by cases h⟩
theorem G_X7_38 : zFlg RX7 38 6 5 := zFl_g F_X7_38
theorem F_X8_168 : zFl RX8 168 6 5 false := ⟨_, _, _, clX7, by decide, zw153, rfl, fun h => by cases h⟩
theorem G_X8_168 : zFlg RX8 168 6 5 := zFl_g F_X8_168
theorem F_X7_41 : zFl RX7 41 6 6 false := ⟨_, _, _, clX7, by decide, zw154, rfl, fun h => by cases h⟩
theorem G_X7_41 : zFlg RX7 41 6 6 := zFl_g F_X7_41
theorem F_X8_171 : zFl RX8 171 6 6 false := ⟨_, _, _, clX7, by decide, zw155, rfl, fun h => by cases h⟩
theorem G_X8_171 : zFlg RX8 171 6 6 := zFl_g F_X8_171
theorem F_X6_9 : zFl RX6 9 5 0 true := ⟨_, _, _, clX6, by decide, zw177, rfl, fun _ => rfl⟩
theorem G_X6_9 : zFlg RX6 9 5 0 := zFl_g F_X6_9
theorem F_X8_73 : zFl RX8 73 5 1 false := ⟨_, _, _, clX6, by decide, zw178, rfl, fun h => by cases h⟩
theorem G_X8_73 : zFlg RX8 73 5 1 := zFl_g F_X8_73
theorem F_X6_13 : zFl RX6 13 5 1 false := ⟨_, _, _, clX6, by decide, zw179, rfl, fun h => by cases h⟩
theorem G_X6_13 : zFlg RX6 13 5 1 := zFl_g F_X6_13
theorem F_X3_41 : zFl RX3 41 5 2 false := ⟨_, _, _, clX6, by decide, zw180, rfl, fun h => by cases h⟩
theorem G_X3_41 : zFlg RX3 41 5 2 := zFl_g F_X3_41
theorem F_X6_26 : zFl RX6 26 5 2 false := ⟨_, _, _, clX6, by decide, zw181, rfl, fun h => by cases h⟩
theorem G_X6_26 : zFlg RX6 26 5 2 := zFl_g F_X6_26
theorem F_X6_23 : zFl RX6 23 5 3 false := ⟨_, _, _, clX6, by decide, zw182, rfl, fun h => by cases h⟩
theorem G_X6_23 : zFlg RX6 23 5 3 := zFl_g F_X6_23
theorem F_X3_54 : zFl RX3 54 5 3 false := ⟨_, _, _, clX6, by decide, zw183, rfl, fun h => by cases h⟩
theorem G_X3_54 : zFlg RX3 54 5 3 := zFl_g F_X3_54
theorem F_X6_37 : zFl RX6 37 5 4 false := ⟨_, _, _, clX6, by decide, zw184, rfl, fun h => by cases h⟩
theorem G_X6_37 : zFlg RX6 37 5 4 := zFl_g F_X6_37
theorem F_X3_123 : zFl RX3 123 5 4 false := ⟨_, _, _, clX6, by decide, zw185, rfl, fun h => by cases h⟩
theorem G_X3_123 : zFlg RX3 123 5 4 := zFl_g F_X3_123
theorem F_X6_17 : zFl RX6 17 5 5 false := ⟨_, _, _, clX6, by decide, zw186, rfl, fun h => by cases h⟩
theorem G_X6_17 : zFlg RX6 17 5 5 := zFl_g F_X6_17
theorem F_X3_15 : zFl RX3 15 2 0 true := ⟨_, _, _, clX3, by decide, zw207, rfl, fun _ => rfl⟩
theorem G_X3_15 : zFlg RX3 15 2 0 := zFl_g F_X3_15
theorem F_X3_11 : zFl RX3 11 2 1 true := ⟨_, _, _, clX3, by decide, zw208, rfl, fun _ => rfl⟩
theorem G_X3_11 : zFlg RX3 11 2 1 := zFl_g F_X3_11
theorem F_X3_29 : zFl RX3 29 2 2 false := ⟨_, _, _, clX3, by decide, zw209, rfl, fun h => by cases h⟩
theorem G_X3_29 : zFlg RX3 29 2 2 := zFl_g F_X3_29
theorem F_X3_19 : zFl RX3 19 2 3 false := ⟨_, _, _, clX3, by decide, zw210, rfl, fun h => by cases h⟩
theorem G_X3_19 : zFlg RX3 19 2 3 := zFl_g F_X3_19
theorem F_X2_13 : zFl RX2 13 1 0 true := ⟨_, _, _, clX2, by decide, zw226, rfl, fun _ => rfl⟩
theorem G_X2_13 : zFlg RX2 13 1 0 := zFl_g F_X2_13
theorem F_X2_17 : zFl RX2 17 1 1 true := ⟨_, _, _, clX2, by decide, zw227, rfl, fun _ => rfl⟩
theorem G_X2_17 : zFlg RX2 17 1 1 := zFl_g F_X2_17
theorem F_X2_20 : zFl RX2 20 1 2 true := ⟨_, _, _, clX2, by decide, zw228, rfl, fun _ => rfl⟩
theorem G_X2_20 : zFlg RX2 20 1 2 := zFl_g F_X2_20
theorem F_X2_24 : zFl RX2 24 1 3 true := ⟨_, _, _, clX2, by decide, zw229, rfl, fun _ => rfl⟩
theorem G_X2_24 : zFlg RX2 24 1 3 := zFl_g F_X2_24
theorem F_X2_27 : zFl RX2 27 1 4 true := ⟨_, _, _, clX2, by decide, zw230, rfl, fun _ => rfl⟩
theorem G_X2_27 : zFlg RX2 27 1 4 := zFl_g F_X2_27
theorem G_X8_182 : zFlg RX8 182 1 4 := ⟨_, _, _, clX2, by decide, zw231⟩
theorem F_X2_60 : zFl RX2 60 1 5 false := ⟨_, _, _, clX2, by decide, zw232, rfl, fun h => by cases h⟩
theorem G_X2_60 : zFlg RX2 60 1 5 := zFl_g F_X2_60
theorem F_X8_179 : zFl RX8 179 1 5 false := ⟨_, _, _, clX2, by decide, zw233, rfl, fun h => by cases h⟩
theorem G_X8_179 : zFlg RX8 179 1 5 := zFl_g F_X8_179
theorem F_X5_36 : zFl RX5 36 4 0 false := ⟨_, _, _, clX5, by decide, zw254, rfl, fun h => by cases h⟩
theorem G_X5_36 : zFlg RX5 36 4 0 := zFl_g F_X5_36
theorem F_X3_23 : zFl RX3 23 4 0 false := ⟨_, _, _, clX5, by decide, zw255, rfl, fun h => by cases h⟩
theorem G_X3_23 : zFlg RX3 23 4 0 := zFl_g F_X3_23
theorem F_X8_165 : zFl RX8 165 4 0 false := ⟨_, _, _, clX5, by decide, zw256, rfl, fun h => by cases h⟩
theorem G_X8_165 : zFlg RX8 165 4 0 := zFl_g F_X8_165
theorem F_X5_11 : zFl RX5 11 4 1 true := ⟨_, _, _, clX5, by decide, zw257, rfl, fun _ => rfl⟩
theorem G_X5_11 : zFlg RX5 11 4 1 := zFl_g F_X5_11
theorem G_X3_60 : zFlg RX3 60 4 1 := ⟨_, _, _, clX5, by decide, zw258⟩
theorem G_X8_254 : zFlg RX8 254 4 1 := ⟨_, _, _, clX5, by decide, zw259⟩
theorem F_X5_15 : zFl RX5 15 4 2 true := ⟨_, _, _, clX5, by decide, zw260, rfl, fun _ => rfl⟩
theorem G_X5_15 : zFlg RX5 15 4 2 := zFl_g F_X5_15
theorem G_X3_120 : zFlg RX3 120 4 2 := ⟨_, _, _, clX5, by decide, zw261⟩
theorem G_X8_251 : zFlg RX8 251 4 2 := ⟨_, _, _, clX5, by decide, zw262⟩
theorem F_X5_18 : zFl RX5 18 4 3 true := ⟨_, _, _, clX5, by decide, zw263, rfl, fun _ => rfl⟩
theorem G_X5_18 : zFlg RX5 18 4 3 := zFl_g F_X5_18
theorem G_X3_126 : zFlg RX3 126 4 3 := ⟨_, _, _, clX5, by decide, zw264⟩
theorem G_X8_267 : zFlg RX8 267 4 3 := ⟨_, _, _, clX5, by decide, zw265⟩
theorem F_X5_21 : zFl RX5 21 4 4 true := ⟨_, _, _, clX5, by decide, zw266, rfl, fun _ => rfl⟩
theorem G_X5_21 : zFlg RX5 21 4 4 := zFl_g F_X5_21
theorem F_X5_24 : zFl RX5 24 4 5 true := ⟨_, _, _, clX5, by decide, zw267, rfl, fun _ => rfl⟩
theorem G_X5_24 : zFlg RX5 24 4 5 := zFl_g F_X5_24
theorem G_X3_63 : zFlg RX3 63 4 5 := ⟨_, _, _, clX5, by decide, zw268⟩
theorem F_X5_27 : zFl RX5 27 4 6 true := ⟨_, _, _, clX5, by decide, zw269, rfl, fun _ => rfl⟩
theorem G_X5_27 : zFlg RX5 27 4 6 := zFl_g F_X5_27
theorem G_X3_76 : zFlg RX3 76 4 6 := ⟨_, _, _, clX5, by decide, zw270⟩
theorem F_X5_30 : zFl RX5 30 4 7 true := ⟨_, _, _, clX5, by decide, zw271, rfl, fun _ => rfl⟩
theorem G_X5_30 : zFlg RX5 30 4 7 := zFl_g F_X5_30
theorem G_X8_273 : zFlg RX8 273 4 7 := ⟨_, _, _, clX5, by decide, zw272⟩
theorem F_X5_33 : zFl RX5 33 4 8 true := ⟨_, _, _, clX5, by decide, zw273, rfl, fun _ => rfl⟩
theorem G_X5_33 : zFlg RX5 33 4 8 := zFl_g F_X5_33
theorem F_X1_9 : zFl RX1 9 0 0 true := ⟨_, _, _, clX1, by decide, zw299, rfl, fun _ => rfl⟩
theorem G_X1_9 : zFlg RX1 9 0 0 := zFl_g F_X1_9
theorem G_X8_115 : zFlg RX8 115 0 0 := ⟨_, _, _, clX1, by decide, zw300⟩
theorem F_X1_15 : zFl RX1 15 0 1 true := ⟨_, _, _, clX1, by decide, zw301, rfl, fun _ => rfl⟩
theorem G_X1_15 : zFlg RX1 15 0 1 := zFl_g F_X1_15
theorem G_X8_225 : zFlg RX8 225 0 1 := ⟨_, _, _, clX1, by decide, zw302⟩
theorem F_X1_19 : zFl RX1 19 0 2 true := ⟨_, _, _, clX1, by decide, zw303, rfl, fun _ => rfl⟩
theorem G_X1_19 : zFlg RX1 19 0 2 := zFl_g F_X1_19
theorem G_X8_228 : zFlg RX8 228 0 2 := ⟨_, _, _, clX1, by decide, zw304⟩
theorem F_X1_22 : zFl RX1 22 0 3 true := ⟨_, _, _, clX1, by decide, zw305, rfl, fun _ => rfl⟩
theorem G_X1_22 : zFlg RX1 22 0 3 := zFl_g F_X1_22
theorem G_X8_231 : zFlg RX8 231 0 3 := ⟨_, _, _, clX1, by decide, zw306⟩
theorem F_X1_25 : zFl RX1 25 0 4 true := ⟨_, _, _, clX1, by decide, zw307, rfl, fun _ => rfl⟩
theorem G_X1_25 : zFlg RX1 25 0 4 := zFl_g F_X1_25
theorem F_X1_28 : zFl RX1 28 0 5 true := ⟨_, _, _, clX1, by decide, zw308, rfl, fun _ => rfl⟩
theorem G_X1_28 : zFlg RX1 28 0 5 := zFl_g F_X1_28
theorem F_X1_31 : zFl RX1 31 0 6 false := ⟨_, _, _, clX1, by decide, zw309, rfl, fun h => by cases h⟩
theorem G_X1_31 : zFlg RX1 31 0 6 := zFl_g F_X1_31
theorem F_X8_153 : zFl RX8 153 0 6 false := ⟨_, _, _, clX1, by decide, zw310, rfl, fun h => by cases h⟩
theorem G_X8_153 : zFlg RX8 153 0 6 := zFl_g F_X8_153
theorem F_X1_41 : zFl RX1 41 0 7 false := ⟨_, _, _, clX1, by decide, zw311, rfl, fun h => by cases h⟩
theorem G_X1_41 : zFlg RX1 41 0 7 := zFl_g F_X1_41
theorem F_X8_156 : zFl RX8 156 0 7 false := ⟨_, _, _, clX1, by decide, zw312, rfl, fun h => by cases h⟩
theorem G_X8_156 : zFlg RX8 156 0 7 := zFl_g F_X8_156
theorem F_X8_65 : zFl RX8 65 7 0 true := ⟨_, _, _, clX8, by decide, zw330, rfl, fun _ => rfl⟩
theorem G_X8_65 : zFlg RX8 65 7 0 := zFl_g F_X8_65
theorem F_X8_10 : zFl RX8 10 7 1 true := ⟨_, _, _, clX8, by decide, zw331, rfl, fun _ => rfl⟩
theorem G_X8_10 : zFlg RX8 10 7 1 := zFl_g F_X8_10
theorem F_X8_19 : zFl RX8 19 7 2 true := ⟨_, _, _, clX8, by decide, zw332, rfl, fun _ => rfl⟩
theorem G_X8_19 : zFlg RX8 19 7 2 := zFl_g F_X8_19
theorem F_X8_26 : zFl RX8 26 7 3 true := ⟨_, _, _, clX8, by decide, zw333, rfl, fun _ => rfl⟩
theorem G_X8_26 : zFlg RX8 26 7 3 := zFl_g F_X8_26
theorem F_X8_35 : zFl RX8 35 7 4 true := ⟨_, _, _, clX8, by decide, zw334, rfl, fun _ => rfl⟩
theorem G_X8_35 : zFlg RX8 35 7 4 := zFl_g F_X8_35
theorem F_X8_42 : zFl RX8 42 7 5 true := ⟨_, _, _, clX8, by decide, zw335, rfl, fun _ => rfl⟩
theorem G_X8_42 : zFlg RX8 42 7 5 := zFl_g F_X8_42
theorem F_X8_48 : zFl RX8 48 7 6 true := ⟨_, _, _, clX8, by decide, zw336, rfl, fun _ => rfl⟩
theorem G_X8_48 : zFlg RX8 48 7 6 := zFl_g F_X8_48
theorem F_X8_53 : zFl RX8 53 7 7 false := ⟨_, _, _, clX8, by decide, zw337, rfl, fun h => by cases h⟩
theorem G_X8_53 : zFlg RX8 53 7 7 := zFl_g F_X8_53
theorem F_X8_57 : zFl RX8 57 7 8 false := ⟨_, _, _, clX8, by decide, zw338, rfl, fun h => by cases h⟩
theorem G_X8_57 : zFlg RX8 57 7 8 := zFl_g F_X8_57
theorem F_X8_81 : zFl RX8 81 7 9 false := ⟨_, _, _, clX8, by decide, zw339, rfl, fun h => by cases h⟩
theorem G_X8_81 : zFlg RX8 81 7 9 := zFl_g F_X8_81
theorem F_X8_84 : zFl RX8 84 7 10 false := ⟨_, _, _, clX8, by decide, zw340, rfl, fun h => by cases h⟩
theorem G_X8_84 : zFlg RX8 84 7 10 := zFl_g F_X8_84
theorem F_X8_162 : zFl RX8 162 7 11 false := ⟨_, _, _, clX8, by decide, zw341, rfl, fun h => by cases h⟩
theorem G_X8_162 : zFlg RX8 162 7 11 := zFl_g F_X8_162
theorem F_X8_94 : zFl RX8 94 7 12 false := ⟨_, _, _, clX8, by decide, zw342, rfl, fun h => by cases h⟩
theorem G_X8_94 : zFlg RX8 94 7 12 := zFl_g F_X8_94
theorem F_X8_138 : zFl RX8 138 7 13 false := ⟨_, _, _, clX8, by decide, zw343, rfl, fun h => by cases h⟩
theorem G_X8_138 : zFlg RX8 138 7 13 := zFl_g F_X8_138
theorem F_X8_141 : zFl RX8 141 7 14 false := ⟨_, _, _, clX8, by decide, zw344, rfl, fun h => by cases h⟩
theorem G_X8_141 : zFlg RX8 141 7 14 := zFl_g F_X8_141
theorem F_X8_144 : zFl RX8 144 7 15 false := ⟨_, _, _, clX8, by decide, zw345, rfl, fun h => by cases h⟩
theorem G_X8_144 : zFlg RX8 144 7 15 := zFl_g F_X8_144
theorem F_X8_147 : zFl RX8 147 7 16 false := ⟨_, _, _, clX8, by decide, zw346, rfl, fun h => by cases h⟩
theorem G_X8_147 : zFlg RX8 147 7 16 := zFl_g F_X8_147
theorem F_X8_150 : zFl RX8 150 7 17 false := ⟨_, _, _, clX8, by decide, zw347, rfl, fun h => by cases h⟩
theorem G_X8_150 : zFlg RX8 150 7 17 := zFl_g F_X8_150
theorem F_X9_1 : zFl RX9 1 8 0 false := ⟨_, _, _, clX9, by decide, zw950, rfl, fun h => by cases h⟩
theorem G_X9_1 : zFlg RX9 1 8 0 := zFl_g F_X9_1
theorem F_X9_14 : zFl RX9 14 8 1 true := ⟨_, _, _, clX9, by decide, zw951, rfl, fun _ => rfl⟩
theorem G_X9_14 : zFlg RX9 14 8 1 := zFl_g F_X9_14
theorem F_X9_11 : zFl RX9 11 8 2 false := ⟨_, _, _, clX9, by decide, zw952, rfl, fun h => by cases h⟩
theorem G_X9_11 : zFlg RX9 11 8 2 := zFl_g F_X9_11
theorem F_X9_145 : zFl RX9 145 8 3 false := ⟨_, _, _, clX9, by decide, zw953, rfl, fun h => by cases h⟩
theorem G_X9_145 : zFlg RX9 145 8 3 := zFl_g F_X9_145
theorem F_X9_24 : zFl RX9 24 8 4 true := ⟨_, _, _, clX9, by decide, zw954, rfl, fun _ => rfl⟩
theorem G_X9_24 : zFlg RX9 24 8 4 := zFl_g F_X9_24
theorem F_X9_27 : zFl RX9 27 8 5 true := ⟨_, _, _, clX9, by decide, zw955, rfl, fun _ => rfl⟩
theorem G_X9_27 : zFlg RX9 27 8 5 := zFl_g F_X9_27
theorem F_X9_30 : zFl RX9 30 8 6 true := ⟨_, _, _, clX9, by decide, zw956, rfl, fun _ => rfl⟩
theorem G_X9_30 : zFlg RX9 30 8 6 := zFl_g F_X9_30
theorem F_X9_164 : zFl RX9 164 8 7 false := ⟨_, _, _, clX9, by decide, zw957, rfl, fun h => by cases h⟩
theorem G_X9_164 : zFlg RX9 164 8 7 := zFl_g F_X9_164
theorem F_X9_167 : zFl RX9 167 8 8 false := ⟨_, _, _, clX9, by decide, zw958, rfl, fun h => by cases h⟩
theorem G_X9_167 : zFlg RX9 167 8 8 := zFl_g F_X9_167
theorem F_X9_68 : zFl RX9 68 8 9 true := ⟨_, _, _, clX9, by decide, zw959, rfl, fun _ => rfl⟩
theorem G_X9_68 : zFlg RX9 68 8 9 := zFl_g F_X9_68
theorem F_X9_71 : zFl RX9 71 8 10 true := ⟨_, _, _, clX9, by decide, zw960, rfl, fun _ => rfl⟩
theorem G_X9_71 : zFlg RX9 71 8 10 := zFl_g F_X9_71
theorem F_X9_74 : zFl RX9 74 8 11 true := ⟨_, _, _, clX9, by decide, zw961, rfl, fun _ => rfl⟩
theorem G_X9_74 : zFlg RX9 74 8 11 := zFl_g F_X9_74
theorem F_X9_77 : zFl RX9 77 8 12 true := ⟨_, _, _, clX9, by decide, zw962, rfl, fun _ => rfl⟩
theorem G_X9_77 : zFlg RX9 77 8 12 := zFl_g F_X9_77
theorem F_X9_192 : zFl RX9 192 8 13 false := ⟨_, _, _, clX9, by decide, zw963, rfl, fun h => by cases h⟩
theorem G_X9_192 : zFlg RX9 192 8 13 := zFl_g F_X9_192
theorem F_X9_183 : zFl RX9 183 8 14 false := ⟨_, _, _, clX9, by decide, zw964, rfl, fun h => by cases h⟩
theorem G_X9_183 : zFlg RX9 183 8 14 := zFl_g F_X9_183
theorem F_X9_186 : zFl RX9 186 8 15 false := ⟨_, _, _, clX9, by decide, zw965, rfl, fun h => by cases h⟩
theorem G_X9_186 : zFlg RX9 186 8 15 := zFl_g F_X9_186
theorem F_X9_80 : zFl RX9 80 8 16 true := ⟨_, _, _, clX9, by decide, zw966, rfl, fun _ => rfl⟩
theorem G_X9_80 : zFlg RX9 80 8 16 := zFl_g F_X9_80
theorem F_X9_195 : zFl RX9 195 8 17 false := ⟨_, _, _, clX9, by decide, zw967, rfl, fun h => by cases h⟩
theorem G_X9_195 : zFlg RX9 195 8 17 := zFl_g F_X9_195
theorem F_X9_138 : zFl RX9 138 8 18 true := ⟨_, _, _, clX9, by decide, zw968, rfl, fun _ => rfl⟩
theorem G_X9_138 : zFlg RX9 138 8 18 := zFl_g F_X9_138
theorem F_X9_83 : zFl RX9 83 8 19 true := ⟨_, _, _, clX9, by decide, zw969, rfl, fun _ => rfl⟩
theorem G_X9_83 : zFlg RX9 83 8 19 := zFl_g F_X9_83
theorem F_X9_86 : zFl RX9 86 8 20 true := ⟨_, _, _, clX9, by decide, zw970, rfl, fun _ => rfl⟩
theorem G_X9_86 : zFlg RX9 86 8 20 := zFl_g F_X9_86
theorem F_X9_89 : zFl RX9 89 8 21 true := ⟨_, _, _, clX9, by decide, zw971, rfl, fun _ => rfl⟩
theorem G_X9_89 : zFlg RX9 89 8 21 := zFl_g F_X9_89
theorem F_X9_92 : zFl RX9 92 8 22 true := ⟨_, _, _, clX9, by decide, zw972, rfl, fun _ => rfl⟩
theorem G_X9_92 : zFlg RX9 92 8 22 := zFl_g F_X9_92
theorem F_X9_95 : zFl RX9 95 8 23 true := ⟨_, _, _, clX9, by decide, zw973, rfl, fun _ => rfl⟩
theorem G_X9_95 : zFlg RX9 95 8 23 := zFl_g F_X9_95
theorem F_X9_98 : zFl RX9 98 8 24 true := ⟨_, _, _, clX9, by decide, zw974, rfl, fun _ => rfl⟩
theorem G_X9_98 : zFlg RX9 98 8 24 := zFl_g F_X9_98
theorem F_X9_101 : zFl RX9 101 8 25 true := ⟨_, _, _, clX9, by decide, zw975, rfl, fun _ => rfl⟩
theorem G_X9_101 : zFlg RX9 101 8 25 := zFl_g F_X9_101
theorem F_X9_104 : zFl RX9 104 8 26 true := ⟨_, _, _, clX9, by decide, zw976, rfl, fun _ => rfl⟩
theorem G_X9_104 : zFlg RX9 104 8 26 := zFl_g F_X9_104
theorem F_X9_107 : zFl RX9 107 8 27 true := ⟨_, _, _, clX9, by decide, zw977, rfl, fun _ => rfl⟩
theorem G_X9_107 : zFlg RX9 107 8 27 := zFl_g F_X9_107
theorem F_X9_252 : zFl RX9 252 8 28 false := ⟨_, _, _, clX9, by decide, zw978, rfl, fun h => by cases h⟩
theorem G_X9_252 : zFlg RX9 252 8 28 := zFl_g F_X9_252
theorem F_X9_242 : zFl RX9 242 8 29 false := ⟨_, _, _, clX9, by decide, zw979, rfl, fun h => by cases h⟩
theorem G_X9_242 : zFlg RX9 242 8 29 := zFl_g F_X9_242
theorem F_X9_284 : zFl RX9 284 8 30 false := ⟨_, _, _, clX9, by decide, zw980, rfl, fun h => by cases h⟩
theorem G_X9_284 : zFlg RX9 284 8 30 := zFl_g F_X9_284
theorem F_X9_308 : zFl RX9 308 8 31 false := ⟨_, _, _, clX9, by decide, zw981, rfl, fun h => by cases h⟩
theorem G_X9_308 : zFlg RX9 308 8 31 := zFl_g F_X9_308
theorem F_X9_290 : zFl RX9 290 8 32 false := ⟨_, _, _, clX9, by decide, zw982, rfl, fun h => by cases h⟩
theorem G_X9_290 : zFlg RX9 290 8 32 := zFl_g F_X9_290
theorem F_X9_347 : zFl RX9 347 8 33 false := ⟨_, _, _, clX9, by decide, zw983, rfl, fun h => by cases h⟩
theorem G_X9_347 : zFlg RX9 347 8 33 := zFl_g F_X9_347
theorem F_X9_353 : zFl RX9 353 8 34 false := ⟨_, _, _, clX9, by decide, zw984, rfl, fun h => by cases h⟩
theorem G_X9_353 : zFlg RX9 353 8 34 := zFl_g F_X9_353
theorem F_X9_329 : zFl RX9 329 8 35 false := ⟨_, _, _, clX9, by decide, zw985, rfl, fun h => by cases h⟩
theorem G_X9_329 : zFlg RX9 329 8 35 := zFl_g F_X9_329
theorem F_X9_302 : zFl RX9 302 8 36 false := ⟨_, _, _, clX9, by decide, zw986, rfl, fun h => by cases h⟩
theorem G_X9_302 : zFlg RX9 302 8 36 := zFl_g F_X9_302
theorem F_X9_205 : zFl RX9 205 8 37 false := ⟨_, _, _, clX9, by decide, zw987, rfl, fun h => by cases h⟩
theorem G_X9_205 : zFlg RX9 205 8 37 := zFl_g F_X9_205
theorem F_X9_208 : zFl RX9 208 8 38 false := ⟨_, _, _, clX9, by decide, zw988, rfl, fun h => by cases h⟩
theorem G_X9_208 : zFlg RX9 208 8 38 := zFl_g F_X9_208
theorem F_X9_239 : zFl RX9 239 8 39 false := ⟨_, _, _, clX9, by decide, zw989, rfl, fun h => by cases h⟩
theorem G_X9_239 : zFlg RX9 239 8 39 := zFl_g F_X9_239
theorem F_X9_110 : zFl RX9 110 8 40 true := ⟨_, _, _, clX9, by decide, zw990, rfl, fun _ => rfl⟩
theorem G_X9_110 : zFlg RX9 110 8 40 := zFl_g F_X9_110
theorem F_X9_113 : zFl RX9 113 8 41 true := ⟨_, _, _, clX9, by decide, zw991, rfl, fun _ => rfl⟩
theorem G_X9_113 : zFlg RX9 113 8 41 := zFl_g F_X9_113
theorem F_X9_116 : zFl RX9 116 8 42 true := ⟨_, _, _, clX9, by decide, zw992, rfl, fun _ => rfl⟩
theorem G_X9_116 : zFlg RX9 116 8 42 := zFl_g F_X9_116
theorem F_X9_332 : zFl RX9 332 8 43 false := ⟨_, _, _, clX9, by decide, zw993, rfl, fun h => by cases h⟩
theorem G_X9_332 : zFlg RX9 332 8 43 := zFl_g F_X9_332
theorem F_X9_335 : zFl RX9 335 8 44 false := ⟨_, _, _, clX9, by decide, zw994, rfl, fun h => by cases h⟩
theorem G_X9_335 : zFlg RX9 335 8 44 := zFl_g F_X9_335
theorem F_X9_119 : zFl RX9 119 8 45 true := ⟨_, _, _, clX9, by decide, zw995, rfl, fun _ => rfl⟩
theorem G_X9_119 : zFlg RX9 119 8 45 := zFl_g F_X9_119
theorem F_X9_311 : zFl RX9 311 8 46 false := ⟨_, _, _, clX9, by decide, zw996, rfl, fun h => by cases h⟩
theorem G_X9_311 : zFlg RX9 311 8 46 := zFl_g F_X9_311
theorem F_X9_122 : zFl RX9 122 8 47 true := ⟨_, _, _, clX9, by decide, zw997, rfl, fun _ => rfl⟩
theorem G_X9_122 : zFlg RX9 122 8 47 := zFl_g F_X9_122
theorem F_X9_125 : zFl RX9 125 8 48 true := ⟨_, _, _, clX9, by decide, zw998, rfl, fun _ => rfl⟩
theorem G_X9_125 : zFlg RX9 125 8 48 := zFl_g F_X9_125
theorem F_X9_128 : zFl RX9 128 8 49 true := ⟨_, _, _, clX9, by decide, zw999, rfl, fun _ => rfl⟩
theorem G_X9_128 : zFlg RX9 128 8 49 := zFl_g F_X9_128
theorem F_X9_132 : zFl RX9 132 8 50 true := ⟨_, _, _, clX9, by decide, zw1000, rfl, fun _ => rfl⟩
theorem G_X9_132 : zFlg RX9 132 8 50 := zFl_g F_X9_132
theorem F_X9_362 : zFl RX9 362 8 51 false := ⟨_, _, _, clX9, by decide, zw1001, rfl, fun h => by cases h⟩
theorem G_X9_362 : zFlg RX9 362 8 51 := zFl_g F_X9_362
theorem F_X9_135 : zFl RX9 135 8 52 true := ⟨_, _, _, clX9, by decide, zw1002, rfl, fun _ => rfl⟩
theorem G_X9_135 : zFlg RX9 135 8 52 := zFl_g F_X9_135
def mX8_init : zM := (yX8_init, cX8_init, 2, none)
theorem csX8_init : zCw mX8_init 1 ∧ Cond.instanceMethod mX8_init.1 ∈ zT ∧ mX8_init.1.name = "<init>" := ⟨⟨zw75, zw98, by decide +kernel, by decide⟩, zw97, rfl⟩
def mX4_init : zM := (yX4_init, cX4_init, 2, none)
theorem csX4_init : zCw mX4_init 0 ∧ Cond.instanceMethod mX4_init.1 ∈ zT ∧ mX4_init.1.name = "<init>" := ⟨⟨zw76, zw106, by decide +kernel, by decide⟩, zw105, rfl⟩
def mX7_init : zM := (yX7_init, cX7_init, 1, none)
theorem csX7_init : zCw mX7_init 0 ∧ Cond.instanceMethod mX7_init.1 ∈ zT ∧ mX7_init.1.name = "<init>" := ⟨⟨zw77, zw145, by decide +kernel, by decide⟩, zw144, rfl⟩
def mX6_init : zM := (yX6_init, cX6_init, 1, none)
theorem csX6_init : zCw mX6_init 0 ∧ Cond.instanceMethod mX6_init.1 ∈ zT ∧ mX6_init.1.name = "<init>" := ⟨⟨zw78, zw175, by decide +kernel, by decide⟩, zw174, rfl⟩
def mX3_init : zM := (yX3_init, cX3_init, 2, none)
theorem csX3_init : zCw mX3_init 1 ∧ Cond.instanceMethod mX3_init.1 ∈ zT ∧ mX3_init.1.name = "<init>" := ⟨⟨zw79, zw205, by decide +kernel, by decide⟩, zw204, rfl⟩
def mX2_init : zM := (yX2_init, cX2_init, 1, none)
theorem csX2_init : zCw mX2_init 0 ∧ Cond.instanceMethod mX2_init.1 ∈ zT ∧ mX2_init.1.name = "<init>" := ⟨⟨zw80, zw224, by decide +kernel, by decide⟩, zw223, rfl⟩
def mX5_init : zM := (yX5_init, cX5_init, 1, none)
theorem csX5_init : zCw mX5_init 0 ∧ Cond.instanceMethod mX5_init.1 ∈ zT ∧ mX5_init.1.name = "<init>" := ⟨⟨zw81, zw252, by decide +kernel, by decide⟩, zw251, rfl⟩
def mX1_init : zM := (yX1_init, cX1_init, 3, none)
theorem csX1_init : zCw mX1_init 1 ∧ Cond.instanceMethod mX1_init.1 ∈ zT ∧ mX1_init.1.name = "<init>" := ⟨⟨zw82, zw297, by decide +kernel, by decide⟩, zw296, rfl⟩
def mX8_feed : zM := (yX8_feed, cX8_feed, 7, (some .int))
theorem csX8_feed : zCv mX8_feed 3 := ⟨⟨zw75, zw388, by decide +kernel, by decide⟩, zw386, zw387⟩
def mX6_addBytes : zM := (yX6_addBytes, cX6_addBytes, 6, none)
theorem csX6_addBytes : zCv mX6_addBytes 1 := ⟨⟨zw78, zw392, by decide +kernel, by decide⟩, zw390, zw391⟩
def mX8_orders : zM := (yX8_orders, cX8_orders, 3, (some .int))
theorem csX8_orders : zCv mX8_orders 0 := ⟨⟨zw75, zw396, by decide +kernel, by decide⟩, zw394, zw395⟩
def mX3_read : zM := (yX3_read, cX3_read, 4, (some .int))
theorem csX3_read : zCv mX3_read 1 := ⟨⟨zw79, zw400, by decide +kernel, by decide⟩, zw398, zw399⟩
def mX6_rewind : zM := (yX6_rewind, cX6_rewind, 1, none)
theorem csX6_rewind : zCv mX6_rewind 0 := ⟨⟨zw78, zw404, by decide +kernel, by decide⟩, zw402, zw403⟩
def mX6_advance : zM := (yX6_advance, cX6_advance, 1, none)
theorem csX6_advance : zCv mX6_advance 0 := ⟨⟨zw78, zw408, by decide +kernel, by decide⟩, zw406, zw407⟩
def mX6_endOfRun : zM := (yX6_endOfRun, cX6_endOfRun, 4, (some .int))
theorem csX6_endOfRun : zCv mX6_endOfRun 2 := ⟨⟨zw78, zw412, by decide +kernel, by decide⟩, zw411, zw0⟩
def mX6_numberHere : zM := (yX6_numberHere, cX6_numberHere, 3, (some .int))
theorem csX6_numberHere : zCv mX6_numberHere 0 := ⟨⟨zw78, zw416, by decide +kernel, by decide⟩, zw415, zw1⟩
def mX6_isSign : zM := (yX6_isSign, cX6_isSign, 1, (some .boolean))
theorem csX6_isSign : zCw mX6_isSign 1 ∧ Cond.static mX6_isSign.1 ∈ zT := ⟨⟨zw78, zw419, by decide +kernel, by decide⟩, zw418⟩
def mX3_isOver : zM := (yX3_isOver, cX3_isOver, 1, (some .boolean))
theorem csX3_isOver : zCv mX3_isOver 0 := ⟨⟨zw79, zw423, by decide +kernel, by decide⟩, zw422, zw2⟩
def mX3_readClosing : zM := (yX3_readClosing, cX3_readClosing, 2, (some .int))
theorem csX3_readClosing : zCv mX3_readClosing 0 := ⟨⟨zw79, zw427, by decide +kernel, by decide⟩, zw426, zw3⟩
def mX6_spells : zM := (yX6_spells, cX6_spells, 3, (some .boolean))
theorem csX6_spells : zCv mX6_spells 1 := ⟨⟨zw78, zw433, by decide +kernel, by decide⟩, zw431, zw432⟩
def mJ0_length_8abf5 : zM := (yJ0_length_8abf5, cJ0_length_8abf5, 1, (some .int))
theorem csJ0_length_8abf5 : zCv mJ0_length_8abf5 0 := ⟨⟨zw84, zw437, by decide +kernel, by decide⟩, zw435, zw436⟩
def mJ0_coder_7d493 : zM := (yJ0_coder_7d493, cJ0_coder_7d493, 1, (some .byte))
theorem csJ0_coder_7d493 : zCv mJ0_coder_7d493 0 := ⟨⟨zw84, zw441, by decide +kernel, by decide⟩, zw439, zw440⟩
def mJ0_charAt_5068e : zM := (yJ0_charAt_5068e, cJ0_charAt_5068e, 2, (some .char))
theorem csJ0_charAt_5068e : zCv mJ0_charAt_5068e 1 := ⟨⟨zw84, zw447, by decide +kernel, by decide⟩, zw445, zw446⟩
def mJ0_isLatin1_aae02 : zM := (yJ0_isLatin1_aae02, cJ0_isLatin1_aae02, 1, (some .boolean))
theorem csJ0_isLatin1_aae02 : zCv mJ0_isLatin1_aae02 0 := ⟨⟨zw84, zw451, by decide +kernel, by decide⟩, zw449, zw450⟩
def mJ1_charAt_3b067 : zM := (yJ1_charAt_3b067, cJ1_charAt_3b067, 2, (some .char))
theorem csJ1_charAt_3b067 : zCw mJ1_charAt_3b067 2 ∧ Cond.static mJ1_charAt_3b067.1 ∈ zT := ⟨⟨zw85, zw454, by decide +kernel, by decide⟩, zw453⟩
def mJ0_checkIndex_df160 : zM := (yJ0_checkIndex_df160, cJ0_checkIndex_df160, 2, none)
theorem csJ0_checkIndex_df160 : zCw mJ0_checkIndex_df160 2 ∧ Cond.static mJ0_checkIndex_df160.1 ∈ zT := ⟨⟨zw84, zw457, by decide +kernel, by decide⟩, zw456⟩
def mJ3_checkIndex_8e157 : zM := (yJ3_checkIndex_8e157, cJ3_checkIndex_8e157, 3, (some .int))
theorem csJ3_checkIndex_8e157 : zCw mJ3_checkIndex_8e157 3 ∧ Cond.static mJ3_checkIndex_8e157.1 ∈ zT := ⟨⟨zw86, zw462, by decide +kernel, by decide⟩, zw461⟩
def mJ2_charAt_3b067 : zM := (yJ2_charAt_3b067, cJ2_charAt_3b067, 2, (some .char))
theorem csJ2_charAt_3b067 : zCw mJ2_charAt_3b067 2 ∧ Cond.static mJ2_charAt_3b067.1 ∈ zT := ⟨⟨zw87, zw465, by decide +kernel, by decide⟩, zw464⟩
def mJ2_checkIndex_2214a : zM := (yJ2_checkIndex_2214a, cJ2_checkIndex_2214a, 2, none)
theorem csJ2_checkIndex_2214a : zCw mJ2_checkIndex_2214a 2 ∧ Cond.static mJ2_checkIndex_2214a.1 ∈ zT := ⟨⟨zw87, zw468, by decide +kernel, by decide⟩, zw467⟩
def mJ2_length_9d52b : zM := (yJ2_length_9d52b, cJ2_length_9d52b, 1, (some .int))
theorem csJ2_length_9d52b : zCw mJ2_length_9d52b 1 ∧ Cond.static mJ2_length_9d52b.1 ∈ zT := ⟨⟨zw87, zw471, by decide +kernel, by decide⟩, zw470⟩
def mJ2_getChar_3b067 : zM := (yJ2_getChar_3b067, cJ2_getChar_3b067, 2, (some .char))
theorem csJ2_getChar_3b067 : zCw mJ2_getChar_3b067 2 ∧ Cond.static mJ2_getChar_3b067.1 ∈ zT := ⟨⟨zw87, zw475, by decide +kernel, by decide⟩, zw474⟩
def mX3_readSign : zM := (yX3_readSign, cX3_readSign, 2, (some .int))
theorem csX3_readSign : zCv mX3_readSign 1 := ⟨⟨zw79, zw485, by decide +kernel, by decide⟩, zw484, zw4⟩
def mX3_faultHere : zM := (yX3_faultHere, cX3_faultHere, 2, (some .int))
theorem csX3_faultHere : zCv mX3_faultHere 1 := ⟨⟨zw79, zw489, by decide +kernel, by decide⟩, zw488, zw5⟩
def mX3_readStatement : zM := (yX3_readStatement, cX3_readStatement, 3, (some .int))
theorem csX3_readStatement : zCv mX3_readStatement 0 := ⟨⟨zw79, zw493, by decide +kernel, by decide⟩, zw492, zw6⟩
def mX3_verbHere : zM := (yX3_verbHere, cX3_verbHere, 1, (some .int))
theorem csX3_verbHere : zCv mX3_verbHere 0 := ⟨⟨zw79, zw497, by decide +kernel, by decide⟩, zw496, zw7⟩
def mX5_add : zM := (yX5_add, cX5_add, 5, (some .int))
theorem csX5_add : zCv mX5_add 2 := ⟨⟨zw81, zw510, by decide +kernel, by decide⟩, zw508, zw509⟩
def mX3_readCondition : zM := (yX3_readCondition, cX3_readCondition, 3, (some .int))
theorem csX3_readCondition : zCv mX3_readCondition 1 := ⟨⟨zw79, zw514, by decide +kernel, by decide⟩, zw513, zw8⟩
def mX3_readSum : zM := (yX3_readSum, cX3_readSum, 6, (some .int))
theorem csX3_readSum : zCv mX3_readSum 2 := ⟨⟨zw79, zw518, by decide +kernel, by decide⟩, zw517, zw9⟩
def mX3_partHere : zM := (yX3_partHere, cX3_partHere, 1, (some .int))
theorem csX3_partHere : zCv mX3_partHere 0 := ⟨⟨zw79, zw522, by decide +kernel, by decide⟩, zw521, zw10⟩
def mX5_weigh : zM := (yX5_weigh, cX5_weigh, 4, none)
theorem csX5_weigh : zCv mX5_weigh 3 := ⟨⟨zw81, zw533, by decide +kernel, by decide⟩, zw531, zw532⟩
def mX3_readOpening : zM := (yX3_readOpening, cX3_readOpening, 2, (some .int))
theorem csX3_readOpening : zCv mX3_readOpening 1 := ⟨⟨zw79, zw537, by decide +kernel, by decide⟩, zw536, zw11⟩
def mX3_readOrder : zM := (yX3_readOrder, cX3_readOrder, 4, (some .int))
theorem csX3_readOrder : zCv mX3_readOrder 2 := ⟨⟨zw79, zw541, by decide +kernel, by decide⟩, zw540, zw12⟩
def mX3_highestOf : zM := (yX3_highestOf, cX3_highestOf, 1, (some .int))
theorem csX3_highestOf : zCw mX3_highestOf 1 ∧ Cond.static mX3_highestOf.1 ∈ zT := ⟨⟨zw79, zw544, by decide +kernel, by decide⟩, zw543⟩
def mX3_checkNumber : zM := (yX3_checkNumber, cX3_checkNumber, 4, (some .int))
theorem csX3_checkNumber : zCv mX3_checkNumber 2 := ⟨⟨zw79, zw548, by decide +kernel, by decide⟩, zw547, zw13⟩
def mX5_link : zM := (yX5_link, cX5_link, 3, none)
theorem csX5_link : zCv mX5_link 0 := ⟨⟨zw81, zw552, by decide +kernel, by decide⟩, zw550, zw551⟩
def mX5_blockEnd : zM := (yX5_blockEnd, cX5_blockEnd, 3, (some .int))
theorem csX5_blockEnd : zCv mX5_blockEnd 2 := ⟨⟨zw81, zw556, by decide +kernel, by decide⟩, zw555, zw14⟩
def mX8_wind : zM := (yX8_wind, cX8_wind, 4, (some .boolean))
theorem csX8_wind : zCv mX8_wind 3 := ⟨⟨zw75, zw561, by decide +kernel, by decide⟩, zw559, zw560⟩
def mX7_tell : zM := (yX7_tell, cX7_tell, 4, (some .boolean))
theorem csX7_tell : zCv mX7_tell 3 := ⟨⟨zw77, zw565, by decide +kernel, by decide⟩, zw563, zw564⟩
def mX0_isWind : zM := (yX0_isWind, cX0_isWind, 2, (some .boolean))
theorem csX0_isWind : zCw mX0_isWind 2 ∧ Cond.static mX0_isWind.1 ∈ zT := ⟨⟨zw88, zw569, by decide +kernel, by decide⟩, zw568⟩
def mX7_find : zM := (yX7_find, cX7_find, 4, none)
theorem csX7_find : zCv mX7_find 1 := ⟨⟨zw77, zw573, by decide +kernel, by decide⟩, zw572, zw15⟩
def mX8_minutes : zM := (yX8_minutes, cX8_minutes, 3, (some .int))
theorem csX8_minutes : zCv mX8_minutes 1 := ⟨⟨zw75, zw577, by decide +kernel, by decide⟩, zw575, zw576⟩
def mX8_passMinute : zM := (yX8_passMinute, cX8_passMinute, 2, none)
theorem csX8_passMinute : zCv mX8_passMinute 0 := ⟨⟨zw75, zw581, by decide +kernel, by decide⟩, zw580, zw16⟩
def mX7_blow : zM := (yX7_blow, cX7_blow, 2, none)
theorem csX7_blow : zCv mX7_blow 1 := ⟨⟨zw77, zw585, by decide +kernel, by decide⟩, zw583, zw584⟩
def mX8_endWorks : zM := (yX8_endWorks, cX8_endWorks, 2, none)
theorem csX8_endWorks : zCv mX8_endWorks 0 := ⟨⟨zw75, zw589, by decide +kernel, by decide⟩, zw588, zw17⟩
def mX1_isDue : zM := (yX1_isDue, cX1_isDue, 3, (some .boolean))
theorem csX1_isDue : zCv mX1_isDue 2 := ⟨⟨zw82, zw593, by decide +kernel, by decide⟩, zw591, zw592⟩
def mX4_finish : zM := (yX4_finish, cX4_finish, 4, none)
theorem csX4_finish : zCv mX4_finish 3 := ⟨⟨zw76, zw597, by decide +kernel, by decide⟩, zw595, zw596⟩
def mX4_mark : zM := (yX4_mark, cX4_mark, 4, none)
theorem csX4_mark : zCv mX4_mark 3 := ⟨⟨zw76, zw601, by decide +kernel, by decide⟩, zw599, zw600⟩
def mX4_become : zM := (yX4_become, cX4_become, 4, none)
theorem csX4_become : zCv mX4_become 3 := ⟨⟨zw76, zw605, by decide +kernel, by decide⟩, zw604, zw18⟩
def mX4_renew : zM := (yX4_renew, cX4_renew, 3, none)
theorem csX4_renew : zCv mX4_renew 1 := ⟨⟨zw76, zw609, by decide +kernel, by decide⟩, zw608, zw19⟩
def mX4_hasParted : zM := (yX4_hasParted, cX4_hasParted, 2, (some .boolean))
theorem csX4_hasParted : zCv mX4_hasParted 1 := ⟨⟨zw76, zw613, by decide +kernel, by decide⟩, zw612, zw20⟩
def mX1_release : zM := (yX1_release, cX1_release, 3, none)
theorem csX1_release : zCv mX1_release 1 := ⟨⟨zw82, zw617, by decide +kernel, by decide⟩, zw615, zw616⟩
def mX8_carryOut : zM := (yX8_carryOut, cX8_carryOut, 2, none)
theorem csX8_carryOut : zCv mX8_carryOut 0 := ⟨⟨zw75, zw621, by decide +kernel, by decide⟩, zw620, zw21⟩
def mX8_weighParts : zM := (yX8_weighParts, cX8_weighParts, 2, none)
theorem csX8_weighParts : zCv mX8_weighParts 0 := ⟨⟨zw75, zw625, by decide +kernel, by decide⟩, zw624, zw22⟩
def mX0_apart : zM := (yX0_apart, cX0_apart, 3, (some .int))
theorem csX0_apart : zCw mX0_apart 2 ∧ Cond.static mX0_apart.1 ∈ zT := ⟨⟨zw88, zw628, by decide +kernel, by decide⟩, zw627⟩
def mJ9_min_7cf53 : zM := (yJ9_min_7cf53, cJ9_min_7cf53, 2, (some .int))
theorem csJ9_min_7cf53 : zCw mJ9_min_7cf53 2 ∧ Cond.static mJ9_min_7cf53.1 ∈ zT := ⟨⟨zw89, zw631, by decide +kernel, by decide⟩, zw630⟩
def mX0_isAback : zM := (yX0_isAback, cX0_isAback, 1, (some .boolean))
theorem csX0_isAback : zCw mX0_isAback 1 ∧ Cond.static mX0_isAback.1 ∈ zT := ⟨⟨zw88, zw634, by decide +kernel, by decide⟩, zw633⟩
def mX4_greatestWear : zM := (yX4_greatestWear, cX4_greatestWear, 3, (some .int))
theorem csX4_greatestWear : zCv mX4_greatestWear 0 := ⟨⟨zw76, zw638, by decide +kernel, by decide⟩, zw636, zw637⟩
def mJ9_max_7cf53 : zM := (yJ9_max_7cf53, cJ9_max_7cf53, 2, (some .int))
theorem csJ9_max_7cf53 : zCw mJ9_max_7cf53 2 ∧ Cond.static mJ9_max_7cf53.1 ∈ zT := ⟨⟨zw89, zw641, by decide +kernel, by decide⟩, zw640⟩
def mX8_carryOutOne : zM := (yX8_carryOutOne, cX8_carryOutOne, 3, (some .boolean))
theorem csX8_carryOutOne : zCv mX8_carryOutOne 1 := ⟨⟨zw75, zw645, by decide +kernel, by decide⟩, zw644, zw23⟩
def mX5_isTrue : zM := (yX5_isTrue, cX5_isTrue, 5, (some .boolean))
theorem csX5_isTrue : zCv mX5_isTrue 2 := ⟨⟨zw81, zw649, by decide +kernel, by decide⟩, zw647, zw648⟩
def mX5_whenTrue : zM := (yX5_whenTrue, cX5_whenTrue, 2, (some .int))
theorem csX5_whenTrue : zCv mX5_whenTrue 1 := ⟨⟨zw81, zw653, by decide +kernel, by decide⟩, zw651, zw652⟩
def mX5_whenFalse : zM := (yX5_whenFalse, cX5_whenFalse, 2, (some .int))
theorem csX5_whenFalse : zCv mX5_whenFalse 1 := ⟨⟨zw81, zw657, by decide +kernel, by decide⟩, zw655, zw656⟩
def mX8_beginWork : zM := (yX8_beginWork, cX8_beginWork, 5, (some .boolean))
theorem csX8_beginWork : zCv mX8_beginWork 3 := ⟨⟨zw75, zw661, by decide +kernel, by decide⟩, zw660, zw24⟩
def mX4_isBarred : zM := (yX4_isBarred, cX4_isBarred, 3, (some .boolean))
theorem csX4_isBarred : zCv mX4_isBarred 2 := ⟨⟨zw76, zw665, by decide +kernel, by decide⟩, zw663, zw664⟩
def mX4_isIdle : zM := (yX4_isIdle, cX4_isIdle, 4, (some .boolean))
theorem csX4_isIdle : zCv mX4_isIdle 3 := ⟨⟨zw76, zw669, by decide +kernel, by decide⟩, zw667, zw668⟩
def mX4_handsFor : zM := (yX4_handsFor, cX4_handsFor, 1, (some .int))
theorem csX4_handsFor : zCw mX4_handsFor 1 ∧ Cond.static mX4_handsFor.1 ∈ zT := ⟨⟨zw76, zw672, by decide +kernel, by decide⟩, zw671⟩
def mX1_muster : zM := (yX1_muster, cX1_muster, 6, (some .int))
theorem csX1_muster : zCv mX1_muster 1 := ⟨⟨zw82, zw676, by decide +kernel, by decide⟩, zw674, zw675⟩
def mX1_isReady : zM := (yX1_isReady, cX1_isReady, 2, (some .boolean))
theorem csX1_isReady : zCv mX1_isReady 1 := ⟨⟨zw82, zw680, by decide +kernel, by decide⟩, zw679, zw25⟩
def mX1_isOnDeck : zM := (yX1_isOnDeck, cX1_isOnDeck, 2, (some .boolean))
theorem csX1_isOnDeck : zCv mX1_isOnDeck 1 := ⟨⟨zw82, zw684, by decide +kernel, by decide⟩, zw682, zw683⟩
def mX4_minutesFor : zM := (yX4_minutesFor, cX4_minutesFor, 4, (some .int))
theorem csX4_minutesFor : zCv mX4_minutesFor 3 := ⟨⟨zw76, zw688, by decide +kernel, by decide⟩, zw686, zw687⟩
def mJ9_abs_0f7a4 : zM := (yJ9_abs_0f7a4, cJ9_abs_0f7a4, 1, (some .int))
theorem csJ9_abs_0f7a4 : zCw mJ9_abs_0f7a4 1 ∧ Cond.static mJ9_abs_0f7a4.1 ∈ zT := ⟨⟨zw89, zw691, by decide +kernel, by decide⟩, zw690⟩
def mX1_assign : zM := (yX1_assign, cX1_assign, 6, none)
theorem csX1_assign : zCv mX1_assign 5 := ⟨⟨zw82, zw695, by decide +kernel, by decide⟩, zw693, zw694⟩
def mX0_turned : zM := (yX0_turned, cX0_turned, 4, (some .int))
theorem csX0_turned : zCw mX0_turned 2 ∧ Cond.static mX0_turned.1 ∈ zT := ⟨⟨zw88, zw699, by decide +kernel, by decide⟩, zw698⟩
def mX4_draw : zM := (yX4_draw, cX4_draw, 5, (some .int))
theorem csX4_draw : zCv mX4_draw 2 := ⟨⟨zw76, zw703, by decide +kernel, by decide⟩, zw701, zw702⟩
def mX4_drawOf : zM := (yX4_drawOf, cX4_drawOf, 6, (some .int))
theorem csX4_drawOf : zCv mX4_drawOf 3 := ⟨⟨zw76, zw707, by decide +kernel, by decide⟩, zw706, zw26⟩
def mX0_best : zM := (yX0_best, cX0_best, 1, (some .int))
theorem csX0_best : zCw mX0_best 1 ∧ Cond.static mX0_best.1 ∈ zT := ⟨⟨zw88, zw713, by decide +kernel, by decide⟩, zw712⟩
def mX0_pull : zM := (yX0_pull, cX0_pull, 1, (some .int))
theorem csX0_pull : zCw mX0_pull 1 ∧ Cond.static mX0_pull.1 ∈ zT := ⟨⟨zw88, zw716, by decide +kernel, by decide⟩, zw715⟩
def mX8_changeSpeed : zM := (yX8_changeSpeed, cX8_changeSpeed, 3, none)
theorem csX8_changeSpeed : zCv mX8_changeSpeed 1 := ⟨⟨zw75, zw722, by decide +kernel, by decide⟩, zw721, zw27⟩
def mX8_strainSails : zM := (yX8_strainSails, cX8_strainSails, 4, none)
theorem csX8_strainSails : zCv mX8_strainSails 1 := ⟨⟨zw75, zw728, by decide +kernel, by decide⟩, zw727, zw28⟩
def mX4_strain : zM := (yX4_strain, cX4_strain, 6, (some .boolean))
theorem csX4_strain : zCv mX4_strain 3 := ⟨⟨zw76, zw732, by decide +kernel, by decide⟩, zw730, zw731⟩
def mX4_strainRope : zM := (yX4_strainRope, cX4_strainRope, 3, none)
theorem csX4_strainRope : zCv mX4_strainRope 2 := ⟨⟨zw76, zw736, by decide +kernel, by decide⟩, zw735, zw29⟩
def mX4_lose : zM := (yX4_lose, cX4_lose, 3, none)
theorem csX4_lose : zCv mX4_lose 1 := ⟨⟨zw76, zw740, by decide +kernel, by decide⟩, zw738, zw739⟩
def mX0_east : zM := (yX0_east, cX0_east, 1, (some .int))
theorem csX0_east : zCw mX0_east 1 ∧ Cond.static mX0_east.1 ∈ zT := ⟨⟨zw88, zw743, by decide +kernel, by decide⟩, zw742⟩
def mX0_north : zM := (yX0_north, cX0_north, 1, (some .int))
theorem csX0_north : zCw mX0_north 1 ∧ Cond.static mX0_north.1 ∈ zT := ⟨⟨zw88, zw746, by decide +kernel, by decide⟩, zw745⟩
def mX8_sail : zM := (yX8_sail, cX8_sail, 3, (some .int))
theorem csX8_sail : zCv mX8_sail 2 := ⟨⟨zw75, zw753, by decide +kernel, by decide⟩, zw751, zw752⟩
def mX8_rope : zM := (yX8_rope, cX8_rope, 3, (some .int))
theorem csX8_rope : zCv mX8_rope 2 := ⟨⟨zw75, zw757, by decide +kernel, by decide⟩, zw755, zw756⟩
def mX8_braced : zM := (yX8_braced, cX8_braced, 2, (some .int))
theorem csX8_braced : zCv mX8_braced 1 := ⟨⟨zw75, zw761, by decide +kernel, by decide⟩, zw759, zw760⟩
def mX8_look : zM := (yX8_look, cX8_look, 2, (some .int))
theorem csX8_look : zCv mX8_look 1 := ⟨⟨zw75, zw765, by decide +kernel, by decide⟩, zw763, zw764⟩
def mX8_foretell : zM := (yX8_foretell, cX8_foretell, 4, (some .boolean))
theorem csX8_foretell : zCv mX8_foretell 3 := ⟨⟨zw75, zw769, by decide +kernel, by decide⟩, zw767, zw768⟩
def mX2_tell : zM := (yX2_tell, cX2_tell, 7, (some .boolean))
theorem csX2_tell : zCv mX2_tell 3 := ⟨⟨zw80, zw773, by decide +kernel, by decide⟩, zw771, zw772⟩
def mX8_plan : zM := (yX8_plan, cX8_plan, 3, (some .int))
theorem csX8_plan : zCv mX8_plan 2 := ⟨⟨zw75, zw783, by decide +kernel, by decide⟩, zw781, zw782⟩
def mX2_make : zM := (yX2_make, cX2_make, 4, (some .int))
theorem csX2_make : zCv mX2_make 2 := ⟨⟨zw80, zw787, by decide +kernel, by decide⟩, zw785, zw786⟩
def mX2_isPlace : zM := (yX2_isPlace, cX2_isPlace, 2, (some .boolean))
theorem csX2_isPlace : zCw mX2_isPlace 2 ∧ Cond.static mX2_isPlace.1 ∈ zT := ⟨⟨zw80, zw790, by decide +kernel, by decide⟩, zw789⟩
def mX2_countGlasses : zM := (yX2_countGlasses, cX2_countGlasses, 4, (some .int))
theorem csX2_countGlasses : zCv mX2_countGlasses 2 := ⟨⟨zw80, zw794, by decide +kernel, by decide⟩, zw793, zw30⟩
def mX2_putOnly : zM := (yX2_putOnly, cX2_putOnly, 4, none)
theorem csX2_putOnly : zCw mX2_putOnly 4 ∧ Cond.static mX2_putOnly.1 ∈ zT := ⟨⟨zw80, zw797, by decide +kernel, by decide⟩, zw796⟩
def mX2_clear : zM := (yX2_clear, cX2_clear, 3, none)
theorem csX2_clear : zCw mX2_clear 2 ∧ Cond.static mX2_clear.1 ∈ zT := ⟨⟨zw80, zw800, by decide +kernel, by decide⟩, zw799⟩
def mX2_has : zM := (yX2_has, cX2_has, 4, (some .boolean))
theorem csX2_has : zCw mX2_has 4 ∧ Cond.static mX2_has.1 ∈ zT := ⟨⟨zw80, zw803, by decide +kernel, by decide⟩, zw802⟩
def mX2_spread : zM := (yX2_spread, cX2_spread, 4, none)
theorem csX2_spread : zCv mX2_spread 1 := ⟨⟨zw80, zw807, by decide +kernel, by decide⟩, zw806, zw31⟩
def mX2_move : zM := (yX2_move, cX2_move, 11, none)
theorem csX2_move : zCw mX2_move 5 ∧ Cond.static mX2_move.1 ∈ zT := ⟨⟨zw80, zw810, by decide +kernel, by decide⟩, zw809⟩
def mX2_traceBack : zM := (yX2_traceBack, cX2_traceBack, 6, none)
theorem csX2_traceBack : zCv mX2_traceBack 2 := ⟨⟨zw80, zw816, by decide +kernel, by decide⟩, zw815, zw32⟩
def mX2_chooseCourses : zM := (yX2_chooseCourses, cX2_chooseCourses, 5, none)
theorem csX2_chooseCourses : zCv mX2_chooseCourses 0 := ⟨⟨zw80, zw820, by decide +kernel, by decide⟩, zw819, zw33⟩
def mX2_leastLeading : zM := (yX2_leastLeading, cX2_leastLeading, 6, (some .int))
theorem csX2_leastLeading : zCv mX2_leastLeading 3 := ⟨⟨zw80, zw824, by decide +kernel, by decide⟩, zw823, zw34⟩
def mX8_leg : zM := (yX8_leg, cX8_leg, 2, (some .int))
theorem csX8_leg : zCv mX8_leg 1 := ⟨⟨zw75, zw828, by decide +kernel, by decide⟩, zw826, zw827⟩
def mL_cell : zM := (yL_cell, cL_cell, 2, (some .int))
theorem csL_cell : zCw mL_cell 2 ∧ Cond.static mL_cell.1 ∈ zT := ⟨⟨zw74, zw831, by decide +kernel, by decide⟩, zw830⟩
def mX8_hand : zM := (yX8_hand, cX8_hand, 3, (some .int))
theorem csX8_hand : zCv mX8_hand 2 := ⟨⟨zw75, zw839, by decide +kernel, by decide⟩, zw837, zw838⟩
def mX1_isFree : zM := (yX1_isFree, cX1_isFree, 2, (some .boolean))
theorem csX1_isFree : zCv mX1_isFree 1 := ⟨⟨zw82, zw908, by decide +kernel, by decide⟩, zw906, zw907⟩
def mX1_endOf : zM := (yX1_endOf, cX1_endOf, 2, (some .int))
theorem csX1_endOf : zCv mX1_endOf 1 := ⟨⟨zw82, zw912, by decide +kernel, by decide⟩, zw910, zw911⟩
def mX9_thrown : zM := (yX9_thrown, cX9_thrown, 1, (some .int))
theorem csX9_thrown : zCv mX9_thrown 0 := ⟨⟨zw83, zw918, by decide +kernel, by decide⟩, zw916, zw917⟩
def mX9_feed : zM := (yX9_feed, cX9_feed, 7, (some .int))
theorem csX9_feed : zCv mX9_feed 3 := ⟨⟨zw83, zw922, by decide +kernel, by decide⟩, zw920, zw921⟩
def mX9_lay : zM := (yX9_lay, cX9_lay, 5, none)
theorem csX9_lay : zCv mX9_lay 1 := ⟨⟨zw83, zw927, by decide +kernel, by decide⟩, zw925, zw36⟩
def mX9_init : zM := (yX9_init, cX9_init, 3, none)
theorem csX9_init : zCw mX9_init 1 ∧ Cond.instanceMethod mX9_init.1 ∈ zT ∧ mX9_init.1.name = "<init>" := ⟨⟨zw83, zw931, by decide +kernel, by decide⟩, zw930, rfl⟩
def mX9_orders : zM := (yX9_orders, cX9_orders, 2, (some .int))
theorem csX9_orders : zCv mX9_orders 0 := ⟨⟨zw83, zw1114, by decide +kernel, by decide⟩, zw1112, zw1113⟩
def mX9_cutAll : zM := (yX9_cutAll, cX9_cutAll, 7, none)
theorem csX9_cutAll : zCv mX9_cutAll 0 := ⟨⟨zw83, zw1118, by decide +kernel, by decide⟩, zw1117, zw37⟩
def mX9_isLetter : zM := (yX9_isLetter, cX9_isLetter, 1, (some .boolean))
theorem csX9_isLetter : zCw mX9_isLetter 1 ∧ Cond.static mX9_isLetter.1 ∈ zT := ⟨⟨zw83, zw1121, by decide +kernel, by decide⟩, zw1120⟩
def mX9_rank : zM := (yX9_rank, cX9_rank, 1, (some .int))
theorem csX9_rank : zCw mX9_rank 1 ∧ Cond.static mX9_rank.1 ∈ zT := ⟨⟨zw83, zw1125, by decide +kernel, by decide⟩, zw1124⟩
def mX9_isDigit : zM := (yX9_isDigit, cX9_isDigit, 1, (some .boolean))
theorem csX9_isDigit : zCw mX9_isDigit 1 ∧ Cond.static mX9_isDigit.1 ∈ zT := ⟨⟨zw83, zw1128, by decide +kernel, by decide⟩, zw1127⟩
def mX9_isSignOf : zM := (yX9_isSignOf, cX9_isSignOf, 1, (some .boolean))
theorem csX9_isSignOf : zCw mX9_isSignOf 1 ∧ Cond.static mX9_isSignOf.1 ∈ zT := ⟨⟨zw83, zw1133, by decide +kernel, by decide⟩, zw1132⟩
def mX9_statement : zM := (yX9_statement, cX9_statement, 6, none)
theorem csX9_statement : zCv mX9_statement 0 := ⟨⟨zw83, zw1137, by decide +kernel, by decide⟩, zw1136, zw38⟩
def mX9_isWord : zM := (yX9_isWord, cX9_isWord, 2, (some .boolean))
theorem csX9_isWord : zCv mX9_isWord 1 := ⟨⟨zw83, zw1141, by decide +kernel, by decide⟩, zw1140, zw39⟩
def mX9_wrong : zM := (yX9_wrong, cX9_wrong, 2, none)
theorem csX9_wrong : zCv mX9_wrong 1 := ⟨⟨zw83, zw1145, by decide +kernel, by decide⟩, zw1144, zw40⟩
def mX9_here : zM := (yX9_here, cX9_here, 1, (some .int))
theorem csX9_here : zCv mX9_here 0 := ⟨⟨zw83, zw1149, by decide +kernel, by decide⟩, zw1148, zw41⟩
def mX9_choice : zM := (yX9_choice, cX9_choice, 5, none)
theorem csX9_choice : zCv mX9_choice 2 := ⟨⟨zw83, zw1153, by decide +kernel, by decide⟩, zw1152, zw42⟩
def mX9_expression : zM := (yX9_expression, cX9_expression, 3, none)
theorem csX9_expression : zCv mX9_expression 0 := ⟨⟨zw83, zw1157, by decide +kernel, by decide⟩, zw1156, zw43⟩
def mX9_sum : zM := (yX9_sum, cX9_sum, 3, none)
theorem csX9_sum : zCv mX9_sum 0 := ⟨⟨zw83, zw1161, by decide +kernel, by decide⟩, zw1160, zw44⟩
def mX9_part : zM := (yX9_part, cX9_part, 3, none)
theorem csX9_part : zCv mX9_part 0 := ⟨⟨zw83, zw1165, by decide +kernel, by decide⟩, zw1164, zw45⟩
def mX9_emit : zM := (yX9_emit, cX9_emit, 5, (some .int))
theorem csX9_emit : zCv mX9_emit 3 := ⟨⟨zw83, zw1169, by decide +kernel, by decide⟩, zw1168, zw46⟩
def mX9_isSign : zM := (yX9_isSign, cX9_isSign, 2, (some .boolean))
theorem csX9_isSign : zCv mX9_isSign 1 := ⟨⟨zw83, zw1173, by decide +kernel, by decide⟩, zw1172, zw47⟩
def mX9_block : zM := (yX9_block, cX9_block, 1, none)
theorem csX9_block : zCv mX9_block 0 := ⟨⟨zw83, zw1177, by decide +kernel, by decide⟩, zw1176, zw48⟩
def mX9_takeSign : zM := (yX9_takeSign, cX9_takeSign, 2, none)
theorem csX9_takeSign : zCv mX9_takeSign 1 := ⟨⟨zw83, zw1181, by decide +kernel, by decide⟩, zw1180, zw49⟩
def mX9_hasWord : zM := (yX9_hasWord, cX9_hasWord, 3, (some .boolean))
theorem csX9_hasWord : zCv mX9_hasWord 1 := ⟨⟨zw83, zw1185, by decide +kernel, by decide⟩, zw1184, zw50⟩
def mX9_takeNumber : zM := (yX9_takeNumber, cX9_takeNumber, 3, (some .int))
theorem csX9_takeNumber : zCv mX9_takeNumber 2 := ⟨⟨zw83, zw1189, by decide +kernel, by decide⟩, zw1188, zw51⟩
def mX9_wind : zM := (yX9_wind, cX9_wind, 4, (some .boolean))
theorem csX9_wind : zCv mX9_wind 3 := ⟨⟨zw83, zw1193, by decide +kernel, by decide⟩, zw1191, zw1192⟩
def mX9_minutes : zM := (yX9_minutes, cX9_minutes, 3, (some .int))
theorem csX9_minutes : zCv mX9_minutes 1 := ⟨⟨zw83, zw1198, by decide +kernel, by decide⟩, zw1196, zw1197⟩
def mX9_goes : zM := (yX9_goes, cX9_goes, 1, none)
theorem csX9_goes : zCv mX9_goes 0 := ⟨⟨zw83, zw1202, by decide +kernel, by decide⟩, zw1201, zw52⟩
def mX9_point : zM := (yX9_point, cX9_point, 2, (some .int))
theorem csX9_point : zCv mX9_point 0 := ⟨⟨zw83, zw1206, by decide +kernel, by decide⟩, zw1205, zw53⟩
def mX9_windNow : zM := (yX9_windNow, cX9_windNow, 3, (some .int))
theorem csX9_windNow : zCv mX9_windNow 0 := ⟨⟨zw83, zw1210, by decide +kernel, by decide⟩, zw1209, zw54⟩
def mX9_force : zM := (yX9_force, cX9_force, 2, (some .int))
theorem csX9_force : zCv mX9_force 0 := ⟨⟨zw83, zw1214, by decide +kernel, by decide⟩, zw1213, zw55⟩
def mX9_endWorks : zM := (yX9_endWorks, cX9_endWorks, 3, none)
theorem csX9_endWorks : zCv mX9_endWorks 0 := ⟨⟨zw83, zw1218, by decide +kernel, by decide⟩, zw1217, zw56⟩
def mX9_ended : zM := (yX9_ended, cX9_ended, 5, none)
theorem csX9_ended : zCv mX9_ended 3 := ⟨⟨zw83, zw1222, by decide +kernel, by decide⟩, zw1221, zw57⟩
def mX9_gives : zM := (yX9_gives, cX9_gives, 3, none)
theorem csX9_gives : zCv mX9_gives 1 := ⟨⟨zw83, zw1226, by decide +kernel, by decide⟩, zw1225, zw58⟩
def mX9_carries : zM := (yX9_carries, cX9_carries, 3, none)
theorem csX9_carries : zCv mX9_carries 0 := ⟨⟨zw83, zw1230, by decide +kernel, by decide⟩, zw1229, zw59⟩
def mX9_reckons : zM := (yX9_reckons, cX9_reckons, 5, none)
theorem csX9_reckons : zCv mX9_reckons 2 := ⟨⟨zw83, zw1234, by decide +kernel, by decide⟩, zw1233, zw60⟩
def mX9_partOf : zM := (yX9_partOf, cX9_partOf, 2, (some .int))
theorem csX9_partOf : zCv mX9_partOf 1 := ⟨⟨zw83, zw1238, by decide +kernel, by decide⟩, zw1237, zw61⟩
def mX9_apart : zM := (yX9_apart, cX9_apart, 3, (some .int))
theorem csX9_apart : zCw mX9_apart 2 ∧ Cond.static mX9_apart.1 ∈ zT := ⟨⟨zw83, zw1241, by decide +kernel, by decide⟩, zw1240⟩
def mX9_loadNow : zM := (yX9_loadNow, cX9_loadNow, 3, (some .int))
theorem csX9_loadNow : zCv mX9_loadNow 0 := ⟨⟨zw83, zw1245, by decide +kernel, by decide⟩, zw1244, zw62⟩
def mX9_begins : zM := (yX9_begins, cX9_begins, 9, (some .boolean))
theorem csX9_begins : zCv mX9_begins 3 := ⟨⟨zw83, zw1249, by decide +kernel, by decide⟩, zw1248, zw63⟩
def mX9_isBarred : zM := (yX9_isBarred, cX9_isBarred, 3, (some .boolean))
theorem csX9_isBarred : zCv mX9_isBarred 2 := ⟨⟨zw83, zw1253, by decide +kernel, by decide⟩, zw1252, zw64⟩
def mX9_isUnder : zM := (yX9_isUnder, cX9_isUnder, 5, (some .boolean))
theorem csX9_isUnder : zCv mX9_isUnder 2 := ⟨⟨zw83, zw1257, by decide +kernel, by decide⟩, zw1256, zw65⟩
def mX9_isMeant : zM := (yX9_isMeant, cX9_isMeant, 4, (some .boolean))
theorem csX9_isMeant : zCv mX9_isMeant 3 := ⟨⟨zw83, zw1261, by decide +kernel, by decide⟩, zw1260, zw66⟩
def mX9_isOnDeck : zM := (yX9_isOnDeck, cX9_isOnDeck, 2, (some .boolean))
theorem csX9_isOnDeck : zCv mX9_isOnDeck 1 := ⟨⟨zw83, zw1265, by decide +kernel, by decide⟩, zw1264, zw67⟩
def mX9_handsOf : zM := (yX9_handsOf, cX9_handsOf, 1, (some .int))
theorem csX9_handsOf : zCw mX9_handsOf 1 ∧ Cond.static mX9_handsOf.1 ∈ zT := ⟨⟨zw83, zw1268, by decide +kernel, by decide⟩, zw1267⟩
def mX9_minutesOf : zM := (yX9_minutesOf, cX9_minutesOf, 3, (some .int))
theorem csX9_minutesOf : zCw mX9_minutesOf 3 ∧ Cond.static mX9_minutesOf.1 ∈ zT := ⟨⟨zw83, zw1271, by decide +kernel, by decide⟩, zw1270⟩
def mX9_carriesOut : zM := (yX9_carriesOut, cX9_carriesOut, 3, none)
theorem csX9_carriesOut : zCv mX9_carriesOut 1 := ⟨⟨zw83, zw1275, by decide +kernel, by decide⟩, zw1274, zw68⟩
def mX9_sails : zM := (yX9_sails, cX9_sails, 9, none)
theorem csX9_sails : zCv mX9_sails 0 := ⟨⟨zw83, zw1279, by decide +kernel, by decide⟩, zw1278, zw69⟩
def mX9_area : zM := (yX9_area, cX9_area, 1, (some .int))
theorem csX9_area : zCw mX9_area 1 ∧ Cond.static mX9_area.1 ∈ zT := ⟨⟨zw83, zw1282, by decide +kernel, by decide⟩, zw1281⟩
def mX9_table : zM := (yX9_table, cX9_table, 1, (some .int))
theorem csX9_table : zCw mX9_table 1 ∧ Cond.static mX9_table.1 ∈ zT := ⟨⟨zw83, zw1285, by decide +kernel, by decide⟩, zw1284⟩
def mX9_loads : zM := (yX9_loads, cX9_loads, 5, none)
theorem csX9_loads : zCv mX9_loads 2 := ⟨⟨zw83, zw1289, by decide +kernel, by decide⟩, zw1288, zw70⟩
def mX9_dx : zM := (yX9_dx, cX9_dx, 1, (some .int))
theorem csX9_dx : zCw mX9_dx 1 ∧ Cond.static mX9_dx.1 ∈ zT := ⟨⟨zw83, zw1292, by decide +kernel, by decide⟩, zw1291⟩
def mX9_dy : zM := (yX9_dy, cX9_dy, 4, (some .int))
theorem csX9_dy : zCw mX9_dy 1 ∧ Cond.static mX9_dy.1 ∈ zT := ⟨⟨zw83, zw1295, by decide +kernel, by decide⟩, zw1294⟩
def mX9_sail : zM := (yX9_sail, cX9_sail, 3, (some .int))
theorem csX9_sail : zCv mX9_sail 2 := ⟨⟨zw83, zw1299, by decide +kernel, by decide⟩, zw1297, zw1298⟩
def mX9_rope : zM := (yX9_rope, cX9_rope, 3, (some .int))
theorem csX9_rope : zCv mX9_rope 2 := ⟨⟨zw83, zw1303, by decide +kernel, by decide⟩, zw1301, zw1302⟩
def mX9_braced : zM := (yX9_braced, cX9_braced, 2, (some .int))
theorem csX9_braced : zCv mX9_braced 1 := ⟨⟨zw83, zw1307, by decide +kernel, by decide⟩, zw1305, zw1306⟩
def mX9_hand : zM := (yX9_hand, cX9_hand, 3, (some .int))
theorem csX9_hand : zCv mX9_hand 2 := ⟨⟨zw83, zw1311, by decide +kernel, by decide⟩, zw1309, zw1310⟩
def mX9_look : zM := (yX9_look, cX9_look, 4, (some .int))
theorem csX9_look : zCv mX9_look 1 := ⟨⟨zw83, zw1315, by decide +kernel, by decide⟩, zw1313, zw1314⟩
def mX9_foretell : zM := (yX9_foretell, cX9_foretell, 4, (some .boolean))
theorem csX9_foretell : zCv mX9_foretell 3 := ⟨⟨zw83, zw1319, by decide +kernel, by decide⟩, zw1317, zw1318⟩
def mX9_plan : zM := (yX9_plan, cX9_plan, 9, (some .int))
theorem csX9_plan : zCv mX9_plan 2 := ⟨⟨zw83, zw1323, by decide +kernel, by decide⟩, zw1321, zw1322⟩
def mX9_marksForth : zM := (yX9_marksForth, cX9_marksForth, 5, none)
theorem csX9_marksForth : zCv mX9_marksForth 1 := ⟨⟨zw83, zw1327, by decide +kernel, by decide⟩, zw1326, zw71⟩
def mX9_leads : zM := (yX9_leads, cX9_leads, 7, (some .int))
theorem csX9_leads : zCv mX9_leads 3 := ⟨⟨zw83, zw1331, by decide +kernel, by decide⟩, zw1330, zw72⟩
def mX9_marksBack : zM := (yX9_marksBack, cX9_marksBack, 6, none)
theorem csX9_marksBack : zCv mX9_marksBack 1 := ⟨⟨zw83, zw1335, by decide +kernel, by decide⟩, zw1334, zw73⟩
def mX9_leg : zM := (yX9_leg, cX9_leg, 2, (some .int))
theorem csX9_leg : zCv mX9_leg 1 := ⟨⟨zw83, zw1339, by decide +kernel, by decide⟩, zw1337, zw1338⟩
