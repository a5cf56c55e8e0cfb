theorem gw_all {ws : List Cond} (ps : List Nat) (hp : ws = ps.filterMap (fun i => lw_tbl[i]?)) (h : ws.all goodWord = true) : ∀ w ∈ ws, w ∈ GW := by
  intro w hw
  have h1 := List.all_eq_true.mp h w hw
  rw [hp] at hw
  obtain ⟨i, -, hi⟩ := List.mem_filterMap.mp hw
  exact gw_in i hi h1
theorem clX0 : CL 0 RX0 TX0 15 tyX0 := ⟨rfl, gw_all [315, 317, 319, 321, 323, 325, 327, 329, 331, 333, 335, 337, 339, 341, 343] (by decide +kernel) (by decide +kernel), tyX0_ok, nmX0⟩
theorem clX1 : CL 1 RX1 TX1 8 tyX1 := ⟨rfl, gw_all [219, 221, 223, 225, 227, 229, 231, 233] (by decide +kernel) (by decide +kernel), tyX1_ok, nmX1⟩
theorem clX2 : CL 2 RX2 TX2 7 tyX2 := ⟨rfl, gw_all [175, 177, 179, 181, 183, 185, 187] (by decide +kernel) (by decide +kernel), tyX2_ok, nmX2⟩
theorem clX3 : CL 3 RX3 TX3 14 tyX3 := ⟨rfl, gw_all [261, 263, 265, 267, 269, 271, 273, 275, 277, 279, 281, 283, 285, 287] (by decide +kernel) (by decide +kernel), tyX3_ok, nmX3⟩
theorem clX4 : CL 4 RX4 TX4 10 tyX4 := ⟨rfl, gw_all [123, 125, 127, 129, 131, 133, 135, 137, 139, 141] (by decide +kernel) (by decide +kernel), tyX4_ok, nmX4⟩
theorem clX5 : CL 5 RX5 TX5 9 tyX5 := ⟨rfl, gw_all [356, 358, 360, 362, 364, 366, 368, 370, 372] (by decide +kernel) (by decide +kernel), tyX5_ok, nmX5⟩
theorem clX6 : CL 6 RX6 TX6 41 tyX6 := ⟨rfl, gw_all [1036, 1038, 1040, 1042, 1044, 1046, 1048, 1050, 1052, 1054, 1056, 1058, 1060, 1062, 1064, 1066, 1068, 1070, 1072, 1074, 1076, 1078, 1080, 1082, 1084, 1086, 1088, 1090, 1092, 1094, 1096, 1098, 1100, 1102, 1104, 1106, 1108, 1110, 1112, 1114, 1116] (by decide +kernel) (by decide +kernel), tyX6_ok, nmX6⟩
theorem fX5_12 : FL RX5 12 5 0 true (.object "OpenCross$Tape") := ⟨RX5, TX5, 9, tyX5, clX5, by decide, gw_in 347 (by decide +kernel) rfl, rfl, rfl, fun _ => rfl⟩
theorem fX5_19 : FL RX5 19 5 1 false (.object "OpenCross$Book") := ⟨RX5, TX5, 9, tyX5, clX5, by decide, gw_in 348 (by decide +kernel) rfl, rfl, rfl, fun h => by cases h⟩
theorem fX5_23 : FL RX5 23 5 2 false (.object "OpenCross$Book") := ⟨RX5, TX5, 9, tyX5, clX5, by decide, gw_in 349 (by decide +kernel) rfl, rfl, rfl, fun h => by cases h⟩
theorem fX5_31 : FL RX5 31 5 3 true (.object "OpenCross$Auction") := ⟨RX5, TX5, 9, tyX5, clX5, by decide, gw_in 350 (by decide +kernel) rfl, rfl, rfl, fun _ => rfl⟩
theorem fX5_35 : FL RX5 35 5 4 true (.array (.object "OpenCross$Book")) := ⟨RX5, TX5, 9, tyX5, clX5, by decide, gw_in 351 (by decide +kernel) rfl, rfl, rfl, fun _ => rfl⟩
theorem fX5_39 : FL RX5 39 5 5 false (.int) := ⟨RX5, TX5, 9, tyX5, clX5, by decide, gw_in 352 (by decide +kernel) rfl, rfl, rfl, fun h => by cases h⟩
theorem fX5_43 : FL RX5 43 5 6 false (.int) := ⟨RX5, TX5, 9, tyX5, clX5, by decide, gw_in 353 (by decide +kernel) rfl, rfl, rfl, fun h => by cases h⟩
theorem fX5_46 : FL RX5 46 5 7 true (.array .int) := ⟨RX5, TX5, 9, tyX5, clX5, by decide, gw_in 354 (by decide +kernel) rfl, rfl, rfl, fun _ => rfl⟩
theorem fX5_50 : FL RX5 50 5 8 false (.int) := ⟨RX5, TX5, 9, tyX5, clX5, by decide, gw_in 355 (by decide +kernel) rfl, rfl, rfl, fun h => by cases h⟩
theorem fX5_61 : FL RX5 61 4 0 false (.int) := ⟨RX4, TX4, 10, tyX4, clX4, by decide, gw_in 113 (by decide +kernel) rfl, rfl, rfl, fun h => by cases h⟩
theorem fX5_71 : FL RX5 71 2 2 false (.int) := ⟨RX2, TX2, 7, tyX2, clX2, by decide, gw_in 158 (by decide +kernel) rfl, rfl, rfl, fun h => by cases h⟩
theorem fX5_80 : FL RX5 80 2 3 false (.int) := ⟨RX2, TX2, 7, tyX2, clX2, by decide, gw_in 162 (by decide +kernel) rfl, rfl, rfl, fun h => by cases h⟩
theorem fX5_118 : FR RX5 118 0 2 := ⟨RX0, TX0, 15, tyX0, clX0, by decide, gw_in 297 (by decide +kernel) rfl⟩
theorem fX5_128 : FR RX5 128 0 1 := ⟨RX0, TX0, 15, tyX0, clX0, by decide, gw_in 295 (by decide +kernel) rfl⟩
theorem fX5_132 : FL RX5 132 3 1 false (.int) := ⟨RX3, TX3, 14, tyX3, clX3, by decide, gw_in 246 (by decide +kernel) rfl, rfl, rfl, fun h => by cases h⟩
theorem fX5_137 : FL RX5 137 3 0 false (.int) := ⟨RX3, TX3, 14, tyX3, clX3, by decide, gw_in 243 (by decide +kernel) rfl, rfl, rfl, fun h => by cases h⟩
theorem fX5_140 : FL RX5 140 2 4 false (.int) := ⟨RX2, TX2, 7, tyX2, clX2, by decide, gw_in 165 (by decide +kernel) rfl, rfl, rfl, fun h => by cases h⟩
theorem fX5_149 : FL RX5 149 2 5 false (.int) := ⟨RX2, TX2, 7, tyX2, clX2, by decide, gw_in 169 (by decide +kernel) rfl, rfl, rfl, fun h => by cases h⟩
theorem fX5_152 : FL RX5 152 2 6 false (.int) := ⟨RX2, TX2, 7, tyX2, clX2, by decide, gw_in 173 (by decide +kernel) rfl, rfl, rfl, fun h => by cases h⟩
theorem fX5_165 : FR RX5 165 0 0 := ⟨RX0, TX0, 15, tyX0, clX0, by decide, gw_in 293 (by decide +kernel) rfl⟩
theorem fX5_175 : FL RX5 175 1 0 false (.int) := ⟨RX1, TX1, 8, tyX1, clX1, by decide, gw_in 204 (by decide +kernel) rfl, rfl, rfl, fun h => by cases h⟩
theorem fX5_178 : FL RX5 178 1 1 false (.int) := ⟨RX1, TX1, 8, tyX1, clX1, by decide, gw_in 206 (by decide +kernel) rfl, rfl, rfl, fun h => by cases h⟩
theorem fX5_181 : FL RX5 181 1 2 false (.int) := ⟨RX1, TX1, 8, tyX1, clX1, by decide, gw_in 208 (by decide +kernel) rfl, rfl, rfl, fun h => by cases h⟩
theorem fX5_184 : FL RX5 184 1 3 false (.int) := ⟨RX1, TX1, 8, tyX1, clX1, by decide, gw_in 210 (by decide +kernel) rfl, rfl, rfl, fun h => by cases h⟩
theorem fX5_187 : FL RX5 187 1 4 false (.int) := ⟨RX1, TX1, 8, tyX1, clX1, by decide, gw_in 213 (by decide +kernel) rfl, rfl, rfl, fun h => by cases h⟩
theorem fX5_188 : FL RX5 188 1 5 false (.int) := ⟨RX1, TX1, 8, tyX1, clX1, by decide, gw_in 216 (by decide +kernel) rfl, rfl, rfl, fun h => by cases h⟩
theorem fX5_193 : FL RX5 193 0 3 false (.int) := ⟨RX0, TX0, 15, tyX0, clX0, by decide, gw_in 300 (by decide +kernel) rfl, rfl, rfl, fun h => by cases h⟩
theorem fX5_196 : FL RX5 196 0 4 false (.int) := ⟨RX0, TX0, 15, tyX0, clX0, by decide, gw_in 302 (by decide +kernel) rfl, rfl, rfl, fun h => by cases h⟩
theorem fX5_212 : FR RX5 212 2 0 := ⟨RX2, TX2, 7, tyX2, clX2, by decide, gw_in 153 (by decide +kernel) rfl⟩
theorem fX5_232 : FL RX5 232 0 5 false (.int) := ⟨RX0, TX0, 15, tyX0, clX0, by decide, gw_in 304 (by decide +kernel) rfl, rfl, rfl, fun h => by cases h⟩
theorem fX5_284 : FR RX5 284 2 1 := ⟨RX2, TX2, 7, tyX2, clX2, by decide, gw_in 155 (by decide +kernel) rfl⟩
theorem fX5_287 : FL RX5 287 3 2 false (.int) := ⟨RX3, TX3, 14, tyX3, clX3, by decide, gw_in 249 (by decide +kernel) rfl, rfl, rfl, fun h => by cases h⟩
theorem fX0_14 : FL RX0 14 0 0 true (.object "OpenCross$Balance") := ⟨RX0, TX0, 15, tyX0, clX0, by decide, gw_in 292 (by decide +kernel) rfl, rfl, rfl, fun _ => rfl⟩
theorem fX0_21 : FL RX0 21 0 1 true (.object "OpenCross$Choice") := ⟨RX0, TX0, 15, tyX0, clX0, by decide, gw_in 294 (by decide +kernel) rfl, rfl, rfl, fun _ => rfl⟩
theorem fX0_25 : FL RX0 25 0 2 true (.array .int) := ⟨RX0, TX0, 15, tyX0, clX0, by decide, gw_in 296 (by decide +kernel) rfl, rfl, rfl, fun _ => rfl⟩
theorem fX0_29 : FL RX0 29 0 3 false (.int) := ⟨RX0, TX0, 15, tyX0, clX0, by decide, gw_in 299 (by decide +kernel) rfl, rfl, rfl, fun h => by cases h⟩
theorem fX0_33 : FL RX0 33 0 4 false (.int) := ⟨RX0, TX0, 15, tyX0, clX0, by decide, gw_in 301 (by decide +kernel) rfl, rfl, rfl, fun h => by cases h⟩
theorem fX0_36 : FL RX0 36 0 5 false (.int) := ⟨RX0, TX0, 15, tyX0, clX0, by decide, gw_in 303 (by decide +kernel) rfl, rfl, rfl, fun h => by cases h⟩
theorem fX0_39 : FL RX0 39 0 6 true (.array .int) := ⟨RX0, TX0, 15, tyX0, clX0, by decide, gw_in 305 (by decide +kernel) rfl, rfl, rfl, fun _ => rfl⟩
theorem fX0_42 : FL RX0 42 0 7 true (.array .int) := ⟨RX0, TX0, 15, tyX0, clX0, by decide, gw_in 306 (by decide +kernel) rfl, rfl, rfl, fun _ => rfl⟩
theorem fX0_47 : FL RX0 47 0 8 true (.array (.array .int)) := ⟨RX0, TX0, 15, tyX0, clX0, by decide, gw_in 307 (by decide +kernel) rfl, rfl, rfl, fun _ => rfl⟩
theorem fX0_50 : FL RX0 50 0 9 true (.array (.array .int)) := ⟨RX0, TX0, 15, tyX0, clX0, by decide, gw_in 308 (by decide +kernel) rfl, rfl, rfl, fun _ => rfl⟩
theorem fX0_53 : FL RX0 53 0 10 true (.array .int) := ⟨RX0, TX0, 15, tyX0, clX0, by decide, gw_in 309 (by decide +kernel) rfl, rfl, rfl, fun _ => rfl⟩
theorem fX0_56 : FL RX0 56 0 11 true (.array .int) := ⟨RX0, TX0, 15, tyX0, clX0, by decide, gw_in 310 (by decide +kernel) rfl, rfl, rfl, fun _ => rfl⟩
theorem fX0_59 : FL RX0 59 0 12 false (.int) := ⟨RX0, TX0, 15, tyX0, clX0, by decide, gw_in 311 (by decide +kernel) rfl, rfl, rfl, fun h => by cases h⟩
theorem fX0_62 : FL RX0 62 0 13 false (.object "OpenCross$Book") := ⟨RX0, TX0, 15, tyX0, clX0, by decide, gw_in 312 (by decide +kernel) rfl, rfl, rfl, fun h => by cases h⟩
theorem fX0_66 : FR RX0 66 2 0 := ⟨RX2, TX2, 7, tyX2, clX2, by decide, gw_in 152 (by decide +kernel) rfl⟩
theorem fX0_71 : FL RX0 71 0 14 false (.array .int) := ⟨RX0, TX0, 15, tyX0, clX0, by decide, gw_in 313 (by decide +kernel) rfl, rfl, rfl, fun h => by cases h⟩
theorem fX0_72 : FL RX0 72 2 2 false (.int) := ⟨RX2, TX2, 7, tyX2, clX2, by decide, gw_in 157 (by decide +kernel) rfl, rfl, rfl, fun h => by cases h⟩
theorem fX0_131 : FL RX0 131 2 4 false (.int) := ⟨RX2, TX2, 7, tyX2, clX2, by decide, gw_in 166 (by decide +kernel) rfl, rfl, rfl, fun h => by cases h⟩
theorem fX0_140 : FL RX0 140 2 5 false (.int) := ⟨RX2, TX2, 7, tyX2, clX2, by decide, gw_in 170 (by decide +kernel) rfl, rfl, rfl, fun h => by cases h⟩
theorem fX0_143 : FL RX0 143 2 6 false (.int) := ⟨RX2, TX2, 7, tyX2, clX2, by decide, gw_in 174 (by decide +kernel) rfl, rfl, rfl, fun h => by cases h⟩
theorem fX0_171 : FL RX0 171 3 1 false (.int) := ⟨RX3, TX3, 14, tyX3, clX3, by decide, gw_in 247 (by decide +kernel) rfl, rfl, rfl, fun h => by cases h⟩
theorem fX0_174 : FL RX0 174 3 0 false (.int) := ⟨RX3, TX3, 14, tyX3, clX3, by decide, gw_in 244 (by decide +kernel) rfl, rfl, rfl, fun h => by cases h⟩
theorem fX1_9 : FL RX1 9 1 0 false (.int) := ⟨RX1, TX1, 8, tyX1, clX1, by decide, gw_in 203 (by decide +kernel) rfl, rfl, rfl, fun h => by cases h⟩
theorem fX1_15 : FL RX1 15 1 1 false (.int) := ⟨RX1, TX1, 8, tyX1, clX1, by decide, gw_in 205 (by decide +kernel) rfl, rfl, rfl, fun h => by cases h⟩
theorem fX1_18 : FL RX1 18 1 2 false (.int) := ⟨RX1, TX1, 8, tyX1, clX1, by decide, gw_in 207 (by decide +kernel) rfl, rfl, rfl, fun h => by cases h⟩
theorem fX1_21 : FL RX1 21 1 3 false (.int) := ⟨RX1, TX1, 8, tyX1, clX1, by decide, gw_in 209 (by decide +kernel) rfl, rfl, rfl, fun h => by cases h⟩
theorem fX1_24 : FL RX1 24 1 4 false (.int) := ⟨RX1, TX1, 8, tyX1, clX1, by decide, gw_in 211 (by decide +kernel) rfl, rfl, rfl, fun h => by cases h⟩
theorem fX1_27 : FL RX1 27 1 5 false (.int) := ⟨RX1, TX1, 8, tyX1, clX1, by decide, gw_in 214 (by decide +kernel) rfl, rfl, rfl, fun h => by cases h⟩
theorem fX1_30 : FL RX1 30 1 6 false (.int) := ⟨RX1, TX1, 8, tyX1, clX1, by decide, gw_in 217 (by decide +kernel) rfl, rfl, rfl, fun h => by cases h⟩
theorem fX1_33 : FL RX1 33 1 7 false (.int) := ⟨RX1, TX1, 8, tyX1, clX1, by decide, gw_in 218 (by decide +kernel) rfl, rfl, rfl, fun h => by cases h⟩
theorem fX1_39 : FL RX1 39 2 2 false (.int) := ⟨RX2, TX2, 7, tyX2, clX2, by decide, gw_in 159 (by decide +kernel) rfl, rfl, rfl, fun h => by cases h⟩
theorem fX2_9 : FL RX2 9 2 0 true (.array .int) := ⟨RX2, TX2, 7, tyX2, clX2, by decide, gw_in 151 (by decide +kernel) rfl, rfl, rfl, fun _ => rfl⟩
theorem fX2_15 : FL RX2 15 2 1 true (.array .int) := ⟨RX2, TX2, 7, tyX2, clX2, by decide, gw_in 154 (by decide +kernel) rfl, rfl, rfl, fun _ => rfl⟩
theorem fX2_18 : FL RX2 18 2 2 false (.int) := ⟨RX2, TX2, 7, tyX2, clX2, by decide, gw_in 156 (by decide +kernel) rfl, rfl, rfl, fun h => by cases h⟩
theorem fX2_22 : FL RX2 22 2 3 false (.int) := ⟨RX2, TX2, 7, tyX2, clX2, by decide, gw_in 161 (by decide +kernel) rfl, rfl, rfl, fun h => by cases h⟩
theorem fX2_25 : FL RX2 25 2 4 false (.int) := ⟨RX2, TX2, 7, tyX2, clX2, by decide, gw_in 163 (by decide +kernel) rfl, rfl, rfl, fun h => by cases h⟩
theorem fX2_28 : FL RX2 28 2 5 false (.int) := ⟨RX2, TX2, 7, tyX2, clX2, by decide, gw_in 167 (by decide +kernel) rfl, rfl, rfl, fun h => by cases h⟩
theorem fX2_31 : FL RX2 31 2 6 false (.int) := ⟨RX2, TX2, 7, tyX2, clX2, by decide, gw_in 171 (by decide +kernel) rfl, rfl, rfl, fun h => by cases h⟩
theorem fX2_70 : FR RX2 70 0 2 := ⟨RX0, TX0, 15, tyX0, clX0, by decide, gw_in 298 (by decide +kernel) rfl⟩
theorem fX3_9 : FL RX3 9 3 0 false (.int) := ⟨RX3, TX3, 14, tyX3, clX3, by decide, gw_in 242 (by decide +kernel) rfl, rfl, rfl, fun h => by cases h⟩
theorem fX3_15 : FL RX3 15 3 1 false (.int) := ⟨RX3, TX3, 14, tyX3, clX3, by decide, gw_in 245 (by decide +kernel) rfl, rfl, rfl, fun h => by cases h⟩
theorem fX3_18 : FL RX3 18 3 2 false (.int) := ⟨RX3, TX3, 14, tyX3, clX3, by decide, gw_in 248 (by decide +kernel) rfl, rfl, rfl, fun h => by cases h⟩
theorem fX3_21 : FL RX3 21 3 3 false (.int) := ⟨RX3, TX3, 14, tyX3, clX3, by decide, gw_in 250 (by decide +kernel) rfl, rfl, rfl, fun h => by cases h⟩
theorem fX3_24 : FL RX3 24 3 4 false (.int) := ⟨RX3, TX3, 14, tyX3, clX3, by decide, gw_in 251 (by decide +kernel) rfl, rfl, rfl, fun h => by cases h⟩
theorem fX3_27 : FL RX3 27 3 5 false (.int) := ⟨RX3, TX3, 14, tyX3, clX3, by decide, gw_in 252 (by decide +kernel) rfl, rfl, rfl, fun h => by cases h⟩
theorem fX3_30 : FL RX3 30 3 6 false (.int) := ⟨RX3, TX3, 14, tyX3, clX3, by decide, gw_in 253 (by decide +kernel) rfl, rfl, rfl, fun h => by cases h⟩
theorem fX3_33 : FL RX3 33 3 7 false (.int) := ⟨RX3, TX3, 14, tyX3, clX3, by decide, gw_in 254 (by decide +kernel) rfl, rfl, rfl, fun h => by cases h⟩
theorem fX3_36 : FL RX3 36 3 8 false (.int) := ⟨RX3, TX3, 14, tyX3, clX3, by decide, gw_in 255 (by decide +kernel) rfl, rfl, rfl, fun h => by cases h⟩
theorem fX3_39 : FL RX3 39 3 9 false (.int) := ⟨RX3, TX3, 14, tyX3, clX3, by decide, gw_in 256 (by decide +kernel) rfl, rfl, rfl, fun h => by cases h⟩
theorem fX3_42 : FL RX3 42 3 10 false (.int) := ⟨RX3, TX3, 14, tyX3, clX3, by decide, gw_in 257 (by decide +kernel) rfl, rfl, rfl, fun h => by cases h⟩
theorem fX3_45 : FL RX3 45 3 11 false (.int) := ⟨RX3, TX3, 14, tyX3, clX3, by decide, gw_in 258 (by decide +kernel) rfl, rfl, rfl, fun h => by cases h⟩
theorem fX3_48 : FL RX3 48 3 12 false (.boolean) := ⟨RX3, TX3, 14, tyX3, clX3, by decide, gw_in 259 (by decide +kernel) rfl, rfl, rfl, fun h => by cases h⟩
theorem fX3_52 : FL RX3 52 3 13 false (.boolean) := ⟨RX3, TX3, 14, tyX3, clX3, by decide, gw_in 260 (by decide +kernel) rfl, rfl, rfl, fun h => by cases h⟩
theorem fX3_55 : FL RX3 55 1 4 false (.int) := ⟨RX1, TX1, 8, tyX1, clX1, by decide, gw_in 212 (by decide +kernel) rfl, rfl, rfl, fun h => by cases h⟩
theorem fX3_58 : FL RX3 58 1 5 false (.int) := ⟨RX1, TX1, 8, tyX1, clX1, by decide, gw_in 215 (by decide +kernel) rfl, rfl, rfl, fun h => by cases h⟩
theorem fX4_9 : FL RX4 9 4 0 false (.int) := ⟨RX4, TX4, 10, tyX4, clX4, by decide, gw_in 112 (by decide +kernel) rfl, rfl, rfl, fun h => by cases h⟩
theorem fX4_15 : FL RX4 15 4 1 true (.array .byte) := ⟨RX4, TX4, 10, tyX4, clX4, by decide, gw_in 114 (by decide +kernel) rfl, rfl, rfl, fun _ => rfl⟩
theorem fX4_19 : FL RX4 19 4 2 false (.int) := ⟨RX4, TX4, 10, tyX4, clX4, by decide, gw_in 115 (by decide +kernel) rfl, rfl, rfl, fun h => by cases h⟩
theorem fX4_22 : FL RX4 22 4 3 false (.int) := ⟨RX4, TX4, 10, tyX4, clX4, by decide, gw_in 116 (by decide +kernel) rfl, rfl, rfl, fun h => by cases h⟩
theorem fX4_25 : FL RX4 25 4 4 false (.int) := ⟨RX4, TX4, 10, tyX4, clX4, by decide, gw_in 117 (by decide +kernel) rfl, rfl, rfl, fun h => by cases h⟩
theorem fX4_28 : FL RX4 28 4 5 false (.int) := ⟨RX4, TX4, 10, tyX4, clX4, by decide, gw_in 118 (by decide +kernel) rfl, rfl, rfl, fun h => by cases h⟩
theorem fX4_31 : FL RX4 31 4 6 false (.int) := ⟨RX4, TX4, 10, tyX4, clX4, by decide, gw_in 119 (by decide +kernel) rfl, rfl, rfl, fun h => by cases h⟩
theorem fX4_34 : FL RX4 34 4 7 false (.int) := ⟨RX4, TX4, 10, tyX4, clX4, by decide, gw_in 120 (by decide +kernel) rfl, rfl, rfl, fun h => by cases h⟩
theorem fX4_37 : FL RX4 37 4 8 false (.boolean) := ⟨RX4, TX4, 10, tyX4, clX4, by decide, gw_in 121 (by decide +kernel) rfl, rfl, rfl, fun h => by cases h⟩
theorem fX4_41 : FL RX4 41 4 9 false (.boolean) := ⟨RX4, TX4, 10, tyX4, clX4, by decide, gw_in 122 (by decide +kernel) rfl, rfl, rfl, fun h => by cases h⟩
theorem fX4_83 : FL RX4 83 2 2 false (.int) := ⟨RX2, TX2, 7, tyX2, clX2, by decide, gw_in 160 (by decide +kernel) rfl, rfl, rfl, fun h => by cases h⟩
theorem fX4_89 : FL RX4 89 2 4 false (.int) := ⟨RX2, TX2, 7, tyX2, clX2, by decide, gw_in 164 (by decide +kernel) rfl, rfl, rfl, fun h => by cases h⟩
theorem fX4_91 : FL RX4 91 2 5 false (.int) := ⟨RX2, TX2, 7, tyX2, clX2, by decide, gw_in 168 (by decide +kernel) rfl, rfl, rfl, fun h => by cases h⟩
theorem fX4_94 : FL RX4 94 2 6 false (.int) := ⟨RX2, TX2, 7, tyX2, clX2, by decide, gw_in 172 (by decide +kernel) rfl, rfl, rfl, fun h => by cases h⟩
theorem fX6_1 : FL RX6 1 6 0 false (.int) := ⟨RX6, TX6, 41, tyX6, clX6, by decide, gw_in 995 (by decide +kernel) rfl, rfl, rfl, fun h => by cases h⟩
theorem fX6_13 : FL RX6 13 6 1 true (.array .int) := ⟨RX6, TX6, 41, tyX6, clX6, by decide, gw_in 996 (by decide +kernel) rfl, rfl, rfl, fun _ => rfl⟩
theorem fX6_17 : FL RX6 17 6 2 true (.array .int) := ⟨RX6, TX6, 41, tyX6, clX6, by decide, gw_in 997 (by decide +kernel) rfl, rfl, rfl, fun _ => rfl⟩
theorem fX6_20 : FL RX6 20 6 4 true (.array .int) := ⟨RX6, TX6, 41, tyX6, clX6, by decide, gw_in 999 (by decide +kernel) rfl, rfl, rfl, fun _ => rfl⟩
theorem fX6_23 : FL RX6 23 6 7 true (.array .byte) := ⟨RX6, TX6, 41, tyX6, clX6, by decide, gw_in 1002 (by decide +kernel) rfl, rfl, rfl, fun _ => rfl⟩
theorem fX6_27 : FL RX6 27 6 17 true (.array .int) := ⟨RX6, TX6, 41, tyX6, clX6, by decide, gw_in 1012 (by decide +kernel) rfl, rfl, rfl, fun _ => rfl⟩
theorem fX6_30 : FL RX6 30 6 22 true (.array .boolean) := ⟨RX6, TX6, 41, tyX6, clX6, by decide, gw_in 1017 (by decide +kernel) rfl, rfl, rfl, fun _ => rfl⟩
theorem fX6_34 : FL RX6 34 6 23 true (.array .int) := ⟨RX6, TX6, 41, tyX6, clX6, by decide, gw_in 1018 (by decide +kernel) rfl, rfl, rfl, fun _ => rfl⟩
theorem fX6_37 : FL RX6 37 6 24 true (.array .int) := ⟨RX6, TX6, 41, tyX6, clX6, by decide, gw_in 1019 (by decide +kernel) rfl, rfl, rfl, fun _ => rfl⟩
theorem fX6_40 : FL RX6 40 6 25 true (.array .int) := ⟨RX6, TX6, 41, tyX6, clX6, by decide, gw_in 1020 (by decide +kernel) rfl, rfl, rfl, fun _ => rfl⟩
theorem fX6_43 : FL RX6 43 6 26 true (.array .int) := ⟨RX6, TX6, 41, tyX6, clX6, by decide, gw_in 1021 (by decide +kernel) rfl, rfl, rfl, fun _ => rfl⟩
theorem fX6_46 : FL RX6 46 6 27 true (.array .int) := ⟨RX6, TX6, 41, tyX6, clX6, by decide, gw_in 1022 (by decide +kernel) rfl, rfl, rfl, fun _ => rfl⟩
theorem fX6_49 : FL RX6 49 6 31 true (.array .int) := ⟨RX6, TX6, 41, tyX6, clX6, by decide, gw_in 1026 (by decide +kernel) rfl, rfl, rfl, fun _ => rfl⟩
theorem fX6_52 : FL RX6 52 6 32 true (.array .int) := ⟨RX6, TX6, 41, tyX6, clX6, by decide, gw_in 1027 (by decide +kernel) rfl, rfl, rfl, fun _ => rfl⟩
theorem fX6_55 : FL RX6 55 6 34 true (.array .int) := ⟨RX6, TX6, 41, tyX6, clX6, by decide, gw_in 1029 (by decide +kernel) rfl, rfl, rfl, fun _ => rfl⟩
theorem fX6_58 : FL RX6 58 6 35 true (.array .boolean) := ⟨RX6, TX6, 41, tyX6, clX6, by decide, gw_in 1030 (by decide +kernel) rfl, rfl, rfl, fun _ => rfl⟩
theorem fX6_61 : FL RX6 61 6 39 true (.array .int) := ⟨RX6, TX6, 41, tyX6, clX6, by decide, gw_in 1034 (by decide +kernel) rfl, rfl, rfl, fun _ => rfl⟩
theorem fX6_64 : FL RX6 64 6 40 true (.array .int) := ⟨RX6, TX6, 41, tyX6, clX6, by decide, gw_in 1035 (by decide +kernel) rfl, rfl, rfl, fun _ => rfl⟩
theorem fX6_70 : FL RX6 70 6 3 false (.int) := ⟨RX6, TX6, 41, tyX6, clX6, by decide, gw_in 998 (by decide +kernel) rfl, rfl, rfl, fun h => by cases h⟩
theorem fX6_73 : FL RX6 73 6 5 false (.int) := ⟨RX6, TX6, 41, tyX6, clX6, by decide, gw_in 1000 (by decide +kernel) rfl, rfl, rfl, fun h => by cases h⟩
theorem fX6_76 : FL RX6 76 6 6 false (.int) := ⟨RX6, TX6, 41, tyX6, clX6, by decide, gw_in 1001 (by decide +kernel) rfl, rfl, rfl, fun h => by cases h⟩
theorem fX6_79 : FL RX6 79 6 8 false (.int) := ⟨RX6, TX6, 41, tyX6, clX6, by decide, gw_in 1003 (by decide +kernel) rfl, rfl, rfl, fun h => by cases h⟩
theorem fX6_86 : FL RX6 86 6 9 false (.int) := ⟨RX6, TX6, 41, tyX6, clX6, by decide, gw_in 1004 (by decide +kernel) rfl, rfl, rfl, fun h => by cases h⟩
theorem fX6_101 : FL RX6 101 6 11 false (.int) := ⟨RX6, TX6, 41, tyX6, clX6, by decide, gw_in 1006 (by decide +kernel) rfl, rfl, rfl, fun h => by cases h⟩
theorem fX6_108 : FL RX6 108 6 10 false (.int) := ⟨RX6, TX6, 41, tyX6, clX6, by decide, gw_in 1005 (by decide +kernel) rfl, rfl, rfl, fun h => by cases h⟩
theorem fX6_111 : FL RX6 111 6 12 false (.int) := ⟨RX6, TX6, 41, tyX6, clX6, by decide, gw_in 1007 (by decide +kernel) rfl, rfl, rfl, fun h => by cases h⟩
theorem fX6_118 : FL RX6 118 6 14 false (.long) := ⟨RX6, TX6, 41, tyX6, clX6, by decide, gw_in 1009 (by decide +kernel) rfl, rfl, rfl, fun h => by cases h⟩
theorem fX6_129 : FL RX6 129 6 13 false (.int) := ⟨RX6, TX6, 41, tyX6, clX6, by decide, gw_in 1008 (by decide +kernel) rfl, rfl, rfl, fun h => by cases h⟩
theorem fX6_142 : FL RX6 142 6 15 false (.int) := ⟨RX6, TX6, 41, tyX6, clX6, by decide, gw_in 1010 (by decide +kernel) rfl, rfl, rfl, fun h => by cases h⟩
theorem fX6_148 : FL RX6 148 6 21 false (.int) := ⟨RX6, TX6, 41, tyX6, clX6, by decide, gw_in 1016 (by decide +kernel) rfl, rfl, rfl, fun h => by cases h⟩
theorem fX6_158 : FL RX6 158 6 18 false (.int) := ⟨RX6, TX6, 41, tyX6, clX6, by decide, gw_in 1013 (by decide +kernel) rfl, rfl, rfl, fun h => by cases h⟩
theorem fX6_161 : FL RX6 161 6 16 false (.int) := ⟨RX6, TX6, 41, tyX6, clX6, by decide, gw_in 1011 (by decide +kernel) rfl, rfl, rfl, fun h => by cases h⟩
theorem fX6_167 : FL RX6 167 6 19 false (.int) := ⟨RX6, TX6, 41, tyX6, clX6, by decide, gw_in 1014 (by decide +kernel) rfl, rfl, rfl, fun h => by cases h⟩
theorem fX6_170 : FL RX6 170 6 20 false (.int) := ⟨RX6, TX6, 41, tyX6, clX6, by decide, gw_in 1015 (by decide +kernel) rfl, rfl, rfl, fun h => by cases h⟩
theorem fX6_223 : FL RX6 223 6 28 false (.int) := ⟨RX6, TX6, 41, tyX6, clX6, by decide, gw_in 1023 (by decide +kernel) rfl, rfl, rfl, fun h => by cases h⟩
theorem fX6_226 : FL RX6 226 6 29 false (.int) := ⟨RX6, TX6, 41, tyX6, clX6, by decide, gw_in 1024 (by decide +kernel) rfl, rfl, rfl, fun h => by cases h⟩
theorem fX6_229 : FL RX6 229 6 30 false (.int) := ⟨RX6, TX6, 41, tyX6, clX6, by decide, gw_in 1025 (by decide +kernel) rfl, rfl, rfl, fun h => by cases h⟩
theorem fX6_242 : FL RX6 242 6 33 false (.int) := ⟨RX6, TX6, 41, tyX6, clX6, by decide, gw_in 1028 (by decide +kernel) rfl, rfl, rfl, fun h => by cases h⟩
theorem fX6_257 : FL RX6 257 6 37 false (.int) := ⟨RX6, TX6, 41, tyX6, clX6, by decide, gw_in 1032 (by decide +kernel) rfl, rfl, rfl, fun h => by cases h⟩
theorem fX6_263 : FL RX6 263 6 36 false (.int) := ⟨RX6, TX6, 41, tyX6, clX6, by decide, gw_in 1031 (by decide +kernel) rfl, rfl, rfl, fun h => by cases h⟩
theorem fX6_269 : FL RX6 269 6 38 false (.int) := ⟨RX6, TX6, 41, tyX6, clX6, by decide, gw_in 1033 (by decide +kernel) rfl, rfl, rfl, fun h => by cases h⟩
theorem fX2_67 : FN RX2 67 0 14 := ⟨RX0, TX0, 15, tyX0, "OpenCross", clX0, by decide, fun s h => h.2.2.2.2.2⟩
theorem vX0_init : MC mX0_init 1 := ⟨⟨gw_in 195 (by decide +kernel) rfl, gw_in 83 (by decide +kernel) rfl, by decide, by decide, by decide +kernel⟩, rfl, gw_in 194 (by decide +kernel) rfl⟩
theorem vX0_hold : MV mX0_hold 2 := ⟨⟨gw_in 546 (by decide +kernel) rfl, gw_in 83 (by decide +kernel) rfl, by decide, by decide, by decide +kernel⟩, gw_in 544 (by decide +kernel) rfl, gw_in 545 (by decide +kernel) rfl⟩
theorem vX0_get : MV mX0_get 2 := ⟨⟨gw_in 554 (by decide +kernel) rfl, gw_in 83 (by decide +kernel) rfl, by decide, by decide, by decide +kernel⟩, gw_in 553 (by decide +kernel) rfl, gw_in 11 (by decide +kernel) rfl⟩
theorem vX0_isGone : MV mX0_isGone 1 := ⟨⟨gw_in 550 (by decide +kernel) rfl, gw_in 83 (by decide +kernel) rfl, by decide, by decide, by decide +kernel⟩, gw_in 548 (by decide +kernel) rfl, gw_in 549 (by decide +kernel) rfl⟩
theorem vX0_isOut : MV mX0_isOut 1 := ⟨⟨gw_in 754 (by decide +kernel) rfl, gw_in 83 (by decide +kernel) rfl, by decide, by decide, by decide +kernel⟩, gw_in 752 (by decide +kernel) rfl, gw_in 753 (by decide +kernel) rfl⟩
theorem vX0_holdSlices : MV mX0_holdSlices 1 := ⟨⟨gw_in 558 (by decide +kernel) rfl, gw_in 83 (by decide +kernel) rfl, by decide, by decide, by decide +kernel⟩, gw_in 557 (by decide +kernel) rfl, gw_in 12 (by decide +kernel) rfl⟩
theorem vX0_keyOf : MS mX0_keyOf 3 := ⟨⟨gw_in 561 (by decide +kernel) rfl, gw_in 83 (by decide +kernel) rfl, by decide, by decide, by decide +kernel⟩, gw_in 560 (by decide +kernel) rfl⟩
theorem vX0_holdSlice : MV mX0_holdSlice 2 := ⟨⟨gw_in 567 (by decide +kernel) rfl, gw_in 83 (by decide +kernel) rfl, by decide, by decide, by decide +kernel⟩, gw_in 566 (by decide +kernel) rfl, gw_in 13 (by decide +kernel) rfl⟩
theorem vX0_holdTurn : MV mX0_holdTurn 1 := ⟨⟨gw_in 574 (by decide +kernel) rfl, gw_in 83 (by decide +kernel) rfl, by decide, by decide, by decide +kernel⟩, gw_in 573 (by decide +kernel) rfl, gw_in 14 (by decide +kernel) rfl⟩
theorem vX0_insert : MS mX0_insert 3 := ⟨⟨gw_in 570 (by decide +kernel) rfl, gw_in 83 (by decide +kernel) rfl, by decide, by decide, by decide +kernel⟩, gw_in 569 (by decide +kernel) rfl⟩
theorem vX0_numberOf : MS mX0_numberOf 1 := ⟨⟨gw_in 601 (by decide +kernel) rfl, gw_in 83 (by decide +kernel) rfl, by decide, by decide, by decide +kernel⟩, gw_in 600 (by decide +kernel) rfl⟩
theorem vX0_sizeOf : MV mX0_sizeOf 1 := ⟨⟨gw_in 648 (by decide +kernel) rfl, gw_in 83 (by decide +kernel) rfl, by decide, by decide, by decide +kernel⟩, gw_in 646 (by decide +kernel) rfl, gw_in 647 (by decide +kernel) rfl⟩
theorem vX0_isWilling : MV mX0_isWilling 2 := ⟨⟨gw_in 641 (by decide +kernel) rfl, gw_in 83 (by decide +kernel) rfl, by decide, by decide, by decide +kernel⟩, gw_in 640 (by decide +kernel) rfl, gw_in 20 (by decide +kernel) rfl⟩
theorem vX0_countSlices : MV mX0_countSlices 2 := ⟨⟨gw_in 762 (by decide +kernel) rfl, gw_in 83 (by decide +kernel) rfl, by decide, by decide, by decide +kernel⟩, gw_in 760 (by decide +kernel) rfl, gw_in 761 (by decide +kernel) rfl⟩
theorem vX0_findSlice : MV mX0_findSlice 3 := ⟨⟨gw_in 766 (by decide +kernel) rfl, gw_in 83 (by decide +kernel) rfl, by decide, by decide, by decide +kernel⟩, gw_in 764 (by decide +kernel) rfl, gw_in 765 (by decide +kernel) rfl⟩
theorem vX0_run : MV mX0_run 1 := ⟨⟨gw_in 578 (by decide +kernel) rfl, gw_in 83 (by decide +kernel) rfl, by decide, by decide, by decide +kernel⟩, gw_in 576 (by decide +kernel) rfl, gw_in 577 (by decide +kernel) rfl⟩
theorem vX0_findPrice : MV mX0_findPrice 0 := ⟨⟨gw_in 582 (by decide +kernel) rfl, gw_in 83 (by decide +kernel) rfl, by decide, by decide, by decide +kernel⟩, gw_in 581 (by decide +kernel) rfl, gw_in 15 (by decide +kernel) rfl⟩
theorem vX0_startBelowAll : MV mX0_startBelowAll 0 := ⟨⟨gw_in 590 (by decide +kernel) rfl, gw_in 83 (by decide +kernel) rfl, by decide, by decide, by decide +kernel⟩, gw_in 589 (by decide +kernel) rfl, gw_in 16 (by decide +kernel) rfl⟩
theorem vX0_pass : MV mX0_pass 1 := ⟨⟨gw_in 605 (by decide +kernel) rfl, gw_in 83 (by decide +kernel) rfl, by decide, by decide, by decide +kernel⟩, gw_in 604 (by decide +kernel) rfl, gw_in 17 (by decide +kernel) rfl⟩
theorem vX0_share : MV mX0_share 1 := ⟨⟨gw_in 637 (by decide +kernel) rfl, gw_in 83 (by decide +kernel) rfl, by decide, by decide, by decide +kernel⟩, gw_in 636 (by decide +kernel) rfl, gw_in 19 (by decide +kernel) rfl⟩
theorem vX0_lastUnserved : MV mX0_lastUnserved 0 := ⟨⟨gw_in 652 (by decide +kernel) rfl, gw_in 83 (by decide +kernel) rfl, by decide, by decide, by decide +kernel⟩, gw_in 651 (by decide +kernel) rfl, gw_in 21 (by decide +kernel) rfl⟩
theorem vX0_match : MV mX0_match 0 := ⟨⟨gw_in 701 (by decide +kernel) rfl, gw_in 83 (by decide +kernel) rfl, by decide, by decide, by decide +kernel⟩, gw_in 699 (by decide +kernel) rfl, gw_in 700 (by decide +kernel) rfl⟩
theorem vX0_noteTrade : MV mX0_noteTrade 3 := ⟨⟨gw_in 705 (by decide +kernel) rfl, gw_in 83 (by decide +kernel) rfl, by decide, by decide, by decide +kernel⟩, gw_in 704 (by decide +kernel) rfl, gw_in 24 (by decide +kernel) rfl⟩
theorem vX0_tradePart : MV mX0_tradePart 2 := ⟨⟨gw_in 776 (by decide +kernel) rfl, gw_in 83 (by decide +kernel) rfl, by decide, by decide, by decide +kernel⟩, gw_in 774 (by decide +kernel) rfl, gw_in 775 (by decide +kernel) rfl⟩
theorem vX0_tradedWithin : MV mX0_tradedWithin 1 := ⟨⟨gw_in 835 (by decide +kernel) rfl, gw_in 83 (by decide +kernel) rfl, by decide, by decide, by decide +kernel⟩, gw_in 833 (by decide +kernel) rfl, gw_in 834 (by decide +kernel) rfl⟩
theorem vX0_filledOf : MV mX0_filledOf 2 := ⟨⟨gw_in 840 (by decide +kernel) rfl, gw_in 83 (by decide +kernel) rfl, by decide, by decide, by decide +kernel⟩, gw_in 838 (by decide +kernel) rfl, gw_in 839 (by decide +kernel) rfl⟩
theorem vX0_gained : MV mX0_gained 0 := ⟨⟨gw_in 848 (by decide +kernel) rfl, gw_in 83 (by decide +kernel) rfl, by decide, by decide, by decide +kernel⟩, gw_in 846 (by decide +kernel) rfl, gw_in 847 (by decide +kernel) rfl⟩
theorem vX1_init : MC mX1_init 0 := ⟨⟨gw_in 201 (by decide +kernel) rfl, gw_in 84 (by decide +kernel) rfl, by decide, by decide, by decide +kernel⟩, rfl, gw_in 200 (by decide +kernel) rfl⟩
theorem vX1_reset : MV mX1_reset 0 := ⟨⟨gw_in 594 (by decide +kernel) rfl, gw_in 84 (by decide +kernel) rfl, by decide, by decide, by decide +kernel⟩, gw_in 592 (by decide +kernel) rfl, gw_in 593 (by decide +kernel) rfl⟩
theorem vX1_add : MV mX1_add 3 := ⟨⟨gw_in 598 (by decide +kernel) rfl, gw_in 84 (by decide +kernel) rfl, by decide, by decide, by decide +kernel⟩, gw_in 596 (by decide +kernel) rfl, gw_in 597 (by decide +kernel) rfl⟩
theorem vX1_sum : MV mX1_sum 2 := ⟨⟨gw_in 943 (by decide +kernel) rfl, gw_in 84 (by decide +kernel) rfl, by decide, by decide, by decide +kernel⟩, gw_in 941 (by decide +kernel) rfl, gw_in 942 (by decide +kernel) rfl⟩
theorem vX1_isWilling : MS mX1_isWilling 4 := ⟨⟨gw_in 644 (by decide +kernel) rfl, gw_in 84 (by decide +kernel) rfl, by decide, by decide, by decide +kernel⟩, gw_in 643 (by decide +kernel) rfl⟩
theorem vX1_even : MV mX1_even 0 := ⟨⟨gw_in 610 (by decide +kernel) rfl, gw_in 84 (by decide +kernel) rfl, by decide, by decide, by decide +kernel⟩, gw_in 608 (by decide +kernel) rfl, gw_in 609 (by decide +kernel) rfl⟩
theorem vX2_init : MC mX2_init 0 := ⟨⟨gw_in 149 (by decide +kernel) rfl, gw_in 82 (by decide +kernel) rfl, by decide, by decide, by decide +kernel⟩, rfl, gw_in 148 (by decide +kernel) rfl⟩
theorem vX2_reset : MV mX2_reset 0 := ⟨⟨gw_in 394 (by decide +kernel) rfl, gw_in 82 (by decide +kernel) rfl, by decide, by decide, by decide +kernel⟩, gw_in 392 (by decide +kernel) rfl, gw_in 393 (by decide +kernel) rfl⟩
theorem vX2_become : MV mX2_become 1 := ⟨⟨gw_in 534 (by decide +kernel) rfl, gw_in 82 (by decide +kernel) rfl, by decide, by decide, by decide +kernel⟩, gw_in 532 (by decide +kernel) rfl, gw_in 533 (by decide +kernel) rfl⟩
theorem vX2_has : MV mX2_has 1 := ⟨⟨gw_in 670 (by decide +kernel) rfl, gw_in 82 (by decide +kernel) rfl, by decide, by decide, by decide +kernel⟩, gw_in 668 (by decide +kernel) rfl, gw_in 669 (by decide +kernel) rfl⟩
theorem vX2_stands : MV mX2_stands 1 := ⟨⟨gw_in 666 (by decide +kernel) rfl, gw_in 82 (by decide +kernel) rfl, by decide, by decide, by decide +kernel⟩, gw_in 664 (by decide +kernel) rfl, gw_in 665 (by decide +kernel) rfl⟩
theorem vX2_get : MV mX2_get 2 := ⟨⟨gw_in 674 (by decide +kernel) rfl, gw_in 82 (by decide +kernel) rfl, by decide, by decide, by decide +kernel⟩, gw_in 672 (by decide +kernel) rfl, gw_in 673 (by decide +kernel) rfl⟩
theorem vX2_set : MV mX2_set 3 := ⟨⟨gw_in 515 (by decide +kernel) rfl, gw_in 82 (by decide +kernel) rfl, by decide, by decide, by decide +kernel⟩, gw_in 513 (by decide +kernel) rfl, gw_in 514 (by decide +kernel) rfl⟩
theorem vX2_add : MV mX2_add 7 := ⟨⟨gw_in 511 (by decide +kernel) rfl, gw_in 82 (by decide +kernel) rfl, by decide, by decide, by decide +kernel⟩, gw_in 509 (by decide +kernel) rfl, gw_in 510 (by decide +kernel) rfl⟩
theorem vX2_lower : MV mX2_lower 2 := ⟨⟨gw_in 684 (by decide +kernel) rfl, gw_in 82 (by decide +kernel) rfl, by decide, by decide, by decide +kernel⟩, gw_in 682 (by decide +kernel) rfl, gw_in 683 (by decide +kernel) rfl⟩
theorem vX2_leave : MV mX2_leave 1 := ⟨⟨gw_in 709 (by decide +kernel) rfl, gw_in 82 (by decide +kernel) rfl, by decide, by decide, by decide +kernel⟩, gw_in 707 (by decide +kernel) rfl, gw_in 708 (by decide +kernel) rfl⟩
theorem vX2_leaveOne : MV mX2_leaveOne 2 := ⟨⟨gw_in 714 (by decide +kernel) rfl, gw_in 82 (by decide +kernel) rfl, by decide, by decide, by decide +kernel⟩, gw_in 713 (by decide +kernel) rfl, gw_in 25 (by decide +kernel) rfl⟩
theorem vX2_leaveOf : MV mX2_leaveOf 1 := ⟨⟨gw_in 856 (by decide +kernel) rfl, gw_in 82 (by decide +kernel) rfl, by decide, by decide, by decide +kernel⟩, gw_in 854 (by decide +kernel) rfl, gw_in 855 (by decide +kernel) rfl⟩
theorem vX2_forgetGone : MV mX2_forgetGone 0 := ⟨⟨gw_in 728 (by decide +kernel) rfl, gw_in 82 (by decide +kernel) rfl, by decide, by decide, by decide +kernel⟩, gw_in 726 (by decide +kernel) rfl, gw_in 727 (by decide +kernel) rfl⟩
theorem vX2_keepShown : MV mX2_keepShown 0 := ⟨⟨gw_in 972 (by decide +kernel) rfl, gw_in 82 (by decide +kernel) rfl, by decide, by decide, by decide +kernel⟩, gw_in 970 (by decide +kernel) rfl, gw_in 971 (by decide +kernel) rfl⟩
theorem vX2_shownOf : MV mX2_shownOf 1 := ⟨⟨gw_in 823 (by decide +kernel) rfl, gw_in 82 (by decide +kernel) rfl, by decide, by decide, by decide +kernel⟩, gw_in 822 (by decide +kernel) rfl, gw_in 29 (by decide +kernel) rfl⟩
theorem vX2_standsAtLevel : MV mX2_standsAtLevel 2 := ⟨⟨gw_in 811 (by decide +kernel) rfl, gw_in 82 (by decide +kernel) rfl, by decide, by decide, by decide +kernel⟩, gw_in 810 (by decide +kernel) rfl, gw_in 28 (by decide +kernel) rfl⟩
theorem vX2_nextLevel : MV mX2_nextLevel 2 := ⟨⟨gw_in 807 (by decide +kernel) rfl, gw_in 82 (by decide +kernel) rfl, by decide, by decide, by decide +kernel⟩, gw_in 806 (by decide +kernel) rfl, gw_in 27 (by decide +kernel) rfl⟩
theorem vX2_aheadOfLevels : MS mX2_aheadOfLevels 1 := ⟨⟨gw_in 803 (by decide +kernel) rfl, gw_in 82 (by decide +kernel) rfl, by decide, by decide, by decide +kernel⟩, gw_in 802 (by decide +kernel) rfl⟩
theorem vX2_countLevels : MV mX2_countLevels 1 := ⟨⟨gw_in 800 (by decide +kernel) rfl, gw_in 82 (by decide +kernel) rfl, by decide, by decide, by decide +kernel⟩, gw_in 798 (by decide +kernel) rfl, gw_in 799 (by decide +kernel) rfl⟩
theorem vX2_levelPrice : MV mX2_levelPrice 2 := ⟨⟨gw_in 815 (by decide +kernel) rfl, gw_in 82 (by decide +kernel) rfl, by decide, by decide, by decide +kernel⟩, gw_in 813 (by decide +kernel) rfl, gw_in 814 (by decide +kernel) rfl⟩
theorem vX2_levelSum : MV mX2_levelSum 3 := ⟨⟨gw_in 819 (by decide +kernel) rfl, gw_in 82 (by decide +kernel) rfl, by decide, by decide, by decide +kernel⟩, gw_in 817 (by decide +kernel) rfl, gw_in 818 (by decide +kernel) rfl⟩
theorem vX2_countStanding : MV mX2_countStanding 0 := ⟨⟨gw_in 865 (by decide +kernel) rfl, gw_in 82 (by decide +kernel) rfl, by decide, by decide, by decide +kernel⟩, gw_in 863 (by decide +kernel) rfl, gw_in 864 (by decide +kernel) rfl⟩
theorem vX2_countOf : MV mX2_countOf 1 := ⟨⟨gw_in 831 (by decide +kernel) rfl, gw_in 82 (by decide +kernel) rfl, by decide, by decide, by decide +kernel⟩, gw_in 829 (by decide +kernel) rfl, gw_in 830 (by decide +kernel) rfl⟩
theorem vX3_init : MC mX3_init 0 := ⟨⟨gw_in 240 (by decide +kernel) rfl, gw_in 85 (by decide +kernel) rfl, by decide, by decide, by decide +kernel⟩, rfl, gw_in 239 (by decide +kernel) rfl⟩
theorem vX3_start : MV mX3_start 1 := ⟨⟨gw_in 586 (by decide +kernel) rfl, gw_in 85 (by decide +kernel) rfl, by decide, by decide, by decide +kernel⟩, gw_in 584 (by decide +kernel) rfl, gw_in 585 (by decide +kernel) rfl⟩
theorem vX3_weigh : MV mX3_weigh 3 := ⟨⟨gw_in 615 (by decide +kernel) rfl, gw_in 85 (by decide +kernel) rfl, by decide, by decide, by decide +kernel⟩, gw_in 613 (by decide +kernel) rfl, gw_in 614 (by decide +kernel) rfl⟩
theorem vX3_weighRest : MV mX3_weighRest 3 := ⟨⟨gw_in 619 (by decide +kernel) rfl, gw_in 85 (by decide +kernel) rfl, by decide, by decide, by decide +kernel⟩, gw_in 618 (by decide +kernel) rfl, gw_in 18 (by decide +kernel) rfl⟩
theorem vX3_decide : MV mX3_decide 0 := ⟨⟨gw_in 630 (by decide +kernel) rfl, gw_in 85 (by decide +kernel) rfl, by decide, by decide, by decide +kernel⟩, gw_in 628 (by decide +kernel) rfl, gw_in 629 (by decide +kernel) rfl⟩
theorem vX3_tell : MV mX3_tell 1 := ⟨⟨gw_in 961 (by decide +kernel) rfl, gw_in 85 (by decide +kernel) rfl, by decide, by decide, by decide +kernel⟩, gw_in 959 (by decide +kernel) rfl, gw_in 960 (by decide +kernel) rfl⟩
theorem vX4_init : MC mX4_init 0 := ⟨⟨gw_in 110 (by decide +kernel) rfl, gw_in 81 (by decide +kernel) rfl, by decide, by decide, by decide +kernel⟩, rfl, gw_in 109 (by decide +kernel) rfl⟩
theorem vX4_hasRoom : MV mX4_hasRoom 0 := ⟨⟨gw_in 382 (by decide +kernel) rfl, gw_in 81 (by decide +kernel) rfl, by decide, by decide, by decide +kernel⟩, gw_in 380 (by decide +kernel) rfl, gw_in 381 (by decide +kernel) rfl⟩
theorem vX4_append : MV mX4_append 1 := ⟨⟨gw_in 386 (by decide +kernel) rfl, gw_in 81 (by decide +kernel) rfl, by decide, by decide, by decide +kernel⟩, gw_in 384 (by decide +kernel) rfl, gw_in 385 (by decide +kernel) rfl⟩
theorem vX4_read : MV mX4_read 2 := ⟨⟨gw_in 398 (by decide +kernel) rfl, gw_in 81 (by decide +kernel) rfl, by decide, by decide, by decide +kernel⟩, gw_in 396 (by decide +kernel) rfl, gw_in 397 (by decide +kernel) rfl⟩
theorem vX4_readLine : MV mX4_readLine 1 := ⟨⟨gw_in 412 (by decide +kernel) rfl, gw_in 81 (by decide +kernel) rfl, by decide, by decide, by decide +kernel⟩, gw_in 411 (by decide +kernel) rfl, gw_in 1 (by decide +kernel) rfl⟩
theorem vX4_readReference : MV mX4_readReference 1 := ⟨⟨gw_in 469 (by decide +kernel) rfl, gw_in 81 (by decide +kernel) rfl, by decide, by decide, by decide +kernel⟩, gw_in 468 (by decide +kernel) rfl, gw_in 3 (by decide +kernel) rfl⟩
theorem vX4_readCollar : MV mX4_readCollar 1 := ⟨⟨gw_in 485 (by decide +kernel) rfl, gw_in 81 (by decide +kernel) rfl, by decide, by decide, by decide +kernel⟩, gw_in 484 (by decide +kernel) rfl, gw_in 6 (by decide +kernel) rfl⟩
theorem vX4_readOrder : MV mX4_readOrder 2 := ⟨⟨gw_in 490 (by decide +kernel) rfl, gw_in 81 (by decide +kernel) rfl, by decide, by decide, by decide +kernel⟩, gw_in 489 (by decide +kernel) rfl, gw_in 7 (by decide +kernel) rfl⟩
theorem vX4_readKind : MV mX4_readKind 0 := ⟨⟨gw_in 494 (by decide +kernel) rfl, gw_in 81 (by decide +kernel) rfl, by decide, by decide, by decide +kernel⟩, gw_in 493 (by decide +kernel) rfl, gw_in 8 (by decide +kernel) rfl⟩
theorem vX4_passes : MV mX4_passes 1 := ⟨⟨gw_in 504 (by decide +kernel) rfl, gw_in 81 (by decide +kernel) rfl, by decide, by decide, by decide +kernel⟩, gw_in 503 (by decide +kernel) rfl, gw_in 9 (by decide +kernel) rfl⟩
theorem vX4_readWhole : MV mX4_readWhole 2 := ⟨⟨gw_in 477 (by decide +kernel) rfl, gw_in 81 (by decide +kernel) rfl, by decide, by decide, by decide +kernel⟩, gw_in 476 (by decide +kernel) rfl, gw_in 5 (by decide +kernel) rfl⟩
theorem vX4_fail : MV mX4_fail 1 := ⟨⟨gw_in 473 (by decide +kernel) rfl, gw_in 81 (by decide +kernel) rfl, by decide, by decide, by decide +kernel⟩, gw_in 472 (by decide +kernel) rfl, gw_in 4 (by decide +kernel) rfl⟩
theorem vX4_is : MV mX4_is 1 := ⟨⟨gw_in 417 (by decide +kernel) rfl, gw_in 81 (by decide +kernel) rfl, by decide, by decide, by decide +kernel⟩, gw_in 416 (by decide +kernel) rfl, gw_in 2 (by decide +kernel) rfl⟩
theorem vX4_next : MV mX4_next 0 := ⟨⟨gw_in 405 (by decide +kernel) rfl, gw_in 81 (by decide +kernel) rfl, by decide, by decide, by decide +kernel⟩, gw_in 404 (by decide +kernel) rfl, gw_in 0 (by decide +kernel) rfl⟩
theorem vX4_typeOf : MS mX4_typeOf 1 := ⟨⟨gw_in 408 (by decide +kernel) rfl, gw_in 81 (by decide +kernel) rfl, by decide, by decide, by decide +kernel⟩, gw_in 407 (by decide +kernel) rfl⟩
theorem vX5_init : MC mX5_init 0 := ⟨⟨gw_in 102 (by decide +kernel) rfl, gw_in 80 (by decide +kernel) rfl, by decide, by decide, by decide +kernel⟩, rfl, gw_in 101 (by decide +kernel) rfl⟩
theorem vX5_feed : MV mX5_feed 5 := ⟨⟨gw_in 378 (by decide +kernel) rfl, gw_in 80 (by decide +kernel) rfl, by decide, by decide, by decide +kernel⟩, gw_in 376 (by decide +kernel) rfl, gw_in 377 (by decide +kernel) rfl⟩
theorem vX5_text : MV mX5_text 1 := ⟨⟨gw_in 390 (by decide +kernel) rfl, gw_in 80 (by decide +kernel) rfl, by decide, by decide, by decide +kernel⟩, gw_in 388 (by decide +kernel) rfl, gw_in 389 (by decide +kernel) rfl⟩
theorem vX5_told : MV mX5_told 7 := ⟨⟨gw_in 520 (by decide +kernel) rfl, gw_in 80 (by decide +kernel) rfl, by decide, by decide, by decide +kernel⟩, gw_in 518 (by decide +kernel) rfl, gw_in 519 (by decide +kernel) rfl⟩
theorem vX5_gone : MV mX5_gone 1 := ⟨⟨gw_in 662 (by decide +kernel) rfl, gw_in 80 (by decide +kernel) rfl, by decide, by decide, by decide +kernel⟩, gw_in 660 (by decide +kernel) rfl, gw_in 661 (by decide +kernel) rfl⟩
theorem vX5_less : MV mX5_less 2 := ⟨⟨gw_in 680 (by decide +kernel) rfl, gw_in 80 (by decide +kernel) rfl, by decide, by decide, by decide +kernel⟩, gw_in 678 (by decide +kernel) rfl, gw_in 679 (by decide +kernel) rfl⟩
theorem vX5_freeze : MV mX5_freeze 0 := ⟨⟨gw_in 689 (by decide +kernel) rfl, gw_in 80 (by decide +kernel) rfl, by decide, by decide, by decide +kernel⟩, gw_in 687 (by decide +kernel) rfl, gw_in 688 (by decide +kernel) rfl⟩
theorem vX5_cross : MV mX5_cross 0 := ⟨⟨gw_in 693 (by decide +kernel) rfl, gw_in 80 (by decide +kernel) rfl, by decide, by decide, by decide +kernel⟩, gw_in 691 (by decide +kernel) rfl, gw_in 692 (by decide +kernel) rfl⟩
theorem vX5_open : MV mX5_open 0 := ⟨⟨gw_in 724 (by decide +kernel) rfl, gw_in 80 (by decide +kernel) rfl, by decide, by decide, by decide +kernel⟩, gw_in 722 (by decide +kernel) rfl, gw_in 723 (by decide +kernel) rfl⟩
theorem vX5_reference : MV mX5_reference 1 := ⟨⟨gw_in 732 (by decide +kernel) rfl, gw_in 80 (by decide +kernel) rfl, by decide, by decide, by decide +kernel⟩, gw_in 730 (by decide +kernel) rfl, gw_in 731 (by decide +kernel) rfl⟩
theorem vX5_collar : MV mX5_collar 2 := ⟨⟨gw_in 736 (by decide +kernel) rfl, gw_in 80 (by decide +kernel) rfl, by decide, by decide, by decide +kernel⟩, gw_in 734 (by decide +kernel) rfl, gw_in 735 (by decide +kernel) rfl⟩
theorem vX5_back : MV mX5_back 0 := ⟨⟨gw_in 740 (by decide +kernel) rfl, gw_in 80 (by decide +kernel) rfl, by decide, by decide, by decide +kernel⟩, gw_in 738 (by decide +kernel) rfl, gw_in 739 (by decide +kernel) rfl⟩
theorem vX5_order : MV mX5_order 2 := ⟨⟨gw_in 744 (by decide +kernel) rfl, gw_in 80 (by decide +kernel) rfl, by decide, by decide, by decide +kernel⟩, gw_in 742 (by decide +kernel) rfl, gw_in 743 (by decide +kernel) rfl⟩
theorem vX5_curve : MV mX5_curve 2 := ⟨⟨gw_in 874 (by decide +kernel) rfl, gw_in 80 (by decide +kernel) rfl, by decide, by decide, by decide +kernel⟩, gw_in 872 (by decide +kernel) rfl, gw_in 873 (by decide +kernel) rfl⟩
theorem vX5_crossed : MV mX5_crossed 1 := ⟨⟨gw_in 956 (by decide +kernel) rfl, gw_in 80 (by decide +kernel) rfl, by decide, by decide, by decide +kernel⟩, gw_in 954 (by decide +kernel) rfl, gw_in 955 (by decide +kernel) rfl⟩
theorem vX5_fill : MV mX5_fill 1 := ⟨⟨gw_in 749 (by decide +kernel) rfl, gw_in 80 (by decide +kernel) rfl, by decide, by decide, by decide +kernel⟩, gw_in 747 (by decide +kernel) rfl, gw_in 748 (by decide +kernel) rfl⟩
theorem vX5_slice : MV mX5_slice 4 := ⟨⟨gw_in 758 (by decide +kernel) rfl, gw_in 80 (by decide +kernel) rfl, by decide, by decide, by decide +kernel⟩, gw_in 756 (by decide +kernel) rfl, gw_in 757 (by decide +kernel) rfl⟩
theorem vX5_trade : MV mX5_trade 2 := ⟨⟨gw_in 772 (by decide +kernel) rfl, gw_in 80 (by decide +kernel) rfl, by decide, by decide, by decide +kernel⟩, gw_in 770 (by decide +kernel) rfl, gw_in 771 (by decide +kernel) rfl⟩
theorem vX5_notice : MV mX5_notice 1 := ⟨⟨gw_in 968 (by decide +kernel) rfl, gw_in 80 (by decide +kernel) rfl, by decide, by decide, by decide +kernel⟩, gw_in 966 (by decide +kernel) rfl, gw_in 967 (by decide +kernel) rfl⟩
theorem vX5_without : MV mX5_without 1 := ⟨⟨gw_in 780 (by decide +kernel) rfl, gw_in 80 (by decide +kernel) rfl, by decide, by decide, by decide +kernel⟩, gw_in 778 (by decide +kernel) rfl, gw_in 779 (by decide +kernel) rfl⟩
theorem vX5_with : MV mX5_with 4 := ⟨⟨gw_in 784 (by decide +kernel) rfl, gw_in 80 (by decide +kernel) rfl, by decide, by decide, by decide +kernel⟩, gw_in 782 (by decide +kernel) rfl, gw_in 783 (by decide +kernel) rfl⟩
theorem vX5_moves : MV mX5_moves 2 := ⟨⟨gw_in 788 (by decide +kernel) rfl, gw_in 80 (by decide +kernel) rfl, by decide, by decide, by decide +kernel⟩, gw_in 786 (by decide +kernel) rfl, gw_in 787 (by decide +kernel) rfl⟩
theorem vX5_swings : MV mX5_swings 0 := ⟨⟨gw_in 792 (by decide +kernel) rfl, gw_in 80 (by decide +kernel) rfl, by decide, by decide, by decide +kernel⟩, gw_in 790 (by decide +kernel) rfl, gw_in 791 (by decide +kernel) rfl⟩
theorem vX5_level : MV mX5_level 3 := ⟨⟨gw_in 796 (by decide +kernel) rfl, gw_in 80 (by decide +kernel) rfl, by decide, by decide, by decide +kernel⟩, gw_in 794 (by decide +kernel) rfl, gw_in 795 (by decide +kernel) rfl⟩
theorem vX5_past : MV mX5_past 2 := ⟨⟨gw_in 979 (by decide +kernel) rfl, gw_in 80 (by decide +kernel) rfl, by decide, by decide, by decide +kernel⟩, gw_in 977 (by decide +kernel) rfl, gw_in 978 (by decide +kernel) rfl⟩
theorem vX5_owner : MV mX5_owner 2 := ⟨⟨gw_in 827 (by decide +kernel) rfl, gw_in 80 (by decide +kernel) rfl, by decide, by decide, by decide +kernel⟩, gw_in 825 (by decide +kernel) rfl, gw_in 826 (by decide +kernel) rfl⟩
theorem vX5_gain : MV mX5_gain 0 := ⟨⟨gw_in 844 (by decide +kernel) rfl, gw_in 80 (by decide +kernel) rfl, by decide, by decide, by decide +kernel⟩, gw_in 842 (by decide +kernel) rfl, gw_in 843 (by decide +kernel) rfl⟩
theorem vX5_left : MV mX5_left 0 := ⟨⟨gw_in 852 (by decide +kernel) rfl, gw_in 80 (by decide +kernel) rfl, by decide, by decide, by decide +kernel⟩, gw_in 850 (by decide +kernel) rfl, gw_in 851 (by decide +kernel) rfl⟩
theorem vX5_count : MV mX5_count 1 := ⟨⟨gw_in 861 (by decide +kernel) rfl, gw_in 80 (by decide +kernel) rfl, by decide, by decide, by decide +kernel⟩, gw_in 859 (by decide +kernel) rfl, gw_in 860 (by decide +kernel) rfl⟩
theorem vX5_within : MS mX5_within 3 := ⟨⟨gw_in 480 (by decide +kernel) rfl, gw_in 80 (by decide +kernel) rfl, by decide, by decide, by decide +kernel⟩, gw_in 479 (by decide +kernel) rfl⟩
theorem vX5_isSide : MS mX5_isSide 1 := ⟨⟨gw_in 526 (by decide +kernel) rfl, gw_in 80 (by decide +kernel) rfl, by decide, by decide, by decide +kernel⟩, gw_in 525 (by decide +kernel) rfl⟩
theorem vX5_isPrice : MS mX5_isPrice 1 := ⟨⟨gw_in 530 (by decide +kernel) rfl, gw_in 80 (by decide +kernel) rfl, by decide, by decide, by decide +kernel⟩, gw_in 529 (by decide +kernel) rfl⟩
theorem vX5_canBe : MS mX5_canBe 4 := ⟨⟨gw_in 523 (by decide +kernel) rfl, gw_in 80 (by decide +kernel) rfl, by decide, by decide, by decide +kernel⟩, gw_in 522 (by decide +kernel) rfl⟩
theorem vX5_runCross : MV mX5_runCross 0 := ⟨⟨gw_in 697 (by decide +kernel) rfl, gw_in 80 (by decide +kernel) rfl, by decide, by decide, by decide +kernel⟩, gw_in 696 (by decide +kernel) rfl, gw_in 23 (by decide +kernel) rfl⟩
theorem vX5_keepUnlessWorse : MV mX5_keepUnlessWorse 0 := ⟨⟨gw_in 542 (by decide +kernel) rfl, gw_in 80 (by decide +kernel) rfl, by decide, by decide, by decide +kernel⟩, gw_in 541 (by decide +kernel) rfl, gw_in 10 (by decide +kernel) rfl⟩
theorem vX5_keep : MV mX5_keep 0 := ⟨⟨gw_in 657 (by decide +kernel) rfl, gw_in 80 (by decide +kernel) rfl, by decide, by decide, by decide +kernel⟩, gw_in 656 (by decide +kernel) rfl, gw_in 22 (by decide +kernel) rfl⟩
theorem vX5_keepCrossing : MV mX5_keepCrossing 0 := ⟨⟨gw_in 719 (by decide +kernel) rfl, gw_in 80 (by decide +kernel) rfl, by decide, by decide, by decide +kernel⟩, gw_in 718 (by decide +kernel) rfl, gw_in 26 (by decide +kernel) rfl⟩
theorem vX6_thrown : MV mX6_thrown 0 := ⟨⟨gw_in 984 (by decide +kernel) rfl, gw_in 86 (by decide +kernel) rfl, by decide, by decide, by decide +kernel⟩, gw_in 982 (by decide +kernel) rfl, gw_in 983 (by decide +kernel) rfl⟩
theorem vX6_within : MS mX6_within 3 := ⟨⟨gw_in 1134 (by decide +kernel) rfl, gw_in 86 (by decide +kernel) rfl, by decide, by decide, by decide +kernel⟩, gw_in 1133 (by decide +kernel) rfl⟩
theorem vX6_init : MC mX6_init 0 := ⟨⟨gw_in 989 (by decide +kernel) rfl, gw_in 86 (by decide +kernel) rfl, by decide, by decide, by decide +kernel⟩, rfl, gw_in 988 (by decide +kernel) rfl⟩
theorem vX6_begins : MV mX6_begins 0 := ⟨⟨gw_in 994 (by decide +kernel) rfl, gw_in 86 (by decide +kernel) rfl, by decide, by decide, by decide +kernel⟩, gw_in 993 (by decide +kernel) rfl, gw_in 31 (by decide +kernel) rfl⟩
theorem vX6_feed : MV mX6_feed 5 := ⟨⟨gw_in 1123 (by decide +kernel) rfl, gw_in 86 (by decide +kernel) rfl, by decide, by decide, by decide +kernel⟩, gw_in 1121 (by decide +kernel) rfl, gw_in 1122 (by decide +kernel) rfl⟩
theorem vX6_puts : MV mX6_puts 1 := ⟨⟨gw_in 1127 (by decide +kernel) rfl, gw_in 86 (by decide +kernel) rfl, by decide, by decide, by decide +kernel⟩, gw_in 1126 (by decide +kernel) rfl, gw_in 32 (by decide +kernel) rfl⟩
theorem vX6_byteAt : MV mX6_byteAt 1 := ⟨⟨gw_in 1142 (by decide +kernel) rfl, gw_in 86 (by decide +kernel) rfl, by decide, by decide, by decide +kernel⟩, gw_in 1141 (by decide +kernel) rfl, gw_in 34 (by decide +kernel) rfl⟩
theorem vX6_isLetter : MS mX6_isLetter 1 := ⟨⟨gw_in 1145 (by decide +kernel) rfl, gw_in 86 (by decide +kernel) rfl, by decide, by decide, by decide +kernel⟩, gw_in 1144 (by decide +kernel) rfl⟩
theorem vX6_isDigit : MS mX6_isDigit 1 := ⟨⟨gw_in 1152 (by decide +kernel) rfl, gw_in 86 (by decide +kernel) rfl, by decide, by decide, by decide +kernel⟩, gw_in 1151 (by decide +kernel) rfl⟩
theorem vX6_go : MV mX6_go 0 := ⟨⟨gw_in 1138 (by decide +kernel) rfl, gw_in 86 (by decide +kernel) rfl, by decide, by decide, by decide +kernel⟩, gw_in 1137 (by decide +kernel) rfl, gw_in 33 (by decide +kernel) rfl⟩
theorem vX6_spelt : MS mX6_spelt 6 := ⟨⟨gw_in 1164 (by decide +kernel) rfl, gw_in 86 (by decide +kernel) rfl, by decide, by decide, by decide +kernel⟩, gw_in 1163 (by decide +kernel) rfl⟩
theorem vX6_reference : MS mX6_reference 0 := ⟨⟨gw_in 1161 (by decide +kernel) rfl, gw_in 86 (by decide +kernel) rfl, by decide, by decide, by decide +kernel⟩, gw_in 1160 (by decide +kernel) rfl⟩
theorem vX6_isWord : MV mX6_isWord 1 := ⟨⟨gw_in 1171 (by decide +kernel) rfl, gw_in 86 (by decide +kernel) rfl, by decide, by decide, by decide +kernel⟩, gw_in 1170 (by decide +kernel) rfl, gw_in 36 (by decide +kernel) rfl⟩
theorem vX6_wrong : MV mX6_wrong 1 := ⟨⟨gw_in 1179 (by decide +kernel) rfl, gw_in 86 (by decide +kernel) rfl, by decide, by decide, by decide +kernel⟩, gw_in 1178 (by decide +kernel) rfl, gw_in 38 (by decide +kernel) rfl⟩
theorem vX6_number : MV mX6_number 2 := ⟨⟨gw_in 1183 (by decide +kernel) rfl, gw_in 86 (by decide +kernel) rfl, by decide, by decide, by decide +kernel⟩, gw_in 1182 (by decide +kernel) rfl, gw_in 39 (by decide +kernel) rfl⟩
theorem vX6_word : MV mX6_word 1 := ⟨⟨gw_in 1203 (by decide +kernel) rfl, gw_in 86 (by decide +kernel) rfl, by decide, by decide, by decide +kernel⟩, gw_in 1202 (by decide +kernel) rfl, gw_in 44 (by decide +kernel) rfl⟩
theorem vX6_referenceLine : MV mX6_referenceLine 0 := ⟨⟨gw_in 1175 (by decide +kernel) rfl, gw_in 86 (by decide +kernel) rfl, by decide, by decide, by decide +kernel⟩, gw_in 1174 (by decide +kernel) rfl, gw_in 37 (by decide +kernel) rfl⟩
theorem vX6_collarLine : MV mX6_collarLine 0 := ⟨⟨gw_in 1187 (by decide +kernel) rfl, gw_in 86 (by decide +kernel) rfl, by decide, by decide, by decide +kernel⟩, gw_in 1186 (by decide +kernel) rfl, gw_in 40 (by decide +kernel) rfl⟩
theorem vX6_kindHere : MV mX6_kindHere 0 := ⟨⟨gw_in 1195 (by decide +kernel) rfl, gw_in 86 (by decide +kernel) rfl, by decide, by decide, by decide +kernel⟩, gw_in 1194 (by decide +kernel) rfl, gw_in 42 (by decide +kernel) rfl⟩
theorem vX6_keeps : MV mX6_keeps 3 := ⟨⟨gw_in 1199 (by decide +kernel) rfl, gw_in 86 (by decide +kernel) rfl, by decide, by decide, by decide +kernel⟩, gw_in 1198 (by decide +kernel) rfl, gw_in 43 (by decide +kernel) rfl⟩
theorem vX6_orderLine : MV mX6_orderLine 1 := ⟨⟨gw_in 1191 (by decide +kernel) rfl, gw_in 86 (by decide +kernel) rfl, by decide, by decide, by decide +kernel⟩, gw_in 1190 (by decide +kernel) rfl, gw_in 41 (by decide +kernel) rfl⟩
theorem vX6_line : MV mX6_line 0 := ⟨⟨gw_in 1158 (by decide +kernel) rfl, gw_in 86 (by decide +kernel) rfl, by decide, by decide, by decide +kernel⟩, gw_in 1157 (by decide +kernel) rfl, gw_in 35 (by decide +kernel) rfl⟩
theorem vX6_text : MV mX6_text 1 := ⟨⟨gw_in 1131 (by decide +kernel) rfl, gw_in 86 (by decide +kernel) rfl, by decide, by decide, by decide +kernel⟩, gw_in 1129 (by decide +kernel) rfl, gw_in 1130 (by decide +kernel) rfl⟩
theorem vX6_isOrder : MV mX6_isOrder 1 := ⟨⟨gw_in 1317 (by decide +kernel) rfl, gw_in 86 (by decide +kernel) rfl, by decide, by decide, by decide +kernel⟩, gw_in 1316 (by decide +kernel) rfl, gw_in 66 (by decide +kernel) rfl⟩
theorem vX6_of : MV mX6_of 2 := ⟨⟨gw_in 1238 (by decide +kernel) rfl, gw_in 86 (by decide +kernel) rfl, by decide, by decide, by decide +kernel⟩, gw_in 1237 (by decide +kernel) rfl, gw_in 49 (by decide +kernel) rfl⟩
theorem vX6_isGone : MV mX6_isGone 1 := ⟨⟨gw_in 1234 (by decide +kernel) rfl, gw_in 86 (by decide +kernel) rfl, by decide, by decide, by decide +kernel⟩, gw_in 1233 (by decide +kernel) rfl, gw_in 48 (by decide +kernel) rfl⟩
theorem vX6_countsAll : MV mX6_countsAll 0 := ⟨⟨gw_in 1230 (by decide +kernel) rfl, gw_in 86 (by decide +kernel) rfl, by decide, by decide, by decide +kernel⟩, gw_in 1229 (by decide +kernel) rfl, gw_in 47 (by decide +kernel) rfl⟩
theorem vX6_laysSums : MV mX6_laysSums 0 := ⟨⟨gw_in 1246 (by decide +kernel) rfl, gw_in 86 (by decide +kernel) rfl, by decide, by decide, by decide +kernel⟩, gw_in 1245 (by decide +kernel) rfl, gw_in 51 (by decide +kernel) rfl⟩
theorem vX6_size : MS mX6_size 1 := ⟨⟨gw_in 1269 (by decide +kernel) rfl, gw_in 86 (by decide +kernel) rfl, by decide, by decide, by decide +kernel⟩, gw_in 1268 (by decide +kernel) rfl⟩
theorem vX6_lesser : MS mX6_lesser 2 := ⟨⟨gw_in 1253 (by decide +kernel) rfl, gw_in 86 (by decide +kernel) rfl, by decide, by decide, by decide +kernel⟩, gw_in 1252 (by decide +kernel) rfl⟩
theorem vX6_overAt : MV mX6_overAt 1 := ⟨⟨gw_in 1261 (by decide +kernel) rfl, gw_in 86 (by decide +kernel) rfl, by decide, by decide, by decide +kernel⟩, gw_in 1260 (by decide +kernel) rfl, gw_in 54 (by decide +kernel) rfl⟩
theorem vX6_helpAt : MV mX6_helpAt 1 := ⟨⟨gw_in 1257 (by decide +kernel) rfl, gw_in 86 (by decide +kernel) rfl, by decide, by decide, by decide +kernel⟩, gw_in 1256 (by decide +kernel) rfl, gw_in 53 (by decide +kernel) rfl⟩
theorem vX6_volumeAt : MV mX6_volumeAt 1 := ⟨⟨gw_in 1250 (by decide +kernel) rfl, gw_in 86 (by decide +kernel) rfl, by decide, by decide, by decide +kernel⟩, gw_in 1249 (by decide +kernel) rfl, gw_in 52 (by decide +kernel) rfl⟩
theorem vX6_restAt : MV mX6_restAt 1 := ⟨⟨gw_in 1266 (by decide +kernel) rfl, gw_in 86 (by decide +kernel) rfl, by decide, by decide, by decide +kernel⟩, gw_in 1265 (by decide +kernel) rfl, gw_in 55 (by decide +kernel) rfl⟩
theorem vX6_findsPrice : MV mX6_findsPrice 0 := ⟨⟨gw_in 1242 (by decide +kernel) rfl, gw_in 86 (by decide +kernel) rfl, by decide, by decide, by decide +kernel⟩, gw_in 1241 (by decide +kernel) rfl, gw_in 50 (by decide +kernel) rfl⟩
theorem vX6_presses : MV mX6_presses 2 := ⟨⟨gw_in 1273 (by decide +kernel) rfl, gw_in 86 (by decide +kernel) rfl, by decide, by decide, by decide +kernel⟩, gw_in 1272 (by decide +kernel) rfl, gw_in 56 (by decide +kernel) rfl⟩
theorem vX6_isWilling : MV mX6_isWilling 2 := ⟨⟨gw_in 1285 (by decide +kernel) rfl, gw_in 86 (by decide +kernel) rfl, by decide, by decide, by decide +kernel⟩, gw_in 1284 (by decide +kernel) rfl, gw_in 59 (by decide +kernel) rfl⟩
theorem vX6_rank : MV mX6_rank 2 := ⟨⟨gw_in 1293 (by decide +kernel) rfl, gw_in 86 (by decide +kernel) rfl, by decide, by decide, by decide +kernel⟩, gw_in 1292 (by decide +kernel) rfl, gw_in 61 (by decide +kernel) rfl⟩
theorem vX6_partOf : MV mX6_partOf 2 := ⟨⟨gw_in 1289 (by decide +kernel) rfl, gw_in 86 (by decide +kernel) rfl, by decide, by decide, by decide +kernel⟩, gw_in 1288 (by decide +kernel) rfl, gw_in 60 (by decide +kernel) rfl⟩
theorem vX6_laysSlices : MV mX6_laysSlices 2 := ⟨⟨gw_in 1281 (by decide +kernel) rfl, gw_in 86 (by decide +kernel) rfl, by decide, by decide, by decide +kernel⟩, gw_in 1280 (by decide +kernel) rfl, gw_in 58 (by decide +kernel) rfl⟩
theorem vX6_fills : MV mX6_fills 1 := ⟨⟨gw_in 1277 (by decide +kernel) rfl, gw_in 86 (by decide +kernel) rfl, by decide, by decide, by decide +kernel⟩, gw_in 1276 (by decide +kernel) rfl, gw_in 57 (by decide +kernel) rfl⟩
theorem vX6_unhappy : MV mX6_unhappy 0 := ⟨⟨gw_in 1297 (by decide +kernel) rfl, gw_in 86 (by decide +kernel) rfl, by decide, by decide, by decide +kernel⟩, gw_in 1296 (by decide +kernel) rfl, gw_in 62 (by decide +kernel) rfl⟩
theorem vX6_crosses : MV mX6_crosses 1 := ⟨⟨gw_in 1226 (by decide +kernel) rfl, gw_in 86 (by decide +kernel) rfl, by decide, by decide, by decide +kernel⟩, gw_in 1225 (by decide +kernel) rfl, gw_in 46 (by decide +kernel) rfl⟩
theorem vX6_priceWithout : MV mX6_priceWithout 1 := ⟨⟨gw_in 1395 (by decide +kernel) rfl, gw_in 86 (by decide +kernel) rfl, by decide, by decide, by decide +kernel⟩, gw_in 1394 (by decide +kernel) rfl, gw_in 71 (by decide +kernel) rfl⟩
theorem vX6_lays : MV mX6_lays 0 := ⟨⟨gw_in 1337 (by decide +kernel) rfl, gw_in 86 (by decide +kernel) rfl, by decide, by decide, by decide +kernel⟩, gw_in 1336 (by decide +kernel) rfl, gw_in 68 (by decide +kernel) rfl⟩
theorem vX6_laysTrades : MV mX6_laysTrades 0 := ⟨⟨gw_in 1341 (by decide +kernel) rfl, gw_in 86 (by decide +kernel) rfl, by decide, by decide, by decide +kernel⟩, gw_in 1340 (by decide +kernel) rfl, gw_in 69 (by decide +kernel) rfl⟩
theorem vX6_keepsBack : MV mX6_keepsBack 0 := ⟨⟨gw_in 1305 (by decide +kernel) rfl, gw_in 86 (by decide +kernel) rfl, by decide, by decide, by decide +kernel⟩, gw_in 1304 (by decide +kernel) rfl, gw_in 64 (by decide +kernel) rfl⟩
theorem vX6_back : MV mX6_back 0 := ⟨⟨gw_in 1207 (by decide +kernel) rfl, gw_in 86 (by decide +kernel) rfl, by decide, by decide, by decide +kernel⟩, gw_in 1205 (by decide +kernel) rfl, gw_in 1206 (by decide +kernel) rfl⟩
theorem vX6_isTold : MS mX6_isTold 4 := ⟨⟨gw_in 1214 (by decide +kernel) rfl, gw_in 86 (by decide +kernel) rfl, by decide, by decide, by decide +kernel⟩, gw_in 1213 (by decide +kernel) rfl⟩
theorem vX6_puts_ : MV mX6_puts_ 7 := ⟨⟨gw_in 1301 (by decide +kernel) rfl, gw_in 86 (by decide +kernel) rfl, by decide, by decide, by decide +kernel⟩, gw_in 1300 (by decide +kernel) rfl, gw_in 63 (by decide +kernel) rfl⟩
theorem vX6_restNow : MV mX6_restNow 0 := ⟨⟨gw_in 1222 (by decide +kernel) rfl, gw_in 86 (by decide +kernel) rfl, by decide, by decide, by decide +kernel⟩, gw_in 1221 (by decide +kernel) rfl, gw_in 45 (by decide +kernel) rfl⟩
theorem vX6_told : MV mX6_told 7 := ⟨⟨gw_in 1211 (by decide +kernel) rfl, gw_in 86 (by decide +kernel) rfl, by decide, by decide, by decide +kernel⟩, gw_in 1209 (by decide +kernel) rfl, gw_in 1210 (by decide +kernel) rfl⟩
theorem vX6_canChange : MV mX6_canChange 1 := ⟨⟨gw_in 1313 (by decide +kernel) rfl, gw_in 86 (by decide +kernel) rfl, by decide, by decide, by decide +kernel⟩, gw_in 1312 (by decide +kernel) rfl, gw_in 65 (by decide +kernel) rfl⟩
theorem vX6_gone : MV mX6_gone 1 := ⟨⟨gw_in 1309 (by decide +kernel) rfl, gw_in 86 (by decide +kernel) rfl, by decide, by decide, by decide +kernel⟩, gw_in 1307 (by decide +kernel) rfl, gw_in 1308 (by decide +kernel) rfl⟩
theorem vX6_lessens : MV mX6_lessens 2 := ⟨⟨gw_in 1325 (by decide +kernel) rfl, gw_in 86 (by decide +kernel) rfl, by decide, by decide, by decide +kernel⟩, gw_in 1324 (by decide +kernel) rfl, gw_in 67 (by decide +kernel) rfl⟩
theorem vX6_less : MV mX6_less 2 := ⟨⟨gw_in 1321 (by decide +kernel) rfl, gw_in 86 (by decide +kernel) rfl, by decide, by decide, by decide +kernel⟩, gw_in 1319 (by decide +kernel) rfl, gw_in 1320 (by decide +kernel) rfl⟩
theorem vX6_freeze : MV mX6_freeze 0 := ⟨⟨gw_in 1329 (by decide +kernel) rfl, gw_in 86 (by decide +kernel) rfl, by decide, by decide, by decide +kernel⟩, gw_in 1327 (by decide +kernel) rfl, gw_in 1328 (by decide +kernel) rfl⟩
theorem vX6_cross : MV mX6_cross 0 := ⟨⟨gw_in 1333 (by decide +kernel) rfl, gw_in 86 (by decide +kernel) rfl, by decide, by decide, by decide +kernel⟩, gw_in 1331 (by decide +kernel) rfl, gw_in 1332 (by decide +kernel) rfl⟩
theorem vX6_open : MV mX6_open 0 := ⟨⟨gw_in 1345 (by decide +kernel) rfl, gw_in 86 (by decide +kernel) rfl, by decide, by decide, by decide +kernel⟩, gw_in 1343 (by decide +kernel) rfl, gw_in 1344 (by decide +kernel) rfl⟩
theorem vX6_reference_ : MV mX6_reference_ 1 := ⟨⟨gw_in 1349 (by decide +kernel) rfl, gw_in 86 (by decide +kernel) rfl, by decide, by decide, by decide +kernel⟩, gw_in 1347 (by decide +kernel) rfl, gw_in 1348 (by decide +kernel) rfl⟩
theorem vX6_collar : MV mX6_collar 2 := ⟨⟨gw_in 1353 (by decide +kernel) rfl, gw_in 86 (by decide +kernel) rfl, by decide, by decide, by decide +kernel⟩, gw_in 1351 (by decide +kernel) rfl, gw_in 1352 (by decide +kernel) rfl⟩
theorem vX6_order : MV mX6_order 2 := ⟨⟨gw_in 1357 (by decide +kernel) rfl, gw_in 86 (by decide +kernel) rfl, by decide, by decide, by decide +kernel⟩, gw_in 1355 (by decide +kernel) rfl, gw_in 1356 (by decide +kernel) rfl⟩
theorem vX6_curve : MV mX6_curve 2 := ⟨⟨gw_in 1361 (by decide +kernel) rfl, gw_in 86 (by decide +kernel) rfl, by decide, by decide, by decide +kernel⟩, gw_in 1359 (by decide +kernel) rfl, gw_in 1360 (by decide +kernel) rfl⟩
theorem vX6_crossed : MV mX6_crossed 1 := ⟨⟨gw_in 1365 (by decide +kernel) rfl, gw_in 86 (by decide +kernel) rfl, by decide, by decide, by decide +kernel⟩, gw_in 1363 (by decide +kernel) rfl, gw_in 1364 (by decide +kernel) rfl⟩
theorem vX6_fill : MV mX6_fill 1 := ⟨⟨gw_in 1370 (by decide +kernel) rfl, gw_in 86 (by decide +kernel) rfl, by decide, by decide, by decide +kernel⟩, gw_in 1368 (by decide +kernel) rfl, gw_in 1369 (by decide +kernel) rfl⟩
theorem vX6_slice : MV mX6_slice 4 := ⟨⟨gw_in 1374 (by decide +kernel) rfl, gw_in 86 (by decide +kernel) rfl, by decide, by decide, by decide +kernel⟩, gw_in 1372 (by decide +kernel) rfl, gw_in 1373 (by decide +kernel) rfl⟩
theorem vX6_trade : MV mX6_trade 2 := ⟨⟨gw_in 1378 (by decide +kernel) rfl, gw_in 86 (by decide +kernel) rfl, by decide, by decide, by decide +kernel⟩, gw_in 1376 (by decide +kernel) rfl, gw_in 1377 (by decide +kernel) rfl⟩
theorem vX6_laysNotice : MV mX6_laysNotice 0 := ⟨⟨gw_in 1387 (by decide +kernel) rfl, gw_in 86 (by decide +kernel) rfl, by decide, by decide, by decide +kernel⟩, gw_in 1386 (by decide +kernel) rfl, gw_in 70 (by decide +kernel) rfl⟩
theorem vX6_notice : MV mX6_notice 1 := ⟨⟨gw_in 1383 (by decide +kernel) rfl, gw_in 86 (by decide +kernel) rfl, by decide, by decide, by decide +kernel⟩, gw_in 1381 (by decide +kernel) rfl, gw_in 1382 (by decide +kernel) rfl⟩
theorem vX6_without : MV mX6_without 1 := ⟨⟨gw_in 1391 (by decide +kernel) rfl, gw_in 86 (by decide +kernel) rfl, by decide, by decide, by decide +kernel⟩, gw_in 1389 (by decide +kernel) rfl, gw_in 1390 (by decide +kernel) rfl⟩
theorem vX6_priceWith : MV mX6_priceWith 4 := ⟨⟨gw_in 1403 (by decide +kernel) rfl, gw_in 86 (by decide +kernel) rfl, by decide, by decide, by decide +kernel⟩, gw_in 1402 (by decide +kernel) rfl, gw_in 72 (by decide +kernel) rfl⟩
theorem vX6_with : MV mX6_with 4 := ⟨⟨gw_in 1399 (by decide +kernel) rfl, gw_in 86 (by decide +kernel) rfl, by decide, by decide, by decide +kernel⟩, gw_in 1397 (by decide +kernel) rfl, gw_in 1398 (by decide +kernel) rfl⟩
theorem vX6_moves : MV mX6_moves 2 := ⟨⟨gw_in 1407 (by decide +kernel) rfl, gw_in 86 (by decide +kernel) rfl, by decide, by decide, by decide +kernel⟩, gw_in 1405 (by decide +kernel) rfl, gw_in 1406 (by decide +kernel) rfl⟩
theorem vX6_swings : MV mX6_swings 0 := ⟨⟨gw_in 1411 (by decide +kernel) rfl, gw_in 86 (by decide +kernel) rfl, by decide, by decide, by decide +kernel⟩, gw_in 1409 (by decide +kernel) rfl, gw_in 1410 (by decide +kernel) rfl⟩
theorem vX6_stands : MV mX6_stands 2 := ⟨⟨gw_in 1423 (by decide +kernel) rfl, gw_in 86 (by decide +kernel) rfl, by decide, by decide, by decide +kernel⟩, gw_in 1422 (by decide +kernel) rfl, gw_in 74 (by decide +kernel) rfl⟩
theorem vX6_levelOf : MV mX6_levelOf 2 := ⟨⟨gw_in 1419 (by decide +kernel) rfl, gw_in 86 (by decide +kernel) rfl, by decide, by decide, by decide +kernel⟩, gw_in 1418 (by decide +kernel) rfl, gw_in 73 (by decide +kernel) rfl⟩
theorem vX6_level : MV mX6_level 3 := ⟨⟨gw_in 1415 (by decide +kernel) rfl, gw_in 86 (by decide +kernel) rfl, by decide, by decide, by decide +kernel⟩, gw_in 1413 (by decide +kernel) rfl, gw_in 1414 (by decide +kernel) rfl⟩
theorem vX6_past : MV mX6_past 2 := ⟨⟨gw_in 1427 (by decide +kernel) rfl, gw_in 86 (by decide +kernel) rfl, by decide, by decide, by decide +kernel⟩, gw_in 1425 (by decide +kernel) rfl, gw_in 1426 (by decide +kernel) rfl⟩
theorem vX6_xOf : MV mX6_xOf 2 := ⟨⟨gw_in 1435 (by decide +kernel) rfl, gw_in 86 (by decide +kernel) rfl, by decide, by decide, by decide +kernel⟩, gw_in 1434 (by decide +kernel) rfl, gw_in 75 (by decide +kernel) rfl⟩
theorem vX6_xFill : MV mX6_xFill 1 := ⟨⟨gw_in 1439 (by decide +kernel) rfl, gw_in 86 (by decide +kernel) rfl, by decide, by decide, by decide +kernel⟩, gw_in 1438 (by decide +kernel) rfl, gw_in 76 (by decide +kernel) rfl⟩
theorem vX6_owner : MV mX6_owner 2 := ⟨⟨gw_in 1431 (by decide +kernel) rfl, gw_in 86 (by decide +kernel) rfl, by decide, by decide, by decide +kernel⟩, gw_in 1429 (by decide +kernel) rfl, gw_in 1430 (by decide +kernel) rfl⟩
theorem vX6_gain : MV mX6_gain 0 := ⟨⟨gw_in 1443 (by decide +kernel) rfl, gw_in 86 (by decide +kernel) rfl, by decide, by decide, by decide +kernel⟩, gw_in 1441 (by decide +kernel) rfl, gw_in 1442 (by decide +kernel) rfl⟩
theorem vX6_leftOf : MV mX6_leftOf 2 := ⟨⟨gw_in 1451 (by decide +kernel) rfl, gw_in 86 (by decide +kernel) rfl, by decide, by decide, by decide +kernel⟩, gw_in 1450 (by decide +kernel) rfl, gw_in 77 (by decide +kernel) rfl⟩
theorem vX6_left : MV mX6_left 0 := ⟨⟨gw_in 1447 (by decide +kernel) rfl, gw_in 86 (by decide +kernel) rfl, by decide, by decide, by decide +kernel⟩, gw_in 1445 (by decide +kernel) rfl, gw_in 1446 (by decide +kernel) rfl⟩
theorem vX6_bestOf : MV mX6_bestOf 1 := ⟨⟨gw_in 1459 (by decide +kernel) rfl, gw_in 86 (by decide +kernel) rfl, by decide, by decide, by decide +kernel⟩, gw_in 1458 (by decide +kernel) rfl, gw_in 78 (by decide +kernel) rfl⟩
theorem vX6_count : MV mX6_count 1 := ⟨⟨gw_in 1455 (by decide +kernel) rfl, gw_in 86 (by decide +kernel) rfl, by decide, by decide, by decide +kernel⟩, gw_in 1453 (by decide +kernel) rfl, gw_in 1454 (by decide +kernel) rfl⟩
theorem lX5_3 : Cond.methodLink RX5 3 objectInit ∈ GW := gw_in 103 (by decide +kernel) rfl
theorem lX5_28 : Cond.methodLink RX5 28 yX0_init ∈ GW := gw_in 193 (by decide +kernel) rfl
theorem lX5_53 : Cond.methodLink RX5 53 yX4_hasRoom ∈ GW := gw_in 379 (by decide +kernel) rfl
theorem lX5_57 : Cond.methodLink RX5 57 yX4_append ∈ GW := gw_in 383 (by decide +kernel) rfl
theorem lX5_64 : Cond.methodLink RX5 64 yX2_reset ∈ GW := gw_in 391 (by decide +kernel) rfl
theorem lX5_67 : Cond.methodLink RX5 67 yX4_read ∈ GW := gw_in 395 (by decide +kernel) rfl
theorem lX5_72 : Cond.methodLink RX5 72 yX5_canBe ∈ GW := gw_in 521 (by decide +kernel) rfl
theorem lX5_76 : Cond.methodLink RX5 76 yX5_within ∈ GW := gw_in 527 (by decide +kernel) rfl
theorem lX5_83 : Cond.methodLink RX5 83 yX2_become ∈ GW := gw_in 531 (by decide +kernel) rfl
theorem lX5_86 : Cond.methodLink RX5 86 yX2_add ∈ GW := gw_in 538 (by decide +kernel) rfl
theorem lX5_90 : Cond.methodLink RX5 90 yX5_keepUnlessWorse ∈ GW := gw_in 539 (by decide +kernel) rfl
theorem lX5_93 : Cond.methodLink RX5 93 yX2_stands ∈ GW := gw_in 663 (by decide +kernel) rfl
theorem lX5_97 : Cond.methodLink RX5 97 yX2_get ∈ GW := gw_in 675 (by decide +kernel) rfl
theorem lX5_101 : Cond.methodLink RX5 101 yX2_set ∈ GW := gw_in 676 (by decide +kernel) rfl
theorem lX5_105 : Cond.methodLink RX5 105 yX2_lower ∈ GW := gw_in 681 (by decide +kernel) rfl
theorem lX5_109 : Cond.methodLink RX5 109 yX5_keep ∈ GW := gw_in 654 (by decide +kernel) rfl
theorem lX5_112 : Cond.methodLink RX5 112 yX5_runCross ∈ GW := gw_in 694 (by decide +kernel) rfl
theorem lX5_115 : Cond.methodLink RX5 115 yX0_match ∈ GW := gw_in 698 (by decide +kernel) rfl
theorem lX5_121 : Cond.methodLink RX5 121 yX2_leave ∈ GW := gw_in 706 (by decide +kernel) rfl
theorem lX5_125 : Cond.methodLink RX5 125 yX5_keepCrossing ∈ GW := gw_in 716 (by decide +kernel) rfl
theorem lX5_143 : Cond.methodLink RX5 143 yX2_forgetGone ∈ GW := gw_in 725 (by decide +kernel) rfl
theorem lX5_146 : Cond.methodLink RX5 146 yX5_isPrice ∈ GW := gw_in 528 (by decide +kernel) rfl
theorem lX5_155 : Cond.methodLink RX5 155 yX2_has ∈ GW := gw_in 745 (by decide +kernel) rfl
theorem lX5_169 : Cond.methodLink RX5 169 yX1_sum ∈ GW := gw_in 940 (by decide +kernel) rfl
theorem lX5_199 : Cond.methodLink RX5 199 yX3_tell ∈ GW := gw_in 958 (by decide +kernel) rfl
theorem lX5_203 : Cond.methodLink RX5 203 yX0_isGone ∈ GW := gw_in 750 (by decide +kernel) rfl
theorem lX5_206 : Cond.methodLink RX5 206 yX0_isOut ∈ GW := gw_in 751 (by decide +kernel) rfl
theorem lX5_209 : Cond.methodLink RX5 209 yX5_isSide ∈ GW := gw_in 524 (by decide +kernel) rfl
theorem lX5_215 : Cond.methodLink RX5 215 yX0_hold ∈ GW := gw_in 543 (by decide +kernel) rfl
theorem lX5_219 : Cond.methodLink RX5 219 yX0_countSlices ∈ GW := gw_in 759 (by decide +kernel) rfl
theorem lX5_222 : Cond.methodLink RX5 222 yX0_findSlice ∈ GW := gw_in 763 (by decide +kernel) rfl
theorem lX5_226 : Cond.methodLink RX5 226 yX0_numberOf ∈ GW := gw_in 767 (by decide +kernel) rfl
theorem lX5_229 : Cond.methodLink RX5 229 yX0_sizeOf ∈ GW := gw_in 768 (by decide +kernel) rfl
theorem lX5_235 : Cond.methodLink RX5 235 yX0_tradePart ∈ GW := gw_in 773 (by decide +kernel) rfl
theorem lX5_238 : Cond.methodLink RX5 238 yX2_keepShown ∈ GW := gw_in 969 (by decide +kernel) rfl
theorem lX5_241 : Cond.methodLink RX5 241 yX0_run ∈ GW := gw_in 575 (by decide +kernel) rfl
theorem lX5_244 : Cond.methodLink RX5 244 yX2_countLevels ∈ GW := gw_in 797 (by decide +kernel) rfl
theorem lX5_247 : Cond.methodLink RX5 247 yX2_levelPrice ∈ GW := gw_in 812 (by decide +kernel) rfl
theorem lX5_250 : Cond.methodLink RX5 250 yX2_levelSum ∈ GW := gw_in 816 (by decide +kernel) rfl
theorem lX5_253 : MW RX5 253 Lib.Math.min.name Lib.Math.min.code 2 := ⟨gw_in 658 (by decide +kernel) rfl, gw_in 400 (by decide +kernel) rfl, gw_in 87 (by decide +kernel) rfl, gw_in 401 (by decide +kernel) rfl⟩
theorem lX5_260 : Cond.methodLink RX5 260 yX2_countOf ∈ GW := gw_in 828 (by decide +kernel) rfl
theorem lX5_263 : Cond.methodLink RX5 263 yX0_tradedWithin ∈ GW := gw_in 832 (by decide +kernel) rfl
theorem lX5_266 : Cond.methodLink RX5 266 yX0_filledOf ∈ GW := gw_in 837 (by decide +kernel) rfl
theorem lX5_269 : Cond.methodLink RX5 269 yX0_gained ∈ GW := gw_in 845 (by decide +kernel) rfl
theorem lX5_273 : Cond.methodLink RX5 273 yX2_leaveOf ∈ GW := gw_in 853 (by decide +kernel) rfl
theorem lX5_277 : Cond.methodLink RX5 277 yX2_countStanding ∈ GW := gw_in 862 (by decide +kernel) rfl
theorem lX5_281 : MW RX5 281 Lib.Math.max.name Lib.Math.max.code 2 := ⟨gw_in 866 (by decide +kernel) rfl, gw_in 625 (by decide +kernel) rfl, gw_in 87 (by decide +kernel) rfl, gw_in 626 (by decide +kernel) rfl⟩
theorem lX5_288 : MW RX5 288 Lib.Math.abs.name Lib.Math.abs.code 1 := ⟨gw_in 653 (by decide +kernel) rfl, gw_in 621 (by decide +kernel) rfl, gw_in 87 (by decide +kernel) rfl, gw_in 622 (by decide +kernel) rfl⟩
theorem lX5_291 : AW RX5 291 := ⟨gw_in 720 (by decide +kernel) rfl, gw_in 537 (by decide +kernel) rfl, gw_in 536 (by decide +kernel) rfl, gw_in 92 (by decide +kernel) rfl⟩
theorem lX0_5 : Cond.methodLink RX0 5 objectInit ∈ GW := gw_in 196 (by decide +kernel) rfl
theorem lX0_75 : Cond.methodLink RX0 75 yX0_isGone ∈ GW := gw_in 547 (by decide +kernel) rfl
theorem lX0_79 : Cond.methodLink RX0 79 yX0_holdSlices ∈ GW := gw_in 555 (by decide +kernel) rfl
theorem lX0_83 : Cond.methodLink RX0 83 yX0_holdTurn ∈ GW := gw_in 571 (by decide +kernel) rfl
theorem lX0_86 : Cond.methodLink RX0 86 yX0_get ∈ GW := gw_in 551 (by decide +kernel) rfl
theorem lX0_90 : Cond.methodLink RX0 90 yX0_keyOf ∈ GW := gw_in 559 (by decide +kernel) rfl
theorem lX0_94 : Cond.methodLink RX0 94 yX0_holdSlice ∈ GW := gw_in 564 (by decide +kernel) rfl
theorem lX0_100 : Cond.methodLink RX0 100 yX0_insert ∈ GW := gw_in 568 (by decide +kernel) rfl
theorem lX0_104 : Cond.methodLink RX0 104 yX0_numberOf ∈ GW := gw_in 599 (by decide +kernel) rfl
theorem lX0_108 : Cond.methodLink RX0 108 yX1_isWilling ∈ GW := gw_in 642 (by decide +kernel) rfl
theorem lX0_112 : Cond.methodLink RX0 112 yX0_isWilling ∈ GW := gw_in 638 (by decide +kernel) rfl
theorem lX0_115 : Cond.methodLink RX0 115 yX0_findPrice ∈ GW := gw_in 579 (by decide +kernel) rfl
theorem lX0_124 : Cond.methodLink RX0 124 yX0_share ∈ GW := gw_in 634 (by decide +kernel) rfl
theorem lX0_127 : Cond.methodLink RX0 127 yX0_lastUnserved ∈ GW := gw_in 649 (by decide +kernel) rfl
theorem lX0_134 : Cond.methodLink RX0 134 yX3_start ∈ GW := gw_in 583 (by decide +kernel) rfl
theorem lX0_137 : Cond.methodLink RX0 137 yX0_startBelowAll ∈ GW := gw_in 587 (by decide +kernel) rfl
theorem lX0_146 : Cond.methodLink RX0 146 yX0_pass ∈ GW := gw_in 602 (by decide +kernel) rfl
theorem lX0_149 : MW RX0 149 Lib.Math.min.name Lib.Math.min.code 2 := ⟨gw_in 606 (by decide +kernel) rfl, gw_in 400 (by decide +kernel) rfl, gw_in 87 (by decide +kernel) rfl, gw_in 401 (by decide +kernel) rfl⟩
theorem lX0_154 : Cond.methodLink RX0 154 yX1_even ∈ GW := gw_in 607 (by decide +kernel) rfl
theorem lX0_157 : Cond.methodLink RX0 157 yX3_weigh ∈ GW := gw_in 612 (by decide +kernel) rfl
theorem lX0_161 : Cond.methodLink RX0 161 yX3_decide ∈ GW := gw_in 627 (by decide +kernel) rfl
theorem lX0_164 : Cond.methodLink RX0 164 yX1_reset ∈ GW := gw_in 591 (by decide +kernel) rfl
theorem lX0_167 : Cond.methodLink RX0 167 yX1_add ∈ GW := gw_in 595 (by decide +kernel) rfl
theorem lX0_177 : Cond.methodLink RX0 177 yX0_sizeOf ∈ GW := gw_in 645 (by decide +kernel) rfl
theorem lX0_180 : Cond.methodLink RX0 180 yX0_noteTrade ∈ GW := gw_in 702 (by decide +kernel) rfl
theorem lX0_183 : Cond.methodLink RX0 183 yX0_tradePart ∈ GW := gw_in 836 (by decide +kernel) rfl
theorem lX1_3 : Cond.methodLink RX1 3 objectInit ∈ GW := gw_in 202 (by decide +kernel) rfl
theorem lX1_36 : Cond.methodLink RX1 36 yX1_reset ∈ GW := gw_in 944 (by decide +kernel) rfl
theorem lX1_44 : Cond.methodLink RX1 44 yX2_get ∈ GW := gw_in 945 (by decide +kernel) rfl
theorem lX1_48 : Cond.methodLink RX1 48 yX2_stands ∈ GW := gw_in 946 (by decide +kernel) rfl
theorem lX1_52 : Cond.methodLink RX1 52 yX1_isWilling ∈ GW := gw_in 947 (by decide +kernel) rfl
theorem lX1_56 : Cond.methodLink RX1 56 yX1_add ∈ GW := gw_in 948 (by decide +kernel) rfl
theorem lX1_60 : Cond.methodLink RX1 60 yX1_even ∈ GW := gw_in 949 (by decide +kernel) rfl
theorem lX1_63 : MW RX1 63 Lib.Math.min.name Lib.Math.min.code 2 := ⟨gw_in 611 (by decide +kernel) rfl, gw_in 400 (by decide +kernel) rfl, gw_in 87 (by decide +kernel) rfl, gw_in 401 (by decide +kernel) rfl⟩
theorem lX2_3 : Cond.methodLink RX2 3 objectInit ∈ GW := gw_in 150 (by decide +kernel) rfl
theorem lX2_34 : AW RX2 34 := ⟨gw_in 535 (by decide +kernel) rfl, gw_in 537 (by decide +kernel) rfl, gw_in 536 (by decide +kernel) rfl, gw_in 92 (by decide +kernel) rfl⟩
theorem lX2_40 : Cond.methodLink RX2 40 yX2_has ∈ GW := gw_in 667 (by decide +kernel) rfl
theorem lX2_44 : Cond.methodLink RX2 44 yX2_get ∈ GW := gw_in 671 (by decide +kernel) rfl
theorem lX2_48 : Cond.methodLink RX2 48 yX2_set ∈ GW := gw_in 512 (by decide +kernel) rfl
theorem lX2_52 : MW RX2 52 Lib.Math.min.name Lib.Math.min.code 2 := ⟨gw_in 685 (by decide +kernel) rfl, gw_in 400 (by decide +kernel) rfl, gw_in 87 (by decide +kernel) rfl, gw_in 401 (by decide +kernel) rfl⟩
theorem lX2_57 : Cond.methodLink RX2 57 yX2_stands ∈ GW := gw_in 710 (by decide +kernel) rfl
theorem lX2_60 : Cond.methodLink RX2 60 yX2_leaveOne ∈ GW := gw_in 711 (by decide +kernel) rfl
theorem lX2_64 : Cond.methodLink RX2 64 yX2_lower ∈ GW := gw_in 715 (by decide +kernel) rfl
theorem lX2_73 : Cond.methodLink RX2 73 yX0_isOut ∈ GW := gw_in 857 (by decide +kernel) rfl
theorem lX2_76 : Cond.methodLink RX2 76 yX2_shownOf ∈ GW := gw_in 820 (by decide +kernel) rfl
theorem lX2_80 : Cond.methodLink RX2 80 yX2_standsAtLevel ∈ GW := gw_in 808 (by decide +kernel) rfl
theorem lX2_84 : Cond.methodLink RX2 84 yX2_aheadOfLevels ∈ GW := gw_in 801 (by decide +kernel) rfl
theorem lX2_87 : Cond.methodLink RX2 87 yX2_nextLevel ∈ GW := gw_in 804 (by decide +kernel) rfl
theorem lX3_3 : Cond.methodLink RX3 3 objectInit ∈ GW := gw_in 241 (by decide +kernel) rfl
theorem lX3_59 : Cond.methodLink RX3 59 yX3_weighRest ∈ GW := gw_in 616 (by decide +kernel) rfl
theorem lX3_63 : MW RX3 63 Lib.Math.abs.name Lib.Math.abs.code 1 := ⟨gw_in 620 (by decide +kernel) rfl, gw_in 621 (by decide +kernel) rfl, gw_in 87 (by decide +kernel) rfl, gw_in 622 (by decide +kernel) rfl⟩
theorem lX3_69 : MW RX3 69 Lib.Math.min.name Lib.Math.min.code 2 := ⟨gw_in 623 (by decide +kernel) rfl, gw_in 400 (by decide +kernel) rfl, gw_in 87 (by decide +kernel) rfl, gw_in 401 (by decide +kernel) rfl⟩
theorem lX3_73 : MW RX3 73 Lib.Math.max.name Lib.Math.max.code 2 := ⟨gw_in 624 (by decide +kernel) rfl, gw_in 625 (by decide +kernel) rfl, gw_in 87 (by decide +kernel) rfl, gw_in 626 (by decide +kernel) rfl⟩
theorem lX4_3 : Cond.methodLink RX4 3 objectInit ∈ GW := gw_in 111 (by decide +kernel) rfl
theorem lX4_44 : MW RX4 44 Lib.Math.min.name Lib.Math.min.code 2 := ⟨gw_in 399 (by decide +kernel) rfl, gw_in 400 (by decide +kernel) rfl, gw_in 87 (by decide +kernel) rfl, gw_in 401 (by decide +kernel) rfl⟩
theorem lX4_50 : Cond.methodLink RX4 50 yX4_next ∈ GW := gw_in 402 (by decide +kernel) rfl
theorem lX4_53 : Cond.methodLink RX4 53 yX4_readLine ∈ GW := gw_in 409 (by decide +kernel) rfl
theorem lX4_57 : Cond.methodLink RX4 57 yX4_fail ∈ GW := gw_in 470 (by decide +kernel) rfl
theorem lX4_63 : Cond.methodLink RX4 63 yX4_is ∈ GW := gw_in 414 (by decide +kernel) rfl
theorem lX4_67 : Cond.methodLink RX4 67 yX4_readReference ∈ GW := gw_in 466 (by decide +kernel) rfl
theorem lX4_72 : Cond.methodLink RX4 72 yX4_readCollar ∈ GW := gw_in 482 (by decide +kernel) rfl
theorem lX4_77 : Cond.methodLink RX4 77 yX4_readOrder ∈ GW := gw_in 487 (by decide +kernel) rfl
theorem lX4_86 : Cond.methodLink RX4 86 yX4_readWhole ∈ GW := gw_in 474 (by decide +kernel) rfl
theorem lX4_97 : Cond.methodLink RX4 97 yX4_readKind ∈ GW := gw_in 491 (by decide +kernel) rfl
theorem lX4_103 : Cond.methodLink RX4 103 yX4_passes ∈ GW := gw_in 501 (by decide +kernel) rfl
theorem lX4_112 : Cond.methodLink RX4 112 yX2_add ∈ GW := gw_in 508 (by decide +kernel) rfl
theorem lX4_139 : Cond.methodLink RX4 139 yX4_typeOf ∈ GW := gw_in 406 (by decide +kernel) rfl
theorem lL_7 : Cond.methodLink RL 7 yX5_curve ∈ GW := gw_in 871 (by decide +kernel) rfl
theorem lL_15 : Cond.methodLink RL 15 yX5_crossed ∈ GW := gw_in 953 (by decide +kernel) rfl
theorem lL_19 : Cond.methodLink RL 19 yX5_notice ∈ GW := gw_in 965 (by decide +kernel) rfl
theorem lL_22 : Cond.methodLink RL 22 yX5_past ∈ GW := gw_in 976 (by decide +kernel) rfl
theorem lL_25 : Cond.methodLink RL 25 yX5_init ∈ GW := gw_in 100 (by decide +kernel) rfl
theorem lL_28 : Cond.methodLink RL 28 yX6_init ∈ GW := gw_in 987 (by decide +kernel) rfl
theorem lL_29 : Cond.methodLink RL 29 yX5_feed ∈ GW := gw_in 375 (by decide +kernel) rfl
theorem lL_33 : Cond.methodLink RL 33 yX6_feed ∈ GW := gw_in 1120 (by decide +kernel) rfl
theorem lL_34 : Cond.methodLink RL 34 yX5_text ∈ GW := gw_in 387 (by decide +kernel) rfl
theorem lL_37 : Cond.methodLink RL 37 yX6_text ∈ GW := gw_in 1128 (by decide +kernel) rfl
theorem lL_38 : Cond.methodLink RL 38 yX5_told ∈ GW := gw_in 517 (by decide +kernel) rfl
theorem lL_42 : Cond.methodLink RL 42 yX6_told ∈ GW := gw_in 1208 (by decide +kernel) rfl
theorem lL_43 : Cond.methodLink RL 43 yX5_gone ∈ GW := gw_in 659 (by decide +kernel) rfl
theorem lL_46 : Cond.methodLink RL 46 yX6_gone ∈ GW := gw_in 1306 (by decide +kernel) rfl
theorem lL_47 : Cond.methodLink RL 47 yX5_less ∈ GW := gw_in 677 (by decide +kernel) rfl
theorem lL_50 : Cond.methodLink RL 50 yX6_less ∈ GW := gw_in 1318 (by decide +kernel) rfl
theorem lL_51 : Cond.methodLink RL 51 yX5_freeze ∈ GW := gw_in 686 (by decide +kernel) rfl
theorem lL_55 : Cond.methodLink RL 55 yX6_freeze ∈ GW := gw_in 1326 (by decide +kernel) rfl
theorem lL_56 : Cond.methodLink RL 56 yX5_cross ∈ GW := gw_in 690 (by decide +kernel) rfl
theorem lL_60 : Cond.methodLink RL 60 yX6_cross ∈ GW := gw_in 1330 (by decide +kernel) rfl
theorem lL_61 : Cond.methodLink RL 61 yX5_open ∈ GW := gw_in 721 (by decide +kernel) rfl
theorem lL_64 : Cond.methodLink RL 64 yX6_open ∈ GW := gw_in 1342 (by decide +kernel) rfl
theorem lL_65 : Cond.methodLink RL 65 yX5_reference ∈ GW := gw_in 729 (by decide +kernel) rfl
theorem lL_68 : Cond.methodLink RL 68 yX6_reference_ ∈ GW := gw_in 1346 (by decide +kernel) rfl
theorem lL_69 : Cond.methodLink RL 69 yX5_collar ∈ GW := gw_in 733 (by decide +kernel) rfl
theorem lL_73 : Cond.methodLink RL 73 yX6_collar ∈ GW := gw_in 1350 (by decide +kernel) rfl
theorem lL_74 : Cond.methodLink RL 74 yX5_back ∈ GW := gw_in 737 (by decide +kernel) rfl
theorem lL_77 : Cond.methodLink RL 77 yX6_back ∈ GW := gw_in 1204 (by decide +kernel) rfl
theorem lL_78 : Cond.methodLink RL 78 yX5_order ∈ GW := gw_in 741 (by decide +kernel) rfl
theorem lL_81 : Cond.methodLink RL 81 yX6_order ∈ GW := gw_in 1354 (by decide +kernel) rfl
theorem lL_82 : Cond.methodLink RL 82 yL_curve ∈ GW := gw_in 867 (by decide +kernel) rfl
theorem lL_87 : Cond.methodLink RL 87 yX6_curve ∈ GW := gw_in 1358 (by decide +kernel) rfl
theorem lL_88 : Cond.methodLink RL 88 yX6_thrown ∈ GW := gw_in 981 (by decide +kernel) rfl
theorem lL_91 : Cond.methodLink RL 91 yL_crossed ∈ GW := gw_in 950 (by decide +kernel) rfl
theorem lL_94 : Cond.methodLink RL 94 yX6_crossed ∈ GW := gw_in 1362 (by decide +kernel) rfl
theorem lL_95 : Cond.methodLink RL 95 yX5_fill ∈ GW := gw_in 746 (by decide +kernel) rfl
theorem lL_98 : Cond.methodLink RL 98 yX6_fill ∈ GW := gw_in 1367 (by decide +kernel) rfl
theorem lL_99 : Cond.methodLink RL 99 yX5_slice ∈ GW := gw_in 755 (by decide +kernel) rfl
theorem lL_103 : Cond.methodLink RL 103 yX6_slice ∈ GW := gw_in 1371 (by decide +kernel) rfl
theorem lL_104 : Cond.methodLink RL 104 yX5_trade ∈ GW := gw_in 769 (by decide +kernel) rfl
theorem lL_107 : Cond.methodLink RL 107 yX6_trade ∈ GW := gw_in 1375 (by decide +kernel) rfl
theorem lL_108 : Cond.methodLink RL 108 yL_notice ∈ GW := gw_in 962 (by decide +kernel) rfl
theorem lL_110 : Cond.methodLink RL 110 yX6_notice ∈ GW := gw_in 1380 (by decide +kernel) rfl
theorem lL_111 : Cond.methodLink RL 111 yX5_without ∈ GW := gw_in 777 (by decide +kernel) rfl
theorem lL_114 : Cond.methodLink RL 114 yX6_without ∈ GW := gw_in 1388 (by decide +kernel) rfl
theorem lL_115 : Cond.methodLink RL 115 yX5_with ∈ GW := gw_in 781 (by decide +kernel) rfl
theorem lL_118 : Cond.methodLink RL 118 yX6_with ∈ GW := gw_in 1396 (by decide +kernel) rfl
theorem lL_119 : Cond.methodLink RL 119 yX5_moves ∈ GW := gw_in 785 (by decide +kernel) rfl
theorem lL_122 : Cond.methodLink RL 122 yX6_moves ∈ GW := gw_in 1404 (by decide +kernel) rfl
theorem lL_123 : Cond.methodLink RL 123 yX5_swings ∈ GW := gw_in 789 (by decide +kernel) rfl
theorem lL_127 : Cond.methodLink RL 127 yX6_swings ∈ GW := gw_in 1408 (by decide +kernel) rfl
theorem lL_128 : Cond.methodLink RL 128 yX5_level ∈ GW := gw_in 793 (by decide +kernel) rfl
theorem lL_132 : Cond.methodLink RL 132 yX6_level ∈ GW := gw_in 1412 (by decide +kernel) rfl
theorem lL_133 : Cond.methodLink RL 133 yL_past ∈ GW := gw_in 973 (by decide +kernel) rfl
theorem lL_135 : Cond.methodLink RL 135 yX6_past ∈ GW := gw_in 1424 (by decide +kernel) rfl
theorem lL_136 : Cond.methodLink RL 136 yX5_owner ∈ GW := gw_in 824 (by decide +kernel) rfl
theorem lL_139 : Cond.methodLink RL 139 yX6_owner ∈ GW := gw_in 1428 (by decide +kernel) rfl
theorem lL_140 : Cond.methodLink RL 140 yX5_gain ∈ GW := gw_in 841 (by decide +kernel) rfl
theorem lL_143 : Cond.methodLink RL 143 yX6_gain ∈ GW := gw_in 1440 (by decide +kernel) rfl
theorem lL_144 : Cond.methodLink RL 144 yX5_left ∈ GW := gw_in 849 (by decide +kernel) rfl
theorem lL_147 : Cond.methodLink RL 147 yX6_left ∈ GW := gw_in 1444 (by decide +kernel) rfl
theorem lL_148 : Cond.methodLink RL 148 yX5_count ∈ GW := gw_in 858 (by decide +kernel) rfl
theorem lL_151 : Cond.methodLink RL 151 yX6_count ∈ GW := gw_in 1452 (by decide +kernel) rfl
theorem lX6_7 : Cond.methodLink RX6 7 objectInit ∈ GW := gw_in 990 (by decide +kernel) rfl
theorem lX6_67 : Cond.methodLink RX6 67 yX6_begins ∈ GW := gw_in 991 (by decide +kernel) rfl
theorem lX6_82 : Cond.methodLink RX6 82 yX6_puts ∈ GW := gw_in 1124 (by decide +kernel) rfl
theorem lX6_93 : Cond.methodLink RX6 93 yX6_within ∈ GW := gw_in 1132 (by decide +kernel) rfl
theorem lX6_104 : Cond.methodLink RX6 104 yX6_byteAt ∈ GW := gw_in 1139 (by decide +kernel) rfl
theorem lX6_114 : Cond.methodLink RX6 114 yX6_isLetter ∈ GW := gw_in 1143 (by decide +kernel) rfl
theorem lX6_126 : Cond.methodLink RX6 126 yX6_isDigit ∈ GW := gw_in 1150 (by decide +kernel) rfl
theorem lX6_132 : Cond.methodLink RX6 132 yX6_spelt ∈ GW := gw_in 1162 (by decide +kernel) rfl
theorem lX6_145 : Cond.methodLink RX6 145 yX6_wrong ∈ GW := gw_in 1176 (by decide +kernel) rfl
theorem lX6_151 : Cond.methodLink RX6 151 yX6_go ∈ GW := gw_in 1135 (by decide +kernel) rfl
theorem lX6_154 : Cond.methodLink RX6 154 yX6_isWord ∈ GW := gw_in 1168 (by decide +kernel) rfl
theorem lX6_164 : Cond.methodLink RX6 164 yX6_number ∈ GW := gw_in 1180 (by decide +kernel) rfl
theorem lX6_173 : Cond.methodLink RX6 173 yX6_kindHere ∈ GW := gw_in 1192 (by decide +kernel) rfl
theorem lX6_177 : Cond.methodLink RX6 177 yX6_keeps ∈ GW := gw_in 1196 (by decide +kernel) rfl
theorem lX6_181 : Cond.methodLink RX6 181 yX6_word ∈ GW := gw_in 1200 (by decide +kernel) rfl
theorem lX6_184 : Cond.methodLink RX6 184 yX6_reference ∈ GW := gw_in 1159 (by decide +kernel) rfl
theorem lX6_188 : Cond.methodLink RX6 188 yX6_referenceLine ∈ GW := gw_in 1172 (by decide +kernel) rfl
theorem lX6_192 : Cond.methodLink RX6 192 yX6_collarLine ∈ GW := gw_in 1184 (by decide +kernel) rfl
theorem lX6_195 : Cond.methodLink RX6 195 yX6_orderLine ∈ GW := gw_in 1188 (by decide +kernel) rfl
theorem lX6_198 : Cond.methodLink RX6 198 yX6_line ∈ GW := gw_in 1155 (by decide +kernel) rfl
theorem lX6_201 : Cond.methodLink RX6 201 yX6_of ∈ GW := gw_in 1235 (by decide +kernel) rfl
theorem lX6_205 : Cond.methodLink RX6 205 yX6_isGone ∈ GW := gw_in 1231 (by decide +kernel) rfl
theorem lX6_208 : Cond.methodLink RX6 208 yX6_overAt ∈ GW := gw_in 1258 (by decide +kernel) rfl
theorem lX6_211 : Cond.methodLink RX6 211 yX6_lesser ∈ GW := gw_in 1251 (by decide +kernel) rfl
theorem lX6_214 : Cond.methodLink RX6 214 yX6_helpAt ∈ GW := gw_in 1254 (by decide +kernel) rfl
theorem lX6_217 : Cond.methodLink RX6 217 yX6_laysSums ∈ GW := gw_in 1243 (by decide +kernel) rfl
theorem lX6_220 : Cond.methodLink RX6 220 yX6_volumeAt ∈ GW := gw_in 1247 (by decide +kernel) rfl
theorem lX6_233 : Cond.methodLink RX6 233 yX6_restAt ∈ GW := gw_in 1263 (by decide +kernel) rfl
theorem lX6_236 : Cond.methodLink RX6 236 yX6_size ∈ GW := gw_in 1267 (by decide +kernel) rfl
theorem lX6_238 : Cond.methodLink RX6 238 yX6_presses ∈ GW := gw_in 1270 (by decide +kernel) rfl
theorem lX6_245 : Cond.methodLink RX6 245 yX6_isWilling ∈ GW := gw_in 1282 (by decide +kernel) rfl
theorem lX6_248 : Cond.methodLink RX6 248 yX6_partOf ∈ GW := gw_in 1286 (by decide +kernel) rfl
theorem lX6_251 : Cond.methodLink RX6 251 yX6_rank ∈ GW := gw_in 1290 (by decide +kernel) rfl
theorem lX6_254 : Cond.methodLink RX6 254 yX6_laysSlices ∈ GW := gw_in 1278 (by decide +kernel) rfl
theorem lX6_260 : Cond.methodLink RX6 260 yX6_countsAll ∈ GW := gw_in 1227 (by decide +kernel) rfl
theorem lX6_266 : Cond.methodLink RX6 266 yX6_findsPrice ∈ GW := gw_in 1239 (by decide +kernel) rfl
theorem lX6_272 : Cond.methodLink RX6 272 yX6_fills ∈ GW := gw_in 1274 (by decide +kernel) rfl
theorem lX6_275 : Cond.methodLink RX6 275 yX6_unhappy ∈ GW := gw_in 1294 (by decide +kernel) rfl
theorem lX6_278 : Cond.methodLink RX6 278 yX6_crosses ∈ GW := gw_in 1223 (by decide +kernel) rfl
theorem lX6_281 : Cond.methodLink RX6 281 yX6_laysTrades ∈ GW := gw_in 1338 (by decide +kernel) rfl
theorem lX6_290 : Cond.methodLink RX6 290 yX6_isTold ∈ GW := gw_in 1212 (by decide +kernel) rfl
theorem lX6_296 : Cond.methodLink RX6 296 yX6_restNow ∈ GW := gw_in 1219 (by decide +kernel) rfl
theorem lX6_299 : Cond.methodLink RX6 299 yX6_puts_ ∈ GW := gw_in 1298 (by decide +kernel) rfl
theorem lX6_302 : Cond.methodLink RX6 302 yX6_keepsBack ∈ GW := gw_in 1302 (by decide +kernel) rfl
theorem lX6_305 : Cond.methodLink RX6 305 yX6_isOrder ∈ GW := gw_in 1314 (by decide +kernel) rfl
theorem lX6_308 : Cond.methodLink RX6 308 yX6_canChange ∈ GW := gw_in 1310 (by decide +kernel) rfl
theorem lX6_311 : Cond.methodLink RX6 311 yX6_lessens ∈ GW := gw_in 1322 (by decide +kernel) rfl
theorem lX6_314 : Cond.methodLink RX6 314 yX6_lays ∈ GW := gw_in 1334 (by decide +kernel) rfl
theorem lX6_321 : Cond.methodLink RX6 321 yX6_laysNotice ∈ GW := gw_in 1384 (by decide +kernel) rfl
theorem lX6_324 : Cond.methodLink RX6 324 yX6_priceWithout ∈ GW := gw_in 1392 (by decide +kernel) rfl
theorem lX6_327 : Cond.methodLink RX6 327 yX6_priceWith ∈ GW := gw_in 1400 (by decide +kernel) rfl
theorem lX6_331 : Cond.methodLink RX6 331 yX6_stands ∈ GW := gw_in 1420 (by decide +kernel) rfl
theorem lX6_334 : Cond.methodLink RX6 334 yX6_levelOf ∈ GW := gw_in 1416 (by decide +kernel) rfl
theorem lX6_337 : Cond.methodLink RX6 337 yX6_xOf ∈ GW := gw_in 1432 (by decide +kernel) rfl
theorem lX6_340 : Cond.methodLink RX6 340 yX6_xFill ∈ GW := gw_in 1436 (by decide +kernel) rfl
theorem lX6_343 : Cond.methodLink RX6 343 yX6_leftOf ∈ GW := gw_in 1448 (by decide +kernel) rfl
theorem lX6_346 : Cond.methodLink RX6 346 yX6_bestOf ∈ GW := gw_in 1456 (by decide +kernel) rfl
theorem oi_1 : Cond.instanceMethod objectInit ∈ GW := gw_in 104 (by decide +kernel) rfl
theorem oi_2 : Cond.code objectInit ⟨#[0xb1]⟩ 1 none ∈ GW := gw_in 105 (by decide +kernel) rfl
theorem lX5_11 : ∀ s : State, Nx s → va_Nw (.methodLinkNest RX5 11 yX4_init "OpenCross") s := fun s h => h.1
theorem lX5_18 : ∀ s : State, Nx s → va_Nw (.methodLinkNest RX5 18 yX2_init "OpenCross") s := fun s h => h.2.1
theorem lX0_13 : ∀ s : State, Nx s → va_Nw (.methodLinkNest RX0 13 yX1_init "OpenCross") s := fun s h => h.2.2.1
theorem lX0_20 : ∀ s : State, Nx s → va_Nw (.methodLinkNest RX0 20 yX3_init "OpenCross") s := fun s h => h.2.2.2.1
theorem lX4_126 : ∀ s : State, Nx s → va_Nw (.methodLinkNest RX4 126 yX5_within "OpenCross") s := fun s h => h.2.2.2.2.1
theorem kX0_98 : Cond.constant RX0 98 (262144) ∈ GW := gw_in 562 (by decide +kernel) rfl
theorem kX0_99 : Cond.constant RX0 99 (131072) ∈ GW := gw_in 563 (by decide +kernel) rfl
theorem kX6_232 : Cond.constant RX6 232 (1000000) ∈ GW := gw_in 1262 (by decide +kernel) rfl
theorem kX6_89 : Cond.constantLong RX6 89 (97) ∈ GW := gw_in 1146 (by decide +kernel) rfl
theorem kX6_91 : Cond.constantLong RX6 91 (122) ∈ GW := gw_in 1147 (by decide +kernel) rfl
theorem kX6_97 : Cond.constantLong RX6 97 (48) ∈ GW := gw_in 1153 (by decide +kernel) rfl
theorem kX6_99 : Cond.constantLong RX6 99 (57) ∈ GW := gw_in 1154 (by decide +kernel) rfl
theorem kX6_122 : Cond.constantLong RX6 122 (27) ∈ GW := gw_in 1148 (by decide +kernel) rfl
theorem kX6_124 : Cond.constantLong RX6 124 (96) ∈ GW := gw_in 1149 (by decide +kernel) rfl
theorem kX6_136 : Cond.constantLong RX6 136 (14) ∈ GW := gw_in 1165 (by decide +kernel) rfl
theorem kX6_138 : Cond.constantLong RX6 138 (3) ∈ GW := gw_in 1166 (by decide +kernel) rfl
theorem kX6_140 : Cond.constantLong RX6 140 (5) ∈ GW := gw_in 1167 (by decide +kernel) rfl
theorem kX6_284 : Cond.constantLong RX6 284 (4) ∈ GW := gw_in 1215 (by decide +kernel) rfl
theorem kX6_286 : Cond.constantLong RX6 286 (9999) ∈ GW := gw_in 1216 (by decide +kernel) rfl
theorem kX6_288 : Cond.constantLong RX6 288 (999) ∈ GW := gw_in 1217 (by decide +kernel) rfl
theorem kX6_294 : Cond.constantLong RX6 294 (7) ∈ GW := gw_in 1218 (by decide +kernel) rfl
theorem kX6_317 : Cond.constantLong RX6 317 (6) ∈ GW := gw_in 1366 (by decide +kernel) rfl
theorem kX6_319 : Cond.constantLong RX6 319 (2) ∈ GW := gw_in 1379 (by decide +kernel) rfl
theorem ac_byte : Cond.arrayClass .byte ∈ GW := gw_in 144 (by decide +kernel) rfl
theorem ac_int : Cond.arrayClass .int ∈ GW := gw_in 190 (by decide +kernel) rfl
theorem ac_boolean : Cond.arrayClass .boolean ∈ GW := gw_in 1119 (by decide +kernel) rfl
theorem ac_long : Cond.arrayClass .long ∈ GW := gw_in 1460 (by decide +kernel) rfl
theorem nX5_9 : NL RX5 9 4 10 [.int 0, .null, .int 0, .int 0, .int 0, .int 0, .int 0, .int 0, .int 0, .int 0] := ⟨RX4, TX4, tyX4, clX4, gw_in 106 (by decide +kernel) rfl, gw_in 107 (by decide +kernel) rfl, gw_in 81 (by decide +kernel) rfl, by decide +kernel⟩
theorem nX5_16 : NL RX5 16 2 7 [.null, .null, .int 0, .int 0, .int 0, .int 0, .int 0] := ⟨RX2, TX2, tyX2, clX2, gw_in 145 (by decide +kernel) rfl, gw_in 146 (by decide +kernel) rfl, gw_in 82 (by decide +kernel) rfl, by decide +kernel⟩
theorem nX5_26 : NL RX5 26 0 15 [.null, .null, .null, .int 0, .int 0, .int 0, .null, .null, .null, .null, .null, .null, .int 0, .null, .null] := ⟨RX0, TX0, tyX0, clX0, gw_in 191 (by decide +kernel) rfl, gw_in 192 (by decide +kernel) rfl, gw_in 83 (by decide +kernel) rfl, by decide +kernel⟩
theorem nX0_11 : NL RX0 11 1 8 [.int 0, .int 0, .int 0, .int 0, .int 0, .int 0, .int 0, .int 0] := ⟨RX1, TX1, tyX1, clX1, gw_in 197 (by decide +kernel) rfl, gw_in 198 (by decide +kernel) rfl, gw_in 84 (by decide +kernel) rfl, by decide +kernel⟩
theorem nX0_18 : NL RX0 18 3 14 [.int 0, .int 0, .int 0, .int 0, .int 0, .int 0, .int 0, .int 0, .int 0, .int 0, .int 0, .int 0, .int 0, .int 0] := ⟨RX3, TX3, tyX3, clX3, gw_in 236 (by decide +kernel) rfl, gw_in 237 (by decide +kernel) rfl, gw_in 85 (by decide +kernel) rfl, by decide +kernel⟩
theorem nL_8 : NL RL 8 5 9 [.null, .null, .null, .null, .null, .int 0, .int 0, .null, .int 0] := ⟨RX5, TX5, tyX5, clX5, gw_in 98 (by decide +kernel) rfl, gw_in 99 (by decide +kernel) rfl, gw_in 80 (by decide +kernel) rfl, by decide +kernel⟩
theorem nL_26 : NL RL 26 6 41 [.int 0, .null, .null, .int 0, .null, .int 0, .int 0, .null, .int 0, .int 0, .int 0, .int 0, .int 0, .int 0, .long 0, .int 0, .int 0, .null, .int 0, .int 0, .int 0, .int 0, .null, .null, .null, .null, .null, .null, .int 0, .int 0, .int 0, .null, .null, .int 0, .null, .null, .int 0, .int 0, .int 0, .null, .null] := ⟨RX6, TX6, tyX6, clX6, gw_in 985 (by decide +kernel) rfl, gw_in 986 (by decide +kernel) rfl, gw_in 86 (by decide +kernel) rfl, by decide +kernel⟩
