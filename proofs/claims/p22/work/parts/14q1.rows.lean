def mO : List (Bool × aTy) := match aat aT0 221 with
  | some (.inr o) => o.2
  | _ => []
set_option maxRecDepth 100000 in
theorem mO_e : aat aT0 221 = some (.inr (12, mO)) := rfl
set_option maxRecDepth 100000 in
theorem mO_0 : mO[0]? = some (false, .inr (some [222])) := rfl
set_option maxRecDepth 100000 in
theorem mO_1 : mO[1]? = some (true, .inl (0, 1600)) := rfl
theorem mO_r1 {m : zM} (hm : aTm aT0 m) : 0 ≤ (gi m 221 1).toInt ∧ (gi m 221 1).toInt ≤ 1600 := gi_rg mO_e mO_1 hm
set_option maxRecDepth 100000 in
theorem mO_2 : mO[2]? = some (false, .inl (0, 1600)) := rfl
theorem mO_r2 {m : zM} (hm : aTm aT0 m) : 0 ≤ (gi m 221 2).toInt ∧ (gi m 221 2).toInt ≤ 1600 := gi_rg mO_e mO_2 hm
set_option maxRecDepth 100000 in
theorem mO_3 : mO[3]? = some (false, .inl (-2147483648, 2147483647)) := rfl
set_option maxRecDepth 100000 in
theorem mO_4 : mO[4]? = some (false, .inl (0, 1600)) := rfl
theorem mO_r4 {m : zM} (hm : aTm aT0 m) : 0 ≤ (gi m 221 4).toInt ∧ (gi m 221 4).toInt ≤ 1600 := gi_rg mO_e mO_4 hm
set_option maxRecDepth 100000 in
theorem mO_5 : mO[5]? = some (false, .inl (0, 1600)) := rfl
theorem mO_r5 {m : zM} (hm : aTm aT0 m) : 0 ≤ (gi m 221 5).toInt ∧ (gi m 221 5).toInt ≤ 1600 := gi_rg mO_e mO_5 hm
set_option maxRecDepth 100000 in
theorem mO_6 : mO[6]? = some (false, .inl (-2147483648, 2147483647)) := rfl
set_option maxRecDepth 100000 in
theorem mO_7 : mO[7]? = some (false, .inr none) := rfl
set_option maxRecDepth 100000 in
theorem mO_8 : mO[8]? = some (false, .inl (-2147483648, 2147483647)) := rfl
set_option maxRecDepth 100000 in
theorem mO_9 : mO[9]? = some (false, .inl (-2147483648, 2147483647)) := rfl
set_option maxRecDepth 100000 in
theorem mO_10 : mO[10]? = some (false, .inl (-2147483648, 2147483647)) := rfl
set_option maxRecDepth 100000 in
theorem mO_11 : mO[11]? = some (false, .inl (-2147483648, 2147483647)) := rfl
set_option maxRecDepth 100000 in
theorem mO_12 : mO[12]? = some (false, .inl (-2147483648, 2147483647)) := rfl
set_option maxRecDepth 100000 in
theorem mO_13 : mO[13]? = some (true, .inl (0, 1)) := rfl
theorem mO_r13 {m : zM} (hm : aTm aT0 m) : 0 ≤ (gi m 221 13).toInt ∧ (gi m 221 13).toInt ≤ 1 := gi_rg mO_e mO_13 hm
set_option maxRecDepth 100000 in
theorem mO_14 : mO[14]? = some (false, .inr (some [223])) := rfl
set_option maxRecDepth 100000 in
theorem mO_15 : mO[15]? = some (false, .inr (some [224])) := rfl
set_option maxRecDepth 100000 in
theorem mO_16 : mO[16]? = some (false, .inr (some [225])) := rfl
set_option maxRecDepth 100000 in
theorem mO_17 : mO[17]? = some (false, .inr (some [226])) := rfl
set_option maxRecDepth 100000 in
theorem mO_18 : mO[18]? = some (false, .inr (some [227])) := rfl
set_option maxRecDepth 100000 in
theorem mO_19 : mO[19]? = some (false, .inr (some [228])) := rfl
set_option maxRecDepth 100000 in
theorem mO_20 : mO[20]? = some (false, .inr (some [229])) := rfl
set_option maxRecDepth 100000 in
theorem mO_21 : mO[21]? = some (false, .inr (some [230])) := rfl
set_option maxRecDepth 100000 in
theorem mO_22 : mO[22]? = some (false, .inr (some [231])) := rfl
set_option maxRecDepth 100000 in
theorem mO_23 : mO[23]? = some (false, .inr (some [232])) := rfl
set_option maxRecDepth 100000 in
theorem mO_24 : mO[24]? = some (false, .inr (some [233])) := rfl
set_option maxRecDepth 100000 in
theorem mO_25 : mO[25]? = some (false, .inr (some [234])) := rfl
set_option maxRecDepth 100000 in
theorem mO_26 : mO[26]? = some (false, .inr (some [235])) := rfl
set_option maxRecDepth 100000 in
theorem mO_27 : mO[27]? = some (false, .inr (some [236])) := rfl
set_option maxRecDepth 100000 in
theorem mO_28 : mO[28]? = some (false, .inr (some [237])) := rfl
set_option maxRecDepth 100000 in
theorem mO_29 : mO[29]? = some (false, .inr (some [238])) := rfl
set_option maxRecDepth 100000 in
theorem mO_30 : mO[30]? = some (false, .inr (some [239])) := rfl
set_option maxRecDepth 100000 in
theorem mO_31 : mO[31]? = some (false, .inr (some [240])) := rfl
set_option maxRecDepth 100000 in
theorem mO_32 : mO[32]? = some (false, .inr (some [241])) := rfl
set_option maxRecDepth 100000 in
theorem mO_33 : mO[33]? = some (true, .inl (-2147483648, 2147483647)) := rfl
set_option maxRecDepth 100000 in
theorem mO_34 : mO[34]? = some (true, .inl (0, 1)) := rfl
theorem mO_r34 {m : zM} (hm : aTm aT0 m) : 0 ≤ (gi m 221 34).toInt ∧ (gi m 221 34).toInt ≤ 1 := gi_rg mO_e mO_34 hm
set_option maxRecDepth 100000 in
theorem mO_35 : mO[35]? = some (false, .inl (-2147483648, 2147483647)) := rfl
set_option maxRecDepth 100000 in
theorem mO_36 : mO[36]? = some (false, .inr (some [242])) := rfl
set_option maxRecDepth 100000 in
theorem mO_37 : mO[37]? = some (false, .inr (some [243])) := rfl
set_option maxRecDepth 100000 in
theorem mO_38 : mO[38]? = some (false, .inr (some [244])) := rfl
set_option maxRecDepth 100000 in
theorem mO_39 : mO[39]? = some (false, .inr (some [245])) := rfl
set_option maxRecDepth 100000 in
theorem mO_40 : mO[40]? = some (false, .inr (some [246])) := rfl
set_option maxRecDepth 100000 in
theorem mO_41 : mO[41]? = some (false, .inl (-2147483648, 2147483647)) := rfl
set_option maxRecDepth 100000 in
theorem mO_42 : mO[42]? = some (false, .inl (-2147483648, 2147483647)) := rfl
set_option maxRecDepth 100000 in
theorem mO_43 : mO[43]? = some (false, .inr (some [247])) := rfl
set_option maxRecDepth 100000 in
theorem mO_44 : mO[44]? = some (false, .inl (-2147483648, 2147483647)) := rfl
set_option maxRecDepth 100000 in
theorem mO_45 : mO[45]? = some (false, .inl (0, 1)) := rfl
theorem mO_r45 {m : zM} (hm : aTm aT0 m) : 0 ≤ (gi m 221 45).toInt ∧ (gi m 221 45).toInt ≤ 1 := gi_rg mO_e mO_45 hm
set_option maxRecDepth 100000 in
theorem mO_46 : mO[46]? = some (true, .inl (0, 1)) := rfl
theorem mO_r46 {m : zM} (hm : aTm aT0 m) : 0 ≤ (gi m 221 46).toInt ∧ (gi m 221 46).toInt ≤ 1 := gi_rg mO_e mO_46 hm
set_option maxRecDepth 100000 in
theorem mO_47 : mO[47]? = some (false, .inr (some [248])) := rfl
set_option maxRecDepth 100000 in
theorem mO_48 : mO[48]? = some (false, .inr (some [249])) := rfl
set_option maxRecDepth 100000 in
theorem mO_49 : mO[49]? = some (false, .inr (some [250])) := rfl
set_option maxRecDepth 100000 in
theorem mO_50 : mO[50]? = some (false, .inr (some [251])) := rfl
set_option maxRecDepth 100000 in
theorem mO_51 : mO[51]? = some (false, .inr (some [252])) := rfl
set_option maxRecDepth 100000 in
theorem mO_52 : mO[52]? = some (false, .inr (some [253])) := rfl
set_option maxRecDepth 100000 in
theorem mO_53 : mO[53]? = some (false, .inr (some [254])) := rfl
set_option maxRecDepth 100000 in
theorem mO_54 : mO[54]? = some (false, .inl (0, 19)) := rfl
theorem mO_r54 {m : zM} (hm : aTm aT0 m) : 0 ≤ (gi m 221 54).toInt ∧ (gi m 221 54).toInt ≤ 19 := gi_rg mO_e mO_54 hm
set_option maxRecDepth 100000 in
theorem mO_55 : mO[55]? = some (false, .inl (0, 20)) := rfl
theorem mO_r55 {m : zM} (hm : aTm aT0 m) : 0 ≤ (gi m 221 55).toInt ∧ (gi m 221 55).toInt ≤ 20 := gi_rg mO_e mO_55 hm
set_option maxRecDepth 100000 in
theorem mO_56 : mO[56]? = some (false, .inr none) := rfl
set_option maxRecDepth 100000 in
theorem mO_57 : mO[57]? = some (false, .inr (some [255])) := rfl
set_option maxRecDepth 100000 in
theorem mO_58 : mO[58]? = some (false, .inr (some [256])) := rfl
set_option maxRecDepth 100000 in
theorem mO_59 : mO[59]? = some (false, .inr (some [257])) := rfl
set_option maxRecDepth 100000 in
theorem mO_60 : mO[60]? = some (false, .inr (some [258])) := rfl
set_option maxRecDepth 100000 in
theorem mO_61 : mO[61]? = some (false, .inr (some [259])) := rfl
set_option maxRecDepth 100000 in
theorem mO_62 : mO[62]? = some (false, .inr (some [260])) := rfl
set_option maxRecDepth 100000 in
theorem mO_63 : mO[63]? = some (false, .inr (some [261])) := rfl
set_option maxRecDepth 100000 in
theorem mO_64 : mO[64]? = some (false, .inr (some [262])) := rfl
set_option maxRecDepth 100000 in
theorem mO_65 : mO[65]? = some (false, .inr (some [263])) := rfl
set_option maxRecDepth 100000 in
theorem mO_66 : mO[66]? = some (true, .inl (0, 16)) := rfl
theorem mO_r66 {m : zM} (hm : aTm aT0 m) : 0 ≤ (gi m 221 66).toInt ∧ (gi m 221 66).toInt ≤ 16 := gi_rg mO_e mO_66 hm
set_option maxRecDepth 100000 in
theorem mO_67 : mO[67]? = some (false, .inr (some [264])) := rfl
set_option maxRecDepth 100000 in
theorem mO_68 : mO[68]? = some (false, .inr (some [265])) := rfl
set_option maxRecDepth 100000 in
theorem mO_69 : mO[69]? = some (false, .inr (some [266])) := rfl
set_option maxRecDepth 100000 in
theorem mO_70 : mO[70]? = some (false, .inr (some [267])) := rfl
set_option maxRecDepth 100000 in
theorem mO_71 : mO[71]? = some (false, .inr (some [268])) := rfl
set_option maxRecDepth 100000 in
theorem mO_72 : mO[72]? = some (false, .inl (0, 33)) := rfl
theorem mO_r72 {m : zM} (hm : aTm aT0 m) : 0 ≤ (gi m 221 72).toInt ∧ (gi m 221 72).toInt ≤ 33 := gi_rg mO_e mO_72 hm
set_option maxRecDepth 100000 in
theorem aR_222 : aat aT0 222 = some (.inl (true, 0, 1800, .inl (0, 255))) := rfl
theorem gR_222 {m : zM} (hm : aTm aT0 m) {i : Int} (h0 : 0 ≤ i) (h1 : i < 1800) : 0 ≤ gn (ga m 222) i ∧ gn (ga m 222) i ≤ 255 := gn_rg aR_222 hm h0 h1
theorem gl_222 {m : zM} (hm : aTm aT0 m) : (ga m 222).length = 1800 := (ga_ty aR_222 hm).2.1
set_option maxRecDepth 100000 in
theorem aR_223 : aat aT0 223 = some (.inl (true, 0, 2, .inl (-2147483648, 2147483647))) := rfl
theorem gR_223 {m : zM} (hm : aTm aT0 m) {i : Int} (h0 : 0 ≤ i) (h1 : i < 2) : -2147483648 ≤ gn (ga m 223) i ∧ gn (ga m 223) i ≤ 2147483647 := gn_rg aR_223 hm h0 h1
theorem gl_223 {m : zM} (hm : aTm aT0 m) : (ga m 223).length = 2 := (ga_ty aR_223 hm).2.1
set_option maxRecDepth 100000 in
theorem aR_224 : aat aT0 224 = some (.inl (true, 0, 2, .inl (-2147483648, 2147483647))) := rfl
theorem gR_224 {m : zM} (hm : aTm aT0 m) {i : Int} (h0 : 0 ≤ i) (h1 : i < 2) : -2147483648 ≤ gn (ga m 224) i ∧ gn (ga m 224) i ≤ 2147483647 := gn_rg aR_224 hm h0 h1
theorem gl_224 {m : zM} (hm : aTm aT0 m) : (ga m 224).length = 2 := (ga_ty aR_224 hm).2.1
set_option maxRecDepth 100000 in
theorem aR_225 : aat aT0 225 = some (.inl (true, 0, 2, .inl (-2147483648, 2147483647))) := rfl
theorem gR_225 {m : zM} (hm : aTm aT0 m) {i : Int} (h0 : 0 ≤ i) (h1 : i < 2) : -2147483648 ≤ gn (ga m 225) i ∧ gn (ga m 225) i ≤ 2147483647 := gn_rg aR_225 hm h0 h1
theorem gl_225 {m : zM} (hm : aTm aT0 m) : (ga m 225).length = 2 := (ga_ty aR_225 hm).2.1
set_option maxRecDepth 100000 in
theorem aR_226 : aat aT0 226 = some (.inl (true, 0, 2, .inl (-2147483648, 2147483647))) := rfl
theorem gR_226 {m : zM} (hm : aTm aT0 m) {i : Int} (h0 : 0 ≤ i) (h1 : i < 2) : -2147483648 ≤ gn (ga m 226) i ∧ gn (ga m 226) i ≤ 2147483647 := gn_rg aR_226 hm h0 h1
theorem gl_226 {m : zM} (hm : aTm aT0 m) : (ga m 226).length = 2 := (ga_ty aR_226 hm).2.1
set_option maxRecDepth 100000 in
theorem aR_227 : aat aT0 227 = some (.inl (true, 0, 128, .inl (0, 1))) := rfl
theorem gR_227 {m : zM} (hm : aTm aT0 m) {i : Int} (h0 : 0 ≤ i) (h1 : i < 128) : 0 ≤ gn (ga m 227) i ∧ gn (ga m 227) i ≤ 1 := gn_rg aR_227 hm h0 h1
theorem gl_227 {m : zM} (hm : aTm aT0 m) : (ga m 227).length = 128 := (ga_ty aR_227 hm).2.1
set_option maxRecDepth 100000 in
theorem aR_228 : aat aT0 228 = some (.inl (true, 0, 2, .inl (0, 9))) := rfl
theorem gR_228 {m : zM} (hm : aTm aT0 m) {i : Int} (h0 : 0 ≤ i) (h1 : i < 2) : 0 ≤ gn (ga m 228) i ∧ gn (ga m 228) i ≤ 9 := gn_rg aR_228 hm h0 h1
theorem gl_228 {m : zM} (hm : aTm aT0 m) : (ga m 228).length = 2 := (ga_ty aR_228 hm).2.1
set_option maxRecDepth 100000 in
theorem aR_229 : aat aT0 229 = some (.inl (true, 0, 18, .inl (0, 63))) := rfl
theorem gR_229 {m : zM} (hm : aTm aT0 m) {i : Int} (h0 : 0 ≤ i) (h1 : i < 18) : 0 ≤ gn (ga m 229) i ∧ gn (ga m 229) i ≤ 63 := gn_rg aR_229 hm h0 h1
theorem gl_229 {m : zM} (hm : aTm aT0 m) : (ga m 229).length = 18 := (ga_ty aR_229 hm).2.1
set_option maxRecDepth 100000 in
theorem aR_230 : aat aT0 230 = some (.inl (true, 0, 18, .inl (-2147483648, 2147483647))) := rfl
theorem gR_230 {m : zM} (hm : aTm aT0 m) {i : Int} (h0 : 0 ≤ i) (h1 : i < 18) : -2147483648 ≤ gn (ga m 230) i ∧ gn (ga m 230) i ≤ 2147483647 := gn_rg aR_230 hm h0 h1
theorem gl_230 {m : zM} (hm : aTm aT0 m) : (ga m 230).length = 18 := (ga_ty aR_230 hm).2.1
set_option maxRecDepth 100000 in
theorem aR_231 : aat aT0 231 = some (.inl (true, 0, 18, .inl (-2147483648, 2147483647))) := rfl
theorem gR_231 {m : zM} (hm : aTm aT0 m) {i : Int} (h0 : 0 ≤ i) (h1 : i < 18) : -2147483648 ≤ gn (ga m 231) i ∧ gn (ga m 231) i ≤ 2147483647 := gn_rg aR_231 hm h0 h1
theorem gl_231 {m : zM} (hm : aTm aT0 m) : (ga m 231).length = 18 := (ga_ty aR_231 hm).2.1
set_option maxRecDepth 100000 in
theorem aR_232 : aat aT0 232 = some (.inl (true, 0, 2, .inl (0, 511))) := rfl
theorem gR_232 {m : zM} (hm : aTm aT0 m) {i : Int} (h0 : 0 ≤ i) (h1 : i < 2) : 0 ≤ gn (ga m 232) i ∧ gn (ga m 232) i ≤ 511 := gn_rg aR_232 hm h0 h1
theorem gl_232 {m : zM} (hm : aTm aT0 m) : (ga m 232).length = 2 := (ga_ty aR_232 hm).2.1
set_option maxRecDepth 100000 in
theorem aR_233 : aat aT0 233 = some (.inl (true, 0, 2, .inl (0, 6))) := rfl
theorem gR_233 {m : zM} (hm : aTm aT0 m) {i : Int} (h0 : 0 ≤ i) (h1 : i < 2) : 0 ≤ gn (ga m 233) i ∧ gn (ga m 233) i ≤ 6 := gn_rg aR_233 hm h0 h1
theorem gl_233 {m : zM} (hm : aTm aT0 m) : (ga m 233).length = 2 := (ga_ty aR_233 hm).2.1
set_option maxRecDepth 100000 in
theorem aR_234 : aat aT0 234 = some (.inl (true, 0, 12, .inl (0, 63))) := rfl
theorem gR_234 {m : zM} (hm : aTm aT0 m) {i : Int} (h0 : 0 ≤ i) (h1 : i < 12) : 0 ≤ gn (ga m 234) i ∧ gn (ga m 234) i ≤ 63 := gn_rg aR_234 hm h0 h1
theorem gl_234 {m : zM} (hm : aTm aT0 m) : (ga m 234).length = 12 := (ga_ty aR_234 hm).2.1
set_option maxRecDepth 100000 in
theorem aR_235 : aat aT0 235 = some (.inl (true, 0, 12, .inl (0, 63))) := rfl
theorem gR_235 {m : zM} (hm : aTm aT0 m) {i : Int} (h0 : 0 ≤ i) (h1 : i < 12) : 0 ≤ gn (ga m 235) i ∧ gn (ga m 235) i ≤ 63 := gn_rg aR_235 hm h0 h1
theorem gl_235 {m : zM} (hm : aTm aT0 m) : (ga m 235).length = 12 := (ga_ty aR_235 hm).2.1
set_option maxRecDepth 100000 in
theorem aR_236 : aat aT0 236 = some (.inl (true, 0, 6, .inl (-2147483648, 2147483647))) := rfl
theorem gR_236 {m : zM} (hm : aTm aT0 m) {i : Int} (h0 : 0 ≤ i) (h1 : i < 6) : -2147483648 ≤ gn (ga m 236) i ∧ gn (ga m 236) i ≤ 2147483647 := gn_rg aR_236 hm h0 h1
theorem gl_236 {m : zM} (hm : aTm aT0 m) : (ga m 236).length = 6 := (ga_ty aR_236 hm).2.1
set_option maxRecDepth 100000 in
theorem aR_237 : aat aT0 237 = some (.inl (true, 0, 6, .inl (-2147483648, 2147483647))) := rfl
theorem gR_237 {m : zM} (hm : aTm aT0 m) {i : Int} (h0 : 0 ≤ i) (h1 : i < 6) : -2147483648 ≤ gn (ga m 237) i ∧ gn (ga m 237) i ≤ 2147483647 := gn_rg aR_237 hm h0 h1
theorem gl_237 {m : zM} (hm : aTm aT0 m) : (ga m 237).length = 6 := (ga_ty aR_237 hm).2.1
set_option maxRecDepth 100000 in
theorem aR_238 : aat aT0 238 = some (.inl (true, 0, 3200, .inl (-2147483648, 2147483647))) := rfl
theorem gR_238 {m : zM} (hm : aTm aT0 m) {i : Int} (h0 : 0 ≤ i) (h1 : i < 3200) : -2147483648 ≤ gn (ga m 238) i ∧ gn (ga m 238) i ≤ 2147483647 := gn_rg aR_238 hm h0 h1
theorem gl_238 {m : zM} (hm : aTm aT0 m) : (ga m 238).length = 3200 := (ga_ty aR_238 hm).2.1
set_option maxRecDepth 100000 in
theorem aR_239 : aat aT0 239 = some (.inl (true, 0, 3200, .inl (-2147483648, 2147483647))) := rfl
theorem gR_239 {m : zM} (hm : aTm aT0 m) {i : Int} (h0 : 0 ≤ i) (h1 : i < 3200) : -2147483648 ≤ gn (ga m 239) i ∧ gn (ga m 239) i ≤ 2147483647 := gn_rg aR_239 hm h0 h1
theorem gl_239 {m : zM} (hm : aTm aT0 m) : (ga m 239).length = 3200 := (ga_ty aR_239 hm).2.1
set_option maxRecDepth 100000 in
theorem aR_240 : aat aT0 240 = some (.inl (true, 1, 18, .inr none)) := rfl
set_option maxRecDepth 100000 in
theorem aR_241 : aat aT0 241 = some (.inl (true, 1, 12, .inr none)) := rfl
set_option maxRecDepth 100000 in
theorem aR_242 : aat aT0 242 = some (.inl (false, 0, 20, .inl (-2147483648, 2147483647))) := rfl
theorem gR_242 {m : zM} (hm : aTm aT0 m) {i : Int} (h0 : 0 ≤ i) (h1 : i < 20) : -2147483648 ≤ gn (ga m 242) i ∧ gn (ga m 242) i ≤ 2147483647 := gn_rg aR_242 hm h0 h1
theorem gl_242 {m : zM} (hm : aTm aT0 m) : (ga m 242).length = 20 := (ga_ty aR_242 hm).2.1
set_option maxRecDepth 100000 in
theorem aR_243 : aat aT0 243 = some (.inl (false, 0, 20, .inl (-2147483648, 2147483647))) := rfl
theorem gR_243 {m : zM} (hm : aTm aT0 m) {i : Int} (h0 : 0 ≤ i) (h1 : i < 20) : -2147483648 ≤ gn (ga m 243) i ∧ gn (ga m 243) i ≤ 2147483647 := gn_rg aR_243 hm h0 h1
theorem gl_243 {m : zM} (hm : aTm aT0 m) : (ga m 243).length = 20 := (ga_ty aR_243 hm).2.1
set_option maxRecDepth 100000 in
theorem aR_244 : aat aT0 244 = some (.inl (false, 2, 20, .inl (0, 1))) := rfl
theorem gR_244 {m : zM} (hm : aTm aT0 m) {i : Int} (h0 : 0 ≤ i) (h1 : i < 20) : 0 ≤ gn (ga m 244) i ∧ gn (ga m 244) i ≤ 1 := gn_rg aR_244 hm h0 h1
theorem gl_244 {m : zM} (hm : aTm aT0 m) : (ga m 244).length = 20 := (ga_ty aR_244 hm).2.1
set_option maxRecDepth 100000 in
theorem aR_245 : aat aT0 245 = some (.inl (false, 0, 20, .inl (-2147483648, 2147483647))) := rfl
theorem gR_245 {m : zM} (hm : aTm aT0 m) {i : Int} (h0 : 0 ≤ i) (h1 : i < 20) : -2147483648 ≤ gn (ga m 245) i ∧ gn (ga m 245) i ≤ 2147483647 := gn_rg aR_245 hm h0 h1
theorem gl_245 {m : zM} (hm : aTm aT0 m) : (ga m 245).length = 20 := (ga_ty aR_245 hm).2.1
set_option maxRecDepth 100000 in
theorem aR_246 : aat aT0 246 = some (.inl (false, 0, 20, .inl (-2147483648, 2147483647))) := rfl
theorem gR_246 {m : zM} (hm : aTm aT0 m) {i : Int} (h0 : 0 ≤ i) (h1 : i < 20) : -2147483648 ≤ gn (ga m 246) i ∧ gn (ga m 246) i ≤ 2147483647 := gn_rg aR_246 hm h0 h1
theorem gl_246 {m : zM} (hm : aTm aT0 m) : (ga m 246).length = 20 := (ga_ty aR_246 hm).2.1
set_option maxRecDepth 100000 in
theorem aR_247 : aat aT0 247 = some (.inl (false, 0, 500, .inl (-2147483648, 2147483647))) := rfl
theorem gR_247 {m : zM} (hm : aTm aT0 m) {i : Int} (h0 : 0 ≤ i) (h1 : i < 500) : -2147483648 ≤ gn (ga m 247) i ∧ gn (ga m 247) i ≤ 2147483647 := gn_rg aR_247 hm h0 h1
theorem gl_247 {m : zM} (hm : aTm aT0 m) : (ga m 247).length = 500 := (ga_ty aR_247 hm).2.1
set_option maxRecDepth 100000 in
theorem aR_248 : aat aT0 248 = some (.inl (false, 0, 6, .inl (-2147483648, 2147483647))) := rfl
theorem gR_248 {m : zM} (hm : aTm aT0 m) {i : Int} (h0 : 0 ≤ i) (h1 : i < 6) : -2147483648 ≤ gn (ga m 248) i ∧ gn (ga m 248) i ≤ 2147483647 := gn_rg aR_248 hm h0 h1
theorem gl_248 {m : zM} (hm : aTm aT0 m) : (ga m 248).length = 6 := (ga_ty aR_248 hm).2.1
set_option maxRecDepth 100000 in
theorem aR_249 : aat aT0 249 = some (.inl (false, 0, 22, .inl (-2147483648, 2147483647))) := rfl
theorem gR_249 {m : zM} (hm : aTm aT0 m) {i : Int} (h0 : 0 ≤ i) (h1 : i < 22) : -2147483648 ≤ gn (ga m 249) i ∧ gn (ga m 249) i ≤ 2147483647 := gn_rg aR_249 hm h0 h1
theorem gl_249 {m : zM} (hm : aTm aT0 m) : (ga m 249).length = 22 := (ga_ty aR_249 hm).2.1
set_option maxRecDepth 100000 in
theorem aR_250 : aat aT0 250 = some (.inl (false, 0, 22, .inl (0, 511))) := rfl
theorem gR_250 {m : zM} (hm : aTm aT0 m) {i : Int} (h0 : 0 ≤ i) (h1 : i < 22) : 0 ≤ gn (ga m 250) i ∧ gn (ga m 250) i ≤ 511 := gn_rg aR_250 hm h0 h1
theorem gl_250 {m : zM} (hm : aTm aT0 m) : (ga m 250).length = 22 := (ga_ty aR_250 hm).2.1
set_option maxRecDepth 100000 in
theorem aR_251 : aat aT0 251 = some (.inl (false, 0, 198, .inl (-2147483648, 2147483647))) := rfl
theorem gR_251 {m : zM} (hm : aTm aT0 m) {i : Int} (h0 : 0 ≤ i) (h1 : i < 198) : -2147483648 ≤ gn (ga m 251) i ∧ gn (ga m 251) i ≤ 2147483647 := gn_rg aR_251 hm h0 h1
theorem gl_251 {m : zM} (hm : aTm aT0 m) : (ga m 251).length = 198 := (ga_ty aR_251 hm).2.1
set_option maxRecDepth 100000 in
theorem aR_252 : aat aT0 252 = some (.inl (false, 0, 132, .inl (0, 63))) := rfl
theorem gR_252 {m : zM} (hm : aTm aT0 m) {i : Int} (h0 : 0 ≤ i) (h1 : i < 132) : 0 ≤ gn (ga m 252) i ∧ gn (ga m 252) i ≤ 63 := gn_rg aR_252 hm h0 h1
theorem gl_252 {m : zM} (hm : aTm aT0 m) : (ga m 252).length = 132 := (ga_ty aR_252 hm).2.1
set_option maxRecDepth 100000 in
theorem aR_253 : aat aT0 253 = some (.inl (false, 0, 22, .inl (0, 40))) := rfl
theorem gR_253 {m : zM} (hm : aTm aT0 m) {i : Int} (h0 : 0 ≤ i) (h1 : i < 22) : 0 ≤ gn (ga m 253) i ∧ gn (ga m 253) i ≤ 40 := gn_rg aR_253 hm h0 h1
theorem gl_253 {m : zM} (hm : aTm aT0 m) : (ga m 253).length = 22 := (ga_ty aR_253 hm).2.1
set_option maxRecDepth 100000 in
theorem aR_254 : aat aT0 254 = some (.inl (false, 0, 2640, .inl (-2147483648, 2147483647))) := rfl
theorem gR_254 {m : zM} (hm : aTm aT0 m) {i : Int} (h0 : 0 ≤ i) (h1 : i < 2640) : -2147483648 ≤ gn (ga m 254) i ∧ gn (ga m 254) i ≤ 2147483647 := gn_rg aR_254 hm h0 h1
theorem gl_254 {m : zM} (hm : aTm aT0 m) : (ga m 254).length = 2640 := (ga_ty aR_254 hm).2.1
set_option maxRecDepth 100000 in
theorem aR_255 : aat aT0 255 = some (.inl (false, 0, 9, .inl (-2147483648, 2147483647))) := rfl
theorem gR_255 {m : zM} (hm : aTm aT0 m) {i : Int} (h0 : 0 ≤ i) (h1 : i < 9) : -2147483648 ≤ gn (ga m 255) i ∧ gn (ga m 255) i ≤ 2147483647 := gn_rg aR_255 hm h0 h1
theorem gl_255 {m : zM} (hm : aTm aT0 m) : (ga m 255).length = 9 := (ga_ty aR_255 hm).2.1
set_option maxRecDepth 100000 in
theorem aR_256 : aat aT0 256 = some (.inl (false, 1, 500, .inr none)) := rfl
set_option maxRecDepth 100000 in
theorem aR_257 : aat aT0 257 = some (.inl (false, 0, 10, .inl (-2147483648, 2147483647))) := rfl
theorem gR_257 {m : zM} (hm : aTm aT0 m) {i : Int} (h0 : 0 ≤ i) (h1 : i < 10) : -2147483648 ≤ gn (ga m 257) i ∧ gn (ga m 257) i ≤ 2147483647 := gn_rg aR_257 hm h0 h1
theorem gl_257 {m : zM} (hm : aTm aT0 m) : (ga m 257).length = 10 := (ga_ty aR_257 hm).2.1
set_option maxRecDepth 100000 in
theorem aR_258 : aat aT0 258 = some (.inl (false, 0, 64, .inl (-2147483648, 2147483647))) := rfl
theorem gR_258 {m : zM} (hm : aTm aT0 m) {i : Int} (h0 : 0 ≤ i) (h1 : i < 64) : -2147483648 ≤ gn (ga m 258) i ∧ gn (ga m 258) i ≤ 2147483647 := gn_rg aR_258 hm h0 h1
theorem gl_258 {m : zM} (hm : aTm aT0 m) : (ga m 258).length = 64 := (ga_ty aR_258 hm).2.1
set_option maxRecDepth 100000 in
theorem aR_259 : aat aT0 259 = some (.inl (false, 0, 64, .inl (-2147483648, 2147483647))) := rfl
theorem gR_259 {m : zM} (hm : aTm aT0 m) {i : Int} (h0 : 0 ≤ i) (h1 : i < 64) : -2147483648 ≤ gn (ga m 259) i ∧ gn (ga m 259) i ≤ 2147483647 := gn_rg aR_259 hm h0 h1
theorem gl_259 {m : zM} (hm : aTm aT0 m) : (ga m 259).length = 64 := (ga_ty aR_259 hm).2.1
set_option maxRecDepth 100000 in
theorem aR_260 : aat aT0 260 = some (.inl (false, 0, 64, .inl (0, 63))) := rfl
theorem gR_260 {m : zM} (hm : aTm aT0 m) {i : Int} (h0 : 0 ≤ i) (h1 : i < 64) : 0 ≤ gn (ga m 260) i ∧ gn (ga m 260) i ≤ 63 := gn_rg aR_260 hm h0 h1
theorem gl_260 {m : zM} (hm : aTm aT0 m) : (ga m 260).length = 64 := (ga_ty aR_260 hm).2.1
set_option maxRecDepth 100000 in
theorem aR_261 : aat aT0 261 = some (.inl (false, 0, 64, .inl (0, 511))) := rfl
theorem gR_261 {m : zM} (hm : aTm aT0 m) {i : Int} (h0 : 0 ≤ i) (h1 : i < 64) : 0 ≤ gn (ga m 261) i ∧ gn (ga m 261) i ≤ 511 := gn_rg aR_261 hm h0 h1
theorem gl_261 {m : zM} (hm : aTm aT0 m) : (ga m 261).length = 64 := (ga_ty aR_261 hm).2.1
set_option maxRecDepth 100000 in
theorem aR_262 : aat aT0 262 = some (.inl (false, 0, 54, .inl (-2147483648, 2147483647))) := rfl
theorem gR_262 {m : zM} (hm : aTm aT0 m) {i : Int} (h0 : 0 ≤ i) (h1 : i < 54) : -2147483648 ≤ gn (ga m 262) i ∧ gn (ga m 262) i ≤ 2147483647 := gn_rg aR_262 hm h0 h1
theorem gl_262 {m : zM} (hm : aTm aT0 m) : (ga m 262).length = 54 := (ga_ty aR_262 hm).2.1
set_option maxRecDepth 100000 in
theorem aR_263 : aat aT0 263 = some (.inl (false, 0, 3584, .inl (-2147483648, 2147483647))) := rfl
theorem gR_263 {m : zM} (hm : aTm aT0 m) {i : Int} (h0 : 0 ≤ i) (h1 : i < 3584) : -2147483648 ≤ gn (ga m 263) i ∧ gn (ga m 263) i ≤ 2147483647 := gn_rg aR_263 hm h0 h1
theorem gl_263 {m : zM} (hm : aTm aT0 m) : (ga m 263).length = 3584 := (ga_ty aR_263 hm).2.1
set_option maxRecDepth 100000 in
theorem aR_264 : aat aT0 264 = some (.inl (true, 0, 16, .inl (0, 255))) := rfl
theorem gR_264 {m : zM} (hm : aTm aT0 m) {i : Int} (h0 : 0 ≤ i) (h1 : i < 16) : 0 ≤ gn (ga m 264) i ∧ gn (ga m 264) i ≤ 255 := gn_rg aR_264 hm h0 h1
theorem gl_264 {m : zM} (hm : aTm aT0 m) : (ga m 264).length = 16 := (ga_ty aR_264 hm).2.1
set_option maxRecDepth 100000 in
theorem aR_265 : aat aT0 265 = some (.inl (true, 0, 16, .inl (0, 5))) := rfl
theorem gR_265 {m : zM} (hm : aTm aT0 m) {i : Int} (h0 : 0 ≤ i) (h1 : i < 16) : 0 ≤ gn (ga m 265) i ∧ gn (ga m 265) i ≤ 5 := gn_rg aR_265 hm h0 h1
theorem gl_265 {m : zM} (hm : aTm aT0 m) : (ga m 265).length = 16 := (ga_ty aR_265 hm).2.1
set_option maxRecDepth 100000 in
theorem aR_266 : aat aT0 266 = some (.inl (true, 0, 16, .inl (-2147483648, 2147483647))) := rfl
theorem gR_266 {m : zM} (hm : aTm aT0 m) {i : Int} (h0 : 0 ≤ i) (h1 : i < 16) : -2147483648 ≤ gn (ga m 266) i ∧ gn (ga m 266) i ≤ 2147483647 := gn_rg aR_266 hm h0 h1
theorem gl_266 {m : zM} (hm : aTm aT0 m) : (ga m 266).length = 16 := (ga_ty aR_266 hm).2.1
set_option maxRecDepth 100000 in
theorem aR_267 : aat aT0 267 = some (.inl (false, 0, 1674, .inl (-2147483648, 2147483647))) := rfl
theorem gR_267 {m : zM} (hm : aTm aT0 m) {i : Int} (h0 : 0 ≤ i) (h1 : i < 1674) : -2147483648 ≤ gn (ga m 267) i ∧ gn (ga m 267) i ≤ 2147483647 := gn_rg aR_267 hm h0 h1
theorem gl_267 {m : zM} (hm : aTm aT0 m) : (ga m 267).length = 1674 := (ga_ty aR_267 hm).2.1
set_option maxRecDepth 100000 in
theorem aR_268 : aat aT0 268 = some (.inl (false, 0, 50, .inl (-2147483648, 2147483647))) := rfl
theorem gR_268 {m : zM} (hm : aTm aT0 m) {i : Int} (h0 : 0 ≤ i) (h1 : i < 50) : -2147483648 ≤ gn (ga m 268) i ∧ gn (ga m 268) i ≤ 2147483647 := gn_rg aR_268 hm h0 h1
theorem gl_268 {m : zM} (hm : aTm aT0 m) : (ga m 268).length = 50 := (ga_ty aR_268 hm).2.1
