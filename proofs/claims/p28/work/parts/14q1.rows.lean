def mO : List (Bool × aTy) := match aat aT0 221 with
  | some (.inr o) => o.2
  | _ => []
set_option maxRecDepth 100000 in
theorem mO_e : aat aT0 221 = some (.inr (12, mO)) := rfl
set_option maxRecDepth 100000 in
theorem mO_0 : mO[0]? = some (false, .inr (some [222])) := rfl
set_option maxRecDepth 100000 in
theorem mO_1 : mO[1]? = some (true, .inl (0, 1600)) := rfl
set_option maxRecDepth 100000 in
theorem mO_2 : mO[2]? = some (false, .inl (0, 1600)) := rfl
set_option maxRecDepth 100000 in
theorem mO_3 : mO[3]? = some (false, .inl (-2147483648, 2147483647)) := rfl
set_option maxRecDepth 100000 in
theorem mO_4 : mO[4]? = some (false, .inl (0, 1600)) := rfl
set_option maxRecDepth 100000 in
theorem mO_5 : mO[5]? = some (false, .inl (0, 1600)) := rfl
set_option maxRecDepth 100000 in
theorem mO_6 : mO[6]? = some (false, .inl (-2147483648, 2147483647)) := rfl
set_option maxRecDepth 100000 in
theorem mO_7 : mO[7]? = some (false, .inr none) := rfl
set_option maxRecDepth 100000 in
theorem mO_8 : mO[8]? = some (false, .inl (-2147483648, 2147483647)) := rfl
set_option maxRecDepth 100000 in
theorem mO_9 : mO[9]? = some (false, .inl (-2147483648, 2147483647)) := rfl
set_option maxRecDepth 100000 in
theorem mO_10 : mO[10]? = some (false, .inl (-2147483648, 2147483647)) := rfl
set_option maxRecDepth 100000 in
theorem mO_11 : mO[11]? = some (false, .inl (-2147483648, 2147483647)) := rfl
set_option maxRecDepth 100000 in
theorem mO_12 : mO[12]? = some (false, .inl (-2147483648, 2147483647)) := rfl
set_option maxRecDepth 100000 in
theorem mO_13 : mO[13]? = some (true, .inl (0, 1)) := rfl
set_option maxRecDepth 100000 in
theorem mO_14 : mO[14]? = some (false, .inr (some [223])) := rfl
set_option maxRecDepth 100000 in
theorem mO_15 : mO[15]? = some (false, .inr (some [224])) := rfl
set_option maxRecDepth 100000 in
theorem mO_16 : mO[16]? = some (false, .inr (some [225])) := rfl
set_option maxRecDepth 100000 in
theorem mO_17 : mO[17]? = some (false, .inr (some [226])) := rfl
set_option maxRecDepth 100000 in
theorem mO_18 : mO[18]? = some (false, .inr (some [227])) := rfl
set_option maxRecDepth 100000 in
theorem mO_19 : mO[19]? = some (false, .inr (some [228])) := rfl
set_option maxRecDepth 100000 in
theorem mO_20 : mO[20]? = some (false, .inr (some [229])) := rfl
set_option maxRecDepth 100000 in
theorem mO_21 : mO[21]? = some (false, .inr (some [230])) := rfl
set_option maxRecDepth 100000 in
theorem mO_22 : mO[22]? = some (false, .inr (some [231])) := rfl
set_option maxRecDepth 100000 in
theorem mO_23 : mO[23]? = some (false, .inr (some [232])) := rfl
set_option maxRecDepth 100000 in
theorem mO_24 : mO[24]? = some (false, .inr (some [233])) := rfl
set_option maxRecDepth 100000 in
theorem mO_25 : mO[25]? = some (false, .inr (some [234])) := rfl
set_option maxRecDepth 100000 in
theorem mO_26 : mO[26]? = some (false, .inr (some [235])) := rfl
set_option maxRecDepth 100000 in
theorem mO_27 : mO[27]? = some (false, .inr (some [236])) := rfl
set_option maxRecDepth 100000 in
theorem mO_28 : mO[28]? = some (false, .inr (some [237])) := rfl
set_option maxRecDepth 100000 in
theorem mO_29 : mO[29]? = some (false, .inr (some [238])) := rfl
set_option maxRecDepth 100000 in
theorem mO_30 : mO[30]? = some (false, .inr (some [239])) := rfl
set_option maxRecDepth 100000 in
theorem mO_31 : mO[31]? = some (false, .inr (some [240])) := rfl
set_option maxRecDepth 100000 in
theorem mO_32 : mO[32]? = some (false, .inr (some [241])) := rfl
set_option maxRecDepth 100000 in
theorem mO_33 : mO[33]? = some (true, .inl (-2147483648, 2147483647)) := rfl
set_option maxRecDepth 100000 in
theorem mO_34 : mO[34]? = some (false, .inl (0, 1)) := rfl
set_option maxRecDepth 100000 in
theorem mO_35 : mO[35]? = some (false, .inl (-2147483648, 2147483647)) := rfl
set_option maxRecDepth 100000 in
theorem mO_36 : mO[36]? = some (false, .inr (some [242])) := rfl
set_option maxRecDepth 100000 in
theorem mO_37 : mO[37]? = some (false, .inr (some [243])) := rfl
set_option maxRecDepth 100000 in
theorem mO_38 : mO[38]? = some (false, .inr (some [244])) := rfl
set_option maxRecDepth 100000 in
theorem mO_39 : mO[39]? = some (false, .inr (some [245])) := rfl
set_option maxRecDepth 100000 in
theorem mO_40 : mO[40]? = some (false, .inr (some [246])) := rfl
set_option maxRecDepth 100000 in
theorem mO_41 : mO[41]? = some (false, .inl (-2147483648, 2147483647)) := rfl
set_option maxRecDepth 100000 in
theorem mO_42 : mO[42]? = some (false, .inl (-2147483648, 2147483647)) := rfl
set_option maxRecDepth 100000 in
theorem mO_43 : mO[43]? = some (false, .inr (some [247])) := rfl
set_option maxRecDepth 100000 in
theorem mO_44 : mO[44]? = some (false, .inl (-2147483648, 2147483647)) := rfl
set_option maxRecDepth 100000 in
theorem mO_45 : mO[45]? = some (false, .inl (0, 1)) := rfl
set_option maxRecDepth 100000 in
theorem mO_46 : mO[46]? = some (true, .inl (0, 1)) := rfl
set_option maxRecDepth 100000 in
theorem mO_47 : mO[47]? = some (false, .inr (some [248])) := rfl
set_option maxRecDepth 100000 in
theorem mO_48 : mO[48]? = some (false, .inr (some [249])) := rfl
set_option maxRecDepth 100000 in
theorem mO_49 : mO[49]? = some (false, .inr (some [250])) := rfl
set_option maxRecDepth 100000 in
theorem mO_50 : mO[50]? = some (false, .inr (some [251])) := rfl
set_option maxRecDepth 100000 in
theorem mO_51 : mO[51]? = some (false, .inr (some [252])) := rfl
set_option maxRecDepth 100000 in
theorem mO_52 : mO[52]? = some (false, .inr (some [253])) := rfl
set_option maxRecDepth 100000 in
theorem mO_53 : mO[53]? = some (false, .inr (some [254])) := rfl
set_option maxRecDepth 100000 in
theorem mO_54 : mO[54]? = some (false, .inl (0, 19)) := rfl
set_option maxRecDepth 100000 in
theorem mO_55 : mO[55]? = some (false, .inl (0, 20)) := rfl
set_option maxRecDepth 100000 in
theorem mO_56 : mO[56]? = some (false, .inr none) := rfl
set_option maxRecDepth 100000 in
theorem mO_57 : mO[57]? = some (false, .inr (some [255])) := rfl
set_option maxRecDepth 100000 in
theorem mO_58 : mO[58]? = some (false, .inr (some [256])) := rfl
set_option maxRecDepth 100000 in
theorem mO_59 : mO[59]? = some (false, .inr (some [257])) := rfl
set_option maxRecDepth 100000 in
theorem mO_60 : mO[60]? = some (false, .inr (some [258])) := rfl
set_option maxRecDepth 100000 in
theorem mO_61 : mO[61]? = some (false, .inr (some [259])) := rfl
set_option maxRecDepth 100000 in
theorem mO_62 : mO[62]? = some (false, .inr (some [260])) := rfl
set_option maxRecDepth 100000 in
theorem mO_63 : mO[63]? = some (false, .inr (some [261])) := rfl
set_option maxRecDepth 100000 in
theorem mO_64 : mO[64]? = some (false, .inr (some [262])) := rfl
set_option maxRecDepth 100000 in
theorem mO_65 : mO[65]? = some (false, .inr (some [263])) := rfl
set_option maxRecDepth 100000 in
theorem mO_66 : mO[66]? = some (true, .inl (0, 16)) := rfl
set_option maxRecDepth 100000 in
theorem mO_67 : mO[67]? = some (false, .inr (some [264])) := rfl
set_option maxRecDepth 100000 in
theorem mO_68 : mO[68]? = some (false, .inr (some [265])) := rfl
set_option maxRecDepth 100000 in
theorem mO_69 : mO[69]? = some (false, .inr (some [266])) := rfl
set_option maxRecDepth 100000 in
theorem mO_70 : mO[70]? = some (false, .inr (some [267])) := rfl
set_option maxRecDepth 100000 in
theorem mO_71 : mO[71]? = some (false, .inr (some [268])) := rfl
set_option maxRecDepth 100000 in
theorem mO_72 : mO[72]? = some (false, .inl (0, 33)) := rfl
set_option maxRecDepth 100000 in
theorem aR_222 : aat aT0 222 = some (.inl (true, 0, 1800, .inl (0, 255))) := rfl
set_option maxRecDepth 100000 in
theorem aR_223 : aat aT0 223 = some (.inl (true, 0, 2, .inl (-2147483648, 2147483647))) := rfl
set_option maxRecDepth 100000 in
theorem aR_224 : aat aT0 224 = some (.inl (true, 0, 2, .inl (-2147483648, 2147483647))) := rfl
set_option maxRecDepth 100000 in
theorem aR_225 : aat aT0 225 = some (.inl (false, 0, 2, .inl (-2147483648, 2147483647))) := rfl
set_option maxRecDepth 100000 in
theorem aR_226 : aat aT0 226 = some (.inl (false, 0, 2, .inl (-2147483648, 2147483647))) := rfl
set_option maxRecDepth 100000 in
theorem aR_227 : aat aT0 227 = some (.inl (true, 0, 128, .inl (0, 1))) := rfl
set_option maxRecDepth 100000 in
theorem aR_228 : aat aT0 228 = some (.inl (true, 0, 2, .inl (0, 9))) := rfl
set_option maxRecDepth 100000 in
theorem aR_229 : aat aT0 229 = some (.inl (true, 0, 18, .inl (0, 63))) := rfl
set_option maxRecDepth 100000 in
theorem aR_230 : aat aT0 230 = some (.inl (false, 0, 18, .inl (-2147483648, 2147483647))) := rfl
set_option maxRecDepth 100000 in
theorem aR_231 : aat aT0 231 = some (.inl (false, 0, 18, .inl (-2147483648, 2147483647))) := rfl
set_option maxRecDepth 100000 in
theorem aR_232 : aat aT0 232 = some (.inl (true, 0, 2, .inl (0, 511))) := rfl
set_option maxRecDepth 100000 in
theorem aR_233 : aat aT0 233 = some (.inl (true, 0, 2, .inl (0, 6))) := rfl
set_option maxRecDepth 100000 in
theorem aR_234 : aat aT0 234 = some (.inl (true, 0, 12, .inl (0, 63))) := rfl
set_option maxRecDepth 100000 in
theorem aR_235 : aat aT0 235 = some (.inl (true, 0, 12, .inl (0, 63))) := rfl
set_option maxRecDepth 100000 in
theorem aR_236 : aat aT0 236 = some (.inl (true, 0, 6, .inl (-2147483648, 2147483647))) := rfl
set_option maxRecDepth 100000 in
theorem aR_237 : aat aT0 237 = some (.inl (true, 0, 6, .inl (-2147483648, 2147483647))) := rfl
set_option maxRecDepth 100000 in
theorem aR_238 : aat aT0 238 = some (.inl (true, 0, 3200, .inl (-2147483648, 2147483647))) := rfl
set_option maxRecDepth 100000 in
theorem aR_239 : aat aT0 239 = some (.inl (true, 0, 3200, .inl (-2147483648, 2147483647))) := rfl
set_option maxRecDepth 100000 in
theorem aR_240 : aat aT0 240 = some (.inl (false, 1, 18, .inr none)) := rfl
set_option maxRecDepth 100000 in
theorem aR_241 : aat aT0 241 = some (.inl (false, 1, 12, .inr none)) := rfl
set_option maxRecDepth 100000 in
theorem aR_242 : aat aT0 242 = some (.inl (false, 0, 20, .inl (-2147483648, 2147483647))) := rfl
set_option maxRecDepth 100000 in
theorem aR_243 : aat aT0 243 = some (.inl (false, 0, 20, .inl (-2147483648, 2147483647))) := rfl
set_option maxRecDepth 100000 in
theorem aR_244 : aat aT0 244 = some (.inl (false, 2, 20, .inl (0, 1))) := rfl
set_option maxRecDepth 100000 in
theorem aR_245 : aat aT0 245 = some (.inl (false, 0, 20, .inl (-2147483648, 2147483647))) := rfl
set_option maxRecDepth 100000 in
theorem aR_246 : aat aT0 246 = some (.inl (false, 0, 20, .inl (-2147483648, 2147483647))) := rfl
set_option maxRecDepth 100000 in
theorem aR_247 : aat aT0 247 = some (.inl (false, 0, 500, .inl (-2147483648, 2147483647))) := rfl
set_option maxRecDepth 100000 in
theorem aR_248 : aat aT0 248 = some (.inl (false, 0, 6, .inl (-2147483648, 2147483647))) := rfl
set_option maxRecDepth 100000 in
theorem aR_249 : aat aT0 249 = some (.inl (false, 0, 22, .inl (-2147483648, 2147483647))) := rfl
set_option maxRecDepth 100000 in
theorem aR_250 : aat aT0 250 = some (.inl (false, 0, 22, .inl (0, 511))) := rfl
set_option maxRecDepth 100000 in
theorem aR_251 : aat aT0 251 = some (.inl (false, 0, 198, .inl (-2147483648, 2147483647))) := rfl
set_option maxRecDepth 100000 in
theorem aR_252 : aat aT0 252 = some (.inl (false, 0, 132, .inl (0, 63))) := rfl
set_option maxRecDepth 100000 in
theorem aR_253 : aat aT0 253 = some (.inl (false, 0, 22, .inl (0, 40))) := rfl
set_option maxRecDepth 100000 in
theorem aR_254 : aat aT0 254 = some (.inl (false, 0, 2640, .inl (-2147483648, 2147483647))) := rfl
set_option maxRecDepth 100000 in
theorem aR_255 : aat aT0 255 = some (.inl (false, 0, 9, .inl (-2147483648, 2147483647))) := rfl
set_option maxRecDepth 100000 in
theorem aR_256 : aat aT0 256 = some (.inl (false, 1, 500, .inr none)) := rfl
set_option maxRecDepth 100000 in
theorem aR_257 : aat aT0 257 = some (.inl (false, 0, 10, .inl (-2147483648, 2147483647))) := rfl
set_option maxRecDepth 100000 in
theorem aR_258 : aat aT0 258 = some (.inl (false, 0, 64, .inl (-2147483648, 2147483647))) := rfl
set_option maxRecDepth 100000 in
theorem aR_259 : aat aT0 259 = some (.inl (false, 0, 64, .inl (-2147483648, 2147483647))) := rfl
set_option maxRecDepth 100000 in
theorem aR_260 : aat aT0 260 = some (.inl (false, 0, 64, .inl (0, 63))) := rfl
set_option maxRecDepth 100000 in
theorem aR_261 : aat aT0 261 = some (.inl (false, 0, 64, .inl (0, 511))) := rfl
set_option maxRecDepth 100000 in
theorem aR_262 : aat aT0 262 = some (.inl (false, 0, 54, .inl (-2147483648, 2147483647))) := rfl
set_option maxRecDepth 100000 in
theorem aR_263 : aat aT0 263 = some (.inl (false, 0, 3584, .inl (-2147483648, 2147483647))) := rfl
set_option maxRecDepth 100000 in
theorem aR_264 : aat aT0 264 = some (.inl (true, 0, 16, .inl (0, 255))) := rfl
set_option maxRecDepth 100000 in
theorem aR_265 : aat aT0 265 = some (.inl (true, 0, 16, .inl (0, 5))) := rfl
set_option maxRecDepth 100000 in
theorem aR_266 : aat aT0 266 = some (.inl (true, 0, 16, .inl (-2147483648, 2147483647))) := rfl
set_option maxRecDepth 100000 in
theorem aR_267 : aat aT0 267 = some (.inl (false, 0, 1674, .inl (-2147483648, 2147483647))) := rfl
set_option maxRecDepth 100000 in
theorem aR_268 : aat aT0 268 = some (.inl (false, 0, 50, .inl (-2147483648, 2147483647))) := rfl
