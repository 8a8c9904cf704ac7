/-! lifted functions 16, printed by lift.py -/
set_option maxHeartbeats 4000000 in
set_option maxRecDepth 100000 in
def kf_191 : Nat → Nat → Nat → Nat → (Nat → Nat × Nat) → JI → JI → (Nat → Nat → Option Nat) → Nat → Option (PSi × Nat × Nat)
  | 0, _, _, _, _, _, _, _, _ => none
  | n + 1, dp, lab, z, kd, I, L, R, a0 =>
    if lab = 0 then (if 1 ≤ dp then (adk 1 7 (stI (z + 1) (fun z_7 => (stI (va_up kd z (13, 7)) (fun kd_7 => (stI (nw2 I z) (fun I_7 => (stI (nw2 L z) (fun L_7 => (stI (va_up R z (fun _ => none)) (fun R_7 => (if (a0 < z_7) ∧ ((kd_7 a0).1 = 12) then (stI (u2 R_7 a0 2 (some z)) (fun R_9 => (adk 1 1570 (stI (z_7 + 1) (fun z_16 => (stI (va_up kd_7 z_7 (13, 1570)) (fun kd_16 => (stI (nw2 I_7 z_7) (fun I_16 => (stI (nw2 L_7 z_7) (fun L_16 => (stI (va_up R_9 z_7 (fun _ => none)) (fun R_16 => (if (a0 < z_16) ∧ ((kd_16 a0).1 = 12) then (stI (u2 R_16 a0 3 (some z_7)) (fun R_18 => (adk 1 3140 (stI (z_16 + 1) (fun z_25 => (stI (va_up kd_16 z_16 (13, 3140)) (fun kd_25 => (stI (nw2 I_16 z_16) (fun I_25 => (stI (nw2 L_16 z_16) (fun L_25 => (stI (va_up R_18 z_16 (fun _ => none)) (fun R_25 => (if (a0 < z_25) ∧ ((kd_25 a0).1 = 12) then (stI (u2 R_25 a0 4 (some z_16)) (fun R_27 => (adk 1 2 (stI (z_25 + 1) (fun z_32 => (stI (va_up kd_25 z_25 (15, 2)) (fun kd_32 => (stI (nw2 I_25 z_25) (fun I_32 => (stI (nw2 L_25 z_25) (fun L_32 => (stI (va_up R_27 z_25 (fun _ => none)) (fun R_32 => (if (a0 < z_32) ∧ ((kd_32 a0).1 = 12) then (stI (u2 R_32 a0 5 (some z_25)) (fun R_34 => (adk 1 400 (stI (z_32 + 1) (fun z_41 => (stI (va_up kd_32 z_32 (13, 400)) (fun kd_41 => (stI (nw2 I_32 z_32) (fun I_41 => (stI (nw2 L_32 z_32) (fun L_41 => (stI (va_up R_34 z_32 (fun _ => none)) (fun R_41 => (if (a0 < z_41) ∧ ((kd_41 a0).1 = 12) then (stI (u2 R_41 a0 6 (some z_32)) (fun R_43 => (if (a0 < z_41) ∧ ((kd_41 a0).1 = 12) then (stI (w2 I_41 a0 12 (-1)) (fun I_48 => (adk 1 192 (stI (z_41 + 1) (fun z_55 => (stI (va_up kd_41 z_41 (13, 192)) (fun kd_55 => (stI (nw2 I_48 z_41) (fun I_55 => (stI (nw2 L_41 z_41) (fun L_55 => (stI (va_up R_43 z_41 (fun _ => none)) (fun R_55 => (if (a0 < z_55) ∧ ((kd_55 a0).1 = 12) then (stI (u2 R_55 a0 15 (some z_41)) (fun R_57 => (adk 1 400 (stI (z_55 + 1) (fun z_64 => (stI (va_up kd_55 z_55 (13, 400)) (fun kd_64 => (stI (nw2 I_55 z_55) (fun I_64 => (stI (nw2 L_55 z_55) (fun L_64 => (stI (va_up R_57 z_55 (fun _ => none)) (fun R_64 => (if (a0 < z_64) ∧ ((kd_64 a0).1 = 12) then (stI (u2 R_64 a0 17 (some z_55)) (fun R_66 => (adk 1 400 (stI (z_64 + 1) (fun z_73 => (stI (va_up kd_64 z_64 (13, 400)) (fun kd_73 => (stI (nw2 I_64 z_64) (fun I_73 => (stI (nw2 L_64 z_64) (fun L_73 => (stI (va_up R_66 z_64 (fun _ => none)) (fun R_73 => (if (a0 < z_73) ∧ ((kd_73 a0).1 = 12) then (stI (u2 R_73 a0 18 (some z_64)) (fun R_75 => (adk 1 400 (stI (z_73 + 1) (fun z_82 => (stI (va_up kd_73 z_73 (13, 400)) (fun kd_82 => (stI (nw2 I_73 z_73) (fun I_82 => (stI (nw2 L_73 z_73) (fun L_82 => (stI (va_up R_75 z_73 (fun _ => none)) (fun R_82 => (if (a0 < z_82) ∧ ((kd_82 a0).1 = 12) then (stI (u2 R_82 a0 20 (some z_73)) (fun R_84 => (adk 1 400 (stI (z_82 + 1) (fun z_91 => (stI (va_up kd_82 z_82 (13, 400)) (fun kd_91 => (stI (nw2 I_82 z_82) (fun I_91 => (stI (nw2 L_82 z_82) (fun L_91 => (stI (va_up R_84 z_82 (fun _ => none)) (fun R_91 => (if (a0 < z_91) ∧ ((kd_91 a0).1 = 12) then (stI (u2 R_91 a0 21 (some z_82)) (fun R_93 => (adk 1 5 (stI (z_91 + 1) (fun z_98 => (stI (va_up kd_91 z_91 (14, 5)) (fun kd_98 => (stI (nw2 I_91 z_91) (fun I_98 => (stI (nw2 L_91 z_91) (fun L_98 => (stI (va_up R_93 z_91 (fun _ => none)) (fun R_98 => (if ((z_91 < z_98) ∧ (((kd_98 z_91).1 = 14) ∧ ((kd_98 z_91).2 < (2 ^ 31)))) ∧ (((0 : Int) ≤ 0) ∧ (0 < (kd_98 z_91).2)) then (stI (w2 L_98 z_91 0 3540595) (fun L_105 => (if ((z_91 < z_98) ∧ (((kd_98 z_91).1 = 14) ∧ ((kd_98 z_91).2 < (2 ^ 31)))) ∧ (((0 : Int) ≤ 1) ∧ (1 < (kd_98 z_91).2)) then (stI (w2 L_105 z_91 1 525908) (fun L_111 => (if ((z_91 < z_98) ∧ (((kd_98 z_91).1 = 14) ∧ ((kd_98 z_91).2 < (2 ^ 31)))) ∧ (((0 : Int) ≤ 2) ∧ (2 < (kd_98 z_91).2)) then (stI (w2 L_111 z_91 2 23609) (fun L_117 => (if ((z_91 < z_98) ∧ (((kd_98 z_91).1 = 14) ∧ ((kd_98 z_91).2 < (2 ^ 31)))) ∧ (((0 : Int) ≤ 3) ∧ (3 < (kd_98 z_91).2)) then (stI (w2 L_117 z_91 3 4153) (fun L_123 => (if ((z_91 < z_98) ∧ (((kd_98 z_91).1 = 14) ∧ ((kd_98 z_91).2 < (2 ^ 31)))) ∧ (((0 : Int) ≤ 4) ∧ (4 < (kd_98 z_91).2)) then (stI (w2 L_123 z_91 4 777297172) (fun L_129 => (if (a0 < z_98) ∧ ((kd_98 a0).1 = 12) then (stI (u2 R_98 a0 24 (some z_91)) (fun R_130 => (adk 1 176 (stI (z_98 + 1) (fun z_137 => (stI (va_up kd_98 z_98 (13, 176)) (fun kd_137 => (stI (nw2 I_98 z_98) (fun I_137 => (stI (nw2 L_129 z_98) (fun L_137 => (stI (va_up R_130 z_98 (fun _ => none)) (fun R_137 => (if (a0 < z_137) ∧ ((kd_137 a0).1 = 12) then (stI (u2 R_137 a0 25 (some z_98)) (fun R_139 => (adk 1 13 (stI (z_137 + 1) (fun z_145 => (stI (va_up kd_137 z_137 (14, 13)) (fun kd_145 => (stI (nw2 I_137 z_137) (fun I_145 => (stI (nw2 L_137 z_137) (fun L_145 => (stI (va_up R_139 z_137 (fun _ => none)) (fun R_145 => (if (a0 < z_145) ∧ ((kd_145 a0).1 = 12) then (stI (u2 R_145 a0 27 (some z_137)) (fun R_147 => (adk 1 400 (stI (z_145 + 1) (fun z_154 => (stI (va_up kd_145 z_145 (14, 400)) (fun kd_154 => (stI (nw2 I_145 z_145) (fun I_154 => (stI (nw2 L_145 z_145) (fun L_154 => (stI (va_up R_147 z_145 (fun _ => none)) (fun R_154 => (if (a0 < z_154) ∧ ((kd_154 a0).1 = 12) then (stI (u2 R_154 a0 28 (some z_145)) (fun R_156 => (adk 1 3 (stI (z_154 + 1) (fun z_161 => (stI (va_up kd_154 z_154 (13, 3)) (fun kd_161 => (stI (nw2 I_154 z_154) (fun I_161 => (stI (nw2 L_154 z_154) (fun L_161 => (stI (va_up R_156 z_154 (fun _ => none)) (fun R_161 => (if (a0 < z_161) ∧ ((kd_161 a0).1 = 12) then (stI (u2 R_161 a0 33 (some z_154)) (fun R_163 => (adk 1 1920 (stI (z_161 + 1) (fun z_170 => (stI (va_up kd_161 z_161 (13, 1920)) (fun kd_170 => (stI (nw2 I_161 z_161) (fun I_170 => (stI (nw2 L_161 z_161) (fun L_170 => (stI (va_up R_163 z_161 (fun _ => none)) (fun R_170 => (if (a0 < z_170) ∧ ((kd_170 a0).1 = 12) then (stI (u2 R_170 a0 34 (some z_161)) (fun R_172 => (adk 1 1920 (stI (z_170 + 1) (fun z_179 => (stI (va_up kd_170 z_170 (13, 1920)) (fun kd_179 => (stI (nw2 I_170 z_170) (fun I_179 => (stI (nw2 L_170 z_170) (fun L_179 => (stI (va_up R_172 z_170 (fun _ => none)) (fun R_179 => (if (a0 < z_179) ∧ ((kd_179 a0).1 = 12) then (stI (u2 R_179 a0 35 (some z_170)) (fun R_181 => (adk 1 10 (stI (z_179 + 1) (fun z_187 => (stI (va_up kd_179 z_179 (13, 10)) (fun kd_187 => (stI (nw2 I_179 z_179) (fun I_187 => (stI (nw2 L_179 z_179) (fun L_187 => (stI (va_up R_181 z_179 (fun _ => none)) (fun R_187 => (if (a0 < z_187) ∧ ((kd_187 a0).1 = 12) then (stI (u2 R_187 a0 36 (some z_179)) (fun R_189 => (adk 1 110 (stI (z_187 + 1) (fun z_195 => (stI (va_up kd_187 z_187 (13, 110)) (fun kd_195 => (stI (nw2 I_187 z_187) (fun I_195 => (stI (nw2 L_187 z_187) (fun L_195 => (stI (va_up R_189 z_187 (fun _ => none)) (fun R_195 => (if (a0 < z_195) ∧ ((kd_195 a0).1 = 12) then (stI (u2 R_195 a0 37 (some z_187)) (fun R_197 => (adk 1 48 (stI (z_195 + 1) (fun z_203 => (stI (va_up kd_195 z_195 (15, 48)) (fun kd_203 => (stI (nw2 I_195 z_195) (fun I_203 => (stI (nw2 L_195 z_195) (fun L_203 => (stI (va_up R_197 z_195 (fun _ => none)) (fun R_203 => (if (a0 < z_203) ∧ ((kd_203 a0).1 = 12) then (stI (u2 R_203 a0 38 (some z_195)) (fun R_205 => (adk 1 8 (stI (z_203 + 1) (fun z_211 => (stI (va_up kd_203 z_203 (13, 8)) (fun kd_211 => (stI (nw2 I_203 z_203) (fun I_211 => (stI (nw2 L_203 z_203) (fun L_211 => (stI (va_up R_205 z_203 (fun _ => none)) (fun R_211 => (if (a0 < z_211) ∧ ((kd_211 a0).1 = 12) then (stI (u2 R_211 a0 39 (some z_203)) (fun R_213 => (adk 1 10 (stI (z_211 + 1) (fun z_219 => (stI (va_up kd_211 z_211 (13, 10)) (fun kd_219 => (stI (nw2 I_211 z_211) (fun I_219 => (stI (nw2 L_211 z_211) (fun L_219 => (stI (va_up R_213 z_211 (fun _ => none)) (fun R_219 => (if (a0 < z_219) ∧ ((kd_219 a0).1 = 12) then (stI (u2 R_219 a0 41 (some z_211)) (fun R_221 => (adk 1 5 (stI (z_219 + 1) (fun z_226 => (stI (va_up kd_219 z_219 (13, 5)) (fun kd_226 => (stI (nw2 I_219 z_219) (fun I_226 => (stI (nw2 L_219 z_219) (fun L_226 => (stI (va_up R_221 z_219 (fun _ => none)) (fun R_226 => (if (a0 < z_226) ∧ ((kd_226 a0).1 = 12) then (stI (u2 R_226 a0 42 (some z_219)) (fun R_228 => (adk 1 531441 (stI (z_226 + 1) (fun z_234 => (stI (va_up kd_226 z_226 (13, 531441)) (fun kd_234 => (stI (nw2 I_226 z_226) (fun I_234 => (stI (nw2 L_226 z_226) (fun L_234 => (stI (va_up R_228 z_226 (fun _ => none)) (fun R_234 => (if (a0 < z_234) ∧ ((kd_234 a0).1 = 12) then (stI (u2 R_234 a0 45 (some z_226)) (fun R_236 => (adk 1 531441 (stI (z_234 + 1) (fun z_242 => (stI (va_up kd_234 z_234 (13, 531441)) (fun kd_242 => (stI (nw2 I_234 z_234) (fun I_242 => (stI (nw2 L_234 z_234) (fun L_242 => (stI (va_up R_236 z_234 (fun _ => none)) (fun R_242 => (if (a0 < z_242) ∧ ((kd_242 a0).1 = 12) then (stI (u2 R_242 a0 46 (some z_234)) (fun R_244 => (adk 1 531441 (stI (z_242 + 1) (fun z_250 => (stI (va_up kd_242 z_242 (15, 531441)) (fun kd_250 => (stI (nw2 I_242 z_242) (fun I_250 => (stI (nw2 L_242 z_242) (fun L_250 => (stI (va_up R_244 z_242 (fun _ => none)) (fun R_250 => (if (a0 < z_250) ∧ ((kd_250 a0).1 = 12) then (stI (u2 R_250 a0 47 (some z_242)) (fun R_252 => (adk 1 8 (stI (z_250 + 1) (fun z_258 => (stI (va_up kd_250 z_250 (13, 8)) (fun kd_258 => (stI (nw2 I_250 z_250) (fun I_258 => (stI (nw2 L_250 z_250) (fun L_258 => (stI (va_up R_252 z_250 (fun _ => none)) (fun R_258 => (if (a0 < z_258) ∧ ((kd_258 a0).1 = 12) then (stI (u2 R_258 a0 49 (some z_250)) (fun R_260 => (adk 1 5 (stI (z_258 + 1) (fun z_265 => (stI (va_up kd_258 z_258 (13, 5)) (fun kd_265 => (stI (nw2 I_258 z_258) (fun I_265 => (stI (nw2 L_258 z_258) (fun L_265 => (stI (va_up R_260 z_258 (fun _ => none)) (fun R_265 => (if (a0 < z_265) ∧ ((kd_265 a0).1 = 12) then (stI (u2 R_265 a0 50 (some z_258)) (fun R_267 => (adk 1 8 (stI (z_265 + 1) (fun z_273 => (stI (va_up kd_265 z_265 (13, 8)) (fun kd_273 => (stI (nw2 I_265 z_265) (fun I_273 => (stI (nw2 L_265 z_265) (fun L_273 => (stI (va_up R_267 z_265 (fun _ => none)) (fun R_273 => (if (a0 < z_273) ∧ ((kd_273 a0).1 = 12) then (stI (u2 R_273 a0 55 (some z_265)) (fun R_275 => (adk 1 10 (stI (z_273 + 1) (fun z_281 => (stI (va_up kd_273 z_273 (13, 10)) (fun kd_281 => (stI (nw2 I_273 z_273) (fun I_281 => (stI (nw2 L_273 z_273) (fun L_281 => (stI (va_up R_275 z_273 (fun _ => none)) (fun R_281 => (if (a0 < z_281) ∧ ((kd_281 a0).1 = 12) then (stI (u2 R_281 a0 56 (some z_273)) (fun R_283 => (adk 1 16 (stI (z_281 + 1) (fun z_289 => (stI (va_up kd_281 z_281 (13, 16)) (fun kd_289 => (stI (nw2 I_281 z_281) (fun I_289 => (stI (nw2 L_281 z_281) (fun L_289 => (stI (va_up R_283 z_281 (fun _ => none)) (fun R_289 => (if (a0 < z_289) ∧ ((kd_289 a0).1 = 12) then (stI (u2 R_289 a0 57 (some z_281)) (fun R_291 => (adk 1 16 (stI (z_289 + 1) (fun z_297 => (stI (va_up kd_289 z_289 (13, 16)) (fun kd_297 => (stI (nw2 I_289 z_289) (fun I_297 => (stI (nw2 L_289 z_289) (fun L_297 => (stI (va_up R_291 z_289 (fun _ => none)) (fun R_297 => (if (a0 < z_297) ∧ ((kd_297 a0).1 = 12) then (stI (u2 R_297 a0 58 (some z_289)) (fun R_299 => (adk 1 16 (stI (z_297 + 1) (fun z_305 => (stI (va_up kd_297 z_297 (15, 16)) (fun kd_305 => (stI (nw2 I_297 z_297) (fun I_305 => (stI (nw2 L_297 z_297) (fun L_305 => (stI (va_up R_299 z_297 (fun _ => none)) (fun R_305 => (if (a0 < z_305) ∧ ((kd_305 a0).1 = 12) then (stI (u2 R_305 a0 59 (some z_297)) (fun R_307 => (adk 1 4 (stI (z_305 + 1) (fun z_312 => (stI (va_up kd_305 z_305 (13, 4)) (fun kd_312 => (stI (nw2 I_305 z_305) (fun I_312 => (stI (nw2 L_305 z_305) (fun L_312 => (stI (va_up R_307 z_305 (fun _ => none)) (fun R_312 => (if (a0 < z_312) ∧ ((kd_312 a0).1 = 12) then (stI (u2 R_312 a0 61 (some z_305)) (fun R_314 => (adk 1 16 (stI (z_312 + 1) (fun z_320 => (stI (va_up kd_312 z_312 (13, 16)) (fun kd_320 => (stI (nw2 I_312 z_312) (fun I_320 => (stI (nw2 L_312 z_312) (fun L_320 => (stI (va_up R_314 z_312 (fun _ => none)) (fun R_320 => (if (a0 < z_320) ∧ ((kd_320 a0).1 = 12) then (stI (u2 R_320 a0 62 (some z_312)) (fun R_322 => (adk 1 16 (stI (z_320 + 1) (fun z_328 => (stI (va_up kd_320 z_320 (13, 16)) (fun kd_328 => (stI (nw2 I_320 z_320) (fun I_328 => (stI (nw2 L_320 z_320) (fun L_328 => (stI (va_up R_322 z_320 (fun _ => none)) (fun R_328 => (if (a0 < z_328) ∧ ((kd_328 a0).1 = 12) then (stI (u2 R_328 a0 64 (some z_320)) (fun R_330 => (adk 1 15 (stI (z_328 + 1) (fun z_336 => (stI (va_up kd_328 z_328 (13, 15)) (fun kd_336 => (stI (nw2 I_328 z_328) (fun I_336 => (stI (nw2 L_328 z_328) (fun L_336 => (stI (va_up R_330 z_328 (fun _ => none)) (fun R_336 => (if (a0 < z_336) ∧ ((kd_336 a0).1 = 12) then (stI (u2 R_336 a0 65 (some z_328)) (fun R_338 => (adk 1 15 (stI (z_336 + 1) (fun z_344 => (stI (va_up kd_336 z_336 (13, 15)) (fun kd_344 => (stI (nw2 I_336 z_336) (fun I_344 => (stI (nw2 L_336 z_336) (fun L_344 => (stI (va_up R_338 z_336 (fun _ => none)) (fun R_344 => (if (a0 < z_344) ∧ ((kd_344 a0).1 = 12) then (stI (u2 R_344 a0 66 (some z_336)) (fun R_346 => (if (a0 < z_344) ∧ ((kd_344 a0).1 = 12) then ((R_346 a0 3).bind (fun b_350 => (if ((b_350 < z_344) ∧ (((kd_344 b_350).1 = 13) ∧ ((kd_344 b_350).2 < (2 ^ 31)))) ∧ (((0 : Int) ≤ 5) ∧ (5 < (kd_344 b_350).2)) then (stI (w2 I_344 b_350 5 5) (fun I_355 => (some ((z_344, kd_344, I_355, L_344, R_346), 0, 0)))) else none))) else none))) else none)))))))))))))) else none)))))))))))))) else none)))))))))))))) else none)))))))))))))) else none)))))))))))))) else none)))))))))))))) else none)))))))))))))) else none)))))))))))))) else none)))))))))))))) else none)))))))))))))) else none)))))))))))))) else none)))))))))))))) else none)))))))))))))) else none)))))))))))))) else none)))))))))))))) else none)))))))))))))) else none)))))))))))))) else none)))))))))))))) else none)))))))))))))) else none)))))))))))))) else none)))))))))))))) else none)))))))))))))) else none)))))))))))))) else none)))))))))))))) else none)))))))))))))) else none)))))))))))))) else none)))))))))))))) else none))) else none))) else none))) else none))) else none))) else none)))))))))))))) else none)))))))))))))) else none)))))))))))))) else none)))))))))))))) else none)))))))))))))) else none)))))))))))))) else none))) else none)))))))))))))) else none)))))))))))))) else none)))))))))))))) else none)))))))))))))) else none)))))))))))) else none)
    else none
set_option maxRecDepth 100000 in
theorem ke_191_0 (n : Nat) (dp : Nat) (z : Nat) (kd : (Nat → Nat × Nat)) (I : JI) (L : JI) (R : (Nat → Nat → Option Nat)) (a0 : Nat) : kf_191 (n + 1) dp 0 z kd I L R a0 = (if 1 ≤ dp then (adk 1 7 (stI (z + 1) (fun z_7 => (stI (va_up kd z (13, 7)) (fun kd_7 => (stI (nw2 I z) (fun I_7 => (stI (nw2 L z) (fun L_7 => (stI (va_up R z (fun _ => none)) (fun R_7 => (if (a0 < z_7) ∧ ((kd_7 a0).1 = 12) then (stI (u2 R_7 a0 2 (some z)) (fun R_9 => (adk 1 1570 (stI (z_7 + 1) (fun z_16 => (stI (va_up kd_7 z_7 (13, 1570)) (fun kd_16 => (stI (nw2 I_7 z_7) (fun I_16 => (stI (nw2 L_7 z_7) (fun L_16 => (stI (va_up R_9 z_7 (fun _ => none)) (fun R_16 => (if (a0 < z_16) ∧ ((kd_16 a0).1 = 12) then (stI (u2 R_16 a0 3 (some z_7)) (fun R_18 => (adk 1 3140 (stI (z_16 + 1) (fun z_25 => (stI (va_up kd_16 z_16 (13, 3140)) (fun kd_25 => (stI (nw2 I_16 z_16) (fun I_25 => (stI (nw2 L_16 z_16) (fun L_25 => (stI (va_up R_18 z_16 (fun _ => none)) (fun R_25 => (if (a0 < z_25) ∧ ((kd_25 a0).1 = 12) then (stI (u2 R_25 a0 4 (some z_16)) (fun R_27 => (adk 1 2 (stI (z_25 + 1) (fun z_32 => (stI (va_up kd_25 z_25 (15, 2)) (fun kd_32 => (stI (nw2 I_25 z_25) (fun I_32 => (stI (nw2 L_25 z_25) (fun L_32 => (stI (va_up R_27 z_25 (fun _ => none)) (fun R_32 => (if (a0 < z_32) ∧ ((kd_32 a0).1 = 12) then (stI (u2 R_32 a0 5 (some z_25)) (fun R_34 => (adk 1 400 (stI (z_32 + 1) (fun z_41 => (stI (va_up kd_32 z_32 (13, 400)) (fun kd_41 => (stI (nw2 I_32 z_32) (fun I_41 => (stI (nw2 L_32 z_32) (fun L_41 => (stI (va_up R_34 z_32 (fun _ => none)) (fun R_41 => (if (a0 < z_41) ∧ ((kd_41 a0).1 = 12) then (stI (u2 R_41 a0 6 (some z_32)) (fun R_43 => (if (a0 < z_41) ∧ ((kd_41 a0).1 = 12) then (stI (w2 I_41 a0 12 (-1)) (fun I_48 => (adk 1 192 (stI (z_41 + 1) (fun z_55 => (stI (va_up kd_41 z_41 (13, 192)) (fun kd_55 => (stI (nw2 I_48 z_41) (fun I_55 => (stI (nw2 L_41 z_41) (fun L_55 => (stI (va_up R_43 z_41 (fun _ => none)) (fun R_55 => (if (a0 < z_55) ∧ ((kd_55 a0).1 = 12) then (stI (u2 R_55 a0 15 (some z_41)) (fun R_57 => (adk 1 400 (stI (z_55 + 1) (fun z_64 => (stI (va_up kd_55 z_55 (13, 400)) (fun kd_64 => (stI (nw2 I_55 z_55) (fun I_64 => (stI (nw2 L_55 z_55) (fun L_64 => (stI (va_up R_57 z_55 (fun _ => none)) (fun R_64 => (if (a0 < z_64) ∧ ((kd_64 a0).1 = 12) then (stI (u2 R_64 a0 17 (some z_55)) (fun R_66 => (adk 1 400 (stI (z_64 + 1) (fun z_73 => (stI (va_up kd_64 z_64 (13, 400)) (fun kd_73 => (stI (nw2 I_64 z_64) (fun I_73 => (stI (nw2 L_64 z_64) (fun L_73 => (stI (va_up R_66 z_64 (fun _ => none)) (fun R_73 => (if (a0 < z_73) ∧ ((kd_73 a0).1 = 12) then (stI (u2 R_73 a0 18 (some z_64)) (fun R_75 => (adk 1 400 (stI (z_73 + 1) (fun z_82 => (stI (va_up kd_73 z_73 (13, 400)) (fun kd_82 => (stI (nw2 I_73 z_73) (fun I_82 => (stI (nw2 L_73 z_73) (fun L_82 => (stI (va_up R_75 z_73 (fun _ => none)) (fun R_82 => (if (a0 < z_82) ∧ ((kd_82 a0).1 = 12) then (stI (u2 R_82 a0 20 (some z_73)) (fun R_84 => (adk 1 400 (stI (z_82 + 1) (fun z_91 => (stI (va_up kd_82 z_82 (13, 400)) (fun kd_91 => (stI (nw2 I_82 z_82) (fun I_91 => (stI (nw2 L_82 z_82) (fun L_91 => (stI (va_up R_84 z_82 (fun _ => none)) (fun R_91 => (if (a0 < z_91) ∧ ((kd_91 a0).1 = 12) then (stI (u2 R_91 a0 21 (some z_82)) (fun R_93 => (adk 1 5 (stI (z_91 + 1) (fun z_98 => (stI (va_up kd_91 z_91 (14, 5)) (fun kd_98 => (stI (nw2 I_91 z_91) (fun I_98 => (stI (nw2 L_91 z_91) (fun L_98 => (stI (va_up R_93 z_91 (fun _ => none)) (fun R_98 => (if ((z_91 < z_98) ∧ (((kd_98 z_91).1 = 14) ∧ ((kd_98 z_91).2 < (2 ^ 31)))) ∧ (((0 : Int) ≤ 0) ∧ (0 < (kd_98 z_91).2)) then (stI (w2 L_98 z_91 0 3540595) (fun L_105 => (if ((z_91 < z_98) ∧ (((kd_98 z_91).1 = 14) ∧ ((kd_98 z_91).2 < (2 ^ 31)))) ∧ (((0 : Int) ≤ 1) ∧ (1 < (kd_98 z_91).2)) then (stI (w2 L_105 z_91 1 525908) (fun L_111 => (if ((z_91 < z_98) ∧ (((kd_98 z_91).1 = 14) ∧ ((kd_98 z_91).2 < (2 ^ 31)))) ∧ (((0 : Int) ≤ 2) ∧ (2 < (kd_98 z_91).2)) then (stI (w2 L_111 z_91 2 23609) (fun L_117 => (if ((z_91 < z_98) ∧ (((kd_98 z_91).1 = 14) ∧ ((kd_98 z_91).2 < (2 ^ 31)))) ∧ (((0 : Int) ≤ 3) ∧ (3 < (kd_98 z_91).2)) then (stI (w2 L_117 z_91 3 4153) (fun L_123 => (if ((z_91 < z_98) ∧ (((kd_98 z_91).1 = 14) ∧ ((kd_98 z_91).2 < (2 ^ 31)))) ∧ (((0 : Int) ≤ 4) ∧ (4 < (kd_98 z_91).2)) then (stI (w2 L_123 z_91 4 777297172) (fun L_129 => (if (a0 < z_98) ∧ ((kd_98 a0).1 = 12) then (stI (u2 R_98 a0 24 (some z_91)) (fun R_130 => (adk 1 176 (stI (z_98 + 1) (fun z_137 => (stI (va_up kd_98 z_98 (13, 176)) (fun kd_137 => (stI (nw2 I_98 z_98) (fun I_137 => (stI (nw2 L_129 z_98) (fun L_137 => (stI (va_up R_130 z_98 (fun _ => none)) (fun R_137 => (if (a0 < z_137) ∧ ((kd_137 a0).1 = 12) then (stI (u2 R_137 a0 25 (some z_98)) (fun R_139 => (adk 1 13 (stI (z_137 + 1) (fun z_145 => (stI (va_up kd_137 z_137 (14, 13)) (fun kd_145 => (stI (nw2 I_137 z_137) (fun I_145 => (stI (nw2 L_137 z_137) (fun L_145 => (stI (va_up R_139 z_137 (fun _ => none)) (fun R_145 => (if (a0 < z_145) ∧ ((kd_145 a0).1 = 12) then (stI (u2 R_145 a0 27 (some z_137)) (fun R_147 => (adk 1 400 (stI (z_145 + 1) (fun z_154 => (stI (va_up kd_145 z_145 (14, 400)) (fun kd_154 => (stI (nw2 I_145 z_145) (fun I_154 => (stI (nw2 L_145 z_145) (fun L_154 => (stI (va_up R_147 z_145 (fun _ => none)) (fun R_154 => (if (a0 < z_154) ∧ ((kd_154 a0).1 = 12) then (stI (u2 R_154 a0 28 (some z_145)) (fun R_156 => (adk 1 3 (stI (z_154 + 1) (fun z_161 => (stI (va_up kd_154 z_154 (13, 3)) (fun kd_161 => (stI (nw2 I_154 z_154) (fun I_161 => (stI (nw2 L_154 z_154) (fun L_161 => (stI (va_up R_156 z_154 (fun _ => none)) (fun R_161 => (if (a0 < z_161) ∧ ((kd_161 a0).1 = 12) then (stI (u2 R_161 a0 33 (some z_154)) (fun R_163 => (adk 1 1920 (stI (z_161 + 1) (fun z_170 => (stI (va_up kd_161 z_161 (13, 1920)) (fun kd_170 => (stI (nw2 I_161 z_161) (fun I_170 => (stI (nw2 L_161 z_161) (fun L_170 => (stI (va_up R_163 z_161 (fun _ => none)) (fun R_170 => (if (a0 < z_170) ∧ ((kd_170 a0).1 = 12) then (stI (u2 R_170 a0 34 (some z_161)) (fun R_172 => (adk 1 1920 (stI (z_170 + 1) (fun z_179 => (stI (va_up kd_170 z_170 (13, 1920)) (fun kd_179 => (stI (nw2 I_170 z_170) (fun I_179 => (stI (nw2 L_170 z_170) (fun L_179 => (stI (va_up R_172 z_170 (fun _ => none)) (fun R_179 => (if (a0 < z_179) ∧ ((kd_179 a0).1 = 12) then (stI (u2 R_179 a0 35 (some z_170)) (fun R_181 => (adk 1 10 (stI (z_179 + 1) (fun z_187 => (stI (va_up kd_179 z_179 (13, 10)) (fun kd_187 => (stI (nw2 I_179 z_179) (fun I_187 => (stI (nw2 L_179 z_179) (fun L_187 => (stI (va_up R_181 z_179 (fun _ => none)) (fun R_187 => (if (a0 < z_187) ∧ ((kd_187 a0).1 = 12) then (stI (u2 R_187 a0 36 (some z_179)) (fun R_189 => (adk 1 110 (stI (z_187 + 1) (fun z_195 => (stI (va_up kd_187 z_187 (13, 110)) (fun kd_195 => (stI (nw2 I_187 z_187) (fun I_195 => (stI (nw2 L_187 z_187) (fun L_195 => (stI (va_up R_189 z_187 (fun _ => none)) (fun R_195 => (if (a0 < z_195) ∧ ((kd_195 a0).1 = 12) then (stI (u2 R_195 a0 37 (some z_187)) (fun R_197 => (adk 1 48 (stI (z_195 + 1) (fun z_203 => (stI (va_up kd_195 z_195 (15, 48)) (fun kd_203 => (stI (nw2 I_195 z_195) (fun I_203 => (stI (nw2 L_195 z_195) (fun L_203 => (stI (va_up R_197 z_195 (fun _ => none)) (fun R_203 => (if (a0 < z_203) ∧ ((kd_203 a0).1 = 12) then (stI (u2 R_203 a0 38 (some z_195)) (fun R_205 => (adk 1 8 (stI (z_203 + 1) (fun z_211 => (stI (va_up kd_203 z_203 (13, 8)) (fun kd_211 => (stI (nw2 I_203 z_203) (fun I_211 => (stI (nw2 L_203 z_203) (fun L_211 => (stI (va_up R_205 z_203 (fun _ => none)) (fun R_211 => (if (a0 < z_211) ∧ ((kd_211 a0).1 = 12) then (stI (u2 R_211 a0 39 (some z_203)) (fun R_213 => (adk 1 10 (stI (z_211 + 1) (fun z_219 => (stI (va_up kd_211 z_211 (13, 10)) (fun kd_219 => (stI (nw2 I_211 z_211) (fun I_219 => (stI (nw2 L_211 z_211) (fun L_219 => (stI (va_up R_213 z_211 (fun _ => none)) (fun R_219 => (if (a0 < z_219) ∧ ((kd_219 a0).1 = 12) then (stI (u2 R_219 a0 41 (some z_211)) (fun R_221 => (adk 1 5 (stI (z_219 + 1) (fun z_226 => (stI (va_up kd_219 z_219 (13, 5)) (fun kd_226 => (stI (nw2 I_219 z_219) (fun I_226 => (stI (nw2 L_219 z_219) (fun L_226 => (stI (va_up R_221 z_219 (fun _ => none)) (fun R_226 => (if (a0 < z_226) ∧ ((kd_226 a0).1 = 12) then (stI (u2 R_226 a0 42 (some z_219)) (fun R_228 => (adk 1 531441 (stI (z_226 + 1) (fun z_234 => (stI (va_up kd_226 z_226 (13, 531441)) (fun kd_234 => (stI (nw2 I_226 z_226) (fun I_234 => (stI (nw2 L_226 z_226) (fun L_234 => (stI (va_up R_228 z_226 (fun _ => none)) (fun R_234 => (if (a0 < z_234) ∧ ((kd_234 a0).1 = 12) then (stI (u2 R_234 a0 45 (some z_226)) (fun R_236 => (adk 1 531441 (stI (z_234 + 1) (fun z_242 => (stI (va_up kd_234 z_234 (13, 531441)) (fun kd_242 => (stI (nw2 I_234 z_234) (fun I_242 => (stI (nw2 L_234 z_234) (fun L_242 => (stI (va_up R_236 z_234 (fun _ => none)) (fun R_242 => (if (a0 < z_242) ∧ ((kd_242 a0).1 = 12) then (stI (u2 R_242 a0 46 (some z_234)) (fun R_244 => (adk 1 531441 (stI (z_242 + 1) (fun z_250 => (stI (va_up kd_242 z_242 (15, 531441)) (fun kd_250 => (stI (nw2 I_242 z_242) (fun I_250 => (stI (nw2 L_242 z_242) (fun L_250 => (stI (va_up R_244 z_242 (fun _ => none)) (fun R_250 => (if (a0 < z_250) ∧ ((kd_250 a0).1 = 12) then (stI (u2 R_250 a0 47 (some z_242)) (fun R_252 => (adk 1 8 (stI (z_250 + 1) (fun z_258 => (stI (va_up kd_250 z_250 (13, 8)) (fun kd_258 => (stI (nw2 I_250 z_250) (fun I_258 => (stI (nw2 L_250 z_250) (fun L_258 => (stI (va_up R_252 z_250 (fun _ => none)) (fun R_258 => (if (a0 < z_258) ∧ ((kd_258 a0).1 = 12) then (stI (u2 R_258 a0 49 (some z_250)) (fun R_260 => (adk 1 5 (stI (z_258 + 1) (fun z_265 => (stI (va_up kd_258 z_258 (13, 5)) (fun kd_265 => (stI (nw2 I_258 z_258) (fun I_265 => (stI (nw2 L_258 z_258) (fun L_265 => (stI (va_up R_260 z_258 (fun _ => none)) (fun R_265 => (if (a0 < z_265) ∧ ((kd_265 a0).1 = 12) then (stI (u2 R_265 a0 50 (some z_258)) (fun R_267 => (adk 1 8 (stI (z_265 + 1) (fun z_273 => (stI (va_up kd_265 z_265 (13, 8)) (fun kd_273 => (stI (nw2 I_265 z_265) (fun I_273 => (stI (nw2 L_265 z_265) (fun L_273 => (stI (va_up R_267 z_265 (fun _ => none)) (fun R_273 => (if (a0 < z_273) ∧ ((kd_273 a0).1 = 12) then (stI (u2 R_273 a0 55 (some z_265)) (fun R_275 => (adk 1 10 (stI (z_273 + 1) (fun z_281 => (stI (va_up kd_273 z_273 (13, 10)) (fun kd_281 => (stI (nw2 I_273 z_273) (fun I_281 => (stI (nw2 L_273 z_273) (fun L_281 => (stI (va_up R_275 z_273 (fun _ => none)) (fun R_281 => (if (a0 < z_281) ∧ ((kd_281 a0).1 = 12) then (stI (u2 R_281 a0 56 (some z_273)) (fun R_283 => (adk 1 16 (stI (z_281 + 1) (fun z_289 => (stI (va_up kd_281 z_281 (13, 16)) (fun kd_289 => (stI (nw2 I_281 z_281) (fun I_289 => (stI (nw2 L_281 z_281) (fun L_289 => (stI (va_up R_283 z_281 (fun _ => none)) (fun R_289 => (if (a0 < z_289) ∧ ((kd_289 a0).1 = 12) then (stI (u2 R_289 a0 57 (some z_281)) (fun R_291 => (adk 1 16 (stI (z_289 + 1) (fun z_297 => (stI (va_up kd_289 z_289 (13, 16)) (fun kd_297 => (stI (nw2 I_289 z_289) (fun I_297 => (stI (nw2 L_289 z_289) (fun L_297 => (stI (va_up R_291 z_289 (fun _ => none)) (fun R_297 => (if (a0 < z_297) ∧ ((kd_297 a0).1 = 12) then (stI (u2 R_297 a0 58 (some z_289)) (fun R_299 => (adk 1 16 (stI (z_297 + 1) (fun z_305 => (stI (va_up kd_297 z_297 (15, 16)) (fun kd_305 => (stI (nw2 I_297 z_297) (fun I_305 => (stI (nw2 L_297 z_297) (fun L_305 => (stI (va_up R_299 z_297 (fun _ => none)) (fun R_305 => (if (a0 < z_305) ∧ ((kd_305 a0).1 = 12) then (stI (u2 R_305 a0 59 (some z_297)) (fun R_307 => (adk 1 4 (stI (z_305 + 1) (fun z_312 => (stI (va_up kd_305 z_305 (13, 4)) (fun kd_312 => (stI (nw2 I_305 z_305) (fun I_312 => (stI (nw2 L_305 z_305) (fun L_312 => (stI (va_up R_307 z_305 (fun _ => none)) (fun R_312 => (if (a0 < z_312) ∧ ((kd_312 a0).1 = 12) then (stI (u2 R_312 a0 61 (some z_305)) (fun R_314 => (adk 1 16 (stI (z_312 + 1) (fun z_320 => (stI (va_up kd_312 z_312 (13, 16)) (fun kd_320 => (stI (nw2 I_312 z_312) (fun I_320 => (stI (nw2 L_312 z_312) (fun L_320 => (stI (va_up R_314 z_312 (fun _ => none)) (fun R_320 => (if (a0 < z_320) ∧ ((kd_320 a0).1 = 12) then (stI (u2 R_320 a0 62 (some z_312)) (fun R_322 => (adk 1 16 (stI (z_320 + 1) (fun z_328 => (stI (va_up kd_320 z_320 (13, 16)) (fun kd_328 => (stI (nw2 I_320 z_320) (fun I_328 => (stI (nw2 L_320 z_320) (fun L_328 => (stI (va_up R_322 z_320 (fun _ => none)) (fun R_328 => (if (a0 < z_328) ∧ ((kd_328 a0).1 = 12) then (stI (u2 R_328 a0 64 (some z_320)) (fun R_330 => (adk 1 15 (stI (z_328 + 1) (fun z_336 => (stI (va_up kd_328 z_328 (13, 15)) (fun kd_336 => (stI (nw2 I_328 z_328) (fun I_336 => (stI (nw2 L_328 z_328) (fun L_336 => (stI (va_up R_330 z_328 (fun _ => none)) (fun R_336 => (if (a0 < z_336) ∧ ((kd_336 a0).1 = 12) then (stI (u2 R_336 a0 65 (some z_328)) (fun R_338 => (adk 1 15 (stI (z_336 + 1) (fun z_344 => (stI (va_up kd_336 z_336 (13, 15)) (fun kd_344 => (stI (nw2 I_336 z_336) (fun I_344 => (stI (nw2 L_336 z_336) (fun L_344 => (stI (va_up R_338 z_336 (fun _ => none)) (fun R_344 => (if (a0 < z_344) ∧ ((kd_344 a0).1 = 12) then (stI (u2 R_344 a0 66 (some z_336)) (fun R_346 => (if (a0 < z_344) ∧ ((kd_344 a0).1 = 12) then ((R_346 a0 3).bind (fun b_350 => (if ((b_350 < z_344) ∧ (((kd_344 b_350).1 = 13) ∧ ((kd_344 b_350).2 < (2 ^ 31)))) ∧ (((0 : Int) ≤ 5) ∧ (5 < (kd_344 b_350).2)) then (stI (w2 I_344 b_350 5 5) (fun I_355 => (some ((z_344, kd_344, I_355, L_344, R_346), 0, 0)))) else none))) else none))) else none)))))))))))))) else none)))))))))))))) else none)))))))))))))) else none)))))))))))))) else none)))))))))))))) else none)))))))))))))) else none)))))))))))))) else none)))))))))))))) else none)))))))))))))) else none)))))))))))))) else none)))))))))))))) else none)))))))))))))) else none)))))))))))))) else none)))))))))))))) else none)))))))))))))) else none)))))))))))))) else none)))))))))))))) else none)))))))))))))) else none)))))))))))))) else none)))))))))))))) else none)))))))))))))) else none)))))))))))))) else none)))))))))))))) else none)))))))))))))) else none)))))))))))))) else none)))))))))))))) else none)))))))))))))) else none))) else none))) else none))) else none))) else none))) else none)))))))))))))) else none)))))))))))))) else none)))))))))))))) else none)))))))))))))) else none)))))))))))))) else none)))))))))))))) else none))) else none)))))))))))))) else none)))))))))))))) else none)))))))))))))) else none)))))))))))))) else none)))))))))))) else none) := by rw [kf_191.eq_2, if_pos (show (0 : Nat) = 0 from rfl)]
set_option maxHeartbeats 8000000 in
set_option maxRecDepth 100000 in
theorem ks_191 : ∀ (n : Nat) (dp : Nat) (lab : Nat) (z : Nat) (kd : (Nat → Nat × Nat)) (I : Nat → Nat → Int32) (I' : JI) (L : Nat → Nat → Int64) (L' : JI) (R : (Nat → Nat → Option Nat)) (a0 : Nat), Rli I I' → Rll L L' → Sim RPv (g_191 n dp lab z kd I L R a0) (kf_191 n dp lab z kd I' L' R a0) := by
  intro n
  induction n with
  | zero => intros; rw [kf_191.eq_1]; exact Sn
  | succ n ih =>
    intro dp lab z kd I I' L L' R a0 u_I u_L
    rw [g_191.eq_2, kf_191.eq_2]
    refine Sc Iff.rfl (fun _ => ?_) (fun _ => ?_)
    · refine Sc Iff.rfl (fun c1 => ?_) (fun _ => Sn)
      refine Sa_v rfl ?_
      refine SsE rfl (fun z_7 => ?_)
      refine SsE rfl (fun kd_7 => ?_)
      refine SsJ (ri_nw u_I) (fun I_7 I_7' u_I_7 => ?_)
      refine SsM (rl_nw u_L) (fun L_7 L_7' u_L_7 => ?_)
      refine SsE rfl (fun R_7 => ?_)
      refine Sc Iff.rfl (fun c2 => ?_) (fun _ => Sn)
      refine SsE rfl (fun R_9 => ?_)
      refine Sa_v rfl ?_
      refine SsE rfl (fun z_16 => ?_)
      refine SsE rfl (fun kd_16 => ?_)
      refine SsJ (ri_nw u_I_7) (fun I_16 I_16' u_I_16 => ?_)
      refine SsM (rl_nw u_L_7) (fun L_16 L_16' u_L_16 => ?_)
      refine SsE rfl (fun R_16 => ?_)
      refine Sc Iff.rfl (fun c3 => ?_) (fun _ => Sn)
      refine SsE rfl (fun R_18 => ?_)
      refine Sa_v rfl ?_
      refine SsE rfl (fun z_25 => ?_)
      refine SsE rfl (fun kd_25 => ?_)
      refine SsJ (ri_nw u_I_16) (fun I_25 I_25' u_I_25 => ?_)
      refine SsM (rl_nw u_L_16) (fun L_25 L_25' u_L_25 => ?_)
      refine SsE rfl (fun R_25 => ?_)
      refine Sc Iff.rfl (fun c4 => ?_) (fun _ => Sn)
      refine SsE rfl (fun R_27 => ?_)
      refine Sa_v rfl ?_
      refine SsE rfl (fun z_32 => ?_)
      refine SsE rfl (fun kd_32 => ?_)
      refine SsJ (ri_nw u_I_25) (fun I_32 I_32' u_I_32 => ?_)
      refine SsM (rl_nw u_L_25) (fun L_32 L_32' u_L_32 => ?_)
      refine SsE rfl (fun R_32 => ?_)
      refine Sc Iff.rfl (fun c5 => ?_) (fun _ => Sn)
      refine SsE rfl (fun R_34 => ?_)
      refine Sa_v rfl ?_
      refine SsE rfl (fun z_41 => ?_)
      refine SsE rfl (fun kd_41 => ?_)
      refine SsJ (ri_nw u_I_32) (fun I_41 I_41' u_I_41 => ?_)
      refine SsM (rl_nw u_L_32) (fun L_41 L_41' u_L_41 => ?_)
      refine SsE rfl (fun R_41 => ?_)
      refine Sc Iff.rfl (fun c6 => ?_) (fun _ => Sn)
      refine SsE rfl (fun R_43 => ?_)
      refine Sc Iff.rfl (fun c7 => ?_) (fun _ => Sn)
      refine SsJ (ri_up u_I_41 (rfl : ((12 : Nat) : Int) = 12) (rfl : Ui (-1) (-1))) (fun I_48 I_48' u_I_48 => ?_)
      refine Sa_v rfl ?_
      refine SsE rfl (fun z_55 => ?_)
      refine SsE rfl (fun kd_55 => ?_)
      refine SsJ (ri_nw u_I_48) (fun I_55 I_55' u_I_55 => ?_)
      refine SsM (rl_nw u_L_41) (fun L_55 L_55' u_L_55 => ?_)
      refine SsE rfl (fun R_55 => ?_)
      refine Sc Iff.rfl (fun c8 => ?_) (fun _ => Sn)
      refine SsE rfl (fun R_57 => ?_)
      refine Sa_v rfl ?_
      refine SsE rfl (fun z_64 => ?_)
      refine SsE rfl (fun kd_64 => ?_)
      refine SsJ (ri_nw u_I_55) (fun I_64 I_64' u_I_64 => ?_)
      refine SsM (rl_nw u_L_55) (fun L_64 L_64' u_L_64 => ?_)
      refine SsE rfl (fun R_64 => ?_)
      refine Sc Iff.rfl (fun c9 => ?_) (fun _ => Sn)
      refine SsE rfl (fun R_66 => ?_)
      refine Sa_v rfl ?_
      refine SsE rfl (fun z_73 => ?_)
      refine SsE rfl (fun kd_73 => ?_)
      refine SsJ (ri_nw u_I_64) (fun I_73 I_73' u_I_73 => ?_)
      refine SsM (rl_nw u_L_64) (fun L_73 L_73' u_L_73 => ?_)
      refine SsE rfl (fun R_73 => ?_)
      refine Sc Iff.rfl (fun c10 => ?_) (fun _ => Sn)
      refine SsE rfl (fun R_75 => ?_)
      refine Sa_v rfl ?_
      refine SsE rfl (fun z_82 => ?_)
      refine SsE rfl (fun kd_82 => ?_)
      refine SsJ (ri_nw u_I_73) (fun I_82 I_82' u_I_82 => ?_)
      refine SsM (rl_nw u_L_73) (fun L_82 L_82' u_L_82 => ?_)
      refine SsE rfl (fun R_82 => ?_)
      refine Sc Iff.rfl (fun c11 => ?_) (fun _ => Sn)
      refine SsE rfl (fun R_84 => ?_)
      refine Sa_v rfl ?_
      refine SsE rfl (fun z_91 => ?_)
      refine SsE rfl (fun kd_91 => ?_)
      refine SsJ (ri_nw u_I_82) (fun I_91 I_91' u_I_91 => ?_)
      refine SsM (rl_nw u_L_82) (fun L_91 L_91' u_L_91 => ?_)
      refine SsE rfl (fun R_91 => ?_)
      refine Sc Iff.rfl (fun c12 => ?_) (fun _ => Sn)
      refine SsE rfl (fun R_93 => ?_)
      refine Sa_v rfl ?_
      refine SsE rfl (fun z_98 => ?_)
      refine SsE rfl (fun kd_98 => ?_)
      refine SsJ (ri_nw u_I_91) (fun I_98 I_98' u_I_98 => ?_)
      refine SsM (rl_nw u_L_91) (fun L_98 L_98' u_L_98 => ?_)
      refine SsE rfl (fun R_98 => ?_)
      refine Sc (and_congr Iff.rfl (and_congr (le_up (rfl : Ui 0 0) (rfl : Ui (0) (0))) Iff.rfl)) (fun c13 => ?_) (fun _ => Sn)
      refine SsM (rl_up u_L_98 (rfl : ((0 : Nat) : Int) = 0) (rfl : Ul (3540595) (3540595))) (fun L_105 L_105' u_L_105 => ?_)
      refine Sc (and_congr Iff.rfl (and_congr (le_up (rfl : Ui 0 0) (rfl : Ui (1) (1))) Iff.rfl)) (fun c14 => ?_) (fun _ => Sn)
      refine SsM (rl_up u_L_105 (rfl : ((1 : Nat) : Int) = 1) (rfl : Ul (525908) (525908))) (fun L_111 L_111' u_L_111 => ?_)
      refine Sc (and_congr Iff.rfl (and_congr (le_up (rfl : Ui 0 0) (rfl : Ui (2) (2))) Iff.rfl)) (fun c15 => ?_) (fun _ => Sn)
      refine SsM (rl_up u_L_111 (rfl : ((2 : Nat) : Int) = 2) (rfl : Ul (23609) (23609))) (fun L_117 L_117' u_L_117 => ?_)
      refine Sc (and_congr Iff.rfl (and_congr (le_up (rfl : Ui 0 0) (rfl : Ui (3) (3))) Iff.rfl)) (fun c16 => ?_) (fun _ => Sn)
      refine SsM (rl_up u_L_117 (rfl : ((3 : Nat) : Int) = 3) (rfl : Ul (4153) (4153))) (fun L_123 L_123' u_L_123 => ?_)
      refine Sc (and_congr Iff.rfl (and_congr (le_up (rfl : Ui 0 0) (rfl : Ui (4) (4))) Iff.rfl)) (fun c17 => ?_) (fun _ => Sn)
      refine SsM (rl_up u_L_123 (rfl : ((4 : Nat) : Int) = 4) (rfl : Ul (777297172) (777297172))) (fun L_129 L_129' u_L_129 => ?_)
      refine Sc Iff.rfl (fun c18 => ?_) (fun _ => Sn)
      refine SsE rfl (fun R_130 => ?_)
      refine Sa_v rfl ?_
      refine SsE rfl (fun z_137 => ?_)
      refine SsE rfl (fun kd_137 => ?_)
      refine SsJ (ri_nw u_I_98) (fun I_137 I_137' u_I_137 => ?_)
      refine SsM (rl_nw u_L_129) (fun L_137 L_137' u_L_137 => ?_)
      refine SsE rfl (fun R_137 => ?_)
      refine Sc Iff.rfl (fun c19 => ?_) (fun _ => Sn)
      refine SsE rfl (fun R_139 => ?_)
      refine Sa_v rfl ?_
      refine SsE rfl (fun z_145 => ?_)
      refine SsE rfl (fun kd_145 => ?_)
      refine SsJ (ri_nw u_I_137) (fun I_145 I_145' u_I_145 => ?_)
      refine SsM (rl_nw u_L_137) (fun L_145 L_145' u_L_145 => ?_)
      refine SsE rfl (fun R_145 => ?_)
      refine Sc Iff.rfl (fun c20 => ?_) (fun _ => Sn)
      refine SsE rfl (fun R_147 => ?_)
      refine Sa_v rfl ?_
      refine SsE rfl (fun z_154 => ?_)
      refine SsE rfl (fun kd_154 => ?_)
      refine SsJ (ri_nw u_I_145) (fun I_154 I_154' u_I_154 => ?_)
      refine SsM (rl_nw u_L_145) (fun L_154 L_154' u_L_154 => ?_)
      refine SsE rfl (fun R_154 => ?_)
      refine Sc Iff.rfl (fun c21 => ?_) (fun _ => Sn)
      refine SsE rfl (fun R_156 => ?_)
      refine Sa_v rfl ?_
      refine SsE rfl (fun z_161 => ?_)
      refine SsE rfl (fun kd_161 => ?_)
      refine SsJ (ri_nw u_I_154) (fun I_161 I_161' u_I_161 => ?_)
      refine SsM (rl_nw u_L_154) (fun L_161 L_161' u_L_161 => ?_)
      refine SsE rfl (fun R_161 => ?_)
      refine Sc Iff.rfl (fun c22 => ?_) (fun _ => Sn)
      refine SsE rfl (fun R_163 => ?_)
      refine Sa_v rfl ?_
      refine SsE rfl (fun z_170 => ?_)
      refine SsE rfl (fun kd_170 => ?_)
      refine SsJ (ri_nw u_I_161) (fun I_170 I_170' u_I_170 => ?_)
      refine SsM (rl_nw u_L_161) (fun L_170 L_170' u_L_170 => ?_)
      refine SsE rfl (fun R_170 => ?_)
      refine Sc Iff.rfl (fun c23 => ?_) (fun _ => Sn)
      refine SsE rfl (fun R_172 => ?_)
      refine Sa_v rfl ?_
      refine SsE rfl (fun z_179 => ?_)
      refine SsE rfl (fun kd_179 => ?_)
      refine SsJ (ri_nw u_I_170) (fun I_179 I_179' u_I_179 => ?_)
      refine SsM (rl_nw u_L_170) (fun L_179 L_179' u_L_179 => ?_)
      refine SsE rfl (fun R_179 => ?_)
      refine Sc Iff.rfl (fun c24 => ?_) (fun _ => Sn)
      refine SsE rfl (fun R_181 => ?_)
      refine Sa_v rfl ?_
      refine SsE rfl (fun z_187 => ?_)
      refine SsE rfl (fun kd_187 => ?_)
      refine SsJ (ri_nw u_I_179) (fun I_187 I_187' u_I_187 => ?_)
      refine SsM (rl_nw u_L_179) (fun L_187 L_187' u_L_187 => ?_)
      refine SsE rfl (fun R_187 => ?_)
      refine Sc Iff.rfl (fun c25 => ?_) (fun _ => Sn)
      refine SsE rfl (fun R_189 => ?_)
      refine Sa_v rfl ?_
      refine SsE rfl (fun z_195 => ?_)
      refine SsE rfl (fun kd_195 => ?_)
      refine SsJ (ri_nw u_I_187) (fun I_195 I_195' u_I_195 => ?_)
      refine SsM (rl_nw u_L_187) (fun L_195 L_195' u_L_195 => ?_)
      refine SsE rfl (fun R_195 => ?_)
      refine Sc Iff.rfl (fun c26 => ?_) (fun _ => Sn)
      refine SsE rfl (fun R_197 => ?_)
      refine Sa_v rfl ?_
      refine SsE rfl (fun z_203 => ?_)
      refine SsE rfl (fun kd_203 => ?_)
      refine SsJ (ri_nw u_I_195) (fun I_203 I_203' u_I_203 => ?_)
      refine SsM (rl_nw u_L_195) (fun L_203 L_203' u_L_203 => ?_)
      refine SsE rfl (fun R_203 => ?_)
      refine Sc Iff.rfl (fun c27 => ?_) (fun _ => Sn)
      refine SsE rfl (fun R_205 => ?_)
      refine Sa_v rfl ?_
      refine SsE rfl (fun z_211 => ?_)
      refine SsE rfl (fun kd_211 => ?_)
      refine SsJ (ri_nw u_I_203) (fun I_211 I_211' u_I_211 => ?_)
      refine SsM (rl_nw u_L_203) (fun L_211 L_211' u_L_211 => ?_)
      refine SsE rfl (fun R_211 => ?_)
      refine Sc Iff.rfl (fun c28 => ?_) (fun _ => Sn)
      refine SsE rfl (fun R_213 => ?_)
      refine Sa_v rfl ?_
      refine SsE rfl (fun z_219 => ?_)
      refine SsE rfl (fun kd_219 => ?_)
      refine SsJ (ri_nw u_I_211) (fun I_219 I_219' u_I_219 => ?_)
      refine SsM (rl_nw u_L_211) (fun L_219 L_219' u_L_219 => ?_)
      refine SsE rfl (fun R_219 => ?_)
      refine Sc Iff.rfl (fun c29 => ?_) (fun _ => Sn)
      refine SsE rfl (fun R_221 => ?_)
      refine Sa_v rfl ?_
      refine SsE rfl (fun z_226 => ?_)
      refine SsE rfl (fun kd_226 => ?_)
      refine SsJ (ri_nw u_I_219) (fun I_226 I_226' u_I_226 => ?_)
      refine SsM (rl_nw u_L_219) (fun L_226 L_226' u_L_226 => ?_)
      refine SsE rfl (fun R_226 => ?_)
      refine Sc Iff.rfl (fun c30 => ?_) (fun _ => Sn)
      refine SsE rfl (fun R_228 => ?_)
      refine Sa_v rfl ?_
      refine SsE rfl (fun z_234 => ?_)
      refine SsE rfl (fun kd_234 => ?_)
      refine SsJ (ri_nw u_I_226) (fun I_234 I_234' u_I_234 => ?_)
      refine SsM (rl_nw u_L_226) (fun L_234 L_234' u_L_234 => ?_)
      refine SsE rfl (fun R_234 => ?_)
      refine Sc Iff.rfl (fun c31 => ?_) (fun _ => Sn)
      refine SsE rfl (fun R_236 => ?_)
      refine Sa_v rfl ?_
      refine SsE rfl (fun z_242 => ?_)
      refine SsE rfl (fun kd_242 => ?_)
      refine SsJ (ri_nw u_I_234) (fun I_242 I_242' u_I_242 => ?_)
      refine SsM (rl_nw u_L_234) (fun L_242 L_242' u_L_242 => ?_)
      refine SsE rfl (fun R_242 => ?_)
      refine Sc Iff.rfl (fun c32 => ?_) (fun _ => Sn)
      refine SsE rfl (fun R_244 => ?_)
      refine Sa_v rfl ?_
      refine SsE rfl (fun z_250 => ?_)
      refine SsE rfl (fun kd_250 => ?_)
      refine SsJ (ri_nw u_I_242) (fun I_250 I_250' u_I_250 => ?_)
      refine SsM (rl_nw u_L_242) (fun L_250 L_250' u_L_250 => ?_)
      refine SsE rfl (fun R_250 => ?_)
      refine Sc Iff.rfl (fun c33 => ?_) (fun _ => Sn)
      refine SsE rfl (fun R_252 => ?_)
      refine Sa_v rfl ?_
      refine SsE rfl (fun z_258 => ?_)
      refine SsE rfl (fun kd_258 => ?_)
      refine SsJ (ri_nw u_I_250) (fun I_258 I_258' u_I_258 => ?_)
      refine SsM (rl_nw u_L_250) (fun L_258 L_258' u_L_258 => ?_)
      refine SsE rfl (fun R_258 => ?_)
      refine Sc Iff.rfl (fun c34 => ?_) (fun _ => Sn)
      refine SsE rfl (fun R_260 => ?_)
      refine Sa_v rfl ?_
      refine SsE rfl (fun z_265 => ?_)
      refine SsE rfl (fun kd_265 => ?_)
      refine SsJ (ri_nw u_I_258) (fun I_265 I_265' u_I_265 => ?_)
      refine SsM (rl_nw u_L_258) (fun L_265 L_265' u_L_265 => ?_)
      refine SsE rfl (fun R_265 => ?_)
      refine Sc Iff.rfl (fun c35 => ?_) (fun _ => Sn)
      refine SsE rfl (fun R_267 => ?_)
      refine Sa_v rfl ?_
      refine SsE rfl (fun z_273 => ?_)
      refine SsE rfl (fun kd_273 => ?_)
      refine SsJ (ri_nw u_I_265) (fun I_273 I_273' u_I_273 => ?_)
      refine SsM (rl_nw u_L_265) (fun L_273 L_273' u_L_273 => ?_)
      refine SsE rfl (fun R_273 => ?_)
      refine Sc Iff.rfl (fun c36 => ?_) (fun _ => Sn)
      refine SsE rfl (fun R_275 => ?_)
      refine Sa_v rfl ?_
      refine SsE rfl (fun z_281 => ?_)
      refine SsE rfl (fun kd_281 => ?_)
      refine SsJ (ri_nw u_I_273) (fun I_281 I_281' u_I_281 => ?_)
      refine SsM (rl_nw u_L_273) (fun L_281 L_281' u_L_281 => ?_)
      refine SsE rfl (fun R_281 => ?_)
      refine Sc Iff.rfl (fun c37 => ?_) (fun _ => Sn)
      refine SsE rfl (fun R_283 => ?_)
      refine Sa_v rfl ?_
      refine SsE rfl (fun z_289 => ?_)
      refine SsE rfl (fun kd_289 => ?_)
      refine SsJ (ri_nw u_I_281) (fun I_289 I_289' u_I_289 => ?_)
      refine SsM (rl_nw u_L_281) (fun L_289 L_289' u_L_289 => ?_)
      refine SsE rfl (fun R_289 => ?_)
      refine Sc Iff.rfl (fun c38 => ?_) (fun _ => Sn)
      refine SsE rfl (fun R_291 => ?_)
      refine Sa_v rfl ?_
      refine SsE rfl (fun z_297 => ?_)
      refine SsE rfl (fun kd_297 => ?_)
      refine SsJ (ri_nw u_I_289) (fun I_297 I_297' u_I_297 => ?_)
      refine SsM (rl_nw u_L_289) (fun L_297 L_297' u_L_297 => ?_)
      refine SsE rfl (fun R_297 => ?_)
      refine Sc Iff.rfl (fun c39 => ?_) (fun _ => Sn)
      refine SsE rfl (fun R_299 => ?_)
      refine Sa_v rfl ?_
      refine SsE rfl (fun z_305 => ?_)
      refine SsE rfl (fun kd_305 => ?_)
      refine SsJ (ri_nw u_I_297) (fun I_305 I_305' u_I_305 => ?_)
      refine SsM (rl_nw u_L_297) (fun L_305 L_305' u_L_305 => ?_)
      refine SsE rfl (fun R_305 => ?_)
      refine Sc Iff.rfl (fun c40 => ?_) (fun _ => Sn)
      refine SsE rfl (fun R_307 => ?_)
      refine Sa_v rfl ?_
      refine SsE rfl (fun z_312 => ?_)
      refine SsE rfl (fun kd_312 => ?_)
      refine SsJ (ri_nw u_I_305) (fun I_312 I_312' u_I_312 => ?_)
      refine SsM (rl_nw u_L_305) (fun L_312 L_312' u_L_312 => ?_)
      refine SsE rfl (fun R_312 => ?_)
      refine Sc Iff.rfl (fun c41 => ?_) (fun _ => Sn)
      refine SsE rfl (fun R_314 => ?_)
      refine Sa_v rfl ?_
      refine SsE rfl (fun z_320 => ?_)
      refine SsE rfl (fun kd_320 => ?_)
      refine SsJ (ri_nw u_I_312) (fun I_320 I_320' u_I_320 => ?_)
      refine SsM (rl_nw u_L_312) (fun L_320 L_320' u_L_320 => ?_)
      refine SsE rfl (fun R_320 => ?_)
      refine Sc Iff.rfl (fun c42 => ?_) (fun _ => Sn)
      refine SsE rfl (fun R_322 => ?_)
      refine Sa_v rfl ?_
      refine SsE rfl (fun z_328 => ?_)
      refine SsE rfl (fun kd_328 => ?_)
      refine SsJ (ri_nw u_I_320) (fun I_328 I_328' u_I_328 => ?_)
      refine SsM (rl_nw u_L_320) (fun L_328 L_328' u_L_328 => ?_)
      refine SsE rfl (fun R_328 => ?_)
      refine Sc Iff.rfl (fun c43 => ?_) (fun _ => Sn)
      refine SsE rfl (fun R_330 => ?_)
      refine Sa_v rfl ?_
      refine SsE rfl (fun z_336 => ?_)
      refine SsE rfl (fun kd_336 => ?_)
      refine SsJ (ri_nw u_I_328) (fun I_336 I_336' u_I_336 => ?_)
      refine SsM (rl_nw u_L_328) (fun L_336 L_336' u_L_336 => ?_)
      refine SsE rfl (fun R_336 => ?_)
      refine Sc Iff.rfl (fun c44 => ?_) (fun _ => Sn)
      refine SsE rfl (fun R_338 => ?_)
      refine Sa_v rfl ?_
      refine SsE rfl (fun z_344 => ?_)
      refine SsE rfl (fun kd_344 => ?_)
      refine SsJ (ri_nw u_I_336) (fun I_344 I_344' u_I_344 => ?_)
      refine SsM (rl_nw u_L_336) (fun L_344 L_344' u_L_344 => ?_)
      refine SsE rfl (fun R_344 => ?_)
      refine Sc Iff.rfl (fun c45 => ?_) (fun _ => Sn)
      refine SsE rfl (fun R_346 => ?_)
      refine Sc Iff.rfl (fun c46 => ?_) (fun _ => Sn)
      refine SbE rfl (fun b_350 => ?_)
      refine Sc (and_congr Iff.rfl (and_congr (le_up (rfl : Ui 0 0) (rfl : Ui (5) (5))) Iff.rfl)) (fun c47 => ?_) (fun _ => Sn)
      refine SsJ (ri_up u_I_344 (rfl : ((5 : Nat) : Int) = 5) (rfl : Ui (5) (5))) (fun I_355 I_355' u_I_355 => ?_)
      exact Sr ⟨⟨rfl, rfl, u_I_355, u_L_344, rfl⟩, rfl⟩
    exact Sn
set_option maxHeartbeats 4000000 in
set_option maxRecDepth 100000 in
def kf_184 : Nat → Nat → Nat → Nat → (Nat → Nat × Nat) → JI → JI → (Nat → Nat → Option Nat) → Int → Nat → Option ((Int × PSi) × Nat × Nat)
  | 0, _, _, _, _, _, _, _, _, _ => none
  | n + 1, dp, lab, z, kd, I, L, R, i1, a2 =>
    if lab = 0 then (if 1 ≤ dp then ((kf_14 n (dp - 1) (z, kd, R) 0 I L i1 0 1).bind (fun ⟨x_3, I_3, L_3⟩ => (if x_3 = 0 then (if 1 ≤ dp then ((kf_15 n (dp - 1) (z, kd, R) 0 I_3 L_3 (-1)).bind (fun ⟨x_11, I_11, L_11⟩ => (some (((x_11 : Int), z, kd, I_11, L_11, R), 0, 0)))) else none) else (if 0 ≤ i1 ∧ i1 < 2 then (stI (R 20 (Int.toNat i1)) (fun o_20 => (match o_20 with | none => (adk 1 (clN 3).2.2 (stI (z + 1) (fun z_26 => (stI (va_up kd z (3, 0)) (fun kd_26 => (stI (nw2 I_3 z) (fun I_26 => (stI (nw2 L_3 z) (fun L_26 => (stI (va_up R z (fun _ => none)) (fun R_26 => (if 1 ≤ dp then (if (z < z_26) ∧ ((kd_26 z).1 = 3) then ((kf_2 n (dp - 1) 0 z_26 kd_26 I_26 L_26 R_26 z).bind (fun ⟨⟨z_30, kd_30, I_30, L_30, R_30⟩, ck_30, cm_30⟩ => (adk ck_30 cm_30 (if ((z < z_30) ∧ ((kd_30 z).1 = 3)) ∧ (0 ≤ i1 ∧ i1 < 2) then (stI (u2 R_30 20 (Int.toNat i1) (some z)) (fun R_40 => (kf_184 n dp 1 z_30 kd_30 I_30 L_30 R_40 i1 z))) else none)))) else none) else none)))))))))))) | some bb_23 => (kf_184 n dp 1 z kd I_3 L_3 R i1 bb_23)))) else none)))) else none)
    else if lab = 1 then (if 1 ≤ dp then (if (a2 < z) ∧ ((kd a2).1 = 3) then ((kf_185 n (dp - 1) (z, kd, R) 0 I L a2 1).bind (fun ⟨I_46, L_46⟩ => (if 1 ≤ dp then ((kf_19 n (dp - 1) (z, kd, R) 0 I_46 L_46 0).bind (fun ⟨x_51, I_51, L_51⟩ => (some (((x_51 : Int), z, kd, I_51, L_51, R), 0, 0)))) else none))) else none) else none)
    else none
set_option maxRecDepth 100000 in
theorem ke_184_0 (n : Nat) (dp : Nat) (z : Nat) (kd : (Nat → Nat × Nat)) (I : JI) (L : JI) (R : (Nat → Nat → Option Nat)) (i1 : Int) (a2 : Nat) : kf_184 (n + 1) dp 0 z kd I L R i1 a2 = (if 1 ≤ dp then ((kf_14 n (dp - 1) (z, kd, R) 0 I L i1 0 1).bind (fun ⟨x_3, I_3, L_3⟩ => (if x_3 = 0 then (if 1 ≤ dp then ((kf_15 n (dp - 1) (z, kd, R) 0 I_3 L_3 (-1)).bind (fun ⟨x_11, I_11, L_11⟩ => (some (((x_11 : Int), z, kd, I_11, L_11, R), 0, 0)))) else none) else (if 0 ≤ i1 ∧ i1 < 2 then (stI (R 20 (Int.toNat i1)) (fun o_20 => (match o_20 with | none => (adk 1 (clN 3).2.2 (stI (z + 1) (fun z_26 => (stI (va_up kd z (3, 0)) (fun kd_26 => (stI (nw2 I_3 z) (fun I_26 => (stI (nw2 L_3 z) (fun L_26 => (stI (va_up R z (fun _ => none)) (fun R_26 => (if 1 ≤ dp then (if (z < z_26) ∧ ((kd_26 z).1 = 3) then ((kf_2 n (dp - 1) 0 z_26 kd_26 I_26 L_26 R_26 z).bind (fun ⟨⟨z_30, kd_30, I_30, L_30, R_30⟩, ck_30, cm_30⟩ => (adk ck_30 cm_30 (if ((z < z_30) ∧ ((kd_30 z).1 = 3)) ∧ (0 ≤ i1 ∧ i1 < 2) then (stI (u2 R_30 20 (Int.toNat i1) (some z)) (fun R_40 => (kf_184 n dp 1 z_30 kd_30 I_30 L_30 R_40 i1 z))) else none)))) else none) else none)))))))))))) | some bb_23 => (kf_184 n dp 1 z kd I_3 L_3 R i1 bb_23)))) else none)))) else none) := by rw [kf_184.eq_2, if_pos (show (0 : Nat) = 0 from rfl)]
set_option maxRecDepth 100000 in
theorem ke_184_1 (n : Nat) (dp : Nat) (z : Nat) (kd : (Nat → Nat × Nat)) (I : JI) (L : JI) (R : (Nat → Nat → Option Nat)) (i1 : Int) (a2 : Nat) : kf_184 (n + 1) dp 1 z kd I L R i1 a2 = (if 1 ≤ dp then (if (a2 < z) ∧ ((kd a2).1 = 3) then ((kf_185 n (dp - 1) (z, kd, R) 0 I L a2 1).bind (fun ⟨I_46, L_46⟩ => (if 1 ≤ dp then ((kf_19 n (dp - 1) (z, kd, R) 0 I_46 L_46 0).bind (fun ⟨x_51, I_51, L_51⟩ => (some (((x_51 : Int), z, kd, I_51, L_51, R), 0, 0)))) else none))) else none) else none) := by rw [kf_184.eq_2, if_neg (show ¬ ((1 : Nat) = 0) by decide), if_pos (show (1 : Nat) = 1 from rfl)]
set_option maxHeartbeats 8000000 in
set_option maxRecDepth 100000 in
theorem ks_184 : ∀ (n : Nat) (dp : Nat) (lab : Nat) (z : Nat) (kd : (Nat → Nat × Nat)) (I : Nat → Nat → Int32) (I' : JI) (L : Nat → Nat → Int64) (L' : JI) (R : (Nat → Nat → Option Nat)) (i1 : Int32) (i1' : Int) (a2 : Nat), Rli I I' → Rll L L' → Ui i1 i1' → Sim RPi (g_184 n dp lab z kd I L R i1 a2) (kf_184 n dp lab z kd I' L' R i1' a2) := by
  intro n
  induction n with
  | zero => intros; rw [kf_184.eq_1]; exact Sn
  | succ n ih =>
    intro dp lab z kd I I' L L' R i1 i1' a2 u_I u_L u_i1
    rw [g_184.eq_2, kf_184.eq_2]
    refine Sc Iff.rfl (fun _ => ?_) (fun _ => ?_)
    · refine Sc Iff.rfl (fun c1 => ?_) (fun _ => Sn)
      refine Sb3 (ks_14 n (dp - 1) (z, kd, R) 0 _ _ _ _ _ _ _ _ _ _ u_I u_L u_i1 (rfl : Ui (0) (0)) (rfl : Ui (1) (1))) (fun x_3 x_3' I_3 I_3' L_3 L_3' u_x_3 u_I_3 u_L_3 => ?_)
      refine Sc (eq_up u_x_3 (rfl : Ui 0 0)) (fun c2 => ?_) (fun c2 => ?_)
      · refine Sc Iff.rfl (fun c3 => ?_) (fun _ => Sn)
        refine Sb3 (ks_15 n (dp - 1) (z, kd, R) 0 _ _ _ _ _ _ u_I_3 u_L_3 (rfl : Ui (-1) (-1))) (fun x_11 x_11' I_11 I_11' L_11 L_11' u_x_11 u_I_11 u_L_11 => ?_)
        exact Sr ⟨u_x_11, ⟨rfl, rfl, u_I_11, u_L_11, rfl⟩, rfl⟩
      · refine Sc (ix_up u_i1) (fun c4 => ?_) (fun _ => Sn)
        refine SsE (by first | (rw [cl_up u_i1]; done) | (rw [cl_up u_i1]; rfl)) (fun o_20 => ?_)
        refine Sm ?_ (fun bb_23 => ?_)
        · refine Sa_i rfl ?_
          refine SsE rfl (fun z_26 => ?_)
          refine SsE rfl (fun kd_26 => ?_)
          refine SsJ (ri_nw u_I_3) (fun I_26 I_26' u_I_26 => ?_)
          refine SsM (rl_nw u_L_3) (fun L_26 L_26' u_L_26 => ?_)
          refine SsE rfl (fun R_26 => ?_)
          refine Sc Iff.rfl (fun c5 => ?_) (fun _ => Sn)
          refine Sc Iff.rfl (fun c6 => ?_) (fun _ => Sn)
          refine SbPv (ks_2 n (dp - 1) 0 z_26 kd_26 _ _ _ _ R_26 z u_I_26 u_L_26) (fun z_30 kd_30 I_30 I_30' L_30 L_30' R_30 ck_30 cm_30 u_I_30 u_L_30 => ?_)
          refine Sa_i rfl ?_
          refine Sc (and_congr Iff.rfl (ix_up u_i1)) (fun c7 => ?_) (fun _ => Sn)
          refine SsE (by first | (rw [cl_up u_i1]; done) | (rw [cl_up u_i1]; rfl)) (fun R_40 => ?_)
          exact (ih dp 1 z_30 kd_30 _ _ _ _ R_40 _ _ z u_I_30 u_L_30 u_i1)
        · exact (ih dp 1 z kd _ _ _ _ R _ _ bb_23 u_I_3 u_L_3 u_i1)
    refine Sc Iff.rfl (fun _ => ?_) (fun _ => ?_)
    · refine Sc Iff.rfl (fun c1 => ?_) (fun _ => Sn)
      refine Sc Iff.rfl (fun c2 => ?_) (fun _ => Sn)
      refine Sb2 (ks_185 n (dp - 1) (z, kd, R) 0 _ _ _ _ a2 1 u_I u_L) (fun I_46 I_46' L_46 L_46' u_I_46 u_L_46 => ?_)
      refine Sc Iff.rfl (fun c3 => ?_) (fun _ => Sn)
      refine Sb3 (ks_19 n (dp - 1) (z, kd, R) 0 _ _ _ _ _ _ u_I_46 u_L_46 (rfl : Ui (0) (0))) (fun x_51 x_51' I_51 I_51' L_51 L_51' u_x_51 u_I_51 u_L_51 => ?_)
      exact Sr ⟨u_x_51, ⟨rfl, rfl, u_I_51, u_L_51, rfl⟩, rfl⟩
    exact Sn
