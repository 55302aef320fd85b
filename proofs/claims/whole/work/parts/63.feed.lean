/-! PART 63: lengths of the reference's arrays; bytes of a long; the reference's feed. -/
section W63
def wy_n : List (Nat × Int) := [(239, 65552), (240, 64), (242, 65536), (243, 60), (244, 60), (245, 60), (246, 3600), (247, 60), (248, 60), (249, 60), (250, 60), (251, 60), (252, 400), (253, 400), (254, 400), (255, 400), (256, 400), (257, 400), (258, 3200), (259, 400), (260, 400), (262, 65536), (263, 60), (264, 60), (265, 60), (266, 3600), (267, 60), (268, 60), (269, 60), (270, 60), (271, 60), (272, 400), (273, 400), (274, 400), (275, 400), (276, 400), (277, 400), (278, 3200), (279, 400), (280, 400), (281, 240000), (282, 4000), (283, 269632), (284, 16000), (285, 16000), (293, 400), (294, 16), (295, 400), (296, 400), (297, 400), (298, 400), (299, 400), (300, 400), (301, 20000), (302, 20000), (303, 20000), (304, 4000), (305, 4000), (306, 4000), (307, 4000), (308, 4000), (309, 4000), (310, 4000), (311, 4000), (312, 4000), (313, 4000), (314, 8000), (315, 8000), (316, 8000), (317, 8000), (318, 8000), (319, 8000), (320, 8000), (321, 8000), (322, 8000), (323, 8000), (324, 8000), (325, 60000), (326, 60000), (327, 60000), (328, 60000), (329, 4001), (330, 4001), (331, 4001), (332, 4001), (333, 8000), (334, 8000), (335, 60000), (336, 60000), (337, 4000), (338, 4000), (339, 4000), (340, 400), (341, 400), (342, 65536), (343, 100000), (344, 4), (345, 256), (346, 2000), (347, 2000), (348, 2000), (349, 2000), (350, 16000), (351, 2000), (352, 8), (353, 60), (354, 72), (355, 400), (356, 400), (357, 2), (358, 2), (359, 2), (360, 2), (361, 2), (362, 2), (363, 4200), (364, 4200), (365, 400), (366, 400), (367, 400), (368, 400), (369, 400), (370, 400), (371, 400), (372, 400), (373, 20000), (374, 20000), (375, 20000), (376, 4000), (377, 20000), (378, 20000), (379, 20000), (380, 20000), (381, 20000), (382, 20000), (383, 20000), (384, 20000), (385, 20000), (386, 400), (387, 18)]
/-- the reference's arrays are as long as they were made -/
def w_ML (S : wS) : Prop := ∀ q ∈ wy_n, S q.1 (-1) = q.2
theorem w_ML_up {S : wS} {j : Nat} {i x : Int} (h : w_ML S) (hi : 0 ≤ i) : w_ML (w_up S j i x) := fun q hq => (w_up_at (by omega)).trans (h q hq)
theorem ml_239 {S : wS} (h : w_ML S) : S 239 (-1) = 65552 := h (239, 65552) (List.mem_of_getElem? (i := 0) rfl)
theorem ml_240 {S : wS} (h : w_ML S) : S 240 (-1) = 64 := h (240, 64) (List.mem_of_getElem? (i := 1) rfl)
theorem ml_242 {S : wS} (h : w_ML S) : S 242 (-1) = 65536 := h (242, 65536) (List.mem_of_getElem? (i := 2) rfl)
theorem ml_243 {S : wS} (h : w_ML S) : S 243 (-1) = 60 := h (243, 60) (List.mem_of_getElem? (i := 3) rfl)
theorem ml_244 {S : wS} (h : w_ML S) : S 244 (-1) = 60 := h (244, 60) (List.mem_of_getElem? (i := 4) rfl)
theorem ml_245 {S : wS} (h : w_ML S) : S 245 (-1) = 60 := h (245, 60) (List.mem_of_getElem? (i := 5) rfl)
theorem ml_246 {S : wS} (h : w_ML S) : S 246 (-1) = 3600 := h (246, 3600) (List.mem_of_getElem? (i := 6) rfl)
theorem ml_247 {S : wS} (h : w_ML S) : S 247 (-1) = 60 := h (247, 60) (List.mem_of_getElem? (i := 7) rfl)
theorem ml_248 {S : wS} (h : w_ML S) : S 248 (-1) = 60 := h (248, 60) (List.mem_of_getElem? (i := 8) rfl)
theorem ml_249 {S : wS} (h : w_ML S) : S 249 (-1) = 60 := h (249, 60) (List.mem_of_getElem? (i := 9) rfl)
theorem ml_250 {S : wS} (h : w_ML S) : S 250 (-1) = 60 := h (250, 60) (List.mem_of_getElem? (i := 10) rfl)
theorem ml_251 {S : wS} (h : w_ML S) : S 251 (-1) = 60 := h (251, 60) (List.mem_of_getElem? (i := 11) rfl)
theorem ml_252 {S : wS} (h : w_ML S) : S 252 (-1) = 400 := h (252, 400) (List.mem_of_getElem? (i := 12) rfl)
theorem ml_253 {S : wS} (h : w_ML S) : S 253 (-1) = 400 := h (253, 400) (List.mem_of_getElem? (i := 13) rfl)
theorem ml_254 {S : wS} (h : w_ML S) : S 254 (-1) = 400 := h (254, 400) (List.mem_of_getElem? (i := 14) rfl)
theorem ml_255 {S : wS} (h : w_ML S) : S 255 (-1) = 400 := h (255, 400) (List.mem_of_getElem? (i := 15) rfl)
theorem ml_256 {S : wS} (h : w_ML S) : S 256 (-1) = 400 := h (256, 400) (List.mem_of_getElem? (i := 16) rfl)
theorem ml_257 {S : wS} (h : w_ML S) : S 257 (-1) = 400 := h (257, 400) (List.mem_of_getElem? (i := 17) rfl)
theorem ml_258 {S : wS} (h : w_ML S) : S 258 (-1) = 3200 := h (258, 3200) (List.mem_of_getElem? (i := 18) rfl)
theorem ml_259 {S : wS} (h : w_ML S) : S 259 (-1) = 400 := h (259, 400) (List.mem_of_getElem? (i := 19) rfl)
theorem ml_260 {S : wS} (h : w_ML S) : S 260 (-1) = 400 := h (260, 400) (List.mem_of_getElem? (i := 20) rfl)
theorem ml_262 {S : wS} (h : w_ML S) : S 262 (-1) = 65536 := h (262, 65536) (List.mem_of_getElem? (i := 21) rfl)
theorem ml_263 {S : wS} (h : w_ML S) : S 263 (-1) = 60 := h (263, 60) (List.mem_of_getElem? (i := 22) rfl)
theorem ml_264 {S : wS} (h : w_ML S) : S 264 (-1) = 60 := h (264, 60) (List.mem_of_getElem? (i := 23) rfl)
theorem ml_265 {S : wS} (h : w_ML S) : S 265 (-1) = 60 := h (265, 60) (List.mem_of_getElem? (i := 24) rfl)
theorem ml_266 {S : wS} (h : w_ML S) : S 266 (-1) = 3600 := h (266, 3600) (List.mem_of_getElem? (i := 25) rfl)
theorem ml_267 {S : wS} (h : w_ML S) : S 267 (-1) = 60 := h (267, 60) (List.mem_of_getElem? (i := 26) rfl)
theorem ml_268 {S : wS} (h : w_ML S) : S 268 (-1) = 60 := h (268, 60) (List.mem_of_getElem? (i := 27) rfl)
theorem ml_269 {S : wS} (h : w_ML S) : S 269 (-1) = 60 := h (269, 60) (List.mem_of_getElem? (i := 28) rfl)
theorem ml_270 {S : wS} (h : w_ML S) : S 270 (-1) = 60 := h (270, 60) (List.mem_of_getElem? (i := 29) rfl)
theorem ml_271 {S : wS} (h : w_ML S) : S 271 (-1) = 60 := h (271, 60) (List.mem_of_getElem? (i := 30) rfl)
theorem ml_272 {S : wS} (h : w_ML S) : S 272 (-1) = 400 := h (272, 400) (List.mem_of_getElem? (i := 31) rfl)
theorem ml_273 {S : wS} (h : w_ML S) : S 273 (-1) = 400 := h (273, 400) (List.mem_of_getElem? (i := 32) rfl)
theorem ml_274 {S : wS} (h : w_ML S) : S 274 (-1) = 400 := h (274, 400) (List.mem_of_getElem? (i := 33) rfl)
theorem ml_275 {S : wS} (h : w_ML S) : S 275 (-1) = 400 := h (275, 400) (List.mem_of_getElem? (i := 34) rfl)
theorem ml_276 {S : wS} (h : w_ML S) : S 276 (-1) = 400 := h (276, 400) (List.mem_of_getElem? (i := 35) rfl)
theorem ml_277 {S : wS} (h : w_ML S) : S 277 (-1) = 400 := h (277, 400) (List.mem_of_getElem? (i := 36) rfl)
theorem ml_278 {S : wS} (h : w_ML S) : S 278 (-1) = 3200 := h (278, 3200) (List.mem_of_getElem? (i := 37) rfl)
theorem ml_279 {S : wS} (h : w_ML S) : S 279 (-1) = 400 := h (279, 400) (List.mem_of_getElem? (i := 38) rfl)
theorem ml_280 {S : wS} (h : w_ML S) : S 280 (-1) = 400 := h (280, 400) (List.mem_of_getElem? (i := 39) rfl)
theorem ml_281 {S : wS} (h : w_ML S) : S 281 (-1) = 240000 := h (281, 240000) (List.mem_of_getElem? (i := 40) rfl)
theorem ml_282 {S : wS} (h : w_ML S) : S 282 (-1) = 4000 := h (282, 4000) (List.mem_of_getElem? (i := 41) rfl)
theorem ml_283 {S : wS} (h : w_ML S) : S 283 (-1) = 269632 := h (283, 269632) (List.mem_of_getElem? (i := 42) rfl)
theorem ml_284 {S : wS} (h : w_ML S) : S 284 (-1) = 16000 := h (284, 16000) (List.mem_of_getElem? (i := 43) rfl)
theorem ml_285 {S : wS} (h : w_ML S) : S 285 (-1) = 16000 := h (285, 16000) (List.mem_of_getElem? (i := 44) rfl)
theorem ml_293 {S : wS} (h : w_ML S) : S 293 (-1) = 400 := h (293, 400) (List.mem_of_getElem? (i := 45) rfl)
theorem ml_294 {S : wS} (h : w_ML S) : S 294 (-1) = 16 := h (294, 16) (List.mem_of_getElem? (i := 46) rfl)
theorem ml_295 {S : wS} (h : w_ML S) : S 295 (-1) = 400 := h (295, 400) (List.mem_of_getElem? (i := 47) rfl)
theorem ml_296 {S : wS} (h : w_ML S) : S 296 (-1) = 400 := h (296, 400) (List.mem_of_getElem? (i := 48) rfl)
theorem ml_297 {S : wS} (h : w_ML S) : S 297 (-1) = 400 := h (297, 400) (List.mem_of_getElem? (i := 49) rfl)
theorem ml_298 {S : wS} (h : w_ML S) : S 298 (-1) = 400 := h (298, 400) (List.mem_of_getElem? (i := 50) rfl)
theorem ml_299 {S : wS} (h : w_ML S) : S 299 (-1) = 400 := h (299, 400) (List.mem_of_getElem? (i := 51) rfl)
theorem ml_300 {S : wS} (h : w_ML S) : S 300 (-1) = 400 := h (300, 400) (List.mem_of_getElem? (i := 52) rfl)
theorem ml_301 {S : wS} (h : w_ML S) : S 301 (-1) = 20000 := h (301, 20000) (List.mem_of_getElem? (i := 53) rfl)
theorem ml_302 {S : wS} (h : w_ML S) : S 302 (-1) = 20000 := h (302, 20000) (List.mem_of_getElem? (i := 54) rfl)
theorem ml_303 {S : wS} (h : w_ML S) : S 303 (-1) = 20000 := h (303, 20000) (List.mem_of_getElem? (i := 55) rfl)
theorem ml_304 {S : wS} (h : w_ML S) : S 304 (-1) = 4000 := h (304, 4000) (List.mem_of_getElem? (i := 56) rfl)
theorem ml_305 {S : wS} (h : w_ML S) : S 305 (-1) = 4000 := h (305, 4000) (List.mem_of_getElem? (i := 57) rfl)
theorem ml_306 {S : wS} (h : w_ML S) : S 306 (-1) = 4000 := h (306, 4000) (List.mem_of_getElem? (i := 58) rfl)
theorem ml_307 {S : wS} (h : w_ML S) : S 307 (-1) = 4000 := h (307, 4000) (List.mem_of_getElem? (i := 59) rfl)
theorem ml_308 {S : wS} (h : w_ML S) : S 308 (-1) = 4000 := h (308, 4000) (List.mem_of_getElem? (i := 60) rfl)
theorem ml_309 {S : wS} (h : w_ML S) : S 309 (-1) = 4000 := h (309, 4000) (List.mem_of_getElem? (i := 61) rfl)
theorem ml_310 {S : wS} (h : w_ML S) : S 310 (-1) = 4000 := h (310, 4000) (List.mem_of_getElem? (i := 62) rfl)
theorem ml_311 {S : wS} (h : w_ML S) : S 311 (-1) = 4000 := h (311, 4000) (List.mem_of_getElem? (i := 63) rfl)
theorem ml_312 {S : wS} (h : w_ML S) : S 312 (-1) = 4000 := h (312, 4000) (List.mem_of_getElem? (i := 64) rfl)
theorem ml_313 {S : wS} (h : w_ML S) : S 313 (-1) = 4000 := h (313, 4000) (List.mem_of_getElem? (i := 65) rfl)
theorem ml_314 {S : wS} (h : w_ML S) : S 314 (-1) = 8000 := h (314, 8000) (List.mem_of_getElem? (i := 66) rfl)
theorem ml_315 {S : wS} (h : w_ML S) : S 315 (-1) = 8000 := h (315, 8000) (List.mem_of_getElem? (i := 67) rfl)
theorem ml_316 {S : wS} (h : w_ML S) : S 316 (-1) = 8000 := h (316, 8000) (List.mem_of_getElem? (i := 68) rfl)
theorem ml_317 {S : wS} (h : w_ML S) : S 317 (-1) = 8000 := h (317, 8000) (List.mem_of_getElem? (i := 69) rfl)
theorem ml_318 {S : wS} (h : w_ML S) : S 318 (-1) = 8000 := h (318, 8000) (List.mem_of_getElem? (i := 70) rfl)
theorem ml_319 {S : wS} (h : w_ML S) : S 319 (-1) = 8000 := h (319, 8000) (List.mem_of_getElem? (i := 71) rfl)
theorem ml_320 {S : wS} (h : w_ML S) : S 320 (-1) = 8000 := h (320, 8000) (List.mem_of_getElem? (i := 72) rfl)
theorem ml_321 {S : wS} (h : w_ML S) : S 321 (-1) = 8000 := h (321, 8000) (List.mem_of_getElem? (i := 73) rfl)
theorem ml_322 {S : wS} (h : w_ML S) : S 322 (-1) = 8000 := h (322, 8000) (List.mem_of_getElem? (i := 74) rfl)
theorem ml_323 {S : wS} (h : w_ML S) : S 323 (-1) = 8000 := h (323, 8000) (List.mem_of_getElem? (i := 75) rfl)
theorem ml_324 {S : wS} (h : w_ML S) : S 324 (-1) = 8000 := h (324, 8000) (List.mem_of_getElem? (i := 76) rfl)
theorem ml_325 {S : wS} (h : w_ML S) : S 325 (-1) = 60000 := h (325, 60000) (List.mem_of_getElem? (i := 77) rfl)
theorem ml_326 {S : wS} (h : w_ML S) : S 326 (-1) = 60000 := h (326, 60000) (List.mem_of_getElem? (i := 78) rfl)
theorem ml_327 {S : wS} (h : w_ML S) : S 327 (-1) = 60000 := h (327, 60000) (List.mem_of_getElem? (i := 79) rfl)
theorem ml_328 {S : wS} (h : w_ML S) : S 328 (-1) = 60000 := h (328, 60000) (List.mem_of_getElem? (i := 80) rfl)
theorem ml_329 {S : wS} (h : w_ML S) : S 329 (-1) = 4001 := h (329, 4001) (List.mem_of_getElem? (i := 81) rfl)
theorem ml_330 {S : wS} (h : w_ML S) : S 330 (-1) = 4001 := h (330, 4001) (List.mem_of_getElem? (i := 82) rfl)
theorem ml_331 {S : wS} (h : w_ML S) : S 331 (-1) = 4001 := h (331, 4001) (List.mem_of_getElem? (i := 83) rfl)
theorem ml_332 {S : wS} (h : w_ML S) : S 332 (-1) = 4001 := h (332, 4001) (List.mem_of_getElem? (i := 84) rfl)
theorem ml_333 {S : wS} (h : w_ML S) : S 333 (-1) = 8000 := h (333, 8000) (List.mem_of_getElem? (i := 85) rfl)
theorem ml_334 {S : wS} (h : w_ML S) : S 334 (-1) = 8000 := h (334, 8000) (List.mem_of_getElem? (i := 86) rfl)
theorem ml_335 {S : wS} (h : w_ML S) : S 335 (-1) = 60000 := h (335, 60000) (List.mem_of_getElem? (i := 87) rfl)
theorem ml_336 {S : wS} (h : w_ML S) : S 336 (-1) = 60000 := h (336, 60000) (List.mem_of_getElem? (i := 88) rfl)
theorem ml_337 {S : wS} (h : w_ML S) : S 337 (-1) = 4000 := h (337, 4000) (List.mem_of_getElem? (i := 89) rfl)
theorem ml_338 {S : wS} (h : w_ML S) : S 338 (-1) = 4000 := h (338, 4000) (List.mem_of_getElem? (i := 90) rfl)
theorem ml_339 {S : wS} (h : w_ML S) : S 339 (-1) = 4000 := h (339, 4000) (List.mem_of_getElem? (i := 91) rfl)
theorem ml_340 {S : wS} (h : w_ML S) : S 340 (-1) = 400 := h (340, 400) (List.mem_of_getElem? (i := 92) rfl)
theorem ml_341 {S : wS} (h : w_ML S) : S 341 (-1) = 400 := h (341, 400) (List.mem_of_getElem? (i := 93) rfl)
theorem ml_342 {S : wS} (h : w_ML S) : S 342 (-1) = 65536 := h (342, 65536) (List.mem_of_getElem? (i := 94) rfl)
theorem ml_343 {S : wS} (h : w_ML S) : S 343 (-1) = 100000 := h (343, 100000) (List.mem_of_getElem? (i := 95) rfl)
theorem ml_344 {S : wS} (h : w_ML S) : S 344 (-1) = 4 := h (344, 4) (List.mem_of_getElem? (i := 96) rfl)
theorem ml_345 {S : wS} (h : w_ML S) : S 345 (-1) = 256 := h (345, 256) (List.mem_of_getElem? (i := 97) rfl)
theorem ml_346 {S : wS} (h : w_ML S) : S 346 (-1) = 2000 := h (346, 2000) (List.mem_of_getElem? (i := 98) rfl)
theorem ml_347 {S : wS} (h : w_ML S) : S 347 (-1) = 2000 := h (347, 2000) (List.mem_of_getElem? (i := 99) rfl)
theorem ml_348 {S : wS} (h : w_ML S) : S 348 (-1) = 2000 := h (348, 2000) (List.mem_of_getElem? (i := 100) rfl)
theorem ml_349 {S : wS} (h : w_ML S) : S 349 (-1) = 2000 := h (349, 2000) (List.mem_of_getElem? (i := 101) rfl)
theorem ml_350 {S : wS} (h : w_ML S) : S 350 (-1) = 16000 := h (350, 16000) (List.mem_of_getElem? (i := 102) rfl)
theorem ml_351 {S : wS} (h : w_ML S) : S 351 (-1) = 2000 := h (351, 2000) (List.mem_of_getElem? (i := 103) rfl)
theorem ml_352 {S : wS} (h : w_ML S) : S 352 (-1) = 8 := h (352, 8) (List.mem_of_getElem? (i := 104) rfl)
theorem ml_353 {S : wS} (h : w_ML S) : S 353 (-1) = 60 := h (353, 60) (List.mem_of_getElem? (i := 105) rfl)
theorem ml_354 {S : wS} (h : w_ML S) : S 354 (-1) = 72 := h (354, 72) (List.mem_of_getElem? (i := 106) rfl)
theorem ml_355 {S : wS} (h : w_ML S) : S 355 (-1) = 400 := h (355, 400) (List.mem_of_getElem? (i := 107) rfl)
theorem ml_356 {S : wS} (h : w_ML S) : S 356 (-1) = 400 := h (356, 400) (List.mem_of_getElem? (i := 108) rfl)
theorem ml_357 {S : wS} (h : w_ML S) : S 357 (-1) = 2 := h (357, 2) (List.mem_of_getElem? (i := 109) rfl)
theorem ml_358 {S : wS} (h : w_ML S) : S 358 (-1) = 2 := h (358, 2) (List.mem_of_getElem? (i := 110) rfl)
theorem ml_359 {S : wS} (h : w_ML S) : S 359 (-1) = 2 := h (359, 2) (List.mem_of_getElem? (i := 111) rfl)
theorem ml_360 {S : wS} (h : w_ML S) : S 360 (-1) = 2 := h (360, 2) (List.mem_of_getElem? (i := 112) rfl)
theorem ml_361 {S : wS} (h : w_ML S) : S 361 (-1) = 2 := h (361, 2) (List.mem_of_getElem? (i := 113) rfl)
theorem ml_362 {S : wS} (h : w_ML S) : S 362 (-1) = 2 := h (362, 2) (List.mem_of_getElem? (i := 114) rfl)
theorem ml_363 {S : wS} (h : w_ML S) : S 363 (-1) = 4200 := h (363, 4200) (List.mem_of_getElem? (i := 115) rfl)
theorem ml_364 {S : wS} (h : w_ML S) : S 364 (-1) = 4200 := h (364, 4200) (List.mem_of_getElem? (i := 116) rfl)
theorem ml_365 {S : wS} (h : w_ML S) : S 365 (-1) = 400 := h (365, 400) (List.mem_of_getElem? (i := 117) rfl)
theorem ml_366 {S : wS} (h : w_ML S) : S 366 (-1) = 400 := h (366, 400) (List.mem_of_getElem? (i := 118) rfl)
theorem ml_367 {S : wS} (h : w_ML S) : S 367 (-1) = 400 := h (367, 400) (List.mem_of_getElem? (i := 119) rfl)
theorem ml_368 {S : wS} (h : w_ML S) : S 368 (-1) = 400 := h (368, 400) (List.mem_of_getElem? (i := 120) rfl)
theorem ml_369 {S : wS} (h : w_ML S) : S 369 (-1) = 400 := h (369, 400) (List.mem_of_getElem? (i := 121) rfl)
theorem ml_370 {S : wS} (h : w_ML S) : S 370 (-1) = 400 := h (370, 400) (List.mem_of_getElem? (i := 122) rfl)
theorem ml_371 {S : wS} (h : w_ML S) : S 371 (-1) = 400 := h (371, 400) (List.mem_of_getElem? (i := 123) rfl)
theorem ml_372 {S : wS} (h : w_ML S) : S 372 (-1) = 400 := h (372, 400) (List.mem_of_getElem? (i := 124) rfl)
theorem ml_373 {S : wS} (h : w_ML S) : S 373 (-1) = 20000 := h (373, 20000) (List.mem_of_getElem? (i := 125) rfl)
theorem ml_374 {S : wS} (h : w_ML S) : S 374 (-1) = 20000 := h (374, 20000) (List.mem_of_getElem? (i := 126) rfl)
theorem ml_375 {S : wS} (h : w_ML S) : S 375 (-1) = 20000 := h (375, 20000) (List.mem_of_getElem? (i := 127) rfl)
theorem ml_376 {S : wS} (h : w_ML S) : S 376 (-1) = 4000 := h (376, 4000) (List.mem_of_getElem? (i := 128) rfl)
theorem ml_377 {S : wS} (h : w_ML S) : S 377 (-1) = 20000 := h (377, 20000) (List.mem_of_getElem? (i := 129) rfl)
theorem ml_378 {S : wS} (h : w_ML S) : S 378 (-1) = 20000 := h (378, 20000) (List.mem_of_getElem? (i := 130) rfl)
theorem ml_379 {S : wS} (h : w_ML S) : S 379 (-1) = 20000 := h (379, 20000) (List.mem_of_getElem? (i := 131) rfl)
theorem ml_380 {S : wS} (h : w_ML S) : S 380 (-1) = 20000 := h (380, 20000) (List.mem_of_getElem? (i := 132) rfl)
theorem ml_381 {S : wS} (h : w_ML S) : S 381 (-1) = 20000 := h (381, 20000) (List.mem_of_getElem? (i := 133) rfl)
theorem ml_382 {S : wS} (h : w_ML S) : S 382 (-1) = 20000 := h (382, 20000) (List.mem_of_getElem? (i := 134) rfl)
theorem ml_383 {S : wS} (h : w_ML S) : S 383 (-1) = 20000 := h (383, 20000) (List.mem_of_getElem? (i := 135) rfl)
theorem ml_384 {S : wS} (h : w_ML S) : S 384 (-1) = 20000 := h (384, 20000) (List.mem_of_getElem? (i := 136) rfl)
theorem ml_385 {S : wS} (h : w_ML S) : S 385 (-1) = 20000 := h (385, 20000) (List.mem_of_getElem? (i := 137) rfl)
theorem ml_386 {S : wS} (h : w_ML S) : S 386 (-1) = 400 := h (386, 400) (List.mem_of_getElem? (i := 138) rfl)
theorem ml_387 {S : wS} (h : w_ML S) : S 387 (-1) = 18 := h (387, 18) (List.mem_of_getElem? (i := 139) rfl)
theorem w_lcmp_rg {x y : Int} : w_rg 0 (wb_lcmp x y) := by
  have := @wb_lcmp_cases x y
  exact w_rg0 (by omega) (by omega)
def sb (v k : Int) : Int := wb_land (wb_lushr v k) 255
theorem sb_and (a : Int64) : (a &&& 255).toInt = ((a.toBitVec.toNat % 256 : Nat) : Int) := by
  have h1 : (a &&& 255).toBitVec = BitVec.ofNat 64 (a.toBitVec.toNat % 256) := by
    apply BitVec.eq_of_toNat_eq
    rw [Int64.toBitVec_and, BitVec.toNat_and, BitVec.toNat_ofNat]
    have h2 : (255 : Int64).toBitVec.toNat = 2 ^ 8 - 1 := by decide
    rw [h2, Nat.and_two_pow_sub_one_eq_mod]
    have := Nat.mod_lt a.toBitVec.toNat (show 0 < 256 by decide)
    rw [Nat.mod_eq_of_lt (a := a.toBitVec.toNat % 256) (by omega)]
  show (a &&& 255).toBitVec.toInt = _
  rw [h1, BitVec.toInt_eq_toNat_of_lt]
  · rw [BitVec.toNat_ofNat]
    have := Nat.mod_lt a.toBitVec.toNat (show 0 < 256 by decide)
    rw [Nat.mod_eq_of_lt (a := a.toBitVec.toNat % 256) (by omega)]
  · rw [BitVec.toNat_ofNat]
    have := Nat.mod_lt a.toBitVec.toNat (show 0 < 256 by decide)
    rw [Nat.mod_eq_of_lt (a := a.toBitVec.toNat % 256) (by omega)]
    omega
theorem sb_and32 (a : Int32) : (a &&& 255).toInt = ((a.toBitVec.toNat % 256 : Nat) : Int) := by
  have h1 : (a &&& 255).toBitVec = BitVec.ofNat 32 (a.toBitVec.toNat % 256) := by
    apply BitVec.eq_of_toNat_eq
    rw [Int32.toBitVec_and, BitVec.toNat_and, BitVec.toNat_ofNat]
    have h2 : (255 : Int32).toBitVec.toNat = 2 ^ 8 - 1 := by decide
    rw [h2, Nat.and_two_pow_sub_one_eq_mod]
    have := Nat.mod_lt a.toBitVec.toNat (show 0 < 256 by decide)
    rw [Nat.mod_eq_of_lt (a := a.toBitVec.toNat % 256) (by omega)]
  show (a &&& 255).toBitVec.toInt = _
  rw [h1, BitVec.toInt_eq_toNat_of_lt]
  · rw [BitVec.toNat_ofNat]
    have := Nat.mod_lt a.toBitVec.toNat (show 0 < 256 by decide)
    rw [Nat.mod_eq_of_lt (a := a.toBitVec.toNat % 256) (by omega)]
  · rw [BitVec.toNat_ofNat]
    have := Nat.mod_lt a.toBitVec.toNat (show 0 < 256 by decide)
    rw [Nat.mod_eq_of_lt (a := a.toBitVec.toNat % 256) (by omega)]
    omega
theorem sb_rg (v k : Int) : 0 ≤ sb v k ∧ sb v k ≤ 255 := by
  have h : sb v k = ((Int64.ofInt (wb_lushr v k) &&& 255).toInt) := rfl
  rw [h, sb_and]
  have := Nat.mod_lt (Int64.ofInt (wb_lushr v k)).toBitVec.toNat (show 0 < 256 by decide)
  omega
theorem sb_eq (v k : Int) : wb_iand (wb_l2i (wb_lushr v k)) 255 = sb v k := by
  have h : sb v k = ((Int64.ofInt (wb_lushr v k) &&& 255).toInt) := rfl
  have h2 : wb_iand (wb_l2i (wb_lushr v k)) 255 = ((Int32.ofInt (wb_l2i (wb_lushr v k)) &&& 255).toInt) := rfl
  rw [h, h2, sb_and, sb_and32]
  have h3 : Int32.ofInt (wb_l2i (wb_lushr v k)) = (Int64.ofInt (wb_lushr v k)).toInt32 := by
    unfold wb_l2i
    exact Int32.ofInt_toInt _
  rw [h3]
  congr 1
  rw [Int64.toBitVec_toInt32, BitVec.signExtend_eq_setWidth_of_le _ (by decide), BitVec.toNat_setWidth]
  omega
def sg_ok (c : Int) : Prop := c = 0 ∨ c = 10 ∨ (32 ≤ c ∧ c ≤ 126)
/-- how many of the low t bytes are there -/
def sl_n (v : Int) : Nat → Int
  | 0 => 0
  | t + 1 => sl_n v t + (if sb v (8 * (t : Int)) = 0 then 0 else 1)
theorem sl_n_rg (v : Int) : ∀ t : Nat, 0 ≤ sl_n v t ∧ sl_n v t ≤ t := by
  intro t
  induction t with
  | zero => exact ⟨Int.le_refl _, Int.le_refl _⟩
  | succ t ih =>
    unfold sl_n
    split <;> omega
variable {xs : List (Nat × List Int32)} {M : Nat → Prop} {d : Nat} {S : wS}
theorem si_loop {v : Int} (hv : w_rg 1 v) : ∀ (m t : Nat) (k n : Int), 8 - t < m → t ≤ 8 → k = 8 * (t : Int) → n = sl_n v t → (∀ s : Nat, s < t → sg_ok (sb v (8 * (s : Int)))) → wJ (pe_GA xs) wY0 M (d + 1) t_M_signsIn ((pe_at t_M_signsIn.bl 1).getD (0, [])).2 [(0, (1, v)), (2, (0, n)), (3, (0, k))] [] S (fun o S2 => S = S2 ∧ ((o = .inl (some (0, -1)) ∧ ∃ t : Nat, t < 8 ∧ ¬ sg_ok (sb v (8 * (t : Int)))) ∨ (o = .inl (some (0, sl_n v 8)) ∧ ∀ t : Nat, t < 8 → sg_ok (sb v (8 * (t : Int)))))) := by
  intro m
  induction m with
  | zero => intro t k n h1 h2 hk hn hi; omega
  | succ m ih =>
    intro t k n h1 h2 hk hn hi
    have hb : 0 ≤ wb_land (wb_lushr v k) 255 ∧ wb_land (wb_lushr v k) 255 ≤ 255 := sb_rg v k
    have hq := sl_n_rg v t
    refine wa_iload_n (n := 3) rfl ?_
    refine wa_bipush (w_rg2 (by omega) (by omega)) ?_
    refine wa_icmpge (w_rg0 (by omega) (by omega)) (w_rg0 (by omega) (by omega)) ⟨_, rfl⟩ (fun c1 => ?_) (fun c1 => ?_)
    · skip
      refine wa_iload_n (n := 2) rfl ?_
      refine wa_ireturn rfl ?_
      have ht : t = 8 := by omega
      subst ht
      exact ⟨rfl, Or.inr ⟨by rw [hn], hi⟩⟩
    · skip
      refine wa_lload_n (n := 0) rfl ?_
      refine wa_iload_n (n := 3) rfl ?_
      refine wa_lushr ?_
      refine wb_kl (n := 255) rfl ?_
      refine wa_land ?_
      refine wb_l2i_r (wb_l2i_id ⟨(by omega), (by omega)⟩) ?_
      refine wa_istore (n := 4) rfl ?_
      refine wa_iload (n := 4) rfl ?_
      refine wa_ifeq (w_rg0 (by omega) (by omega)) ⟨_, rfl⟩ (fun c2 => ?_) (fun c2 => ?_)
      · skip
        refine wa_iload_n (n := 2) rfl ?_
        refine wa_iload (n := 4) rfl ?_
        refine wa_ifne (w_rg0 (by omega) (by omega)) ⟨_, rfl⟩ (fun c3 => ?_) (fun c3 => ?_)
        · skip
          exact absurd c3 (by omega)
        · skip
          refine wa_iconst ?_
          refine wa_goto ⟨_, rfl⟩ ?_
          refine wa_iadd ?_
          refine wa_istore_n (n := 2) rfl ?_
          refine wa_iinc rfl rfl ?_
          refine wa_goto ⟨_, rfl⟩ ?_
          refine wJ_S (ih (t + 1) _ _ (by omega) (by omega) ?_ ?_ ?_) ⟨rfl, rfl, rfl, trivial⟩
          · omega
          · unfold sl_n
            rw [← hk, ← hn]
            unfold sb
            split <;> omega
          · intro s hs
            by_cases hst : s = t
            · subst hst; rw [← hk]; unfold sg_ok sb; omega
            · exact hi s (by omega)
      · skip
        refine wa_iload (n := 4) rfl ?_
        refine wa_bipush (w_rg2 (by omega) (by omega)) ?_
        refine wa_icmpeq (w_rg0 (by omega) (by omega)) (w_rg0 (by omega) (by omega)) ⟨_, rfl⟩ (fun c4 => ?_) (fun c4 => ?_)
        · skip
          refine wa_iload_n (n := 2) rfl ?_
          refine wa_iload (n := 4) rfl ?_
          refine wa_ifne (w_rg0 (by omega) (by omega)) ⟨_, rfl⟩ (fun c5 => ?_) (fun c5 => ?_)
          · skip
            refine wa_iconst ?_
            refine wa_fall ⟨_, rfl⟩ ?_
            refine wa_iadd ?_
            refine wa_istore_n (n := 2) rfl ?_
            refine wa_iinc rfl rfl ?_
            refine wa_goto ⟨_, rfl⟩ ?_
            refine wJ_S (ih (t + 1) _ _ (by omega) (by omega) ?_ ?_ ?_) ⟨rfl, rfl, rfl, trivial⟩
            · omega
            · unfold sl_n
              rw [← hk, ← hn]
              unfold sb
              split <;> omega
            · intro s hs
              by_cases hst : s = t
              · subst hst; rw [← hk]; unfold sg_ok sb; omega
              · exact hi s (by omega)
          · skip
            exact absurd c5 (by omega)
        · skip
          refine wa_iload (n := 4) rfl ?_
          refine wa_i2l (w_rg0 (by omega) (by omega)) ?_
          refine wb_kl (n := 32) rfl ?_
          refine wb_kl (n := 126) rfl ?_
          refine wa_cs (M2 := fun _ => False) rfl at_M_in ⟨_, rfl⟩ rfl rfl ⟨trivial, trivial, trivial, trivial, trivial⟩ trivial (fun _ _ q => False.elim q) ?_ (fun _ _ _ q => q)
          refine wa_lload_n (n := 0) rfl ?_
          refine wa_lload_n (n := 2) rfl ?_
          refine wa_lcmp (w_rg1 (by omega) (by omega)) (w_rg1 (by omega) (by omega)) ?_
          refine wa_iflt (by have := @wb_lcmp_cases; exact w_lcmp_rg) ⟨_, rfl⟩ (fun c6 => ?_) (fun c6 => ?_)
          · skip
            have c6x := @wb_lcmp_cases (wb_land (wb_lushr v k) 255) 32
            refine wa_iconst ?_
            refine wa_fall ⟨_, rfl⟩ ?_
            refine wa_zreturn rfl (Or.inl rfl) ?_
            show wJ _ _ _ _ _ _ _ _ _ _
            refine wa_ifne (w_rg0 (by omega) (by omega)) ⟨_, rfl⟩ (fun c7 => ?_) (fun c7 => ?_)
            · skip
              exact absurd c7 (by omega)
            · skip
              refine wa_iconst ?_
              refine wa_ireturn rfl ?_
              refine ⟨rfl, Or.inl ⟨rfl, t, by omega, ?_⟩⟩
              rw [← hk]; unfold sg_ok sb; omega
          · skip
            have c6x := @wb_lcmp_cases (wb_land (wb_lushr v k) 255) 32
            refine wa_lload_n (n := 0) rfl ?_
            refine wa_lload (n := 4) rfl ?_
            refine wa_lcmp (w_rg1 (by omega) (by omega)) (w_rg1 (by omega) (by omega)) ?_
            refine wa_ifgt (by have := @wb_lcmp_cases; exact w_lcmp_rg) ⟨_, rfl⟩ (fun c8 => ?_) (fun c8 => ?_)
            · skip
              have c8x := @wb_lcmp_cases (wb_land (wb_lushr v k) 255) 126
              refine wa_iconst ?_
              refine wa_fall ⟨_, rfl⟩ ?_
              refine wa_zreturn rfl (Or.inl rfl) ?_
              show wJ _ _ _ _ _ _ _ _ _ _
              refine wa_ifne (w_rg0 (by omega) (by omega)) ⟨_, rfl⟩ (fun c9 => ?_) (fun c9 => ?_)
              · skip
                exact absurd c9 (by omega)
              · skip
                refine wa_iconst ?_
                refine wa_ireturn rfl ?_
                refine ⟨rfl, Or.inl ⟨rfl, t, by omega, ?_⟩⟩
                rw [← hk]; unfold sg_ok sb; omega
            · skip
              have c8x := @wb_lcmp_cases (wb_land (wb_lushr v k) 255) 126
              refine wa_iconst ?_
              refine wa_goto ⟨_, rfl⟩ ?_
              refine wa_zreturn rfl (Or.inr rfl) ?_
              show wJ _ _ _ _ _ _ _ _ _ _
              refine wa_ifne (w_rg0 (by omega) (by omega)) ⟨_, rfl⟩ (fun c10 => ?_) (fun c10 => ?_)
              · skip
                refine wa_iload_n (n := 2) rfl ?_
                refine wa_iload (n := 4) rfl ?_
                refine wa_ifne (w_rg0 (by omega) (by omega)) ⟨_, rfl⟩ (fun c11 => ?_) (fun c11 => ?_)
                · skip
                  refine wa_iconst ?_
                  refine wa_fall ⟨_, rfl⟩ ?_
                  refine wa_iadd ?_
                  refine wa_istore_n (n := 2) rfl ?_
                  refine wa_iinc rfl rfl ?_
                  refine wa_goto ⟨_, rfl⟩ ?_
                  refine wJ_S (ih (t + 1) _ _ (by omega) (by omega) ?_ ?_ ?_) ⟨rfl, rfl, rfl, trivial⟩
                  · omega
                  · unfold sl_n
                    rw [← hk, ← hn]
                    unfold sb
                    split <;> omega
                  · intro s hs
                    by_cases hst : s = t
                    · subst hst; rw [← hk]; unfold sg_ok sb; omega
                    · exact hi s (by omega)
                · skip
                  exact absurd c11 (by omega)
              · skip
                exact absurd c10 (by omega)
theorem si_ok {v : Int} (hv : w_rg 1 v) : wJ (pe_GA xs) wY0 M (d + 1) t_M_signsIn ((pe_at t_M_signsIn.bl 0).getD (0, [])).2 [(0, (1, v))] [] S (fun o S2 => S = S2 ∧ ((o = .inl (some (0, -1)) ∧ ∃ t : Nat, t < 8 ∧ ¬ sg_ok (sb v (8 * (t : Int)))) ∨ (o = .inl (some (0, sl_n v 8)) ∧ ∀ t : Nat, t < 8 → sg_ok (sb v (8 * (t : Int)))))) := by
  refine wa_iconst ?_
  refine wa_istore_n (n := 2) rfl ?_
  refine wa_iconst ?_
  refine wa_istore_n (n := 3) rfl ?_
  refine wa_fall ⟨_, rfl⟩ ?_
  exact wJ_S (si_loop hv 9 0 _ _ (by omega) (by omega) rfl rfl (fun s hs => by omega)) ⟨rfl, rfl, rfl, trivial⟩
/-- the tape and its count after t bytes -/
def ty_S (v : Int) (S : wS) : Nat → wS
  | 0 => S
  | t + 1 => if sb v (56 - 8 * (t : Int)) = 0 then ty_S v S t else w_up (w_up (ty_S v S t) 239 (ty_S v S t 237 3) (sb v (56 - 8 * (t : Int)))) 237 3 (ty_S v S t 237 3 + 1)
theorem ty_S_ML {v : Int} {S : wS} (h : w_ML S) (h0 : 0 ≤ S 237 3) : ∀ t : Nat, w_ML (ty_S v S t) ∧ S 237 3 ≤ ty_S v S t 237 3 ∧ ty_S v S t 237 3 ≤ S 237 3 + t := by
  intro t
  induction t with
  | zero => exact ⟨h, Int.le_refl _, by show S 237 3 ≤ S 237 3 + 0; omega⟩
  | succ t ih =>
    unfold ty_S
    split
    · exact ⟨ih.1, ih.2.1, by omega⟩
    · refine ⟨w_ML_up (w_ML_up ih.1 (by omega)) (by omega), ?_, ?_⟩
      · rw [w_up_same]; omega
      · rw [w_up_same]; omega
theorem ty_loop {v : Int} (hM0 : w_ML S) (hp : 0 ≤ S 237 3 ∧ S 237 3 ≤ 65544) (ho : ∀ t : Nat, t < 8 → sg_ok (sb v (8 * (t : Int)))) : ∀ (m t : Nat) (k : Int) (Z : wS), 8 - t < m → t ≤ 8 → k = 56 - 8 * (t : Int) → Z = ty_S v S t → wJ (pe_GA xs) wY0 M d t_M_types ((pe_at t_M_types.bl 1).getD (0, [])).2 [(0, (2, 237)), (1, (1, v)), (3, (0, k))] [] Z (fun o S2 => ty_S v S 8 = S2 ∧ o = .inl none) := by
  intro m
  induction m with
  | zero => intro t k Z h1 h2 hk hZ; omega
  | succ m ih =>
    intro t k Z h1 h2 hk hZ
    obtain ⟨hM, hz1, hz2⟩ := ty_S_ML (v := v) hM0 hp.1 t
    rw [← hZ] at hM hz1 hz2
    have hb : 0 ≤ wb_land (wb_lushr v k) 255 ∧ wb_land (wb_lushr v k) 255 ≤ 255 := sb_rg v k
    refine wa_iload_n (n := 3) rfl ?_
    refine wa_iflt (w_rg0 (by omega) (by omega)) ⟨_, rfl⟩ (fun c1 => ?_) (fun c1 => ?_)
    · skip
      refine wa_return rfl ?_
      have ht : t = 8 := by omega
      subst ht
      exact ⟨hZ.symm, rfl⟩
    · skip
      refine wa_lload_n (n := 1) rfl ?_
      refine wa_iload_n (n := 3) rfl ?_
      refine wa_lushr ?_
      refine wb_kl (n := 255) rfl ?_
      refine wa_land ?_
      refine wb_l2i_r (wb_l2i_id ⟨(by omega), (by omega)⟩) ?_
      refine wa_istore (n := 4) rfl ?_
      refine wa_iload (n := 4) rfl ?_
      have hok := ho (7 - t) (by omega)
      rw [show 8 * ((7 - t : Nat) : Int) = k by omega] at hok
      have hb2 : wb_land (wb_lushr v k) 255 ≤ 126 := by unfold sg_ok sb at hok; omega
      refine wa_ifeq (w_rg0 (by omega) (by omega)) ⟨_, rfl⟩ (fun c2 => ?_) (fun c2 => ?_)
      · skip
        refine wa_iinc rfl rfl ?_
        refine wa_goto ⟨_, rfl⟩ ?_
        refine wJ_S (ih (t + 1) _ _ (by omega) (by omega) ?_ ?_) ⟨rfl, rfl, rfl, trivial⟩
        · omega
        · unfold ty_S
          rw [← hZ, ← hk]
          first | rw [if_pos (show sb v k = 0 from c2)] | (rw [if_neg (show ¬ sb v k = 0 from c2)]; rfl)
      · skip
        refine wa_aload_n (n := 0) rfl ?_
        refine wb_gf4 237 rfl (wy_pr rfl) wt_237 wf_15_2 (v := 239) wl_237_2 ?_
        refine wa_aload_n (n := 0) rfl ?_
        refine wb_gfi 237 rfl (wy_pr rfl) wt_237 wf_15_3 (v := (Z 237 3)) rfl (fun r3 => ?_)
        refine wa_iload (n := 4) rfl ?_
        refine wb_i2b_r (wb_i2b_id ⟨(by omega), (by omega)⟩) ?_
        refine wb_bast 239 rfl (wy_pr rfl) wt_239 (n := 65552) ((ml_239 hM)) (by omega) (by omega) ⟨(by omega), (by omega)⟩ ?_
        refine wa_aload_n (n := 0) rfl ?_
        refine wa_dup (by decide) ?_
        refine wb_gfi 237 rfl (wy_pr rfl) wt_237 wf_15_3 (v := (Z 237 3)) (w_up_slot (by decide)) (fun r4 => ?_)
        refine wa_iconst ?_
        refine wa_iadd ?_
        refine wb_pfi 237 rfl (wy_pr rfl) wt_237 wf_15_3 (n := 3) rfl ⟨(by omega), (by omega)⟩ ?_
        refine wa_fall ⟨_, rfl⟩ ?_
        refine wa_iinc rfl rfl ?_
        refine wa_goto ⟨_, rfl⟩ ?_
        refine wJ_S (ih (t + 1) _ _ (by omega) (by omega) ?_ ?_) ⟨rfl, rfl, rfl, trivial⟩
        · omega
        · unfold ty_S
          rw [← hZ, ← hk]
          first | rw [if_pos (show sb v k = 0 from c2)] | (rw [if_neg (show ¬ sb v k = 0 from c2)]; rfl)
theorem ty_ok {v : Int} (hM0 : w_ML S) (hp : 0 ≤ S 237 3 ∧ S 237 3 ≤ 65544) (ho : ∀ t : Nat, t < 8 → sg_ok (sb v (8 * (t : Int)))) : wJ (pe_GA xs) wY0 M d t_M_types ((pe_at t_M_types.bl 0).getD (0, [])).2 [(0, (2, 237)), (1, (1, v))] [] S (fun o S2 => ty_S v S 8 = S2 ∧ o = .inl none) := by
  refine wa_bipush (w_rg2 (by omega) (by omega)) ?_
  refine wa_istore_n (n := 3) rfl ?_
  refine wa_fall ⟨_, rfl⟩ ?_
  exact wJ_S (ty_loop hM0 hp ho 9 0 _ _ (by omega) (by omega) rfl rfl) ⟨rfl, rfl, rfl, trivial⟩
def mf_ok (S : wS) (a b : Int) : Prop := (∀ t : Nat, t < 8 → sg_ok (sb a (8 * (t : Int)))) ∧ (∀ t : Nat, t < 8 → sg_ok (sb b (8 * (t : Int)))) ∧ S 237 3 + sl_n a 8 + sl_n b 8 ≤ 65536
def mf_S (S : wS) (a b : Int) : wS := ty_S b (ty_S a (w_up S 237 0 0) 8) 8
theorem mf_feed {a b : Int} (hM0 : w_ML S) (hp : 0 ≤ S 237 3 ∧ S 237 3 ≤ 65536) (ha : w_rg 1 a) (hb : w_rg 1 b) : wJ (pe_GA xs) wY0 M (d + 2) t_M_feed ((pe_at t_M_feed.bl 0).getD (0, [])).2 [(0, (2, 237)), (1, (1, a)), (3, (1, b))] [] S (fun o S2 => (¬ mf_ok S a b ∧ w_up S 237 0 0 = S2 ∧ o = .inl (some (0, -1))) ∨ (mf_ok S a b ∧ mf_S S a b = S2 ∧ o = .inl (some (0, mf_S S a b 237 3)))) := by
  have hM : w_ML (w_up S 237 0 0) := w_ML_up hM0 (by omega)
  have hn := sl_n_rg a 8
  have hm := sl_n_rg b 8
  have hp3 : w_up S 237 0 0 237 3 = S 237 3 := w_up_at (by decide)
  refine wa_aload_n (n := 0) rfl ?_
  refine wa_iconst ?_
  refine wb_pfi 237 rfl (wy_pr rfl) wt_237 wf_15_0 (n := 0) rfl ⟨(by omega), (by omega)⟩ ?_
  refine wa_lload_n (n := 1) rfl ?_
  refine wa_cs (M2 := fun _ => False) rfl at_M_signsIn ⟨_, rfl⟩ rfl rfl ⟨(Or.inr ⟨wy_pr rfl, fun q => q⟩), trivial, trivial, trivial⟩ trivial (fun _ _ q => False.elim q) (si_ok ha) (fun oq1 Sq1 hp2 q1 => ?_)
  rcases q1 with ⟨rfl, ⟨rfl, ga⟩ | ⟨rfl, ga⟩⟩
  · skip
    show wJ _ _ _ _ _ _ _ _ _ _
    refine wa_istore (n := 5) rfl ?_
    refine wa_lload_n (n := 3) rfl ?_
    refine wa_cs (M2 := fun _ => False) rfl at_M_signsIn ⟨_, rfl⟩ rfl rfl ⟨trivial, (Or.inr ⟨wy_pr rfl, fun q => q⟩), trivial, trivial, trivial⟩ trivial (fun _ _ q => False.elim q) (si_ok hb) (fun oq3 Sq3 hp4 q3 => ?_)
    rcases q3 with ⟨rfl, ⟨rfl, gb⟩ | ⟨rfl, gb⟩⟩
    · skip
      show wJ _ _ _ _ _ _ _ _ _ _
      refine wa_istore (n := 6) rfl ?_
      refine wa_iload (n := 5) rfl ?_
      refine wa_iflt (w_rg0 (by omega) (by omega)) ⟨_, rfl⟩ (fun c5 => ?_) (fun c5 => ?_)
      · skip
        refine wa_iconst ?_
        refine wa_ireturn rfl ?_
        refine Or.inl ⟨?_, rfl, rfl⟩
        rintro ⟨g7, g8, g9⟩
        first | omega | (obtain ⟨t, h1, h2⟩ := ga; exact h2 (g7 t h1)) | (obtain ⟨t, h1, h2⟩ := gb; exact h2 (g8 t h1))
      · skip
        exact absurd c5 (by omega)
    · skip
      show wJ _ _ _ _ _ _ _ _ _ _
      refine wa_istore (n := 6) rfl ?_
      refine wa_iload (n := 5) rfl ?_
      refine wa_iflt (w_rg0 (by omega) (by omega)) ⟨_, rfl⟩ (fun c6 => ?_) (fun c6 => ?_)
      · skip
        refine wa_iconst ?_
        refine wa_ireturn rfl ?_
        refine Or.inl ⟨?_, rfl, rfl⟩
        rintro ⟨g7, g8, g9⟩
        first | omega | (obtain ⟨t, h1, h2⟩ := ga; exact h2 (g7 t h1)) | (obtain ⟨t, h1, h2⟩ := gb; exact h2 (g8 t h1))
      · skip
        exact absurd c6 (by omega)
  · skip
    show wJ _ _ _ _ _ _ _ _ _ _
    refine wa_istore (n := 5) rfl ?_
    refine wa_lload_n (n := 3) rfl ?_
    refine wa_cs (M2 := fun _ => False) rfl at_M_signsIn ⟨_, rfl⟩ rfl rfl ⟨trivial, (Or.inr ⟨wy_pr rfl, fun q => q⟩), trivial, trivial, trivial⟩ trivial (fun _ _ q => False.elim q) (si_ok hb) (fun oq7 Sq7 hp8 q7 => ?_)
    rcases q7 with ⟨rfl, ⟨rfl, gb⟩ | ⟨rfl, gb⟩⟩
    · skip
      show wJ _ _ _ _ _ _ _ _ _ _
      refine wa_istore (n := 6) rfl ?_
      refine wa_iload (n := 5) rfl ?_
      refine wa_iflt (w_rg0 (by omega) (by omega)) ⟨_, rfl⟩ (fun c9 => ?_) (fun c9 => ?_)
      · skip
        refine wa_iconst ?_
        refine wa_ireturn rfl ?_
        refine Or.inl ⟨?_, rfl, rfl⟩
        rintro ⟨g7, g8, g9⟩
        first | omega | (obtain ⟨t, h1, h2⟩ := ga; exact h2 (g7 t h1)) | (obtain ⟨t, h1, h2⟩ := gb; exact h2 (g8 t h1))
      · skip
        refine wa_iload (n := 6) rfl ?_
        refine wa_iflt (w_rg0 (by omega) (by omega)) ⟨_, rfl⟩ (fun c10 => ?_) (fun c10 => ?_)
        · skip
          refine wa_iconst ?_
          refine wa_ireturn rfl ?_
          refine Or.inl ⟨?_, rfl, rfl⟩
          rintro ⟨g7, g8, g9⟩
          first | omega | (obtain ⟨t, h1, h2⟩ := ga; exact h2 (g7 t h1)) | (obtain ⟨t, h1, h2⟩ := gb; exact h2 (g8 t h1))
        · skip
          exact absurd c10 (by omega)
    · skip
      show wJ _ _ _ _ _ _ _ _ _ _
      refine wa_istore (n := 6) rfl ?_
      refine wa_iload (n := 5) rfl ?_
      refine wa_iflt (w_rg0 (by omega) (by omega)) ⟨_, rfl⟩ (fun c11 => ?_) (fun c11 => ?_)
      · skip
        refine wa_iconst ?_
        refine wa_ireturn rfl ?_
        refine Or.inl ⟨?_, rfl, rfl⟩
        rintro ⟨g7, g8, g9⟩
        first | omega | (obtain ⟨t, h1, h2⟩ := ga; exact h2 (g7 t h1)) | (obtain ⟨t, h1, h2⟩ := gb; exact h2 (g8 t h1))
      · skip
        refine wa_iload (n := 6) rfl ?_
        refine wa_iflt (w_rg0 (by omega) (by omega)) ⟨_, rfl⟩ (fun c12 => ?_) (fun c12 => ?_)
        · skip
          refine wa_iconst ?_
          refine wa_ireturn rfl ?_
          refine Or.inl ⟨?_, rfl, rfl⟩
          rintro ⟨g7, g8, g9⟩
          first | omega | (obtain ⟨t, h1, h2⟩ := ga; exact h2 (g7 t h1)) | (obtain ⟨t, h1, h2⟩ := gb; exact h2 (g8 t h1))
        · skip
          refine wa_aload_n (n := 0) rfl ?_
          refine wb_gfi 237 rfl (wy_pr rfl) wt_237 wf_15_3 (v := (S 237 3)) (w_up_at (by decide)) (fun r13 => ?_)
          refine wa_iload (n := 5) rfl ?_
          refine wa_iadd ?_
          refine wa_iload (n := 6) rfl ?_
          refine wa_iadd ?_
          refine wb_ki (n := 65536) rfl ?_
          refine wa_icmple (w_rg0 (by omega) (by omega)) (w_rg0 (by omega) (by omega)) ⟨_, rfl⟩ (fun c14 => ?_) (fun c14 => ?_)
          · skip
            refine wa_aload_n (n := 0) rfl ?_
            refine wa_lload_n (n := 1) rfl ?_
            refine wa_cv 237 rfl (wy_pr rfl) wt_237 (M2 := fun _ => False) rfl at_M_types ⟨_, rfl⟩ rfl rfl ⟨trivial, trivial, (Or.inr ⟨wy_pr rfl, fun q => q⟩), trivial, trivial, trivial⟩ trivial (fun _ _ q => False.elim q) (ty_ok hM ⟨by rw [hp3]; omega, by rw [hp3]; omega⟩ ga) (fun oq15 Sq15 hp16 q15 => ?_)
            rcases q15 with ⟨rfl, rfl⟩
            show wJ _ _ _ _ _ _ _ _ _ _
            have hT := ty_S_ML (v := a) hM (by rw [hp3]; omega) 8
            rw [hp3] at hT
            refine wa_aload_n (n := 0) rfl ?_
            refine wa_lload_n (n := 3) rfl ?_
            refine wa_cv 237 rfl (wy_pr rfl) wt_237 (M2 := fun _ => False) rfl at_M_types ⟨_, rfl⟩ rfl rfl ⟨trivial, trivial, (Or.inr ⟨wy_pr rfl, fun q => q⟩), trivial, trivial, trivial⟩ trivial (fun _ _ q => False.elim q) (ty_ok hT.1 ⟨by omega, by omega⟩ gb) (fun oq17 Sq17 hp18 q17 => ?_)
            rcases q17 with ⟨rfl, rfl⟩
            show wJ _ _ _ _ _ _ _ _ _ _
            refine wa_aload_n (n := 0) rfl ?_
            refine wb_gfi 237 rfl (wy_pr rfl) wt_237 wf_15_3 (v := ((mf_S S a b) 237 3)) rfl (fun r19 => ?_)
            refine wa_ireturn rfl ?_
            exact Or.inr ⟨⟨ga, gb, by omega⟩, rfl, rfl⟩
          · skip
            refine wa_fall ⟨_, rfl⟩ ?_
            refine wa_iconst ?_
            refine wa_ireturn rfl ?_
            refine Or.inl ⟨?_, rfl, rfl⟩
            rintro ⟨g7, g8, g9⟩
            first | omega | (obtain ⟨t, h1, h2⟩ := ga; exact h2 (g7 t h1)) | (obtain ⟨t, h1, h2⟩ := gb; exact h2 (g8 t h1))
end W63
