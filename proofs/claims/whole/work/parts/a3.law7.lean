/-! THE LAW'S ROWS -/
set_option maxRecDepth 100000 in
theorem lr_0 : mAt t_L_law 0 = some (3, 25, 11, 0, []) := rfl
set_option maxRecDepth 100000 in
theorem lr_3 : mAt t_L_law 3 = some (4, 11, 0, 0, []) := rfl
set_option maxRecDepth 100000 in
theorem lr_4 : mAt t_L_law 4 = some (7, 51, 152, 0, []) := rfl
set_option maxRecDepth 100000 in
theorem lr_7 : mAt t_L_law 7 = some (8, 2, 1, 1, []) := rfl
set_option maxRecDepth 100000 in
theorem lr_8 : mAt t_L_law 8 = some (11, 25, 12, 0, []) := rfl
set_option maxRecDepth 100000 in
theorem lr_11 : mAt t_L_law 11 = some (12, 11, 0, 0, []) := rfl
set_option maxRecDepth 100000 in
theorem lr_12 : mAt t_L_law 12 = some (15, 51, 153, 0, []) := rfl
set_option maxRecDepth 100000 in
theorem lr_15 : mAt t_L_law 15 = some (16, 2, 1, 2, []) := rfl
set_option maxRecDepth 100000 in
theorem lr_16 : mAt t_L_law 16 = some (17, 0, 0, 0, []) := rfl
set_option maxRecDepth 100000 in
theorem lr_17 : mAt t_L_law 17 = some (18, 2, 0, 3, []) := rfl
set_option maxRecDepth 100000 in
theorem lr_18 : mAt t_L_law 18 = some (19, 1, 0, 3, []) := rfl
set_option maxRecDepth 100000 in
theorem lr_19 : mAt t_L_law 19 = some (20, 1, 1, 0, []) := rfl
set_option maxRecDepth 100000 in
theorem lr_20 : mAt t_L_law 20 = some (21, 24, 0, 0, []) := rfl
set_option maxRecDepth 100000 in
theorem lr_21 : mAt t_L_law 21 = some (22, 0, 4, 0, []) := rfl
set_option maxRecDepth 100000 in
theorem lr_22 : mAt t_L_law 22 = some (23, 4, 1, 0, []) := rfl
set_option maxRecDepth 100000 in
theorem lr_23 : mAt t_L_law 23 = some (26, 7, 1305, 4, []) := rfl
set_option maxRecDepth 100000 in
theorem lr_26 : mAt t_L_law 26 = some (27, 1, 1, 0, []) := rfl
set_option maxRecDepth 100000 in
theorem lr_27 : mAt t_L_law 27 = some (28, 1, 0, 3, []) := rfl
set_option maxRecDepth 100000 in
theorem lr_28 : mAt t_L_law 28 = some (29, 18, 0, 0, []) := rfl
set_option maxRecDepth 100000 in
theorem lr_29 : mAt t_L_law 29 = some (31, 0, 63, 0, []) := rfl
set_option maxRecDepth 100000 in
theorem lr_31 : mAt t_L_law 31 = some (32, 4, 5, 0, []) := rfl
set_option maxRecDepth 100000 in
theorem lr_32 : mAt t_L_law 32 = some (196, 40, 1299, 0, [(0, 196), (1, 219), (2, 232), (3, 275), (4, 298), (5, 331), (6, 374), (7, 417), (8, 440), (9, 463), (10, 496), (11, 539), (12, 562), (13, 595), (14, 628), (15, 651), (16, 674), (17, 707), (18, 740), (19, 753), (20, 776), (21, 819), (22, 862), (23, 895), (24, 928), (25, 961), (26, 1005), (27, 1039), (28, 1082), (29, 1105), (30, 1138), (31, 1151), (32, 1194), (33, 1217), (34, 1250), (35, 1263), (36, 1276)]) := rfl
set_option maxRecDepth 100000 in
theorem lr_196 : mAt t_L_law 196 = some (197, 1, 1, 1, []) := rfl
set_option maxRecDepth 100000 in
theorem lr_197 : mAt t_L_law 197 = some (198, 1, 1, 0, []) := rfl
set_option maxRecDepth 100000 in
theorem lr_198 : mAt t_L_law 198 = some (199, 1, 0, 3, []) := rfl
set_option maxRecDepth 100000 in
theorem lr_199 : mAt t_L_law 199 = some (200, 0, 1, 0, []) := rfl
set_option maxRecDepth 100000 in
theorem lr_200 : mAt t_L_law 200 = some (201, 4, 0, 0, []) := rfl
set_option maxRecDepth 100000 in
theorem lr_201 : mAt t_L_law 201 = some (202, 18, 0, 0, []) := rfl
set_option maxRecDepth 100000 in
theorem lr_202 : mAt t_L_law 202 = some (205, 51, 154, 1, []) := rfl
set_option maxRecDepth 100000 in
theorem lr_205 : mAt t_L_law 205 = some (206, 1, 1, 2, []) := rfl
set_option maxRecDepth 100000 in
theorem lr_206 : mAt t_L_law 206 = some (207, 1, 1, 0, []) := rfl
set_option maxRecDepth 100000 in
theorem lr_207 : mAt t_L_law 207 = some (208, 1, 0, 3, []) := rfl
set_option maxRecDepth 100000 in
theorem lr_208 : mAt t_L_law 208 = some (209, 0, 1, 0, []) := rfl
set_option maxRecDepth 100000 in
theorem lr_209 : mAt t_L_law 209 = some (210, 4, 0, 0, []) := rfl
set_option maxRecDepth 100000 in
theorem lr_210 : mAt t_L_law 210 = some (211, 18, 0, 0, []) := rfl
set_option maxRecDepth 100000 in
theorem lr_211 : mAt t_L_law 211 = some (214, 51, 155, 1, []) := rfl
set_option maxRecDepth 100000 in
theorem lr_214 : mAt t_L_law 214 = some (217, 7, 1299, 0, []) := rfl
set_option maxRecDepth 100000 in
theorem lr_217 : mAt t_L_law 217 = some (218, 0, 0, 0, []) := rfl
set_option maxRecDepth 100000 in
theorem lr_218 : mAt t_L_law 218 = some (219, 60, 0, 0, []) := rfl
set_option maxRecDepth 100000 in
theorem lr_219 : mAt t_L_law 219 = some (220, 1, 1, 1, []) := rfl
set_option maxRecDepth 100000 in
theorem lr_220 : mAt t_L_law 220 = some (223, 51, 156, 0, []) := rfl
set_option maxRecDepth 100000 in
theorem lr_223 : mAt t_L_law 223 = some (224, 1, 1, 2, []) := rfl
set_option maxRecDepth 100000 in
theorem lr_224 : mAt t_L_law 224 = some (227, 51, 157, 0, []) := rfl
set_option maxRecDepth 100000 in
theorem lr_227 : mAt t_L_law 227 = some (230, 7, 1299, 0, []) := rfl
set_option maxRecDepth 100000 in
theorem lr_230 : mAt t_L_law 230 = some (231, 0, 0, 0, []) := rfl
set_option maxRecDepth 100000 in
theorem lr_231 : mAt t_L_law 231 = some (232, 60, 0, 0, []) := rfl
set_option maxRecDepth 100000 in
theorem lr_232 : mAt t_L_law 232 = some (233, 1, 1, 1, []) := rfl
set_option maxRecDepth 100000 in
theorem lr_233 : mAt t_L_law 233 = some (234, 1, 1, 0, []) := rfl
set_option maxRecDepth 100000 in
theorem lr_234 : mAt t_L_law 234 = some (235, 1, 0, 3, []) := rfl
set_option maxRecDepth 100000 in
theorem lr_235 : mAt t_L_law 235 = some (236, 0, 1, 0, []) := rfl
set_option maxRecDepth 100000 in
theorem lr_236 : mAt t_L_law 236 = some (237, 4, 0, 0, []) := rfl
set_option maxRecDepth 100000 in
theorem lr_237 : mAt t_L_law 237 = some (238, 18, 0, 0, []) := rfl
set_option maxRecDepth 100000 in
theorem lr_238 : mAt t_L_law 238 = some (239, 1, 1, 0, []) := rfl
set_option maxRecDepth 100000 in
theorem lr_239 : mAt t_L_law 239 = some (240, 1, 0, 3, []) := rfl
set_option maxRecDepth 100000 in
theorem lr_240 : mAt t_L_law 240 = some (241, 0, 2, 0, []) := rfl
set_option maxRecDepth 100000 in
theorem lr_241 : mAt t_L_law 241 = some (242, 4, 0, 0, []) := rfl
set_option maxRecDepth 100000 in
theorem lr_242 : mAt t_L_law 242 = some (243, 18, 0, 0, []) := rfl
set_option maxRecDepth 100000 in
theorem lr_243 : mAt t_L_law 243 = some (244, 1, 1, 0, []) := rfl
set_option maxRecDepth 100000 in
theorem lr_244 : mAt t_L_law 244 = some (245, 1, 0, 3, []) := rfl
set_option maxRecDepth 100000 in
theorem lr_245 : mAt t_L_law 245 = some (246, 0, 3, 0, []) := rfl
set_option maxRecDepth 100000 in
theorem lr_246 : mAt t_L_law 246 = some (247, 4, 0, 0, []) := rfl
set_option maxRecDepth 100000 in
theorem lr_247 : mAt t_L_law 247 = some (248, 18, 0, 0, []) := rfl
set_option maxRecDepth 100000 in
theorem lr_248 : mAt t_L_law 248 = some (251, 51, 158, 3, []) := rfl
set_option maxRecDepth 100000 in
theorem lr_251 : mAt t_L_law 251 = some (252, 1, 1, 2, []) := rfl
set_option maxRecDepth 100000 in
theorem lr_252 : mAt t_L_law 252 = some (253, 1, 1, 0, []) := rfl
set_option maxRecDepth 100000 in
theorem lr_253 : mAt t_L_law 253 = some (254, 1, 0, 3, []) := rfl
set_option maxRecDepth 100000 in
theorem lr_254 : mAt t_L_law 254 = some (255, 0, 1, 0, []) := rfl
set_option maxRecDepth 100000 in
theorem lr_255 : mAt t_L_law 255 = some (256, 4, 0, 0, []) := rfl
set_option maxRecDepth 100000 in
theorem lr_256 : mAt t_L_law 256 = some (257, 18, 0, 0, []) := rfl
set_option maxRecDepth 100000 in
theorem lr_257 : mAt t_L_law 257 = some (258, 1, 1, 0, []) := rfl
set_option maxRecDepth 100000 in
theorem lr_258 : mAt t_L_law 258 = some (259, 1, 0, 3, []) := rfl
set_option maxRecDepth 100000 in
theorem lr_259 : mAt t_L_law 259 = some (260, 0, 2, 0, []) := rfl
set_option maxRecDepth 100000 in
theorem lr_260 : mAt t_L_law 260 = some (261, 4, 0, 0, []) := rfl
set_option maxRecDepth 100000 in
theorem lr_261 : mAt t_L_law 261 = some (262, 18, 0, 0, []) := rfl
set_option maxRecDepth 100000 in
theorem lr_262 : mAt t_L_law 262 = some (263, 1, 1, 0, []) := rfl
set_option maxRecDepth 100000 in
theorem lr_263 : mAt t_L_law 263 = some (264, 1, 0, 3, []) := rfl
set_option maxRecDepth 100000 in
theorem lr_264 : mAt t_L_law 264 = some (265, 0, 3, 0, []) := rfl
set_option maxRecDepth 100000 in
theorem lr_265 : mAt t_L_law 265 = some (266, 4, 0, 0, []) := rfl
set_option maxRecDepth 100000 in
theorem lr_266 : mAt t_L_law 266 = some (267, 18, 0, 0, []) := rfl
set_option maxRecDepth 100000 in
theorem lr_267 : mAt t_L_law 267 = some (270, 51, 159, 3, []) := rfl
set_option maxRecDepth 100000 in
theorem lr_270 : mAt t_L_law 270 = some (273, 7, 1299, 0, []) := rfl
set_option maxRecDepth 100000 in
theorem lr_273 : mAt t_L_law 273 = some (274, 0, 0, 0, []) := rfl
set_option maxRecDepth 100000 in
theorem lr_274 : mAt t_L_law 274 = some (275, 60, 0, 0, []) := rfl
set_option maxRecDepth 100000 in
theorem lr_275 : mAt t_L_law 275 = some (276, 1, 1, 1, []) := rfl
set_option maxRecDepth 100000 in
theorem lr_276 : mAt t_L_law 276 = some (277, 1, 1, 0, []) := rfl
set_option maxRecDepth 100000 in
theorem lr_277 : mAt t_L_law 277 = some (278, 1, 0, 3, []) := rfl
set_option maxRecDepth 100000 in
theorem lr_278 : mAt t_L_law 278 = some (279, 0, 1, 0, []) := rfl
set_option maxRecDepth 100000 in
theorem lr_279 : mAt t_L_law 279 = some (280, 4, 0, 0, []) := rfl
set_option maxRecDepth 100000 in
theorem lr_280 : mAt t_L_law 280 = some (281, 18, 0, 0, []) := rfl
set_option maxRecDepth 100000 in
theorem lr_281 : mAt t_L_law 281 = some (284, 51, 160, 1, []) := rfl
set_option maxRecDepth 100000 in
theorem lr_284 : mAt t_L_law 284 = some (285, 1, 1, 2, []) := rfl
set_option maxRecDepth 100000 in
theorem lr_285 : mAt t_L_law 285 = some (286, 1, 1, 0, []) := rfl
set_option maxRecDepth 100000 in
theorem lr_286 : mAt t_L_law 286 = some (287, 1, 0, 3, []) := rfl
set_option maxRecDepth 100000 in
theorem lr_287 : mAt t_L_law 287 = some (288, 0, 1, 0, []) := rfl
set_option maxRecDepth 100000 in
theorem lr_288 : mAt t_L_law 288 = some (289, 4, 0, 0, []) := rfl
set_option maxRecDepth 100000 in
theorem lr_289 : mAt t_L_law 289 = some (290, 18, 0, 0, []) := rfl
set_option maxRecDepth 100000 in
theorem lr_290 : mAt t_L_law 290 = some (293, 51, 161, 1, []) := rfl
set_option maxRecDepth 100000 in
theorem lr_293 : mAt t_L_law 293 = some (296, 7, 1299, 0, []) := rfl
set_option maxRecDepth 100000 in
theorem lr_296 : mAt t_L_law 296 = some (297, 0, 0, 0, []) := rfl
set_option maxRecDepth 100000 in
theorem lr_297 : mAt t_L_law 297 = some (298, 60, 0, 0, []) := rfl
set_option maxRecDepth 100000 in
theorem lr_298 : mAt t_L_law 298 = some (299, 1, 1, 1, []) := rfl
set_option maxRecDepth 100000 in
theorem lr_299 : mAt t_L_law 299 = some (300, 1, 1, 0, []) := rfl
set_option maxRecDepth 100000 in
theorem lr_300 : mAt t_L_law 300 = some (301, 1, 0, 3, []) := rfl
set_option maxRecDepth 100000 in
theorem lr_301 : mAt t_L_law 301 = some (302, 0, 1, 0, []) := rfl
set_option maxRecDepth 100000 in
theorem lr_302 : mAt t_L_law 302 = some (303, 4, 0, 0, []) := rfl
set_option maxRecDepth 100000 in
theorem lr_303 : mAt t_L_law 303 = some (304, 18, 0, 0, []) := rfl
set_option maxRecDepth 100000 in
theorem lr_304 : mAt t_L_law 304 = some (305, 1, 1, 0, []) := rfl
set_option maxRecDepth 100000 in
theorem lr_305 : mAt t_L_law 305 = some (306, 1, 0, 3, []) := rfl
set_option maxRecDepth 100000 in
theorem lr_306 : mAt t_L_law 306 = some (307, 0, 2, 0, []) := rfl
set_option maxRecDepth 100000 in
theorem lr_307 : mAt t_L_law 307 = some (308, 4, 0, 0, []) := rfl
set_option maxRecDepth 100000 in
theorem lr_308 : mAt t_L_law 308 = some (309, 18, 0, 0, []) := rfl
set_option maxRecDepth 100000 in
theorem lr_309 : mAt t_L_law 309 = some (312, 51, 162, 2, []) := rfl
set_option maxRecDepth 100000 in
theorem lr_312 : mAt t_L_law 312 = some (313, 1, 1, 2, []) := rfl
set_option maxRecDepth 100000 in
theorem lr_313 : mAt t_L_law 313 = some (314, 1, 1, 0, []) := rfl
set_option maxRecDepth 100000 in
theorem lr_314 : mAt t_L_law 314 = some (315, 1, 0, 3, []) := rfl
set_option maxRecDepth 100000 in
theorem lr_315 : mAt t_L_law 315 = some (316, 0, 1, 0, []) := rfl
set_option maxRecDepth 100000 in
theorem lr_316 : mAt t_L_law 316 = some (317, 4, 0, 0, []) := rfl
set_option maxRecDepth 100000 in
theorem lr_317 : mAt t_L_law 317 = some (318, 18, 0, 0, []) := rfl
set_option maxRecDepth 100000 in
theorem lr_318 : mAt t_L_law 318 = some (319, 1, 1, 0, []) := rfl
set_option maxRecDepth 100000 in
theorem lr_319 : mAt t_L_law 319 = some (320, 1, 0, 3, []) := rfl
set_option maxRecDepth 100000 in
theorem lr_320 : mAt t_L_law 320 = some (321, 0, 2, 0, []) := rfl
set_option maxRecDepth 100000 in
theorem lr_321 : mAt t_L_law 321 = some (322, 4, 0, 0, []) := rfl
set_option maxRecDepth 100000 in
theorem lr_322 : mAt t_L_law 322 = some (323, 18, 0, 0, []) := rfl
set_option maxRecDepth 100000 in
theorem lr_323 : mAt t_L_law 323 = some (326, 51, 163, 2, []) := rfl
set_option maxRecDepth 100000 in
theorem lr_326 : mAt t_L_law 326 = some (329, 7, 1299, 0, []) := rfl
set_option maxRecDepth 100000 in
theorem lr_329 : mAt t_L_law 329 = some (330, 0, 0, 0, []) := rfl
set_option maxRecDepth 100000 in
theorem lr_330 : mAt t_L_law 330 = some (331, 60, 0, 0, []) := rfl
set_option maxRecDepth 100000 in
theorem lr_331 : mAt t_L_law 331 = some (332, 1, 1, 1, []) := rfl
set_option maxRecDepth 100000 in
theorem lr_332 : mAt t_L_law 332 = some (333, 1, 1, 0, []) := rfl
set_option maxRecDepth 100000 in
theorem lr_333 : mAt t_L_law 333 = some (334, 1, 0, 3, []) := rfl
set_option maxRecDepth 100000 in
theorem lr_334 : mAt t_L_law 334 = some (335, 0, 1, 0, []) := rfl
set_option maxRecDepth 100000 in
theorem lr_335 : mAt t_L_law 335 = some (336, 4, 0, 0, []) := rfl
set_option maxRecDepth 100000 in
theorem lr_336 : mAt t_L_law 336 = some (337, 18, 0, 0, []) := rfl
set_option maxRecDepth 100000 in
theorem lr_337 : mAt t_L_law 337 = some (338, 1, 1, 0, []) := rfl
set_option maxRecDepth 100000 in
theorem lr_338 : mAt t_L_law 338 = some (339, 1, 0, 3, []) := rfl
set_option maxRecDepth 100000 in
theorem lr_339 : mAt t_L_law 339 = some (340, 0, 2, 0, []) := rfl
set_option maxRecDepth 100000 in
theorem lr_340 : mAt t_L_law 340 = some (341, 4, 0, 0, []) := rfl
set_option maxRecDepth 100000 in
theorem lr_341 : mAt t_L_law 341 = some (342, 18, 0, 0, []) := rfl
set_option maxRecDepth 100000 in
theorem lr_342 : mAt t_L_law 342 = some (343, 1, 1, 0, []) := rfl
set_option maxRecDepth 100000 in
theorem lr_343 : mAt t_L_law 343 = some (344, 1, 0, 3, []) := rfl
set_option maxRecDepth 100000 in
theorem lr_344 : mAt t_L_law 344 = some (345, 0, 3, 0, []) := rfl
set_option maxRecDepth 100000 in
theorem lr_345 : mAt t_L_law 345 = some (346, 4, 0, 0, []) := rfl
set_option maxRecDepth 100000 in
theorem lr_346 : mAt t_L_law 346 = some (347, 18, 0, 0, []) := rfl
set_option maxRecDepth 100000 in
theorem lr_347 : mAt t_L_law 347 = some (350, 51, 164, 3, []) := rfl
set_option maxRecDepth 100000 in
theorem lr_350 : mAt t_L_law 350 = some (351, 1, 1, 2, []) := rfl
set_option maxRecDepth 100000 in
theorem lr_351 : mAt t_L_law 351 = some (352, 1, 1, 0, []) := rfl
set_option maxRecDepth 100000 in
theorem lr_352 : mAt t_L_law 352 = some (353, 1, 0, 3, []) := rfl
set_option maxRecDepth 100000 in
theorem lr_353 : mAt t_L_law 353 = some (354, 0, 1, 0, []) := rfl
set_option maxRecDepth 100000 in
theorem lr_354 : mAt t_L_law 354 = some (355, 4, 0, 0, []) := rfl
set_option maxRecDepth 100000 in
theorem lr_355 : mAt t_L_law 355 = some (356, 18, 0, 0, []) := rfl
set_option maxRecDepth 100000 in
theorem lr_356 : mAt t_L_law 356 = some (357, 1, 1, 0, []) := rfl
set_option maxRecDepth 100000 in
theorem lr_357 : mAt t_L_law 357 = some (358, 1, 0, 3, []) := rfl
set_option maxRecDepth 100000 in
theorem lr_358 : mAt t_L_law 358 = some (359, 0, 2, 0, []) := rfl
set_option maxRecDepth 100000 in
theorem lr_359 : mAt t_L_law 359 = some (360, 4, 0, 0, []) := rfl
set_option maxRecDepth 100000 in
theorem lr_360 : mAt t_L_law 360 = some (361, 18, 0, 0, []) := rfl
set_option maxRecDepth 100000 in
theorem lr_361 : mAt t_L_law 361 = some (362, 1, 1, 0, []) := rfl
set_option maxRecDepth 100000 in
theorem lr_362 : mAt t_L_law 362 = some (363, 1, 0, 3, []) := rfl
set_option maxRecDepth 100000 in
theorem lr_363 : mAt t_L_law 363 = some (364, 0, 3, 0, []) := rfl
set_option maxRecDepth 100000 in
theorem lr_364 : mAt t_L_law 364 = some (365, 4, 0, 0, []) := rfl
set_option maxRecDepth 100000 in
theorem lr_365 : mAt t_L_law 365 = some (366, 18, 0, 0, []) := rfl
set_option maxRecDepth 100000 in
theorem lr_366 : mAt t_L_law 366 = some (369, 51, 165, 3, []) := rfl
set_option maxRecDepth 100000 in
theorem lr_369 : mAt t_L_law 369 = some (372, 7, 1299, 0, []) := rfl
set_option maxRecDepth 100000 in
theorem lr_372 : mAt t_L_law 372 = some (373, 0, 0, 0, []) := rfl
set_option maxRecDepth 100000 in
theorem lr_373 : mAt t_L_law 373 = some (374, 60, 0, 0, []) := rfl
set_option maxRecDepth 100000 in
theorem lr_374 : mAt t_L_law 374 = some (375, 1, 1, 1, []) := rfl
set_option maxRecDepth 100000 in
theorem lr_375 : mAt t_L_law 375 = some (376, 1, 1, 0, []) := rfl
set_option maxRecDepth 100000 in
theorem lr_376 : mAt t_L_law 376 = some (377, 1, 0, 3, []) := rfl
set_option maxRecDepth 100000 in
theorem lr_377 : mAt t_L_law 377 = some (378, 0, 1, 0, []) := rfl
set_option maxRecDepth 100000 in
theorem lr_378 : mAt t_L_law 378 = some (379, 4, 0, 0, []) := rfl
set_option maxRecDepth 100000 in
theorem lr_379 : mAt t_L_law 379 = some (380, 18, 0, 0, []) := rfl
set_option maxRecDepth 100000 in
theorem lr_380 : mAt t_L_law 380 = some (381, 1, 1, 0, []) := rfl
set_option maxRecDepth 100000 in
theorem lr_381 : mAt t_L_law 381 = some (382, 1, 0, 3, []) := rfl
set_option maxRecDepth 100000 in
theorem lr_382 : mAt t_L_law 382 = some (383, 0, 2, 0, []) := rfl
set_option maxRecDepth 100000 in
theorem lr_383 : mAt t_L_law 383 = some (384, 4, 0, 0, []) := rfl
set_option maxRecDepth 100000 in
theorem lr_384 : mAt t_L_law 384 = some (385, 18, 0, 0, []) := rfl
set_option maxRecDepth 100000 in
theorem lr_385 : mAt t_L_law 385 = some (386, 1, 1, 0, []) := rfl
set_option maxRecDepth 100000 in
theorem lr_386 : mAt t_L_law 386 = some (387, 1, 0, 3, []) := rfl
set_option maxRecDepth 100000 in
theorem lr_387 : mAt t_L_law 387 = some (388, 0, 3, 0, []) := rfl
set_option maxRecDepth 100000 in
theorem lr_388 : mAt t_L_law 388 = some (389, 4, 0, 0, []) := rfl
set_option maxRecDepth 100000 in
theorem lr_389 : mAt t_L_law 389 = some (390, 18, 0, 0, []) := rfl
set_option maxRecDepth 100000 in
theorem lr_390 : mAt t_L_law 390 = some (393, 51, 166, 3, []) := rfl
set_option maxRecDepth 100000 in
theorem lr_393 : mAt t_L_law 393 = some (394, 1, 1, 2, []) := rfl
set_option maxRecDepth 100000 in
theorem lr_394 : mAt t_L_law 394 = some (395, 1, 1, 0, []) := rfl
set_option maxRecDepth 100000 in
theorem lr_395 : mAt t_L_law 395 = some (396, 1, 0, 3, []) := rfl
set_option maxRecDepth 100000 in
theorem lr_396 : mAt t_L_law 396 = some (397, 0, 1, 0, []) := rfl
set_option maxRecDepth 100000 in
theorem lr_397 : mAt t_L_law 397 = some (398, 4, 0, 0, []) := rfl
set_option maxRecDepth 100000 in
theorem lr_398 : mAt t_L_law 398 = some (399, 18, 0, 0, []) := rfl
set_option maxRecDepth 100000 in
theorem lr_399 : mAt t_L_law 399 = some (400, 1, 1, 0, []) := rfl
set_option maxRecDepth 100000 in
theorem lr_400 : mAt t_L_law 400 = some (401, 1, 0, 3, []) := rfl
set_option maxRecDepth 100000 in
theorem lr_401 : mAt t_L_law 401 = some (402, 0, 2, 0, []) := rfl
set_option maxRecDepth 100000 in
theorem lr_402 : mAt t_L_law 402 = some (403, 4, 0, 0, []) := rfl
set_option maxRecDepth 100000 in
theorem lr_403 : mAt t_L_law 403 = some (404, 18, 0, 0, []) := rfl
set_option maxRecDepth 100000 in
theorem lr_404 : mAt t_L_law 404 = some (405, 1, 1, 0, []) := rfl
set_option maxRecDepth 100000 in
theorem lr_405 : mAt t_L_law 405 = some (406, 1, 0, 3, []) := rfl
set_option maxRecDepth 100000 in
theorem lr_406 : mAt t_L_law 406 = some (407, 0, 3, 0, []) := rfl
set_option maxRecDepth 100000 in
theorem lr_407 : mAt t_L_law 407 = some (408, 4, 0, 0, []) := rfl
set_option maxRecDepth 100000 in
theorem lr_408 : mAt t_L_law 408 = some (409, 18, 0, 0, []) := rfl
set_option maxRecDepth 100000 in
theorem lr_409 : mAt t_L_law 409 = some (412, 51, 167, 3, []) := rfl
set_option maxRecDepth 100000 in
theorem lr_412 : mAt t_L_law 412 = some (415, 7, 1299, 0, []) := rfl
set_option maxRecDepth 100000 in
theorem lr_415 : mAt t_L_law 415 = some (416, 0, 0, 0, []) := rfl
set_option maxRecDepth 100000 in
theorem lr_416 : mAt t_L_law 416 = some (417, 60, 0, 0, []) := rfl
set_option maxRecDepth 100000 in
theorem lr_417 : mAt t_L_law 417 = some (418, 1, 1, 1, []) := rfl
set_option maxRecDepth 100000 in
theorem lr_418 : mAt t_L_law 418 = some (419, 1, 1, 0, []) := rfl
set_option maxRecDepth 100000 in
theorem lr_419 : mAt t_L_law 419 = some (420, 1, 0, 3, []) := rfl
set_option maxRecDepth 100000 in
theorem lr_420 : mAt t_L_law 420 = some (421, 0, 1, 0, []) := rfl
set_option maxRecDepth 100000 in
theorem lr_421 : mAt t_L_law 421 = some (422, 4, 0, 0, []) := rfl
set_option maxRecDepth 100000 in
theorem lr_422 : mAt t_L_law 422 = some (423, 18, 0, 0, []) := rfl
set_option maxRecDepth 100000 in
theorem lr_423 : mAt t_L_law 423 = some (426, 51, 168, 1, []) := rfl
set_option maxRecDepth 100000 in
theorem lr_426 : mAt t_L_law 426 = some (427, 1, 1, 2, []) := rfl
set_option maxRecDepth 100000 in
theorem lr_427 : mAt t_L_law 427 = some (428, 1, 1, 0, []) := rfl
set_option maxRecDepth 100000 in
theorem lr_428 : mAt t_L_law 428 = some (429, 1, 0, 3, []) := rfl
set_option maxRecDepth 100000 in
theorem lr_429 : mAt t_L_law 429 = some (430, 0, 1, 0, []) := rfl
set_option maxRecDepth 100000 in
theorem lr_430 : mAt t_L_law 430 = some (431, 4, 0, 0, []) := rfl
set_option maxRecDepth 100000 in
theorem lr_431 : mAt t_L_law 431 = some (432, 18, 0, 0, []) := rfl
set_option maxRecDepth 100000 in
theorem lr_432 : mAt t_L_law 432 = some (435, 51, 169, 1, []) := rfl
set_option maxRecDepth 100000 in
theorem lr_435 : mAt t_L_law 435 = some (438, 7, 1299, 0, []) := rfl
set_option maxRecDepth 100000 in
theorem lr_438 : mAt t_L_law 438 = some (439, 0, 0, 0, []) := rfl
set_option maxRecDepth 100000 in
theorem lr_439 : mAt t_L_law 439 = some (440, 60, 0, 0, []) := rfl
set_option maxRecDepth 100000 in
theorem lr_440 : mAt t_L_law 440 = some (441, 1, 1, 1, []) := rfl
set_option maxRecDepth 100000 in
theorem lr_441 : mAt t_L_law 441 = some (442, 1, 1, 0, []) := rfl
set_option maxRecDepth 100000 in
theorem lr_442 : mAt t_L_law 442 = some (443, 1, 0, 3, []) := rfl
set_option maxRecDepth 100000 in
theorem lr_443 : mAt t_L_law 443 = some (444, 0, 1, 0, []) := rfl
set_option maxRecDepth 100000 in
theorem lr_444 : mAt t_L_law 444 = some (445, 4, 0, 0, []) := rfl
set_option maxRecDepth 100000 in
theorem lr_445 : mAt t_L_law 445 = some (446, 18, 0, 0, []) := rfl
set_option maxRecDepth 100000 in
theorem lr_446 : mAt t_L_law 446 = some (449, 51, 170, 1, []) := rfl
set_option maxRecDepth 100000 in
theorem lr_449 : mAt t_L_law 449 = some (450, 1, 1, 2, []) := rfl
set_option maxRecDepth 100000 in
theorem lr_450 : mAt t_L_law 450 = some (451, 1, 1, 0, []) := rfl
set_option maxRecDepth 100000 in
theorem lr_451 : mAt t_L_law 451 = some (452, 1, 0, 3, []) := rfl
set_option maxRecDepth 100000 in
theorem lr_452 : mAt t_L_law 452 = some (453, 0, 1, 0, []) := rfl
set_option maxRecDepth 100000 in
theorem lr_453 : mAt t_L_law 453 = some (454, 4, 0, 0, []) := rfl
set_option maxRecDepth 100000 in
theorem lr_454 : mAt t_L_law 454 = some (455, 18, 0, 0, []) := rfl
set_option maxRecDepth 100000 in
theorem lr_455 : mAt t_L_law 455 = some (458, 51, 171, 1, []) := rfl
set_option maxRecDepth 100000 in
theorem lr_458 : mAt t_L_law 458 = some (461, 7, 1299, 0, []) := rfl
set_option maxRecDepth 100000 in
theorem lr_461 : mAt t_L_law 461 = some (462, 0, 0, 0, []) := rfl
set_option maxRecDepth 100000 in
theorem lr_462 : mAt t_L_law 462 = some (463, 60, 0, 0, []) := rfl
set_option maxRecDepth 100000 in
theorem lr_463 : mAt t_L_law 463 = some (464, 1, 1, 1, []) := rfl
set_option maxRecDepth 100000 in
theorem lr_464 : mAt t_L_law 464 = some (465, 1, 1, 0, []) := rfl
set_option maxRecDepth 100000 in
theorem lr_465 : mAt t_L_law 465 = some (466, 1, 0, 3, []) := rfl
set_option maxRecDepth 100000 in
theorem lr_466 : mAt t_L_law 466 = some (467, 0, 1, 0, []) := rfl
set_option maxRecDepth 100000 in
theorem lr_467 : mAt t_L_law 467 = some (468, 4, 0, 0, []) := rfl
set_option maxRecDepth 100000 in
theorem lr_468 : mAt t_L_law 468 = some (469, 18, 0, 0, []) := rfl
set_option maxRecDepth 100000 in
theorem lr_469 : mAt t_L_law 469 = some (470, 1, 1, 0, []) := rfl
set_option maxRecDepth 100000 in
theorem lr_470 : mAt t_L_law 470 = some (471, 1, 0, 3, []) := rfl
set_option maxRecDepth 100000 in
theorem lr_471 : mAt t_L_law 471 = some (472, 0, 2, 0, []) := rfl
set_option maxRecDepth 100000 in
theorem lr_472 : mAt t_L_law 472 = some (473, 4, 0, 0, []) := rfl
set_option maxRecDepth 100000 in
theorem lr_473 : mAt t_L_law 473 = some (474, 18, 0, 0, []) := rfl
set_option maxRecDepth 100000 in
theorem lr_474 : mAt t_L_law 474 = some (477, 51, 172, 2, []) := rfl
set_option maxRecDepth 100000 in
theorem lr_477 : mAt t_L_law 477 = some (478, 1, 1, 2, []) := rfl
set_option maxRecDepth 100000 in
theorem lr_478 : mAt t_L_law 478 = some (479, 1, 1, 0, []) := rfl
set_option maxRecDepth 100000 in
theorem lr_479 : mAt t_L_law 479 = some (480, 1, 0, 3, []) := rfl
set_option maxRecDepth 100000 in
theorem lr_480 : mAt t_L_law 480 = some (481, 0, 1, 0, []) := rfl
set_option maxRecDepth 100000 in
theorem lr_481 : mAt t_L_law 481 = some (482, 4, 0, 0, []) := rfl
set_option maxRecDepth 100000 in
theorem lr_482 : mAt t_L_law 482 = some (483, 18, 0, 0, []) := rfl
set_option maxRecDepth 100000 in
theorem lr_483 : mAt t_L_law 483 = some (484, 1, 1, 0, []) := rfl
set_option maxRecDepth 100000 in
theorem lr_484 : mAt t_L_law 484 = some (485, 1, 0, 3, []) := rfl
set_option maxRecDepth 100000 in
theorem lr_485 : mAt t_L_law 485 = some (486, 0, 2, 0, []) := rfl
set_option maxRecDepth 100000 in
theorem lr_486 : mAt t_L_law 486 = some (487, 4, 0, 0, []) := rfl
set_option maxRecDepth 100000 in
theorem lr_487 : mAt t_L_law 487 = some (488, 18, 0, 0, []) := rfl
set_option maxRecDepth 100000 in
theorem lr_488 : mAt t_L_law 488 = some (491, 51, 173, 2, []) := rfl
set_option maxRecDepth 100000 in
theorem lr_491 : mAt t_L_law 491 = some (494, 7, 1299, 0, []) := rfl
set_option maxRecDepth 100000 in
theorem lr_494 : mAt t_L_law 494 = some (495, 0, 0, 0, []) := rfl
set_option maxRecDepth 100000 in
theorem lr_495 : mAt t_L_law 495 = some (496, 60, 0, 0, []) := rfl
set_option maxRecDepth 100000 in
theorem lr_496 : mAt t_L_law 496 = some (497, 1, 1, 1, []) := rfl
set_option maxRecDepth 100000 in
theorem lr_497 : mAt t_L_law 497 = some (498, 1, 1, 0, []) := rfl
set_option maxRecDepth 100000 in
theorem lr_498 : mAt t_L_law 498 = some (499, 1, 0, 3, []) := rfl
set_option maxRecDepth 100000 in
theorem lr_499 : mAt t_L_law 499 = some (500, 0, 1, 0, []) := rfl
set_option maxRecDepth 100000 in
theorem lr_500 : mAt t_L_law 500 = some (501, 4, 0, 0, []) := rfl
set_option maxRecDepth 100000 in
theorem lr_501 : mAt t_L_law 501 = some (502, 18, 0, 0, []) := rfl
set_option maxRecDepth 100000 in
theorem lr_502 : mAt t_L_law 502 = some (503, 1, 1, 0, []) := rfl
set_option maxRecDepth 100000 in
theorem lr_503 : mAt t_L_law 503 = some (504, 1, 0, 3, []) := rfl
set_option maxRecDepth 100000 in
theorem lr_504 : mAt t_L_law 504 = some (505, 0, 2, 0, []) := rfl
set_option maxRecDepth 100000 in
theorem lr_505 : mAt t_L_law 505 = some (506, 4, 0, 0, []) := rfl
set_option maxRecDepth 100000 in
theorem lr_506 : mAt t_L_law 506 = some (507, 18, 0, 0, []) := rfl
set_option maxRecDepth 100000 in
theorem lr_507 : mAt t_L_law 507 = some (508, 1, 1, 0, []) := rfl
set_option maxRecDepth 100000 in
theorem lr_508 : mAt t_L_law 508 = some (509, 1, 0, 3, []) := rfl
set_option maxRecDepth 100000 in
theorem lr_509 : mAt t_L_law 509 = some (510, 0, 3, 0, []) := rfl
set_option maxRecDepth 100000 in
theorem lr_510 : mAt t_L_law 510 = some (511, 4, 0, 0, []) := rfl
set_option maxRecDepth 100000 in
theorem lr_511 : mAt t_L_law 511 = some (512, 18, 0, 0, []) := rfl
set_option maxRecDepth 100000 in
theorem lr_512 : mAt t_L_law 512 = some (515, 51, 174, 3, []) := rfl
set_option maxRecDepth 100000 in
theorem lr_515 : mAt t_L_law 515 = some (516, 1, 1, 2, []) := rfl
set_option maxRecDepth 100000 in
theorem lr_516 : mAt t_L_law 516 = some (517, 1, 1, 0, []) := rfl
set_option maxRecDepth 100000 in
theorem lr_517 : mAt t_L_law 517 = some (518, 1, 0, 3, []) := rfl
set_option maxRecDepth 100000 in
theorem lr_518 : mAt t_L_law 518 = some (519, 0, 1, 0, []) := rfl
set_option maxRecDepth 100000 in
theorem lr_519 : mAt t_L_law 519 = some (520, 4, 0, 0, []) := rfl
set_option maxRecDepth 100000 in
theorem lr_520 : mAt t_L_law 520 = some (521, 18, 0, 0, []) := rfl
set_option maxRecDepth 100000 in
theorem lr_521 : mAt t_L_law 521 = some (522, 1, 1, 0, []) := rfl
set_option maxRecDepth 100000 in
theorem lr_522 : mAt t_L_law 522 = some (523, 1, 0, 3, []) := rfl
set_option maxRecDepth 100000 in
theorem lr_523 : mAt t_L_law 523 = some (524, 0, 2, 0, []) := rfl
set_option maxRecDepth 100000 in
theorem lr_524 : mAt t_L_law 524 = some (525, 4, 0, 0, []) := rfl
set_option maxRecDepth 100000 in
theorem lr_525 : mAt t_L_law 525 = some (526, 18, 0, 0, []) := rfl
set_option maxRecDepth 100000 in
theorem lr_526 : mAt t_L_law 526 = some (527, 1, 1, 0, []) := rfl
set_option maxRecDepth 100000 in
theorem lr_527 : mAt t_L_law 527 = some (528, 1, 0, 3, []) := rfl
set_option maxRecDepth 100000 in
theorem lr_528 : mAt t_L_law 528 = some (529, 0, 3, 0, []) := rfl
set_option maxRecDepth 100000 in
theorem lr_529 : mAt t_L_law 529 = some (530, 4, 0, 0, []) := rfl
set_option maxRecDepth 100000 in
theorem lr_530 : mAt t_L_law 530 = some (531, 18, 0, 0, []) := rfl
set_option maxRecDepth 100000 in
theorem lr_531 : mAt t_L_law 531 = some (534, 51, 175, 3, []) := rfl
set_option maxRecDepth 100000 in
theorem lr_534 : mAt t_L_law 534 = some (537, 7, 1299, 0, []) := rfl
set_option maxRecDepth 100000 in
theorem lr_537 : mAt t_L_law 537 = some (538, 0, 0, 0, []) := rfl
set_option maxRecDepth 100000 in
theorem lr_538 : mAt t_L_law 538 = some (539, 60, 0, 0, []) := rfl
set_option maxRecDepth 100000 in
theorem lr_539 : mAt t_L_law 539 = some (540, 1, 1, 1, []) := rfl
set_option maxRecDepth 100000 in
theorem lr_540 : mAt t_L_law 540 = some (541, 1, 1, 0, []) := rfl
set_option maxRecDepth 100000 in
theorem lr_541 : mAt t_L_law 541 = some (542, 1, 0, 3, []) := rfl
set_option maxRecDepth 100000 in
theorem lr_542 : mAt t_L_law 542 = some (543, 0, 1, 0, []) := rfl
set_option maxRecDepth 100000 in
theorem lr_543 : mAt t_L_law 543 = some (544, 4, 0, 0, []) := rfl
set_option maxRecDepth 100000 in
theorem lr_544 : mAt t_L_law 544 = some (545, 18, 0, 0, []) := rfl
set_option maxRecDepth 100000 in
theorem lr_545 : mAt t_L_law 545 = some (548, 51, 176, 1, []) := rfl
set_option maxRecDepth 100000 in
theorem lr_548 : mAt t_L_law 548 = some (549, 1, 1, 2, []) := rfl
set_option maxRecDepth 100000 in
theorem lr_549 : mAt t_L_law 549 = some (550, 1, 1, 0, []) := rfl
set_option maxRecDepth 100000 in
theorem lr_550 : mAt t_L_law 550 = some (551, 1, 0, 3, []) := rfl
set_option maxRecDepth 100000 in
theorem lr_551 : mAt t_L_law 551 = some (552, 0, 1, 0, []) := rfl
set_option maxRecDepth 100000 in
theorem lr_552 : mAt t_L_law 552 = some (553, 4, 0, 0, []) := rfl
set_option maxRecDepth 100000 in
theorem lr_553 : mAt t_L_law 553 = some (554, 18, 0, 0, []) := rfl
set_option maxRecDepth 100000 in
theorem lr_554 : mAt t_L_law 554 = some (557, 51, 177, 1, []) := rfl
set_option maxRecDepth 100000 in
theorem lr_557 : mAt t_L_law 557 = some (560, 7, 1299, 0, []) := rfl
set_option maxRecDepth 100000 in
theorem lr_560 : mAt t_L_law 560 = some (561, 0, 0, 0, []) := rfl
set_option maxRecDepth 100000 in
theorem lr_561 : mAt t_L_law 561 = some (562, 60, 0, 0, []) := rfl
set_option maxRecDepth 100000 in
theorem lr_562 : mAt t_L_law 562 = some (563, 1, 1, 1, []) := rfl
set_option maxRecDepth 100000 in
theorem lr_563 : mAt t_L_law 563 = some (564, 1, 1, 0, []) := rfl
set_option maxRecDepth 100000 in
theorem lr_564 : mAt t_L_law 564 = some (565, 1, 0, 3, []) := rfl
set_option maxRecDepth 100000 in
theorem lr_565 : mAt t_L_law 565 = some (566, 0, 1, 0, []) := rfl
set_option maxRecDepth 100000 in
theorem lr_566 : mAt t_L_law 566 = some (567, 4, 0, 0, []) := rfl
set_option maxRecDepth 100000 in
theorem lr_567 : mAt t_L_law 567 = some (568, 18, 0, 0, []) := rfl
set_option maxRecDepth 100000 in
theorem lr_568 : mAt t_L_law 568 = some (569, 1, 1, 0, []) := rfl
set_option maxRecDepth 100000 in
theorem lr_569 : mAt t_L_law 569 = some (570, 1, 0, 3, []) := rfl
set_option maxRecDepth 100000 in
theorem lr_570 : mAt t_L_law 570 = some (571, 0, 2, 0, []) := rfl
set_option maxRecDepth 100000 in
theorem lr_571 : mAt t_L_law 571 = some (572, 4, 0, 0, []) := rfl
set_option maxRecDepth 100000 in
theorem lr_572 : mAt t_L_law 572 = some (573, 18, 0, 0, []) := rfl
set_option maxRecDepth 100000 in
theorem lr_573 : mAt t_L_law 573 = some (576, 51, 178, 2, []) := rfl
set_option maxRecDepth 100000 in
theorem lr_576 : mAt t_L_law 576 = some (577, 1, 1, 2, []) := rfl
set_option maxRecDepth 100000 in
theorem lr_577 : mAt t_L_law 577 = some (578, 1, 1, 0, []) := rfl
set_option maxRecDepth 100000 in
theorem lr_578 : mAt t_L_law 578 = some (579, 1, 0, 3, []) := rfl
set_option maxRecDepth 100000 in
theorem lr_579 : mAt t_L_law 579 = some (580, 0, 1, 0, []) := rfl
set_option maxRecDepth 100000 in
theorem lr_580 : mAt t_L_law 580 = some (581, 4, 0, 0, []) := rfl
set_option maxRecDepth 100000 in
theorem lr_581 : mAt t_L_law 581 = some (582, 18, 0, 0, []) := rfl
set_option maxRecDepth 100000 in
theorem lr_582 : mAt t_L_law 582 = some (583, 1, 1, 0, []) := rfl
set_option maxRecDepth 100000 in
theorem lr_583 : mAt t_L_law 583 = some (584, 1, 0, 3, []) := rfl
set_option maxRecDepth 100000 in
theorem lr_584 : mAt t_L_law 584 = some (585, 0, 2, 0, []) := rfl
set_option maxRecDepth 100000 in
theorem lr_585 : mAt t_L_law 585 = some (586, 4, 0, 0, []) := rfl
set_option maxRecDepth 100000 in
theorem lr_586 : mAt t_L_law 586 = some (587, 18, 0, 0, []) := rfl
set_option maxRecDepth 100000 in
theorem lr_587 : mAt t_L_law 587 = some (590, 51, 179, 2, []) := rfl
set_option maxRecDepth 100000 in
theorem lr_590 : mAt t_L_law 590 = some (593, 7, 1299, 0, []) := rfl
set_option maxRecDepth 100000 in
theorem lr_593 : mAt t_L_law 593 = some (594, 0, 0, 0, []) := rfl
set_option maxRecDepth 100000 in
theorem lr_594 : mAt t_L_law 594 = some (595, 60, 0, 0, []) := rfl
set_option maxRecDepth 100000 in
theorem lr_595 : mAt t_L_law 595 = some (596, 1, 1, 1, []) := rfl
set_option maxRecDepth 100000 in
theorem lr_596 : mAt t_L_law 596 = some (597, 1, 1, 0, []) := rfl
set_option maxRecDepth 100000 in
theorem lr_597 : mAt t_L_law 597 = some (598, 1, 0, 3, []) := rfl
set_option maxRecDepth 100000 in
theorem lr_598 : mAt t_L_law 598 = some (599, 0, 1, 0, []) := rfl
set_option maxRecDepth 100000 in
theorem lr_599 : mAt t_L_law 599 = some (600, 4, 0, 0, []) := rfl
set_option maxRecDepth 100000 in
theorem lr_600 : mAt t_L_law 600 = some (601, 18, 0, 0, []) := rfl
set_option maxRecDepth 100000 in
theorem lr_601 : mAt t_L_law 601 = some (602, 1, 1, 0, []) := rfl
set_option maxRecDepth 100000 in
theorem lr_602 : mAt t_L_law 602 = some (603, 1, 0, 3, []) := rfl
set_option maxRecDepth 100000 in
theorem lr_603 : mAt t_L_law 603 = some (604, 0, 2, 0, []) := rfl
set_option maxRecDepth 100000 in
theorem lr_604 : mAt t_L_law 604 = some (605, 4, 0, 0, []) := rfl
set_option maxRecDepth 100000 in
theorem lr_605 : mAt t_L_law 605 = some (606, 18, 0, 0, []) := rfl
set_option maxRecDepth 100000 in
theorem lr_606 : mAt t_L_law 606 = some (609, 51, 180, 2, []) := rfl
set_option maxRecDepth 100000 in
theorem lr_609 : mAt t_L_law 609 = some (610, 1, 1, 2, []) := rfl
set_option maxRecDepth 100000 in
theorem lr_610 : mAt t_L_law 610 = some (611, 1, 1, 0, []) := rfl
set_option maxRecDepth 100000 in
theorem lr_611 : mAt t_L_law 611 = some (612, 1, 0, 3, []) := rfl
set_option maxRecDepth 100000 in
theorem lr_612 : mAt t_L_law 612 = some (613, 0, 1, 0, []) := rfl
set_option maxRecDepth 100000 in
theorem lr_613 : mAt t_L_law 613 = some (614, 4, 0, 0, []) := rfl
set_option maxRecDepth 100000 in
theorem lr_614 : mAt t_L_law 614 = some (615, 18, 0, 0, []) := rfl
set_option maxRecDepth 100000 in
theorem lr_615 : mAt t_L_law 615 = some (616, 1, 1, 0, []) := rfl
set_option maxRecDepth 100000 in
theorem lr_616 : mAt t_L_law 616 = some (617, 1, 0, 3, []) := rfl
set_option maxRecDepth 100000 in
theorem lr_617 : mAt t_L_law 617 = some (618, 0, 2, 0, []) := rfl
set_option maxRecDepth 100000 in
theorem lr_618 : mAt t_L_law 618 = some (619, 4, 0, 0, []) := rfl
set_option maxRecDepth 100000 in
theorem lr_619 : mAt t_L_law 619 = some (620, 18, 0, 0, []) := rfl
set_option maxRecDepth 100000 in
theorem lr_620 : mAt t_L_law 620 = some (623, 51, 181, 2, []) := rfl
set_option maxRecDepth 100000 in
theorem lr_623 : mAt t_L_law 623 = some (626, 7, 1299, 0, []) := rfl
set_option maxRecDepth 100000 in
theorem lr_626 : mAt t_L_law 626 = some (627, 0, 0, 0, []) := rfl
set_option maxRecDepth 100000 in
theorem lr_627 : mAt t_L_law 627 = some (628, 60, 0, 0, []) := rfl
set_option maxRecDepth 100000 in
theorem lr_628 : mAt t_L_law 628 = some (629, 1, 1, 1, []) := rfl
set_option maxRecDepth 100000 in
theorem lr_629 : mAt t_L_law 629 = some (630, 1, 1, 0, []) := rfl
set_option maxRecDepth 100000 in
theorem lr_630 : mAt t_L_law 630 = some (631, 1, 0, 3, []) := rfl
set_option maxRecDepth 100000 in
theorem lr_631 : mAt t_L_law 631 = some (632, 0, 1, 0, []) := rfl
set_option maxRecDepth 100000 in
theorem lr_632 : mAt t_L_law 632 = some (633, 4, 0, 0, []) := rfl
set_option maxRecDepth 100000 in
theorem lr_633 : mAt t_L_law 633 = some (634, 18, 0, 0, []) := rfl
set_option maxRecDepth 100000 in
theorem lr_634 : mAt t_L_law 634 = some (637, 51, 182, 1, []) := rfl
set_option maxRecDepth 100000 in
theorem lr_637 : mAt t_L_law 637 = some (638, 1, 1, 2, []) := rfl
set_option maxRecDepth 100000 in
theorem lr_638 : mAt t_L_law 638 = some (639, 1, 1, 0, []) := rfl
set_option maxRecDepth 100000 in
theorem lr_639 : mAt t_L_law 639 = some (640, 1, 0, 3, []) := rfl
set_option maxRecDepth 100000 in
theorem lr_640 : mAt t_L_law 640 = some (641, 0, 1, 0, []) := rfl
set_option maxRecDepth 100000 in
theorem lr_641 : mAt t_L_law 641 = some (642, 4, 0, 0, []) := rfl
set_option maxRecDepth 100000 in
theorem lr_642 : mAt t_L_law 642 = some (643, 18, 0, 0, []) := rfl
set_option maxRecDepth 100000 in
theorem lr_643 : mAt t_L_law 643 = some (646, 51, 183, 1, []) := rfl
set_option maxRecDepth 100000 in
theorem lr_646 : mAt t_L_law 646 = some (649, 7, 1299, 0, []) := rfl
set_option maxRecDepth 100000 in
theorem lr_649 : mAt t_L_law 649 = some (650, 0, 0, 0, []) := rfl
set_option maxRecDepth 100000 in
theorem lr_650 : mAt t_L_law 650 = some (651, 60, 0, 0, []) := rfl
set_option maxRecDepth 100000 in
theorem lr_651 : mAt t_L_law 651 = some (652, 1, 1, 1, []) := rfl
set_option maxRecDepth 100000 in
theorem lr_652 : mAt t_L_law 652 = some (653, 1, 1, 0, []) := rfl
set_option maxRecDepth 100000 in
theorem lr_653 : mAt t_L_law 653 = some (654, 1, 0, 3, []) := rfl
set_option maxRecDepth 100000 in
theorem lr_654 : mAt t_L_law 654 = some (655, 0, 1, 0, []) := rfl
set_option maxRecDepth 100000 in
theorem lr_655 : mAt t_L_law 655 = some (656, 4, 0, 0, []) := rfl
set_option maxRecDepth 100000 in
theorem lr_656 : mAt t_L_law 656 = some (657, 18, 0, 0, []) := rfl
set_option maxRecDepth 100000 in
theorem lr_657 : mAt t_L_law 657 = some (660, 51, 184, 1, []) := rfl
set_option maxRecDepth 100000 in
theorem lr_660 : mAt t_L_law 660 = some (661, 1, 1, 2, []) := rfl
set_option maxRecDepth 100000 in
theorem lr_661 : mAt t_L_law 661 = some (662, 1, 1, 0, []) := rfl
set_option maxRecDepth 100000 in
theorem lr_662 : mAt t_L_law 662 = some (663, 1, 0, 3, []) := rfl
set_option maxRecDepth 100000 in
theorem lr_663 : mAt t_L_law 663 = some (664, 0, 1, 0, []) := rfl
set_option maxRecDepth 100000 in
theorem lr_664 : mAt t_L_law 664 = some (665, 4, 0, 0, []) := rfl
set_option maxRecDepth 100000 in
theorem lr_665 : mAt t_L_law 665 = some (666, 18, 0, 0, []) := rfl
set_option maxRecDepth 100000 in
theorem lr_666 : mAt t_L_law 666 = some (669, 51, 185, 1, []) := rfl
set_option maxRecDepth 100000 in
theorem lr_669 : mAt t_L_law 669 = some (672, 7, 1299, 0, []) := rfl
set_option maxRecDepth 100000 in
theorem lr_672 : mAt t_L_law 672 = some (673, 0, 0, 0, []) := rfl
set_option maxRecDepth 100000 in
theorem lr_673 : mAt t_L_law 673 = some (674, 60, 0, 0, []) := rfl
set_option maxRecDepth 100000 in
theorem lr_674 : mAt t_L_law 674 = some (675, 1, 1, 1, []) := rfl
set_option maxRecDepth 100000 in
theorem lr_675 : mAt t_L_law 675 = some (676, 1, 1, 0, []) := rfl
set_option maxRecDepth 100000 in
theorem lr_676 : mAt t_L_law 676 = some (677, 1, 0, 3, []) := rfl
set_option maxRecDepth 100000 in
theorem lr_677 : mAt t_L_law 677 = some (678, 0, 1, 0, []) := rfl
set_option maxRecDepth 100000 in
theorem lr_678 : mAt t_L_law 678 = some (679, 4, 0, 0, []) := rfl
set_option maxRecDepth 100000 in
theorem lr_679 : mAt t_L_law 679 = some (680, 18, 0, 0, []) := rfl
set_option maxRecDepth 100000 in
theorem lr_680 : mAt t_L_law 680 = some (681, 1, 1, 0, []) := rfl
set_option maxRecDepth 100000 in
theorem lr_681 : mAt t_L_law 681 = some (682, 1, 0, 3, []) := rfl
set_option maxRecDepth 100000 in
theorem lr_682 : mAt t_L_law 682 = some (683, 0, 2, 0, []) := rfl
set_option maxRecDepth 100000 in
theorem lr_683 : mAt t_L_law 683 = some (684, 4, 0, 0, []) := rfl
set_option maxRecDepth 100000 in
theorem lr_684 : mAt t_L_law 684 = some (685, 18, 0, 0, []) := rfl
set_option maxRecDepth 100000 in
theorem lr_685 : mAt t_L_law 685 = some (688, 51, 186, 2, []) := rfl
set_option maxRecDepth 100000 in
theorem lr_688 : mAt t_L_law 688 = some (689, 1, 1, 2, []) := rfl
set_option maxRecDepth 100000 in
theorem lr_689 : mAt t_L_law 689 = some (690, 1, 1, 0, []) := rfl
set_option maxRecDepth 100000 in
theorem lr_690 : mAt t_L_law 690 = some (691, 1, 0, 3, []) := rfl
set_option maxRecDepth 100000 in
theorem lr_691 : mAt t_L_law 691 = some (692, 0, 1, 0, []) := rfl
set_option maxRecDepth 100000 in
theorem lr_692 : mAt t_L_law 692 = some (693, 4, 0, 0, []) := rfl
set_option maxRecDepth 100000 in
theorem lr_693 : mAt t_L_law 693 = some (694, 18, 0, 0, []) := rfl
set_option maxRecDepth 100000 in
theorem lr_694 : mAt t_L_law 694 = some (695, 1, 1, 0, []) := rfl
set_option maxRecDepth 100000 in
theorem lr_695 : mAt t_L_law 695 = some (696, 1, 0, 3, []) := rfl
set_option maxRecDepth 100000 in
theorem lr_696 : mAt t_L_law 696 = some (697, 0, 2, 0, []) := rfl
set_option maxRecDepth 100000 in
theorem lr_697 : mAt t_L_law 697 = some (698, 4, 0, 0, []) := rfl
set_option maxRecDepth 100000 in
theorem lr_698 : mAt t_L_law 698 = some (699, 18, 0, 0, []) := rfl
set_option maxRecDepth 100000 in
theorem lr_699 : mAt t_L_law 699 = some (702, 51, 187, 2, []) := rfl
set_option maxRecDepth 100000 in
theorem lr_702 : mAt t_L_law 702 = some (705, 7, 1299, 0, []) := rfl
set_option maxRecDepth 100000 in
theorem lr_705 : mAt t_L_law 705 = some (706, 0, 0, 0, []) := rfl
set_option maxRecDepth 100000 in
theorem lr_706 : mAt t_L_law 706 = some (707, 60, 0, 0, []) := rfl
set_option maxRecDepth 100000 in
theorem lr_707 : mAt t_L_law 707 = some (708, 1, 1, 1, []) := rfl
set_option maxRecDepth 100000 in
theorem lr_708 : mAt t_L_law 708 = some (709, 1, 1, 0, []) := rfl
set_option maxRecDepth 100000 in
theorem lr_709 : mAt t_L_law 709 = some (710, 1, 0, 3, []) := rfl
set_option maxRecDepth 100000 in
theorem lr_710 : mAt t_L_law 710 = some (711, 0, 1, 0, []) := rfl
set_option maxRecDepth 100000 in
theorem lr_711 : mAt t_L_law 711 = some (712, 4, 0, 0, []) := rfl
set_option maxRecDepth 100000 in
theorem lr_712 : mAt t_L_law 712 = some (713, 18, 0, 0, []) := rfl
set_option maxRecDepth 100000 in
theorem lr_713 : mAt t_L_law 713 = some (714, 1, 1, 0, []) := rfl
set_option maxRecDepth 100000 in
theorem lr_714 : mAt t_L_law 714 = some (715, 1, 0, 3, []) := rfl
set_option maxRecDepth 100000 in
theorem lr_715 : mAt t_L_law 715 = some (716, 0, 2, 0, []) := rfl
set_option maxRecDepth 100000 in
theorem lr_716 : mAt t_L_law 716 = some (717, 4, 0, 0, []) := rfl
set_option maxRecDepth 100000 in
theorem lr_717 : mAt t_L_law 717 = some (718, 18, 0, 0, []) := rfl
set_option maxRecDepth 100000 in
theorem lr_718 : mAt t_L_law 718 = some (721, 51, 188, 2, []) := rfl
set_option maxRecDepth 100000 in
theorem lr_721 : mAt t_L_law 721 = some (722, 1, 1, 2, []) := rfl
set_option maxRecDepth 100000 in
theorem lr_722 : mAt t_L_law 722 = some (723, 1, 1, 0, []) := rfl
set_option maxRecDepth 100000 in
theorem lr_723 : mAt t_L_law 723 = some (724, 1, 0, 3, []) := rfl
set_option maxRecDepth 100000 in
theorem lr_724 : mAt t_L_law 724 = some (725, 0, 1, 0, []) := rfl
set_option maxRecDepth 100000 in
theorem lr_725 : mAt t_L_law 725 = some (726, 4, 0, 0, []) := rfl
set_option maxRecDepth 100000 in
theorem lr_726 : mAt t_L_law 726 = some (727, 18, 0, 0, []) := rfl
set_option maxRecDepth 100000 in
theorem lr_727 : mAt t_L_law 727 = some (728, 1, 1, 0, []) := rfl
set_option maxRecDepth 100000 in
theorem lr_728 : mAt t_L_law 728 = some (729, 1, 0, 3, []) := rfl
set_option maxRecDepth 100000 in
theorem lr_729 : mAt t_L_law 729 = some (730, 0, 2, 0, []) := rfl
set_option maxRecDepth 100000 in
theorem lr_730 : mAt t_L_law 730 = some (731, 4, 0, 0, []) := rfl
set_option maxRecDepth 100000 in
theorem lr_731 : mAt t_L_law 731 = some (732, 18, 0, 0, []) := rfl
set_option maxRecDepth 100000 in
theorem lr_732 : mAt t_L_law 732 = some (735, 51, 189, 2, []) := rfl
set_option maxRecDepth 100000 in
theorem lr_735 : mAt t_L_law 735 = some (738, 7, 1299, 0, []) := rfl
set_option maxRecDepth 100000 in
theorem lr_738 : mAt t_L_law 738 = some (739, 0, 0, 0, []) := rfl
set_option maxRecDepth 100000 in
theorem lr_739 : mAt t_L_law 739 = some (740, 60, 0, 0, []) := rfl
set_option maxRecDepth 100000 in
theorem lr_740 : mAt t_L_law 740 = some (741, 1, 1, 1, []) := rfl
set_option maxRecDepth 100000 in
theorem lr_741 : mAt t_L_law 741 = some (744, 51, 190, 0, []) := rfl
set_option maxRecDepth 100000 in
theorem lr_744 : mAt t_L_law 744 = some (745, 1, 1, 2, []) := rfl
set_option maxRecDepth 100000 in
theorem lr_745 : mAt t_L_law 745 = some (748, 51, 191, 0, []) := rfl
set_option maxRecDepth 100000 in
theorem lr_748 : mAt t_L_law 748 = some (751, 7, 1299, 0, []) := rfl
set_option maxRecDepth 100000 in
theorem lr_751 : mAt t_L_law 751 = some (752, 0, 0, 0, []) := rfl
set_option maxRecDepth 100000 in
theorem lr_752 : mAt t_L_law 752 = some (753, 60, 0, 0, []) := rfl
set_option maxRecDepth 100000 in
theorem lr_753 : mAt t_L_law 753 = some (754, 1, 1, 1, []) := rfl
set_option maxRecDepth 100000 in
theorem lr_754 : mAt t_L_law 754 = some (755, 1, 1, 0, []) := rfl
set_option maxRecDepth 100000 in
theorem lr_755 : mAt t_L_law 755 = some (756, 1, 0, 3, []) := rfl
set_option maxRecDepth 100000 in
theorem lr_756 : mAt t_L_law 756 = some (757, 0, 1, 0, []) := rfl
set_option maxRecDepth 100000 in
theorem lr_757 : mAt t_L_law 757 = some (758, 4, 0, 0, []) := rfl
set_option maxRecDepth 100000 in
theorem lr_758 : mAt t_L_law 758 = some (759, 18, 0, 0, []) := rfl
set_option maxRecDepth 100000 in
theorem lr_759 : mAt t_L_law 759 = some (762, 51, 192, 1, []) := rfl
set_option maxRecDepth 100000 in
theorem lr_762 : mAt t_L_law 762 = some (763, 1, 1, 2, []) := rfl
set_option maxRecDepth 100000 in
theorem lr_763 : mAt t_L_law 763 = some (764, 1, 1, 0, []) := rfl
set_option maxRecDepth 100000 in
theorem lr_764 : mAt t_L_law 764 = some (765, 1, 0, 3, []) := rfl
set_option maxRecDepth 100000 in
theorem lr_765 : mAt t_L_law 765 = some (766, 0, 1, 0, []) := rfl
set_option maxRecDepth 100000 in
theorem lr_766 : mAt t_L_law 766 = some (767, 4, 0, 0, []) := rfl
set_option maxRecDepth 100000 in
theorem lr_767 : mAt t_L_law 767 = some (768, 18, 0, 0, []) := rfl
set_option maxRecDepth 100000 in
theorem lr_768 : mAt t_L_law 768 = some (771, 51, 193, 1, []) := rfl
set_option maxRecDepth 100000 in
theorem lr_771 : mAt t_L_law 771 = some (774, 7, 1299, 0, []) := rfl
set_option maxRecDepth 100000 in
theorem lr_774 : mAt t_L_law 774 = some (775, 0, 0, 0, []) := rfl
set_option maxRecDepth 100000 in
theorem lr_775 : mAt t_L_law 775 = some (776, 60, 0, 0, []) := rfl
set_option maxRecDepth 100000 in
theorem lr_776 : mAt t_L_law 776 = some (777, 1, 1, 1, []) := rfl
set_option maxRecDepth 100000 in
theorem lr_777 : mAt t_L_law 777 = some (778, 1, 1, 0, []) := rfl
set_option maxRecDepth 100000 in
theorem lr_778 : mAt t_L_law 778 = some (779, 1, 0, 3, []) := rfl
set_option maxRecDepth 100000 in
theorem lr_779 : mAt t_L_law 779 = some (780, 0, 1, 0, []) := rfl
set_option maxRecDepth 100000 in
theorem lr_780 : mAt t_L_law 780 = some (781, 4, 0, 0, []) := rfl
set_option maxRecDepth 100000 in
theorem lr_781 : mAt t_L_law 781 = some (782, 18, 0, 0, []) := rfl
set_option maxRecDepth 100000 in
theorem lr_782 : mAt t_L_law 782 = some (783, 1, 1, 0, []) := rfl
set_option maxRecDepth 100000 in
theorem lr_783 : mAt t_L_law 783 = some (784, 1, 0, 3, []) := rfl
set_option maxRecDepth 100000 in
theorem lr_784 : mAt t_L_law 784 = some (785, 0, 2, 0, []) := rfl
set_option maxRecDepth 100000 in
theorem lr_785 : mAt t_L_law 785 = some (786, 4, 0, 0, []) := rfl
set_option maxRecDepth 100000 in
theorem lr_786 : mAt t_L_law 786 = some (787, 18, 0, 0, []) := rfl
set_option maxRecDepth 100000 in
theorem lr_787 : mAt t_L_law 787 = some (788, 1, 1, 0, []) := rfl
set_option maxRecDepth 100000 in
theorem lr_788 : mAt t_L_law 788 = some (789, 1, 0, 3, []) := rfl
set_option maxRecDepth 100000 in
theorem lr_789 : mAt t_L_law 789 = some (790, 0, 3, 0, []) := rfl
set_option maxRecDepth 100000 in
theorem lr_790 : mAt t_L_law 790 = some (791, 4, 0, 0, []) := rfl
set_option maxRecDepth 100000 in
theorem lr_791 : mAt t_L_law 791 = some (792, 18, 0, 0, []) := rfl
set_option maxRecDepth 100000 in
theorem lr_792 : mAt t_L_law 792 = some (795, 51, 194, 3, []) := rfl
set_option maxRecDepth 100000 in
theorem lr_795 : mAt t_L_law 795 = some (796, 1, 1, 2, []) := rfl
set_option maxRecDepth 100000 in
theorem lr_796 : mAt t_L_law 796 = some (797, 1, 1, 0, []) := rfl
set_option maxRecDepth 100000 in
theorem lr_797 : mAt t_L_law 797 = some (798, 1, 0, 3, []) := rfl
set_option maxRecDepth 100000 in
theorem lr_798 : mAt t_L_law 798 = some (799, 0, 1, 0, []) := rfl
set_option maxRecDepth 100000 in
theorem lr_799 : mAt t_L_law 799 = some (800, 4, 0, 0, []) := rfl
set_option maxRecDepth 100000 in
theorem lr_800 : mAt t_L_law 800 = some (801, 18, 0, 0, []) := rfl
set_option maxRecDepth 100000 in
theorem lr_801 : mAt t_L_law 801 = some (802, 1, 1, 0, []) := rfl
set_option maxRecDepth 100000 in
theorem lr_802 : mAt t_L_law 802 = some (803, 1, 0, 3, []) := rfl
set_option maxRecDepth 100000 in
theorem lr_803 : mAt t_L_law 803 = some (804, 0, 2, 0, []) := rfl
set_option maxRecDepth 100000 in
theorem lr_804 : mAt t_L_law 804 = some (805, 4, 0, 0, []) := rfl
set_option maxRecDepth 100000 in
theorem lr_805 : mAt t_L_law 805 = some (806, 18, 0, 0, []) := rfl
set_option maxRecDepth 100000 in
theorem lr_806 : mAt t_L_law 806 = some (807, 1, 1, 0, []) := rfl
set_option maxRecDepth 100000 in
theorem lr_807 : mAt t_L_law 807 = some (808, 1, 0, 3, []) := rfl
set_option maxRecDepth 100000 in
theorem lr_808 : mAt t_L_law 808 = some (809, 0, 3, 0, []) := rfl
set_option maxRecDepth 100000 in
theorem lr_809 : mAt t_L_law 809 = some (810, 4, 0, 0, []) := rfl
set_option maxRecDepth 100000 in
theorem lr_810 : mAt t_L_law 810 = some (811, 18, 0, 0, []) := rfl
set_option maxRecDepth 100000 in
theorem lr_811 : mAt t_L_law 811 = some (814, 51, 195, 3, []) := rfl
set_option maxRecDepth 100000 in
theorem lr_814 : mAt t_L_law 814 = some (817, 7, 1299, 0, []) := rfl
set_option maxRecDepth 100000 in
theorem lr_817 : mAt t_L_law 817 = some (818, 0, 0, 0, []) := rfl
set_option maxRecDepth 100000 in
theorem lr_818 : mAt t_L_law 818 = some (819, 60, 0, 0, []) := rfl
set_option maxRecDepth 100000 in
theorem lr_819 : mAt t_L_law 819 = some (820, 1, 1, 1, []) := rfl
set_option maxRecDepth 100000 in
theorem lr_820 : mAt t_L_law 820 = some (821, 1, 1, 0, []) := rfl
set_option maxRecDepth 100000 in
theorem lr_821 : mAt t_L_law 821 = some (822, 1, 0, 3, []) := rfl
set_option maxRecDepth 100000 in
theorem lr_822 : mAt t_L_law 822 = some (823, 0, 1, 0, []) := rfl
set_option maxRecDepth 100000 in
theorem lr_823 : mAt t_L_law 823 = some (824, 4, 0, 0, []) := rfl
set_option maxRecDepth 100000 in
theorem lr_824 : mAt t_L_law 824 = some (825, 18, 0, 0, []) := rfl
set_option maxRecDepth 100000 in
theorem lr_825 : mAt t_L_law 825 = some (826, 1, 1, 0, []) := rfl
set_option maxRecDepth 100000 in
theorem lr_826 : mAt t_L_law 826 = some (827, 1, 0, 3, []) := rfl
set_option maxRecDepth 100000 in
theorem lr_827 : mAt t_L_law 827 = some (828, 0, 2, 0, []) := rfl
set_option maxRecDepth 100000 in
theorem lr_828 : mAt t_L_law 828 = some (829, 4, 0, 0, []) := rfl
set_option maxRecDepth 100000 in
theorem lr_829 : mAt t_L_law 829 = some (830, 18, 0, 0, []) := rfl
set_option maxRecDepth 100000 in
theorem lr_830 : mAt t_L_law 830 = some (831, 1, 1, 0, []) := rfl
set_option maxRecDepth 100000 in
theorem lr_831 : mAt t_L_law 831 = some (832, 1, 0, 3, []) := rfl
set_option maxRecDepth 100000 in
theorem lr_832 : mAt t_L_law 832 = some (833, 0, 3, 0, []) := rfl
set_option maxRecDepth 100000 in
theorem lr_833 : mAt t_L_law 833 = some (834, 4, 0, 0, []) := rfl
set_option maxRecDepth 100000 in
theorem lr_834 : mAt t_L_law 834 = some (835, 18, 0, 0, []) := rfl
set_option maxRecDepth 100000 in
theorem lr_835 : mAt t_L_law 835 = some (838, 51, 196, 3, []) := rfl
set_option maxRecDepth 100000 in
theorem lr_838 : mAt t_L_law 838 = some (839, 1, 1, 2, []) := rfl
set_option maxRecDepth 100000 in
theorem lr_839 : mAt t_L_law 839 = some (840, 1, 1, 0, []) := rfl
set_option maxRecDepth 100000 in
theorem lr_840 : mAt t_L_law 840 = some (841, 1, 0, 3, []) := rfl
set_option maxRecDepth 100000 in
theorem lr_841 : mAt t_L_law 841 = some (842, 0, 1, 0, []) := rfl
set_option maxRecDepth 100000 in
theorem lr_842 : mAt t_L_law 842 = some (843, 4, 0, 0, []) := rfl
set_option maxRecDepth 100000 in
theorem lr_843 : mAt t_L_law 843 = some (844, 18, 0, 0, []) := rfl
set_option maxRecDepth 100000 in
theorem lr_844 : mAt t_L_law 844 = some (845, 1, 1, 0, []) := rfl
set_option maxRecDepth 100000 in
theorem lr_845 : mAt t_L_law 845 = some (846, 1, 0, 3, []) := rfl
set_option maxRecDepth 100000 in
theorem lr_846 : mAt t_L_law 846 = some (847, 0, 2, 0, []) := rfl
set_option maxRecDepth 100000 in
theorem lr_847 : mAt t_L_law 847 = some (848, 4, 0, 0, []) := rfl
set_option maxRecDepth 100000 in
theorem lr_848 : mAt t_L_law 848 = some (849, 18, 0, 0, []) := rfl
set_option maxRecDepth 100000 in
theorem lr_849 : mAt t_L_law 849 = some (850, 1, 1, 0, []) := rfl
set_option maxRecDepth 100000 in
theorem lr_850 : mAt t_L_law 850 = some (851, 1, 0, 3, []) := rfl
set_option maxRecDepth 100000 in
theorem lr_851 : mAt t_L_law 851 = some (852, 0, 3, 0, []) := rfl
set_option maxRecDepth 100000 in
theorem lr_852 : mAt t_L_law 852 = some (853, 4, 0, 0, []) := rfl
set_option maxRecDepth 100000 in
theorem lr_853 : mAt t_L_law 853 = some (854, 18, 0, 0, []) := rfl
set_option maxRecDepth 100000 in
theorem lr_854 : mAt t_L_law 854 = some (857, 51, 197, 3, []) := rfl
set_option maxRecDepth 100000 in
theorem lr_857 : mAt t_L_law 857 = some (860, 7, 1299, 0, []) := rfl
set_option maxRecDepth 100000 in
theorem lr_860 : mAt t_L_law 860 = some (861, 0, 0, 0, []) := rfl
set_option maxRecDepth 100000 in
theorem lr_861 : mAt t_L_law 861 = some (862, 60, 0, 0, []) := rfl
set_option maxRecDepth 100000 in
theorem lr_862 : mAt t_L_law 862 = some (863, 1, 1, 1, []) := rfl
set_option maxRecDepth 100000 in
theorem lr_863 : mAt t_L_law 863 = some (864, 1, 1, 0, []) := rfl
set_option maxRecDepth 100000 in
theorem lr_864 : mAt t_L_law 864 = some (865, 1, 0, 3, []) := rfl
set_option maxRecDepth 100000 in
theorem lr_865 : mAt t_L_law 865 = some (866, 0, 1, 0, []) := rfl
set_option maxRecDepth 100000 in
theorem lr_866 : mAt t_L_law 866 = some (867, 4, 0, 0, []) := rfl
set_option maxRecDepth 100000 in
theorem lr_867 : mAt t_L_law 867 = some (868, 18, 0, 0, []) := rfl
set_option maxRecDepth 100000 in
theorem lr_868 : mAt t_L_law 868 = some (869, 1, 1, 0, []) := rfl
set_option maxRecDepth 100000 in
theorem lr_869 : mAt t_L_law 869 = some (870, 1, 0, 3, []) := rfl
set_option maxRecDepth 100000 in
theorem lr_870 : mAt t_L_law 870 = some (871, 0, 2, 0, []) := rfl
set_option maxRecDepth 100000 in
theorem lr_871 : mAt t_L_law 871 = some (872, 4, 0, 0, []) := rfl
set_option maxRecDepth 100000 in
theorem lr_872 : mAt t_L_law 872 = some (873, 18, 0, 0, []) := rfl
set_option maxRecDepth 100000 in
theorem lr_873 : mAt t_L_law 873 = some (876, 51, 198, 2, []) := rfl
set_option maxRecDepth 100000 in
theorem lr_876 : mAt t_L_law 876 = some (877, 1, 1, 2, []) := rfl
set_option maxRecDepth 100000 in
theorem lr_877 : mAt t_L_law 877 = some (878, 1, 1, 0, []) := rfl
set_option maxRecDepth 100000 in
theorem lr_878 : mAt t_L_law 878 = some (879, 1, 0, 3, []) := rfl
set_option maxRecDepth 100000 in
theorem lr_879 : mAt t_L_law 879 = some (880, 0, 1, 0, []) := rfl
set_option maxRecDepth 100000 in
theorem lr_880 : mAt t_L_law 880 = some (881, 4, 0, 0, []) := rfl
set_option maxRecDepth 100000 in
theorem lr_881 : mAt t_L_law 881 = some (882, 18, 0, 0, []) := rfl
set_option maxRecDepth 100000 in
theorem lr_882 : mAt t_L_law 882 = some (883, 1, 1, 0, []) := rfl
set_option maxRecDepth 100000 in
theorem lr_883 : mAt t_L_law 883 = some (884, 1, 0, 3, []) := rfl
set_option maxRecDepth 100000 in
theorem lr_884 : mAt t_L_law 884 = some (885, 0, 2, 0, []) := rfl
set_option maxRecDepth 100000 in
theorem lr_885 : mAt t_L_law 885 = some (886, 4, 0, 0, []) := rfl
set_option maxRecDepth 100000 in
theorem lr_886 : mAt t_L_law 886 = some (887, 18, 0, 0, []) := rfl
set_option maxRecDepth 100000 in
theorem lr_887 : mAt t_L_law 887 = some (890, 51, 199, 2, []) := rfl
set_option maxRecDepth 100000 in
theorem lr_890 : mAt t_L_law 890 = some (893, 7, 1299, 0, []) := rfl
set_option maxRecDepth 100000 in
theorem lr_893 : mAt t_L_law 893 = some (894, 0, 0, 0, []) := rfl
set_option maxRecDepth 100000 in
theorem lr_894 : mAt t_L_law 894 = some (895, 60, 0, 0, []) := rfl
set_option maxRecDepth 100000 in
theorem lr_895 : mAt t_L_law 895 = some (896, 1, 1, 1, []) := rfl
set_option maxRecDepth 100000 in
theorem lr_896 : mAt t_L_law 896 = some (897, 1, 1, 0, []) := rfl
set_option maxRecDepth 100000 in
theorem lr_897 : mAt t_L_law 897 = some (898, 1, 0, 3, []) := rfl
set_option maxRecDepth 100000 in
theorem lr_898 : mAt t_L_law 898 = some (899, 0, 1, 0, []) := rfl
set_option maxRecDepth 100000 in
theorem lr_899 : mAt t_L_law 899 = some (900, 4, 0, 0, []) := rfl
set_option maxRecDepth 100000 in
theorem lr_900 : mAt t_L_law 900 = some (901, 18, 0, 0, []) := rfl
set_option maxRecDepth 100000 in
theorem lr_901 : mAt t_L_law 901 = some (902, 1, 1, 0, []) := rfl
set_option maxRecDepth 100000 in
theorem lr_902 : mAt t_L_law 902 = some (903, 1, 0, 3, []) := rfl
set_option maxRecDepth 100000 in
theorem lr_903 : mAt t_L_law 903 = some (904, 0, 2, 0, []) := rfl
set_option maxRecDepth 100000 in
theorem lr_904 : mAt t_L_law 904 = some (905, 4, 0, 0, []) := rfl
set_option maxRecDepth 100000 in
theorem lr_905 : mAt t_L_law 905 = some (906, 18, 0, 0, []) := rfl
set_option maxRecDepth 100000 in
theorem lr_906 : mAt t_L_law 906 = some (909, 51, 200, 2, []) := rfl
set_option maxRecDepth 100000 in
theorem lr_909 : mAt t_L_law 909 = some (910, 1, 1, 2, []) := rfl
set_option maxRecDepth 100000 in
theorem lr_910 : mAt t_L_law 910 = some (911, 1, 1, 0, []) := rfl
set_option maxRecDepth 100000 in
theorem lr_911 : mAt t_L_law 911 = some (912, 1, 0, 3, []) := rfl
set_option maxRecDepth 100000 in
theorem lr_912 : mAt t_L_law 912 = some (913, 0, 1, 0, []) := rfl
set_option maxRecDepth 100000 in
theorem lr_913 : mAt t_L_law 913 = some (914, 4, 0, 0, []) := rfl
set_option maxRecDepth 100000 in
theorem lr_914 : mAt t_L_law 914 = some (915, 18, 0, 0, []) := rfl
set_option maxRecDepth 100000 in
theorem lr_915 : mAt t_L_law 915 = some (916, 1, 1, 0, []) := rfl
set_option maxRecDepth 100000 in
theorem lr_916 : mAt t_L_law 916 = some (917, 1, 0, 3, []) := rfl
set_option maxRecDepth 100000 in
theorem lr_917 : mAt t_L_law 917 = some (918, 0, 2, 0, []) := rfl
set_option maxRecDepth 100000 in
theorem lr_918 : mAt t_L_law 918 = some (919, 4, 0, 0, []) := rfl
set_option maxRecDepth 100000 in
theorem lr_919 : mAt t_L_law 919 = some (920, 18, 0, 0, []) := rfl
set_option maxRecDepth 100000 in
theorem lr_920 : mAt t_L_law 920 = some (923, 51, 201, 2, []) := rfl
set_option maxRecDepth 100000 in
theorem lr_923 : mAt t_L_law 923 = some (926, 7, 1299, 0, []) := rfl
set_option maxRecDepth 100000 in
theorem lr_926 : mAt t_L_law 926 = some (927, 0, 0, 0, []) := rfl
set_option maxRecDepth 100000 in
theorem lr_927 : mAt t_L_law 927 = some (928, 60, 0, 0, []) := rfl
set_option maxRecDepth 100000 in
theorem lr_928 : mAt t_L_law 928 = some (929, 1, 1, 1, []) := rfl
set_option maxRecDepth 100000 in
theorem lr_929 : mAt t_L_law 929 = some (930, 1, 1, 0, []) := rfl
set_option maxRecDepth 100000 in
theorem lr_930 : mAt t_L_law 930 = some (931, 1, 0, 3, []) := rfl
set_option maxRecDepth 100000 in
theorem lr_931 : mAt t_L_law 931 = some (932, 0, 1, 0, []) := rfl
set_option maxRecDepth 100000 in
theorem lr_932 : mAt t_L_law 932 = some (933, 4, 0, 0, []) := rfl
set_option maxRecDepth 100000 in
theorem lr_933 : mAt t_L_law 933 = some (934, 18, 0, 0, []) := rfl
set_option maxRecDepth 100000 in
theorem lr_934 : mAt t_L_law 934 = some (935, 1, 1, 0, []) := rfl
set_option maxRecDepth 100000 in
theorem lr_935 : mAt t_L_law 935 = some (936, 1, 0, 3, []) := rfl
set_option maxRecDepth 100000 in
theorem lr_936 : mAt t_L_law 936 = some (937, 0, 2, 0, []) := rfl
set_option maxRecDepth 100000 in
theorem lr_937 : mAt t_L_law 937 = some (938, 4, 0, 0, []) := rfl
set_option maxRecDepth 100000 in
theorem lr_938 : mAt t_L_law 938 = some (939, 18, 0, 0, []) := rfl
set_option maxRecDepth 100000 in
theorem lr_939 : mAt t_L_law 939 = some (942, 51, 202, 2, []) := rfl
set_option maxRecDepth 100000 in
theorem lr_942 : mAt t_L_law 942 = some (943, 1, 1, 2, []) := rfl
set_option maxRecDepth 100000 in
theorem lr_943 : mAt t_L_law 943 = some (944, 1, 1, 0, []) := rfl
set_option maxRecDepth 100000 in
theorem lr_944 : mAt t_L_law 944 = some (945, 1, 0, 3, []) := rfl
set_option maxRecDepth 100000 in
theorem lr_945 : mAt t_L_law 945 = some (946, 0, 1, 0, []) := rfl
set_option maxRecDepth 100000 in
theorem lr_946 : mAt t_L_law 946 = some (947, 4, 0, 0, []) := rfl
set_option maxRecDepth 100000 in
theorem lr_947 : mAt t_L_law 947 = some (948, 18, 0, 0, []) := rfl
set_option maxRecDepth 100000 in
theorem lr_948 : mAt t_L_law 948 = some (949, 1, 1, 0, []) := rfl
set_option maxRecDepth 100000 in
theorem lr_949 : mAt t_L_law 949 = some (950, 1, 0, 3, []) := rfl
set_option maxRecDepth 100000 in
theorem lr_950 : mAt t_L_law 950 = some (951, 0, 2, 0, []) := rfl
set_option maxRecDepth 100000 in
theorem lr_951 : mAt t_L_law 951 = some (952, 4, 0, 0, []) := rfl
set_option maxRecDepth 100000 in
theorem lr_952 : mAt t_L_law 952 = some (953, 18, 0, 0, []) := rfl
set_option maxRecDepth 100000 in
theorem lr_953 : mAt t_L_law 953 = some (956, 51, 203, 2, []) := rfl
set_option maxRecDepth 100000 in
theorem lr_956 : mAt t_L_law 956 = some (959, 7, 1299, 0, []) := rfl
set_option maxRecDepth 100000 in
theorem lr_959 : mAt t_L_law 959 = some (960, 0, 0, 0, []) := rfl
set_option maxRecDepth 100000 in
theorem lr_960 : mAt t_L_law 960 = some (961, 60, 0, 0, []) := rfl
set_option maxRecDepth 100000 in
theorem lr_961 : mAt t_L_law 961 = some (962, 1, 1, 1, []) := rfl
set_option maxRecDepth 100000 in
theorem lr_962 : mAt t_L_law 962 = some (963, 1, 1, 0, []) := rfl
set_option maxRecDepth 100000 in
theorem lr_963 : mAt t_L_law 963 = some (964, 1, 0, 3, []) := rfl
set_option maxRecDepth 100000 in
theorem lr_964 : mAt t_L_law 964 = some (965, 0, 1, 0, []) := rfl
set_option maxRecDepth 100000 in
theorem lr_965 : mAt t_L_law 965 = some (966, 4, 0, 0, []) := rfl
set_option maxRecDepth 100000 in
theorem lr_966 : mAt t_L_law 966 = some (967, 18, 0, 0, []) := rfl
set_option maxRecDepth 100000 in
theorem lr_967 : mAt t_L_law 967 = some (968, 1, 1, 0, []) := rfl
set_option maxRecDepth 100000 in
theorem lr_968 : mAt t_L_law 968 = some (969, 1, 0, 3, []) := rfl
set_option maxRecDepth 100000 in
theorem lr_969 : mAt t_L_law 969 = some (970, 0, 2, 0, []) := rfl
set_option maxRecDepth 100000 in
theorem lr_970 : mAt t_L_law 970 = some (971, 4, 0, 0, []) := rfl
set_option maxRecDepth 100000 in
theorem lr_971 : mAt t_L_law 971 = some (972, 18, 0, 0, []) := rfl
set_option maxRecDepth 100000 in
theorem lr_972 : mAt t_L_law 972 = some (973, 1, 1, 0, []) := rfl
set_option maxRecDepth 100000 in
theorem lr_973 : mAt t_L_law 973 = some (974, 1, 0, 3, []) := rfl
set_option maxRecDepth 100000 in
theorem lr_974 : mAt t_L_law 974 = some (975, 0, 3, 0, []) := rfl
set_option maxRecDepth 100000 in
theorem lr_975 : mAt t_L_law 975 = some (976, 4, 0, 0, []) := rfl
set_option maxRecDepth 100000 in
theorem lr_976 : mAt t_L_law 976 = some (977, 18, 0, 0, []) := rfl
set_option maxRecDepth 100000 in
theorem lr_977 : mAt t_L_law 977 = some (980, 51, 204, 3, []) := rfl
set_option maxRecDepth 100000 in
theorem lr_980 : mAt t_L_law 980 = some (981, 1, 1, 2, []) := rfl
set_option maxRecDepth 100000 in
theorem lr_981 : mAt t_L_law 981 = some (982, 1, 1, 0, []) := rfl
set_option maxRecDepth 100000 in
theorem lr_982 : mAt t_L_law 982 = some (983, 1, 0, 3, []) := rfl
set_option maxRecDepth 100000 in
theorem lr_983 : mAt t_L_law 983 = some (984, 0, 1, 0, []) := rfl
set_option maxRecDepth 100000 in
theorem lr_984 : mAt t_L_law 984 = some (985, 4, 0, 0, []) := rfl
set_option maxRecDepth 100000 in
theorem lr_985 : mAt t_L_law 985 = some (986, 18, 0, 0, []) := rfl
set_option maxRecDepth 100000 in
theorem lr_986 : mAt t_L_law 986 = some (987, 1, 1, 0, []) := rfl
set_option maxRecDepth 100000 in
theorem lr_987 : mAt t_L_law 987 = some (988, 1, 0, 3, []) := rfl
set_option maxRecDepth 100000 in
theorem lr_988 : mAt t_L_law 988 = some (989, 0, 2, 0, []) := rfl
set_option maxRecDepth 100000 in
theorem lr_989 : mAt t_L_law 989 = some (990, 4, 0, 0, []) := rfl
set_option maxRecDepth 100000 in
theorem lr_990 : mAt t_L_law 990 = some (991, 18, 0, 0, []) := rfl
set_option maxRecDepth 100000 in
theorem lr_991 : mAt t_L_law 991 = some (992, 1, 1, 0, []) := rfl
set_option maxRecDepth 100000 in
theorem lr_992 : mAt t_L_law 992 = some (993, 1, 0, 3, []) := rfl
set_option maxRecDepth 100000 in
theorem lr_993 : mAt t_L_law 993 = some (994, 0, 3, 0, []) := rfl
set_option maxRecDepth 100000 in
theorem lr_994 : mAt t_L_law 994 = some (995, 4, 0, 0, []) := rfl
set_option maxRecDepth 100000 in
theorem lr_995 : mAt t_L_law 995 = some (996, 18, 0, 0, []) := rfl
set_option maxRecDepth 100000 in
theorem lr_996 : mAt t_L_law 996 = some (999, 51, 205, 3, []) := rfl
set_option maxRecDepth 100000 in
theorem lr_999 : mAt t_L_law 999 = some (1000, 33, 0, 0, []) := rfl
set_option maxRecDepth 100000 in
theorem lr_1000 : mAt t_L_law 1000 = some (1003, 6, 1299, 0, []) := rfl
set_option maxRecDepth 100000 in
theorem lr_1003 : mAt t_L_law 1003 = some (1004, 0, 0, 0, []) := rfl
set_option maxRecDepth 100000 in
theorem lr_1004 : mAt t_L_law 1004 = some (1005, 60, 0, 0, []) := rfl
set_option maxRecDepth 100000 in
theorem lr_1005 : mAt t_L_law 1005 = some (1006, 1, 1, 1, []) := rfl
set_option maxRecDepth 100000 in
theorem lr_1006 : mAt t_L_law 1006 = some (1007, 1, 1, 0, []) := rfl
set_option maxRecDepth 100000 in
theorem lr_1007 : mAt t_L_law 1007 = some (1008, 1, 0, 3, []) := rfl
set_option maxRecDepth 100000 in
theorem lr_1008 : mAt t_L_law 1008 = some (1009, 0, 1, 0, []) := rfl
set_option maxRecDepth 100000 in
theorem lr_1009 : mAt t_L_law 1009 = some (1010, 4, 0, 0, []) := rfl
set_option maxRecDepth 100000 in
theorem lr_1010 : mAt t_L_law 1010 = some (1011, 18, 0, 0, []) := rfl
set_option maxRecDepth 100000 in
theorem lr_1011 : mAt t_L_law 1011 = some (1012, 1, 1, 0, []) := rfl
set_option maxRecDepth 100000 in
theorem lr_1012 : mAt t_L_law 1012 = some (1013, 1, 0, 3, []) := rfl
set_option maxRecDepth 100000 in
theorem lr_1013 : mAt t_L_law 1013 = some (1014, 0, 2, 0, []) := rfl
set_option maxRecDepth 100000 in
theorem lr_1014 : mAt t_L_law 1014 = some (1015, 4, 0, 0, []) := rfl
set_option maxRecDepth 100000 in
theorem lr_1015 : mAt t_L_law 1015 = some (1016, 18, 0, 0, []) := rfl
set_option maxRecDepth 100000 in
theorem lr_1016 : mAt t_L_law 1016 = some (1019, 51, 206, 2, []) := rfl
set_option maxRecDepth 100000 in
theorem lr_1019 : mAt t_L_law 1019 = some (1020, 1, 1, 2, []) := rfl
set_option maxRecDepth 100000 in
theorem lr_1020 : mAt t_L_law 1020 = some (1021, 1, 1, 0, []) := rfl
set_option maxRecDepth 100000 in
theorem lr_1021 : mAt t_L_law 1021 = some (1022, 1, 0, 3, []) := rfl
set_option maxRecDepth 100000 in
theorem lr_1022 : mAt t_L_law 1022 = some (1023, 0, 1, 0, []) := rfl
set_option maxRecDepth 100000 in
theorem lr_1023 : mAt t_L_law 1023 = some (1024, 4, 0, 0, []) := rfl
set_option maxRecDepth 100000 in
theorem lr_1024 : mAt t_L_law 1024 = some (1025, 18, 0, 0, []) := rfl
set_option maxRecDepth 100000 in
theorem lr_1025 : mAt t_L_law 1025 = some (1026, 1, 1, 0, []) := rfl
set_option maxRecDepth 100000 in
theorem lr_1026 : mAt t_L_law 1026 = some (1027, 1, 0, 3, []) := rfl
set_option maxRecDepth 100000 in
theorem lr_1027 : mAt t_L_law 1027 = some (1028, 0, 2, 0, []) := rfl
set_option maxRecDepth 100000 in
theorem lr_1028 : mAt t_L_law 1028 = some (1029, 4, 0, 0, []) := rfl
set_option maxRecDepth 100000 in
theorem lr_1029 : mAt t_L_law 1029 = some (1030, 18, 0, 0, []) := rfl
set_option maxRecDepth 100000 in
theorem lr_1030 : mAt t_L_law 1030 = some (1033, 51, 207, 2, []) := rfl
set_option maxRecDepth 100000 in
theorem lr_1033 : mAt t_L_law 1033 = some (1034, 33, 0, 0, []) := rfl
set_option maxRecDepth 100000 in
theorem lr_1034 : mAt t_L_law 1034 = some (1037, 6, 1299, 0, []) := rfl
set_option maxRecDepth 100000 in
theorem lr_1037 : mAt t_L_law 1037 = some (1038, 0, 0, 0, []) := rfl
set_option maxRecDepth 100000 in
theorem lr_1038 : mAt t_L_law 1038 = some (1039, 60, 0, 0, []) := rfl
set_option maxRecDepth 100000 in
theorem lr_1039 : mAt t_L_law 1039 = some (1040, 1, 1, 1, []) := rfl
set_option maxRecDepth 100000 in
theorem lr_1040 : mAt t_L_law 1040 = some (1041, 1, 1, 0, []) := rfl
set_option maxRecDepth 100000 in
theorem lr_1041 : mAt t_L_law 1041 = some (1042, 1, 0, 3, []) := rfl
set_option maxRecDepth 100000 in
theorem lr_1042 : mAt t_L_law 1042 = some (1043, 0, 1, 0, []) := rfl
set_option maxRecDepth 100000 in
theorem lr_1043 : mAt t_L_law 1043 = some (1044, 4, 0, 0, []) := rfl
set_option maxRecDepth 100000 in
theorem lr_1044 : mAt t_L_law 1044 = some (1045, 18, 0, 0, []) := rfl
set_option maxRecDepth 100000 in
theorem lr_1045 : mAt t_L_law 1045 = some (1046, 1, 1, 0, []) := rfl
set_option maxRecDepth 100000 in
theorem lr_1046 : mAt t_L_law 1046 = some (1047, 1, 0, 3, []) := rfl
set_option maxRecDepth 100000 in
theorem lr_1047 : mAt t_L_law 1047 = some (1048, 0, 2, 0, []) := rfl
set_option maxRecDepth 100000 in
theorem lr_1048 : mAt t_L_law 1048 = some (1049, 4, 0, 0, []) := rfl
set_option maxRecDepth 100000 in
theorem lr_1049 : mAt t_L_law 1049 = some (1050, 18, 0, 0, []) := rfl
set_option maxRecDepth 100000 in
theorem lr_1050 : mAt t_L_law 1050 = some (1051, 1, 1, 0, []) := rfl
set_option maxRecDepth 100000 in
theorem lr_1051 : mAt t_L_law 1051 = some (1052, 1, 0, 3, []) := rfl
set_option maxRecDepth 100000 in
theorem lr_1052 : mAt t_L_law 1052 = some (1053, 0, 3, 0, []) := rfl
set_option maxRecDepth 100000 in
theorem lr_1053 : mAt t_L_law 1053 = some (1054, 4, 0, 0, []) := rfl
set_option maxRecDepth 100000 in
theorem lr_1054 : mAt t_L_law 1054 = some (1055, 18, 0, 0, []) := rfl
set_option maxRecDepth 100000 in
theorem lr_1055 : mAt t_L_law 1055 = some (1058, 51, 208, 3, []) := rfl
set_option maxRecDepth 100000 in
theorem lr_1058 : mAt t_L_law 1058 = some (1059, 1, 1, 2, []) := rfl
set_option maxRecDepth 100000 in
theorem lr_1059 : mAt t_L_law 1059 = some (1060, 1, 1, 0, []) := rfl
set_option maxRecDepth 100000 in
theorem lr_1060 : mAt t_L_law 1060 = some (1061, 1, 0, 3, []) := rfl
set_option maxRecDepth 100000 in
theorem lr_1061 : mAt t_L_law 1061 = some (1062, 0, 1, 0, []) := rfl
set_option maxRecDepth 100000 in
theorem lr_1062 : mAt t_L_law 1062 = some (1063, 4, 0, 0, []) := rfl
set_option maxRecDepth 100000 in
theorem lr_1063 : mAt t_L_law 1063 = some (1064, 18, 0, 0, []) := rfl
set_option maxRecDepth 100000 in
theorem lr_1064 : mAt t_L_law 1064 = some (1065, 1, 1, 0, []) := rfl
set_option maxRecDepth 100000 in
theorem lr_1065 : mAt t_L_law 1065 = some (1066, 1, 0, 3, []) := rfl
set_option maxRecDepth 100000 in
theorem lr_1066 : mAt t_L_law 1066 = some (1067, 0, 2, 0, []) := rfl
set_option maxRecDepth 100000 in
theorem lr_1067 : mAt t_L_law 1067 = some (1068, 4, 0, 0, []) := rfl
set_option maxRecDepth 100000 in
theorem lr_1068 : mAt t_L_law 1068 = some (1069, 18, 0, 0, []) := rfl
set_option maxRecDepth 100000 in
theorem lr_1069 : mAt t_L_law 1069 = some (1070, 1, 1, 0, []) := rfl
set_option maxRecDepth 100000 in
theorem lr_1070 : mAt t_L_law 1070 = some (1071, 1, 0, 3, []) := rfl
set_option maxRecDepth 100000 in
theorem lr_1071 : mAt t_L_law 1071 = some (1072, 0, 3, 0, []) := rfl
set_option maxRecDepth 100000 in
theorem lr_1072 : mAt t_L_law 1072 = some (1073, 4, 0, 0, []) := rfl
set_option maxRecDepth 100000 in
theorem lr_1073 : mAt t_L_law 1073 = some (1074, 18, 0, 0, []) := rfl
set_option maxRecDepth 100000 in
theorem lr_1074 : mAt t_L_law 1074 = some (1077, 51, 209, 3, []) := rfl
set_option maxRecDepth 100000 in
theorem lr_1077 : mAt t_L_law 1077 = some (1080, 7, 1299, 0, []) := rfl
set_option maxRecDepth 100000 in
theorem lr_1080 : mAt t_L_law 1080 = some (1081, 0, 0, 0, []) := rfl
set_option maxRecDepth 100000 in
theorem lr_1081 : mAt t_L_law 1081 = some (1082, 60, 0, 0, []) := rfl
set_option maxRecDepth 100000 in
theorem lr_1082 : mAt t_L_law 1082 = some (1083, 1, 1, 1, []) := rfl
set_option maxRecDepth 100000 in
theorem lr_1083 : mAt t_L_law 1083 = some (1084, 1, 1, 0, []) := rfl
set_option maxRecDepth 100000 in
theorem lr_1084 : mAt t_L_law 1084 = some (1085, 1, 0, 3, []) := rfl
set_option maxRecDepth 100000 in
theorem lr_1085 : mAt t_L_law 1085 = some (1086, 0, 1, 0, []) := rfl
set_option maxRecDepth 100000 in
theorem lr_1086 : mAt t_L_law 1086 = some (1087, 4, 0, 0, []) := rfl
set_option maxRecDepth 100000 in
theorem lr_1087 : mAt t_L_law 1087 = some (1088, 18, 0, 0, []) := rfl
set_option maxRecDepth 100000 in
theorem lr_1088 : mAt t_L_law 1088 = some (1091, 51, 210, 1, []) := rfl
set_option maxRecDepth 100000 in
theorem lr_1091 : mAt t_L_law 1091 = some (1092, 1, 1, 2, []) := rfl
set_option maxRecDepth 100000 in
theorem lr_1092 : mAt t_L_law 1092 = some (1093, 1, 1, 0, []) := rfl
set_option maxRecDepth 100000 in
theorem lr_1093 : mAt t_L_law 1093 = some (1094, 1, 0, 3, []) := rfl
set_option maxRecDepth 100000 in
theorem lr_1094 : mAt t_L_law 1094 = some (1095, 0, 1, 0, []) := rfl
set_option maxRecDepth 100000 in
theorem lr_1095 : mAt t_L_law 1095 = some (1096, 4, 0, 0, []) := rfl
set_option maxRecDepth 100000 in
theorem lr_1096 : mAt t_L_law 1096 = some (1097, 18, 0, 0, []) := rfl
set_option maxRecDepth 100000 in
theorem lr_1097 : mAt t_L_law 1097 = some (1100, 51, 211, 1, []) := rfl
set_option maxRecDepth 100000 in
theorem lr_1100 : mAt t_L_law 1100 = some (1103, 7, 1299, 0, []) := rfl
set_option maxRecDepth 100000 in
theorem lr_1103 : mAt t_L_law 1103 = some (1104, 0, 0, 0, []) := rfl
set_option maxRecDepth 100000 in
theorem lr_1104 : mAt t_L_law 1104 = some (1105, 60, 0, 0, []) := rfl
set_option maxRecDepth 100000 in
theorem lr_1105 : mAt t_L_law 1105 = some (1106, 1, 1, 1, []) := rfl
set_option maxRecDepth 100000 in
theorem lr_1106 : mAt t_L_law 1106 = some (1107, 1, 1, 0, []) := rfl
set_option maxRecDepth 100000 in
theorem lr_1107 : mAt t_L_law 1107 = some (1108, 1, 0, 3, []) := rfl
set_option maxRecDepth 100000 in
theorem lr_1108 : mAt t_L_law 1108 = some (1109, 0, 1, 0, []) := rfl
set_option maxRecDepth 100000 in
theorem lr_1109 : mAt t_L_law 1109 = some (1110, 4, 0, 0, []) := rfl
set_option maxRecDepth 100000 in
theorem lr_1110 : mAt t_L_law 1110 = some (1111, 18, 0, 0, []) := rfl
set_option maxRecDepth 100000 in
theorem lr_1111 : mAt t_L_law 1111 = some (1112, 1, 1, 0, []) := rfl
set_option maxRecDepth 100000 in
theorem lr_1112 : mAt t_L_law 1112 = some (1113, 1, 0, 3, []) := rfl
set_option maxRecDepth 100000 in
theorem lr_1113 : mAt t_L_law 1113 = some (1114, 0, 2, 0, []) := rfl
set_option maxRecDepth 100000 in
theorem lr_1114 : mAt t_L_law 1114 = some (1115, 4, 0, 0, []) := rfl
set_option maxRecDepth 100000 in
theorem lr_1115 : mAt t_L_law 1115 = some (1116, 18, 0, 0, []) := rfl
set_option maxRecDepth 100000 in
theorem lr_1116 : mAt t_L_law 1116 = some (1119, 51, 212, 2, []) := rfl
set_option maxRecDepth 100000 in
theorem lr_1119 : mAt t_L_law 1119 = some (1120, 1, 1, 2, []) := rfl
set_option maxRecDepth 100000 in
theorem lr_1120 : mAt t_L_law 1120 = some (1121, 1, 1, 0, []) := rfl
set_option maxRecDepth 100000 in
theorem lr_1121 : mAt t_L_law 1121 = some (1122, 1, 0, 3, []) := rfl
set_option maxRecDepth 100000 in
theorem lr_1122 : mAt t_L_law 1122 = some (1123, 0, 1, 0, []) := rfl
set_option maxRecDepth 100000 in
theorem lr_1123 : mAt t_L_law 1123 = some (1124, 4, 0, 0, []) := rfl
set_option maxRecDepth 100000 in
theorem lr_1124 : mAt t_L_law 1124 = some (1125, 18, 0, 0, []) := rfl
set_option maxRecDepth 100000 in
theorem lr_1125 : mAt t_L_law 1125 = some (1126, 1, 1, 0, []) := rfl
set_option maxRecDepth 100000 in
theorem lr_1126 : mAt t_L_law 1126 = some (1127, 1, 0, 3, []) := rfl
set_option maxRecDepth 100000 in
theorem lr_1127 : mAt t_L_law 1127 = some (1128, 0, 2, 0, []) := rfl
set_option maxRecDepth 100000 in
theorem lr_1128 : mAt t_L_law 1128 = some (1129, 4, 0, 0, []) := rfl
set_option maxRecDepth 100000 in
theorem lr_1129 : mAt t_L_law 1129 = some (1130, 18, 0, 0, []) := rfl
set_option maxRecDepth 100000 in
theorem lr_1130 : mAt t_L_law 1130 = some (1133, 51, 213, 2, []) := rfl
set_option maxRecDepth 100000 in
theorem lr_1133 : mAt t_L_law 1133 = some (1136, 7, 1299, 0, []) := rfl
set_option maxRecDepth 100000 in
theorem lr_1136 : mAt t_L_law 1136 = some (1137, 0, 0, 0, []) := rfl
set_option maxRecDepth 100000 in
theorem lr_1137 : mAt t_L_law 1137 = some (1138, 60, 0, 0, []) := rfl
set_option maxRecDepth 100000 in
theorem lr_1138 : mAt t_L_law 1138 = some (1139, 1, 1, 1, []) := rfl
set_option maxRecDepth 100000 in
theorem lr_1139 : mAt t_L_law 1139 = some (1142, 51, 214, 0, []) := rfl
set_option maxRecDepth 100000 in
theorem lr_1142 : mAt t_L_law 1142 = some (1143, 1, 1, 2, []) := rfl
set_option maxRecDepth 100000 in
theorem lr_1143 : mAt t_L_law 1143 = some (1146, 51, 215, 0, []) := rfl
set_option maxRecDepth 100000 in
theorem lr_1146 : mAt t_L_law 1146 = some (1149, 7, 1299, 0, []) := rfl
set_option maxRecDepth 100000 in
theorem lr_1149 : mAt t_L_law 1149 = some (1150, 0, 0, 0, []) := rfl
set_option maxRecDepth 100000 in
theorem lr_1150 : mAt t_L_law 1150 = some (1151, 60, 0, 0, []) := rfl
set_option maxRecDepth 100000 in
theorem lr_1151 : mAt t_L_law 1151 = some (1152, 1, 1, 1, []) := rfl
set_option maxRecDepth 100000 in
theorem lr_1152 : mAt t_L_law 1152 = some (1153, 1, 1, 0, []) := rfl
set_option maxRecDepth 100000 in
theorem lr_1153 : mAt t_L_law 1153 = some (1154, 1, 0, 3, []) := rfl
set_option maxRecDepth 100000 in
theorem lr_1154 : mAt t_L_law 1154 = some (1155, 0, 1, 0, []) := rfl
set_option maxRecDepth 100000 in
theorem lr_1155 : mAt t_L_law 1155 = some (1156, 4, 0, 0, []) := rfl
set_option maxRecDepth 100000 in
theorem lr_1156 : mAt t_L_law 1156 = some (1157, 18, 0, 0, []) := rfl
set_option maxRecDepth 100000 in
theorem lr_1157 : mAt t_L_law 1157 = some (1158, 1, 1, 0, []) := rfl
set_option maxRecDepth 100000 in
theorem lr_1158 : mAt t_L_law 1158 = some (1159, 1, 0, 3, []) := rfl
set_option maxRecDepth 100000 in
theorem lr_1159 : mAt t_L_law 1159 = some (1160, 0, 2, 0, []) := rfl
set_option maxRecDepth 100000 in
theorem lr_1160 : mAt t_L_law 1160 = some (1161, 4, 0, 0, []) := rfl
set_option maxRecDepth 100000 in
theorem lr_1161 : mAt t_L_law 1161 = some (1162, 18, 0, 0, []) := rfl
set_option maxRecDepth 100000 in
theorem lr_1162 : mAt t_L_law 1162 = some (1163, 1, 1, 0, []) := rfl
set_option maxRecDepth 100000 in
theorem lr_1163 : mAt t_L_law 1163 = some (1164, 1, 0, 3, []) := rfl
set_option maxRecDepth 100000 in
theorem lr_1164 : mAt t_L_law 1164 = some (1165, 0, 3, 0, []) := rfl
set_option maxRecDepth 100000 in
theorem lr_1165 : mAt t_L_law 1165 = some (1166, 4, 0, 0, []) := rfl
set_option maxRecDepth 100000 in
theorem lr_1166 : mAt t_L_law 1166 = some (1167, 18, 0, 0, []) := rfl
set_option maxRecDepth 100000 in
theorem lr_1167 : mAt t_L_law 1167 = some (1170, 51, 216, 3, []) := rfl
set_option maxRecDepth 100000 in
theorem lr_1170 : mAt t_L_law 1170 = some (1171, 1, 1, 2, []) := rfl
set_option maxRecDepth 100000 in
theorem lr_1171 : mAt t_L_law 1171 = some (1172, 1, 1, 0, []) := rfl
set_option maxRecDepth 100000 in
theorem lr_1172 : mAt t_L_law 1172 = some (1173, 1, 0, 3, []) := rfl
set_option maxRecDepth 100000 in
theorem lr_1173 : mAt t_L_law 1173 = some (1174, 0, 1, 0, []) := rfl
set_option maxRecDepth 100000 in
theorem lr_1174 : mAt t_L_law 1174 = some (1175, 4, 0, 0, []) := rfl
set_option maxRecDepth 100000 in
theorem lr_1175 : mAt t_L_law 1175 = some (1176, 18, 0, 0, []) := rfl
set_option maxRecDepth 100000 in
theorem lr_1176 : mAt t_L_law 1176 = some (1177, 1, 1, 0, []) := rfl
set_option maxRecDepth 100000 in
theorem lr_1177 : mAt t_L_law 1177 = some (1178, 1, 0, 3, []) := rfl
set_option maxRecDepth 100000 in
theorem lr_1178 : mAt t_L_law 1178 = some (1179, 0, 2, 0, []) := rfl
set_option maxRecDepth 100000 in
theorem lr_1179 : mAt t_L_law 1179 = some (1180, 4, 0, 0, []) := rfl
set_option maxRecDepth 100000 in
theorem lr_1180 : mAt t_L_law 1180 = some (1181, 18, 0, 0, []) := rfl
set_option maxRecDepth 100000 in
theorem lr_1181 : mAt t_L_law 1181 = some (1182, 1, 1, 0, []) := rfl
set_option maxRecDepth 100000 in
theorem lr_1182 : mAt t_L_law 1182 = some (1183, 1, 0, 3, []) := rfl
set_option maxRecDepth 100000 in
theorem lr_1183 : mAt t_L_law 1183 = some (1184, 0, 3, 0, []) := rfl
set_option maxRecDepth 100000 in
theorem lr_1184 : mAt t_L_law 1184 = some (1185, 4, 0, 0, []) := rfl
set_option maxRecDepth 100000 in
theorem lr_1185 : mAt t_L_law 1185 = some (1186, 18, 0, 0, []) := rfl
set_option maxRecDepth 100000 in
theorem lr_1186 : mAt t_L_law 1186 = some (1189, 51, 217, 3, []) := rfl
set_option maxRecDepth 100000 in
theorem lr_1189 : mAt t_L_law 1189 = some (1192, 7, 1299, 0, []) := rfl
set_option maxRecDepth 100000 in
theorem lr_1192 : mAt t_L_law 1192 = some (1193, 0, 0, 0, []) := rfl
set_option maxRecDepth 100000 in
theorem lr_1193 : mAt t_L_law 1193 = some (1194, 60, 0, 0, []) := rfl
set_option maxRecDepth 100000 in
theorem lr_1194 : mAt t_L_law 1194 = some (1195, 1, 1, 1, []) := rfl
set_option maxRecDepth 100000 in
theorem lr_1195 : mAt t_L_law 1195 = some (1196, 1, 1, 0, []) := rfl
set_option maxRecDepth 100000 in
theorem lr_1196 : mAt t_L_law 1196 = some (1197, 1, 0, 3, []) := rfl
set_option maxRecDepth 100000 in
theorem lr_1197 : mAt t_L_law 1197 = some (1198, 0, 1, 0, []) := rfl
set_option maxRecDepth 100000 in
theorem lr_1198 : mAt t_L_law 1198 = some (1199, 4, 0, 0, []) := rfl
set_option maxRecDepth 100000 in
theorem lr_1199 : mAt t_L_law 1199 = some (1200, 18, 0, 0, []) := rfl
set_option maxRecDepth 100000 in
theorem lr_1200 : mAt t_L_law 1200 = some (1203, 51, 218, 1, []) := rfl
set_option maxRecDepth 100000 in
theorem lr_1203 : mAt t_L_law 1203 = some (1204, 1, 1, 2, []) := rfl
set_option maxRecDepth 100000 in
theorem lr_1204 : mAt t_L_law 1204 = some (1205, 1, 1, 0, []) := rfl
set_option maxRecDepth 100000 in
theorem lr_1205 : mAt t_L_law 1205 = some (1206, 1, 0, 3, []) := rfl
set_option maxRecDepth 100000 in
theorem lr_1206 : mAt t_L_law 1206 = some (1207, 0, 1, 0, []) := rfl
set_option maxRecDepth 100000 in
theorem lr_1207 : mAt t_L_law 1207 = some (1208, 4, 0, 0, []) := rfl
set_option maxRecDepth 100000 in
theorem lr_1208 : mAt t_L_law 1208 = some (1209, 18, 0, 0, []) := rfl
set_option maxRecDepth 100000 in
theorem lr_1209 : mAt t_L_law 1209 = some (1212, 51, 219, 1, []) := rfl
set_option maxRecDepth 100000 in
theorem lr_1212 : mAt t_L_law 1212 = some (1215, 7, 1299, 0, []) := rfl
set_option maxRecDepth 100000 in
theorem lr_1215 : mAt t_L_law 1215 = some (1216, 0, 0, 0, []) := rfl
set_option maxRecDepth 100000 in
theorem lr_1216 : mAt t_L_law 1216 = some (1217, 60, 0, 0, []) := rfl
set_option maxRecDepth 100000 in
theorem lr_1217 : mAt t_L_law 1217 = some (1218, 1, 1, 1, []) := rfl
set_option maxRecDepth 100000 in
theorem lr_1218 : mAt t_L_law 1218 = some (1219, 1, 1, 0, []) := rfl
set_option maxRecDepth 100000 in
theorem lr_1219 : mAt t_L_law 1219 = some (1220, 1, 0, 3, []) := rfl
set_option maxRecDepth 100000 in
theorem lr_1220 : mAt t_L_law 1220 = some (1221, 0, 1, 0, []) := rfl
set_option maxRecDepth 100000 in
theorem lr_1221 : mAt t_L_law 1221 = some (1222, 4, 0, 0, []) := rfl
set_option maxRecDepth 100000 in
theorem lr_1222 : mAt t_L_law 1222 = some (1223, 18, 0, 0, []) := rfl
set_option maxRecDepth 100000 in
theorem lr_1223 : mAt t_L_law 1223 = some (1224, 1, 1, 0, []) := rfl
set_option maxRecDepth 100000 in
theorem lr_1224 : mAt t_L_law 1224 = some (1225, 1, 0, 3, []) := rfl
set_option maxRecDepth 100000 in
theorem lr_1225 : mAt t_L_law 1225 = some (1226, 0, 2, 0, []) := rfl
set_option maxRecDepth 100000 in
theorem lr_1226 : mAt t_L_law 1226 = some (1227, 4, 0, 0, []) := rfl
set_option maxRecDepth 100000 in
theorem lr_1227 : mAt t_L_law 1227 = some (1228, 18, 0, 0, []) := rfl
set_option maxRecDepth 100000 in
theorem lr_1228 : mAt t_L_law 1228 = some (1231, 51, 220, 2, []) := rfl
set_option maxRecDepth 100000 in
theorem lr_1231 : mAt t_L_law 1231 = some (1232, 1, 1, 2, []) := rfl
set_option maxRecDepth 100000 in
theorem lr_1232 : mAt t_L_law 1232 = some (1233, 1, 1, 0, []) := rfl
set_option maxRecDepth 100000 in
theorem lr_1233 : mAt t_L_law 1233 = some (1234, 1, 0, 3, []) := rfl
set_option maxRecDepth 100000 in
theorem lr_1234 : mAt t_L_law 1234 = some (1235, 0, 1, 0, []) := rfl
set_option maxRecDepth 100000 in
theorem lr_1235 : mAt t_L_law 1235 = some (1236, 4, 0, 0, []) := rfl
set_option maxRecDepth 100000 in
theorem lr_1236 : mAt t_L_law 1236 = some (1237, 18, 0, 0, []) := rfl
set_option maxRecDepth 100000 in
theorem lr_1237 : mAt t_L_law 1237 = some (1238, 1, 1, 0, []) := rfl
set_option maxRecDepth 100000 in
theorem lr_1238 : mAt t_L_law 1238 = some (1239, 1, 0, 3, []) := rfl
set_option maxRecDepth 100000 in
theorem lr_1239 : mAt t_L_law 1239 = some (1240, 0, 2, 0, []) := rfl
set_option maxRecDepth 100000 in
theorem lr_1240 : mAt t_L_law 1240 = some (1241, 4, 0, 0, []) := rfl
set_option maxRecDepth 100000 in
theorem lr_1241 : mAt t_L_law 1241 = some (1242, 18, 0, 0, []) := rfl
set_option maxRecDepth 100000 in
theorem lr_1242 : mAt t_L_law 1242 = some (1245, 51, 221, 2, []) := rfl
set_option maxRecDepth 100000 in
theorem lr_1245 : mAt t_L_law 1245 = some (1248, 7, 1299, 0, []) := rfl
set_option maxRecDepth 100000 in
theorem lr_1248 : mAt t_L_law 1248 = some (1249, 0, 0, 0, []) := rfl
set_option maxRecDepth 100000 in
theorem lr_1249 : mAt t_L_law 1249 = some (1250, 60, 0, 0, []) := rfl
set_option maxRecDepth 100000 in
theorem lr_1250 : mAt t_L_law 1250 = some (1251, 1, 1, 1, []) := rfl
set_option maxRecDepth 100000 in
theorem lr_1251 : mAt t_L_law 1251 = some (1254, 51, 222, 0, []) := rfl
set_option maxRecDepth 100000 in
theorem lr_1254 : mAt t_L_law 1254 = some (1255, 1, 1, 2, []) := rfl
set_option maxRecDepth 100000 in
theorem lr_1255 : mAt t_L_law 1255 = some (1258, 51, 223, 0, []) := rfl
set_option maxRecDepth 100000 in
theorem lr_1258 : mAt t_L_law 1258 = some (1261, 7, 1299, 0, []) := rfl
set_option maxRecDepth 100000 in
theorem lr_1261 : mAt t_L_law 1261 = some (1262, 0, 0, 0, []) := rfl
set_option maxRecDepth 100000 in
theorem lr_1262 : mAt t_L_law 1262 = some (1263, 60, 0, 0, []) := rfl
set_option maxRecDepth 100000 in
theorem lr_1263 : mAt t_L_law 1263 = some (1264, 1, 1, 1, []) := rfl
set_option maxRecDepth 100000 in
theorem lr_1264 : mAt t_L_law 1264 = some (1267, 51, 224, 0, []) := rfl
set_option maxRecDepth 100000 in
theorem lr_1267 : mAt t_L_law 1267 = some (1268, 1, 1, 2, []) := rfl
set_option maxRecDepth 100000 in
theorem lr_1268 : mAt t_L_law 1268 = some (1271, 51, 225, 0, []) := rfl
set_option maxRecDepth 100000 in
theorem lr_1271 : mAt t_L_law 1271 = some (1274, 7, 1299, 0, []) := rfl
set_option maxRecDepth 100000 in
theorem lr_1274 : mAt t_L_law 1274 = some (1275, 0, 0, 0, []) := rfl
set_option maxRecDepth 100000 in
theorem lr_1275 : mAt t_L_law 1275 = some (1276, 60, 0, 0, []) := rfl
set_option maxRecDepth 100000 in
theorem lr_1276 : mAt t_L_law 1276 = some (1277, 1, 1, 1, []) := rfl
set_option maxRecDepth 100000 in
theorem lr_1277 : mAt t_L_law 1277 = some (1278, 1, 1, 0, []) := rfl
set_option maxRecDepth 100000 in
theorem lr_1278 : mAt t_L_law 1278 = some (1279, 1, 0, 3, []) := rfl
set_option maxRecDepth 100000 in
theorem lr_1279 : mAt t_L_law 1279 = some (1280, 0, 1, 0, []) := rfl
set_option maxRecDepth 100000 in
theorem lr_1280 : mAt t_L_law 1280 = some (1281, 4, 0, 0, []) := rfl
set_option maxRecDepth 100000 in
theorem lr_1281 : mAt t_L_law 1281 = some (1282, 18, 0, 0, []) := rfl
set_option maxRecDepth 100000 in
theorem lr_1282 : mAt t_L_law 1282 = some (1285, 51, 226, 1, []) := rfl
set_option maxRecDepth 100000 in
theorem lr_1285 : mAt t_L_law 1285 = some (1286, 1, 1, 2, []) := rfl
set_option maxRecDepth 100000 in
theorem lr_1286 : mAt t_L_law 1286 = some (1287, 1, 1, 0, []) := rfl
set_option maxRecDepth 100000 in
theorem lr_1287 : mAt t_L_law 1287 = some (1288, 1, 0, 3, []) := rfl
set_option maxRecDepth 100000 in
theorem lr_1288 : mAt t_L_law 1288 = some (1289, 0, 1, 0, []) := rfl
set_option maxRecDepth 100000 in
theorem lr_1289 : mAt t_L_law 1289 = some (1290, 4, 0, 0, []) := rfl
set_option maxRecDepth 100000 in
theorem lr_1290 : mAt t_L_law 1290 = some (1291, 18, 0, 0, []) := rfl
set_option maxRecDepth 100000 in
theorem lr_1291 : mAt t_L_law 1291 = some (1294, 51, 227, 1, []) := rfl
set_option maxRecDepth 100000 in
theorem lr_1294 : mAt t_L_law 1294 = some (1297, 7, 1299, 0, []) := rfl
set_option maxRecDepth 100000 in
theorem lr_1297 : mAt t_L_law 1297 = some (1298, 0, 0, 0, []) := rfl
set_option maxRecDepth 100000 in
theorem lr_1298 : mAt t_L_law 1298 = some (1299, 60, 0, 0, []) := rfl
set_option maxRecDepth 100000 in
theorem lr_1299 : mAt t_L_law 1299 = some (1302, 3, 3, 4, []) := rfl
set_option maxRecDepth 100000 in
theorem lr_1302 : mAt t_L_law 1302 = some (1305, 10, 18, 0, []) := rfl
set_option maxRecDepth 100000 in
theorem lr_1305 : mAt t_L_law 1305 = some (1306, 0, 1, 0, []) := rfl
set_option maxRecDepth 100000 in
theorem lr_1306 : mAt t_L_law 1306 = some (1307, 60, 0, 0, []) := rfl
