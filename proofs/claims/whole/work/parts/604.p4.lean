def yp_CE1 : List RC := [.inr (.inl (11, [some 1, some 3, some 7, some 11, some 14, some 17, some 20, some 23, some 27, some 33, some 39, some 137, none, none, some 453, some 510])), .inr (.inl (8, [some 2])), .inl 600, .inr (.inl (1, [some 4, some 5, some 6])), .inl 42, .inl 8, .inl 8, .inr (.inl (1, [some 8, some 9, some 10])), .inl 42, .inl 8, .inl 8, .inr (.inl (4, [some 12, some 13])), .inl 151, .inl 151, .inr (.inl (4, [some 15, some 16])), .inl 151, .inl 151, .inr (.inl (0, [some 18, some 19])), .inl 8, .inl 8, .inr (.inl (0, [some 21, some 22])), .inl 8, .inl 8, .inr (.inl (5, [some 3, some 11, some 24, some 25, some 26])), .inl 8, .inl 7, .inl 8, .inr (.inl (10, [some 1, some 3, some 23, some 28, some 29, some 30, some 31, some 32])), .inl 150, .inl 150, .inl 150, .inl 150, .inl 150, .inr (.inl (2, [some 34, some 35, some 36, some 37, some 38])), .inl 42, .inl 42, .inl 42, .inl 42, .inl 6, .inr (.inl (7, [some 40])), .inr (.inr (0, 16, [some 41, some 47, some 53, some 59, some 65, some 71, some 77, some 83, some 89, some 95, some 101, some 107, some 113, some 119, some 125, some 131])), .inr (.inl (2, [some 42, some 43, some 44, some 45, some 46])), .inl 42, .inl 42, .inl 42, .inl 42, .inl 6, .inr (.inl (2, [some 48, some 49, some 50, some 51, some 52])), .inl 42, .inl 42, .inl 42, .inl 42, .inl 6, .inr (.inl (2, [some 54, some 55, some 56, some 57, some 58])), .inl 42, .inl 42, .inl 42, .inl 42, .inl 6, .inr (.inl (2, [some 60, some 61, some 62, some 63, some 64])), .inl 42, .inl 42, .inl 42, .inl 42, .inl 6, .inr (.inl (2, [some 66, some 67, some 68, some 69, some 70])), .inl 42, .inl 42, .inl 42, .inl 42, .inl 6, .inr (.inl (2, [some 72, some 73, some 74, some 75, some 76])), .inl 42, .inl 42, .inl 42, .inl 42, .inl 6, .inr (.inl (2, [some 78, some 79, some 80, some 81, some 82])), .inl 42, .inl 42, .inl 42, .inl 42, .inl 6, .inr (.inl (2, [some 84, some 85, some 86, some 87, some 88])), .inl 42, .inl 42, .inl 42, .inl 42, .inl 6, .inr (.inl (2, [some 90, some 91, some 92, some 93, some 94])), .inl 42, .inl 42, .inl 42, .inl 42, .inl 6, .inr (.inl (2, [some 96, some 97, some 98, some 99, some 100])), .inl 42, .inl 42, .inl 42, .inl 42, .inl 6, .inr (.inl (2, [some 102, some 103, some 104, some 105, some 106])), .inl 42, .inl 42, .inl 42, .inl 42, .inl 6, .inr (.inl (2, [some 108, some 109, some 110, some 111, some 112])), .inl 42, .inl 42, .inl 42, .inl 42, .inl 6, .inr (.inl (2, [some 114, some 115, some 116, some 117, some 118])), .inl 42, .inl 42, .inl 42, .inl 42, .inl 6, .inr (.inl (2, [some 120, some 121, some 122, some 123, some 124])), .inl 42, .inl 42, .inl 42, .inl 42, .inl 6, .inr (.inl (2, [some 126, some 127, some 128, some 129, some 130])), .inl 42, .inl 42, .inl 42, .inl 42, .inl 6, .inr (.inl (2, [some 132, some 133, some 134, some 135, some 136])), .inl 42, .inl 42, .inl 42, .inl 42, .inl 6, .inr (.inr (1, 3, [some 138, some 243, some 348])), .inr (.inl (3, [some 139, some 145])), .inr (.inl (2, [some 140, some 141, some 142, some 143, some 144])), .inl 42, .inl 42, .inl 42, .inl 42, .inl 6, .inr (.inl (7, [some 146])), .inr (.inr (0, 16, [some 147, some 153, some 159, some 165, some 171, some 177, some 183, some 189, some 195, some 201, some 207, some 213, some 219, some 225, some 231, some 237])), .inr (.inl (2, [some 148, some 149, some 150, some 151, some 152])), .inl 42, .inl 42, .inl 42, .inl 42, .inl 6, .inr (.inl (2, [some 154, some 155, some 156, some 157, some 158])), .inl 42, .inl 42, .inl 42, .inl 42, .inl 6, .inr (.inl (2, [some 160, some 161, some 162, some 163, some 164])), .inl 42, .inl 42, .inl 42, .inl 42, .inl 6, .inr (.inl (2, [some 166, some 167, some 168, some 169, some 170])), .inl 42, .inl 42, .inl 42, .inl 42, .inl 6, .inr (.inl (2, [some 172, some 173, some 174, some 175, some 176])), .inl 42, .inl 42, .inl 42, .inl 42, .inl 6, .inr (.inl (2, [some 178, some 179, some 180, some 181, some 182])), .inl 42, .inl 42, .inl 42, .inl 42, .inl 6, .inr (.inl (2, [some 184, some 185, some 186, some 187, some 188])), .inl 42, .inl 42, .inl 42, .inl 42, .inl 6, .inr (.inl (2, [some 190, some 191, some 192, some 193, some 194])), .inl 42, .inl 42, .inl 42, .inl 42, .inl 6, .inr (.inl (2, [some 196, some 197, some 198, some 199, some 200])), .inl 42, .inl 42, .inl 42, .inl 42, .inl 6, .inr (.inl (2, [some 202, some 203, some 204, some 205, some 206])), .inl 42, .inl 42, .inl 42, .inl 42, .inl 6, .inr (.inl (2, [some 208, some 209, some 210, some 211, some 212])), .inl 42, .inl 42, .inl 42, .inl 42, .inl 6, .inr (.inl (2, [some 214, some 215, some 216, some 217, some 218])), .inl 42, .inl 42, .inl 42, .inl 42, .inl 6, .inr (.inl (2, [some 220, some 221, some 222, some 223, some 224])), .inl 42, .inl 42, .inl 42, .inl 42, .inl 6, .inr (.inl (2, [some 226, some 227, some 228, some 229, some 230])), .inl 42, .inl 42, .inl 42, .inl 42, .inl 6, .inr (.inl (2, [some 232, some 233, some 234, some 235, some 236])), .inl 42, .inl 42, .inl 42, .inl 42, .inl 6, .inr (.inl (2, [some 238, some 239, some 240, some 241, some 242])), .inl 42, .inl 42, .inl 42, .inl 42, .inl 6, .inr (.inl (3, [some 244, some 250])), .inr (.inl (2, [some 245, some 246, some 247, some 248, some 249])), .inl 42, .inl 42, .inl 42, .inl 42, .inl 6, .inr (.inl (7, [some 251])), .inr (.inr (0, 16, [some 252, some 258, some 264, some 270, some 276, some 282, some 288, some 294, some 300, some 306, some 312, some 318, some 324, some 330, some 336, some 342])), .inr (.inl (2, [some 253, some 254, some 255, some 256, some 257])), .inl 42, .inl 42, .inl 42, .inl 42, .inl 6, .inr (.inl (2, [some 259, some 260, some 261, some 262, some 263])), .inl 42, .inl 42, .inl 42, .inl 42, .inl 6, .inr (.inl (2, [some 265, some 266, some 267, some 268, some 269])), .inl 42, .inl 42, .inl 42, .inl 42, .inl 6, .inr (.inl (2, [some 271, some 272, some 273, some 274, some 275])), .inl 42, .inl 42, .inl 42, .inl 42, .inl 6, .inr (.inl (2, [some 277, some 278, some 279, some 280, some 281])), .inl 42, .inl 42, .inl 42, .inl 42, .inl 6, .inr (.inl (2, [some 283, some 284, some 285, some 286, some 287])), .inl 42, .inl 42, .inl 42, .inl 42, .inl 6, .inr (.inl (2, [some 289, some 290, some 291, some 292, some 293])), .inl 42, .inl 42, .inl 42, .inl 42, .inl 6, .inr (.inl (2, [some 295, some 296, some 297, some 298, some 299])), .inl 42, .inl 42, .inl 42, .inl 42, .inl 6, .inr (.inl (2, [some 301, some 302, some 303, some 304, some 305])), .inl 42, .inl 42, .inl 42, .inl 42, .inl 6, .inr (.inl (2, [some 307, some 308, some 309, some 310, some 311])), .inl 42, .inl 42, .inl 42, .inl 42, .inl 6, .inr (.inl (2, [some 313, some 314, some 315, some 316, some 317])), .inl 42, .inl 42, .inl 42, .inl 42, .inl 6, .inr (.inl (2, [some 319, some 320, some 321, some 322, some 323])), .inl 42, .inl 42, .inl 42, .inl 42, .inl 6, .inr (.inl (2, [some 325, some 326, some 327, some 328, some 329])), .inl 42, .inl 42, .inl 42, .inl 42, .inl 6, .inr (.inl (2, [some 331, some 332, some 333, some 334, some 335])), .inl 42, .inl 42, .inl 42, .inl 42, .inl 6, .inr (.inl (2, [some 337, some 338, some 339, some 340, some 341])), .inl 42, .inl 42, .inl 42, .inl 42, .inl 6, .inr (.inl (2, [some 343, some 344, some 345, some 346, some 347])), .inl 42, .inl 42, .inl 42, .inl 42, .inl 6, .inr (.inl (3, [some 349, some 355])), .inr (.inl (2, [some 350, some 351, some 352, some 353, some 354])), .inl 42, .inl 42, .inl 42, .inl 42, .inl 6, .inr (.inl (7, [some 356])), .inr (.inr (0, 16, [some 357, some 363, some 369, some 375, some 381, some 387, some 393, some 399, some 405, some 411, some 417, some 423, some 429, some 435, some 441, some 447])), .inr (.inl (2, [some 358, some 359, some 360, some 361, some 362])), .inl 42, .inl 42, .inl 42, .inl 42, .inl 6, .inr (.inl (2, [some 364, some 365, some 366, some 367, some 368])), .inl 42, .inl 42, .inl 42, .inl 42, .inl 6, .inr (.inl (2, [some 370, some 371, some 372, some 373, some 374])), .inl 42, .inl 42, .inl 42, .inl 42, .inl 6, .inr (.inl (2, [some 376, some 377, some 378, some 379, some 380])), .inl 42, .inl 42, .inl 42, .inl 42, .inl 6, .inr (.inl (2, [some 382, some 383, some 384, some 385, some 386])), .inl 42, .inl 42, .inl 42, .inl 42, .inl 6, .inr (.inl (2, [some 388, some 389, some 390, some 391, some 392])), .inl 42, .inl 42, .inl 42, .inl 42, .inl 6, .inr (.inl (2, [some 394, some 395, some 396, some 397, some 398])), .inl 42, .inl 42, .inl 42, .inl 42, .inl 6, .inr (.inl (2, [some 400, some 401, some 402, some 403, some 404])), .inl 42, .inl 42, .inl 42, .inl 42, .inl 6, .inr (.inl (2, [some 406, some 407, some 408, some 409, some 410])), .inl 42, .inl 42, .inl 42, .inl 42, .inl 6, .inr (.inl (2, [some 412, some 413, some 414, some 415, some 416])), .inl 42, .inl 42, .inl 42, .inl 42, .inl 6, .inr (.inl (2, [some 418, some 419, some 420, some 421, some 422])), .inl 42, .inl 42, .inl 42, .inl 42, .inl 6, .inr (.inl (2, [some 424, some 425, some 426, some 427, some 428])), .inl 42, .inl 42, .inl 42, .inl 42, .inl 6, .inr (.inl (2, [some 430, some 431, some 432, some 433, some 434])), .inl 42, .inl 42, .inl 42, .inl 42, .inl 6, .inr (.inl (2, [some 436, some 437, some 438, some 439, some 440])), .inl 42, .inl 42, .inl 42, .inl 42, .inl 6, .inr (.inl (2, [some 442, some 443, some 444, some 445, some 446])), .inl 42, .inl 42, .inl 42, .inl 42, .inl 6, .inr (.inl (2, [some 448, some 449, some 450, some 451, some 452])), .inl 42, .inl 42, .inl 42, .inl 42, .inl 6, .inr (.inl (6, [some 3, some 17, some 23, some 454, some 460, some 509])), .inr (.inl (2, [some 455, some 456, some 457, some 458, some 459])), .inl 42, .inl 42, .inl 42, .inl 42, .inl 6, .inr (.inr (2, 48, [some 461, some 462, some 463, some 464, some 465, some 466, some 467, some 468, some 469, some 470, some 471, some 472, some 473, some 474, some 475, some 476, some 477, some 478, some 479, some 480, some 481, some 482, some 483, some 484, some 485, some 486, some 487, some 488, some 489, some 490, some 491, some 492, some 493, some 494, some 495, some 496, some 497, some 498, some 499, some 500, some 501, some 502, some 503, some 504, some 505, some 506, some 507, some 508])), .inl 99, .inl 99, .inl 99, .inl 99, .inl 99, .inl 99, .inl 99, .inl 99, .inl 99, .inl 99, .inl 99, .inl 99, .inl 99, .inl 99, .inl 99, .inl 99, .inl 99, .inl 99, .inl 99, .inl 99, .inl 99, .inl 99, .inl 99, .inl 99, .inl 99, .inl 99, .inl 99, .inl 99, .inl 99, .inl 99, .inl 99, .inl 99, .inl 99, .inl 99, .inl 99, .inl 99, .inl 99, .inl 99, .inl 99, .inl 99, .inl 99, .inl 99, .inl 99, .inl 99, .inl 99, .inl 99, .inl 99, .inl 99, .inl 1681, .inr (.inl (9, [some 3, some 23, some 511])), .inr (.inl (2, [some 512, some 513, some 514, some 515, some 516])), .inl 42, .inl 42, .inl 42, .inl 42, .inl 6]
def yp_CE2 : List RC := yp_CE1 ++ [.inr (.inl (12, [none, some 518, none, none, none, none, none, none, none, some 519, some 520, some 521, some 522, some 523, none, none, none, none, none, none, some 524, some 525, some 526, some 527, some 528, none, none, some 529, some 530, some 531, none, none, none, none, none, none, some 532, some 533, some 534, some 535, some 536, some 537, none, some 538, some 539, none, some 540, none, some 541])), .inl 2, .inl 600, .inl 42, .inl 16, .inl 42, .inl 16, .inl 150, .inl 150, .inl 150, .inl 150, .inl 150, .inl 8, .inl 200, .inl 200, .inl 175, .inl 175, .inl 2800, .inl 7, .inl 16, .inl 16, .inl 48, .inl 48, .inl 4752, .inl 8928]
def yp_CE : List RC := yp_CE2 ++ [.inr (.inr (3, 1, []))]
def yp_SH (B : Nat) : Shp := shL B yp_CE
set_option maxHeartbeats 1000000 in
theorem yp_SHat (B i : Nat) : yp_SH B (B + i) = (yp_CE[i]?).map (shf B) := by
  unfold yp_SH shL
  rw [if_neg (by omega), show B + i - B = i by omega]
section CELLS
variable (B : Nat)
set_option maxHeartbeats 1000000 in
theorem yp_HSof {B i : Nat} (h0 : yp_CE[i]? = some (.inr (.inl (2, [some (i + 1), some (i + 2), some (i + 3), some (i + 4), some (i + 5)])))) (h1 : yp_CE[i + 1]? = some (.inl 42)) (h2 : yp_CE[i + 2]? = some (.inl 42)) (h3 : yp_CE[i + 3]? = some (.inl 42)) (h4 : yp_CE[i + 4]? = some (.inl 42)) (h5 : yp_CE[i + 5]? = some (.inl 6)) : yp_HS (yp_SH B) (B + i) := by
  have e0 := yp_SHat B i
  have e1 := yp_SHat B (i + 1)
  have e2 := yp_SHat B (i + 2)
  have e3 := yp_SHat B (i + 3)
  have e4 := yp_SHat B (i + 4)
  have e5 := yp_SHat B (i + 5)
  rw [h0] at e0
  rw [h1] at e1
  rw [h2] at e2
  rw [h3] at e3
  rw [h4] at e4
  rw [h5] at e5
  refine ⟨⟨⟨?_, ?_, ?_, ?_, ?_⟩, ?_, ?_, ?_⟩, e1, e2, e3, e4, e5⟩
  · rw [rR, e0]; rfl
  · rw [rR, e0]; rfl
  · rw [rR, e0]; rfl
  · rw [rR, e0]; rfl
  · rw [rR, e0]; rfl
  · rw [isO, e0]; rfl
  · intro mm; rw [rI, e0]; rfl
  · intro mm v; rw [wI, e0]; rfl
set_option maxHeartbeats 1000000 in
set_option maxRecDepth 8192 in
theorem yp_hs33 : yp_HS (yp_SH B) (B + 33) := yp_HSof rfl rfl rfl rfl rfl rfl
set_option maxHeartbeats 1000000 in
set_option maxRecDepth 8192 in
theorem yp_hs41 : yp_HS (yp_SH B) (B + 41) := yp_HSof rfl rfl rfl rfl rfl rfl
set_option maxHeartbeats 1000000 in
set_option maxRecDepth 8192 in
theorem yp_hs47 : yp_HS (yp_SH B) (B + 47) := yp_HSof rfl rfl rfl rfl rfl rfl
set_option maxHeartbeats 1000000 in
set_option maxRecDepth 8192 in
theorem yp_hs53 : yp_HS (yp_SH B) (B + 53) := yp_HSof rfl rfl rfl rfl rfl rfl
set_option maxHeartbeats 1000000 in
set_option maxRecDepth 8192 in
theorem yp_hs59 : yp_HS (yp_SH B) (B + 59) := yp_HSof rfl rfl rfl rfl rfl rfl
set_option maxHeartbeats 1000000 in
set_option maxRecDepth 8192 in
theorem yp_hs65 : yp_HS (yp_SH B) (B + 65) := yp_HSof rfl rfl rfl rfl rfl rfl
set_option maxHeartbeats 1000000 in
set_option maxRecDepth 8192 in
theorem yp_hs71 : yp_HS (yp_SH B) (B + 71) := yp_HSof rfl rfl rfl rfl rfl rfl
set_option maxHeartbeats 1000000 in
set_option maxRecDepth 8192 in
theorem yp_hs77 : yp_HS (yp_SH B) (B + 77) := yp_HSof rfl rfl rfl rfl rfl rfl
set_option maxHeartbeats 1000000 in
set_option maxRecDepth 8192 in
theorem yp_hs83 : yp_HS (yp_SH B) (B + 83) := yp_HSof rfl rfl rfl rfl rfl rfl
set_option maxHeartbeats 1000000 in
set_option maxRecDepth 8192 in
theorem yp_hs89 : yp_HS (yp_SH B) (B + 89) := yp_HSof rfl rfl rfl rfl rfl rfl
set_option maxHeartbeats 1000000 in
set_option maxRecDepth 8192 in
theorem yp_hs95 : yp_HS (yp_SH B) (B + 95) := yp_HSof rfl rfl rfl rfl rfl rfl
set_option maxHeartbeats 1000000 in
set_option maxRecDepth 8192 in
theorem yp_hs101 : yp_HS (yp_SH B) (B + 101) := yp_HSof rfl rfl rfl rfl rfl rfl
set_option maxHeartbeats 1000000 in
set_option maxRecDepth 8192 in
theorem yp_hs107 : yp_HS (yp_SH B) (B + 107) := yp_HSof rfl rfl rfl rfl rfl rfl
set_option maxHeartbeats 1000000 in
set_option maxRecDepth 8192 in
theorem yp_hs113 : yp_HS (yp_SH B) (B + 113) := yp_HSof rfl rfl rfl rfl rfl rfl
set_option maxHeartbeats 1000000 in
set_option maxRecDepth 8192 in
theorem yp_hs119 : yp_HS (yp_SH B) (B + 119) := yp_HSof rfl rfl rfl rfl rfl rfl
set_option maxHeartbeats 1000000 in
set_option maxRecDepth 8192 in
theorem yp_hs125 : yp_HS (yp_SH B) (B + 125) := yp_HSof rfl rfl rfl rfl rfl rfl
set_option maxHeartbeats 1000000 in
set_option maxRecDepth 8192 in
theorem yp_hs131 : yp_HS (yp_SH B) (B + 131) := yp_HSof rfl rfl rfl rfl rfl rfl
set_option maxHeartbeats 1000000 in
set_option maxRecDepth 8192 in
theorem yp_hs139 : yp_HS (yp_SH B) (B + 139) := yp_HSof rfl rfl rfl rfl rfl rfl
set_option maxHeartbeats 1000000 in
set_option maxRecDepth 8192 in
theorem yp_hs147 : yp_HS (yp_SH B) (B + 147) := yp_HSof rfl rfl rfl rfl rfl rfl
set_option maxHeartbeats 1000000 in
set_option maxRecDepth 8192 in
theorem yp_hs153 : yp_HS (yp_SH B) (B + 153) := yp_HSof rfl rfl rfl rfl rfl rfl
set_option maxHeartbeats 1000000 in
set_option maxRecDepth 8192 in
theorem yp_hs159 : yp_HS (yp_SH B) (B + 159) := yp_HSof rfl rfl rfl rfl rfl rfl
set_option maxHeartbeats 1000000 in
set_option maxRecDepth 8192 in
theorem yp_hs165 : yp_HS (yp_SH B) (B + 165) := yp_HSof rfl rfl rfl rfl rfl rfl
set_option maxHeartbeats 1000000 in
set_option maxRecDepth 8192 in
theorem yp_hs171 : yp_HS (yp_SH B) (B + 171) := yp_HSof rfl rfl rfl rfl rfl rfl
set_option maxHeartbeats 1000000 in
set_option maxRecDepth 8192 in
theorem yp_hs177 : yp_HS (yp_SH B) (B + 177) := yp_HSof rfl rfl rfl rfl rfl rfl
set_option maxHeartbeats 1000000 in
set_option maxRecDepth 8192 in
theorem yp_hs183 : yp_HS (yp_SH B) (B + 183) := yp_HSof rfl rfl rfl rfl rfl rfl
set_option maxHeartbeats 1000000 in
set_option maxRecDepth 8192 in
theorem yp_hs189 : yp_HS (yp_SH B) (B + 189) := yp_HSof rfl rfl rfl rfl rfl rfl
set_option maxHeartbeats 1000000 in
set_option maxRecDepth 8192 in
theorem yp_hs195 : yp_HS (yp_SH B) (B + 195) := yp_HSof rfl rfl rfl rfl rfl rfl
set_option maxHeartbeats 1000000 in
set_option maxRecDepth 8192 in
theorem yp_hs201 : yp_HS (yp_SH B) (B + 201) := yp_HSof rfl rfl rfl rfl rfl rfl
set_option maxHeartbeats 1000000 in
set_option maxRecDepth 8192 in
theorem yp_hs207 : yp_HS (yp_SH B) (B + 207) := yp_HSof rfl rfl rfl rfl rfl rfl
set_option maxHeartbeats 1000000 in
set_option maxRecDepth 8192 in
theorem yp_hs213 : yp_HS (yp_SH B) (B + 213) := yp_HSof rfl rfl rfl rfl rfl rfl
set_option maxHeartbeats 1000000 in
set_option maxRecDepth 8192 in
theorem yp_hs219 : yp_HS (yp_SH B) (B + 219) := yp_HSof rfl rfl rfl rfl rfl rfl
set_option maxHeartbeats 1000000 in
set_option maxRecDepth 8192 in
theorem yp_hs225 : yp_HS (yp_SH B) (B + 225) := yp_HSof rfl rfl rfl rfl rfl rfl
set_option maxHeartbeats 1000000 in
set_option maxRecDepth 8192 in
theorem yp_hs231 : yp_HS (yp_SH B) (B + 231) := yp_HSof rfl rfl rfl rfl rfl rfl
set_option maxHeartbeats 1000000 in
set_option maxRecDepth 8192 in
theorem yp_hs237 : yp_HS (yp_SH B) (B + 237) := yp_HSof rfl rfl rfl rfl rfl rfl
set_option maxHeartbeats 1000000 in
set_option maxRecDepth 8192 in
theorem yp_hs244 : yp_HS (yp_SH B) (B + 244) := yp_HSof rfl rfl rfl rfl rfl rfl
set_option maxHeartbeats 1000000 in
set_option maxRecDepth 8192 in
theorem yp_hs252 : yp_HS (yp_SH B) (B + 252) := yp_HSof rfl rfl rfl rfl rfl rfl
set_option maxHeartbeats 1000000 in
set_option maxRecDepth 8192 in
theorem yp_hs258 : yp_HS (yp_SH B) (B + 258) := yp_HSof rfl rfl rfl rfl rfl rfl
set_option maxHeartbeats 1000000 in
set_option maxRecDepth 8192 in
theorem yp_hs264 : yp_HS (yp_SH B) (B + 264) := yp_HSof rfl rfl rfl rfl rfl rfl
set_option maxHeartbeats 1000000 in
set_option maxRecDepth 8192 in
theorem yp_hs270 : yp_HS (yp_SH B) (B + 270) := yp_HSof rfl rfl rfl rfl rfl rfl
set_option maxHeartbeats 1000000 in
set_option maxRecDepth 8192 in
theorem yp_hs276 : yp_HS (yp_SH B) (B + 276) := yp_HSof rfl rfl rfl rfl rfl rfl
set_option maxHeartbeats 1000000 in
set_option maxRecDepth 8192 in
theorem yp_hs282 : yp_HS (yp_SH B) (B + 282) := yp_HSof rfl rfl rfl rfl rfl rfl
set_option maxHeartbeats 1000000 in
set_option maxRecDepth 8192 in
theorem yp_hs288 : yp_HS (yp_SH B) (B + 288) := yp_HSof rfl rfl rfl rfl rfl rfl
set_option maxHeartbeats 1000000 in
set_option maxRecDepth 8192 in
theorem yp_hs294 : yp_HS (yp_SH B) (B + 294) := yp_HSof rfl rfl rfl rfl rfl rfl
set_option maxHeartbeats 1000000 in
set_option maxRecDepth 8192 in
theorem yp_hs300 : yp_HS (yp_SH B) (B + 300) := yp_HSof rfl rfl rfl rfl rfl rfl
set_option maxHeartbeats 1000000 in
set_option maxRecDepth 8192 in
theorem yp_hs306 : yp_HS (yp_SH B) (B + 306) := yp_HSof rfl rfl rfl rfl rfl rfl
set_option maxHeartbeats 1000000 in
set_option maxRecDepth 8192 in
theorem yp_hs312 : yp_HS (yp_SH B) (B + 312) := yp_HSof rfl rfl rfl rfl rfl rfl
set_option maxHeartbeats 1000000 in
set_option maxRecDepth 8192 in
theorem yp_hs318 : yp_HS (yp_SH B) (B + 318) := yp_HSof rfl rfl rfl rfl rfl rfl
set_option maxHeartbeats 1000000 in
set_option maxRecDepth 8192 in
theorem yp_hs324 : yp_HS (yp_SH B) (B + 324) := yp_HSof rfl rfl rfl rfl rfl rfl
set_option maxHeartbeats 1000000 in
set_option maxRecDepth 8192 in
theorem yp_hs330 : yp_HS (yp_SH B) (B + 330) := yp_HSof rfl rfl rfl rfl rfl rfl
set_option maxHeartbeats 1000000 in
set_option maxRecDepth 8192 in
theorem yp_hs336 : yp_HS (yp_SH B) (B + 336) := yp_HSof rfl rfl rfl rfl rfl rfl
set_option maxHeartbeats 1000000 in
set_option maxRecDepth 8192 in
theorem yp_hs342 : yp_HS (yp_SH B) (B + 342) := yp_HSof rfl rfl rfl rfl rfl rfl
set_option maxHeartbeats 1000000 in
set_option maxRecDepth 8192 in
theorem yp_hs349 : yp_HS (yp_SH B) (B + 349) := yp_HSof rfl rfl rfl rfl rfl rfl
set_option maxHeartbeats 1000000 in
set_option maxRecDepth 8192 in
theorem yp_hs357 : yp_HS (yp_SH B) (B + 357) := yp_HSof rfl rfl rfl rfl rfl rfl
set_option maxHeartbeats 1000000 in
set_option maxRecDepth 8192 in
theorem yp_hs363 : yp_HS (yp_SH B) (B + 363) := yp_HSof rfl rfl rfl rfl rfl rfl
set_option maxHeartbeats 1000000 in
set_option maxRecDepth 8192 in
theorem yp_hs369 : yp_HS (yp_SH B) (B + 369) := yp_HSof rfl rfl rfl rfl rfl rfl
set_option maxHeartbeats 1000000 in
set_option maxRecDepth 8192 in
theorem yp_hs375 : yp_HS (yp_SH B) (B + 375) := yp_HSof rfl rfl rfl rfl rfl rfl
set_option maxHeartbeats 1000000 in
set_option maxRecDepth 8192 in
theorem yp_hs381 : yp_HS (yp_SH B) (B + 381) := yp_HSof rfl rfl rfl rfl rfl rfl
set_option maxHeartbeats 1000000 in
set_option maxRecDepth 8192 in
theorem yp_hs387 : yp_HS (yp_SH B) (B + 387) := yp_HSof rfl rfl rfl rfl rfl rfl
set_option maxHeartbeats 1000000 in
set_option maxRecDepth 8192 in
theorem yp_hs393 : yp_HS (yp_SH B) (B + 393) := yp_HSof rfl rfl rfl rfl rfl rfl
set_option maxHeartbeats 1000000 in
set_option maxRecDepth 8192 in
theorem yp_hs399 : yp_HS (yp_SH B) (B + 399) := yp_HSof rfl rfl rfl rfl rfl rfl
set_option maxHeartbeats 1000000 in
set_option maxRecDepth 8192 in
theorem yp_hs405 : yp_HS (yp_SH B) (B + 405) := yp_HSof rfl rfl rfl rfl rfl rfl
set_option maxHeartbeats 1000000 in
set_option maxRecDepth 8192 in
theorem yp_hs411 : yp_HS (yp_SH B) (B + 411) := yp_HSof rfl rfl rfl rfl rfl rfl
set_option maxHeartbeats 1000000 in
set_option maxRecDepth 8192 in
theorem yp_hs417 : yp_HS (yp_SH B) (B + 417) := yp_HSof rfl rfl rfl rfl rfl rfl
set_option maxHeartbeats 1000000 in
set_option maxRecDepth 8192 in
theorem yp_hs423 : yp_HS (yp_SH B) (B + 423) := yp_HSof rfl rfl rfl rfl rfl rfl
set_option maxHeartbeats 1000000 in
set_option maxRecDepth 8192 in
theorem yp_hs429 : yp_HS (yp_SH B) (B + 429) := yp_HSof rfl rfl rfl rfl rfl rfl
set_option maxHeartbeats 1000000 in
set_option maxRecDepth 8192 in
theorem yp_hs435 : yp_HS (yp_SH B) (B + 435) := yp_HSof rfl rfl rfl rfl rfl rfl
set_option maxHeartbeats 1000000 in
set_option maxRecDepth 8192 in
theorem yp_hs441 : yp_HS (yp_SH B) (B + 441) := yp_HSof rfl rfl rfl rfl rfl rfl
set_option maxHeartbeats 1000000 in
set_option maxRecDepth 8192 in
theorem yp_hs447 : yp_HS (yp_SH B) (B + 447) := yp_HSof rfl rfl rfl rfl rfl rfl
set_option maxHeartbeats 1000000 in
set_option maxRecDepth 8192 in
theorem yp_hs454 : yp_HS (yp_SH B) (B + 454) := yp_HSof rfl rfl rfl rfl rfl rfl
set_option maxHeartbeats 1000000 in
set_option maxRecDepth 8192 in
theorem yp_hs511 : yp_HS (yp_SH B) (B + 511) := yp_HSof rfl rfl rfl rfl rfl rfl
set_option maxHeartbeats 1000000 in
theorem yp_hsP (i : Nat) (h : i < 16) : yp_HS (yp_SH B) (B + (41 + 6 * i)) := by
  match i, h with
  | 0, _ => exact yp_hs41 B
  | 1, _ => exact yp_hs47 B
  | 2, _ => exact yp_hs53 B
  | 3, _ => exact yp_hs59 B
  | 4, _ => exact yp_hs65 B
  | 5, _ => exact yp_hs71 B
  | 6, _ => exact yp_hs77 B
  | 7, _ => exact yp_hs83 B
  | 8, _ => exact yp_hs89 B
  | 9, _ => exact yp_hs95 B
  | 10, _ => exact yp_hs101 B
  | 11, _ => exact yp_hs107 B
  | 12, _ => exact yp_hs113 B
  | 13, _ => exact yp_hs119 B
  | 14, _ => exact yp_hs125 B
  | 15, _ => exact yp_hs131 B
  | n + 16, h => omega
set_option maxHeartbeats 1000000 in
theorem yp_hsI (i : Nat) (h : i < 3) : yp_HS (yp_SH B) (B + (139 + 105 * i)) := by
  match i, h with
  | 0, _ => exact yp_hs139 B
  | 1, _ => exact yp_hs244 B
  | 2, _ => exact yp_hs349 B
  | n + 3, h => omega
set_option maxHeartbeats 1000000 in
theorem yp_hsJ0 (i : Nat) (h : i < 16) : yp_HS (yp_SH B) (B + (147 + 6 * i)) := by
  match i, h with
  | 0, _ => exact yp_hs147 B
  | 1, _ => exact yp_hs153 B
  | 2, _ => exact yp_hs159 B
  | 3, _ => exact yp_hs165 B
  | 4, _ => exact yp_hs171 B
  | 5, _ => exact yp_hs177 B
  | 6, _ => exact yp_hs183 B
  | 7, _ => exact yp_hs189 B
  | 8, _ => exact yp_hs195 B
  | 9, _ => exact yp_hs201 B
  | 10, _ => exact yp_hs207 B
  | 11, _ => exact yp_hs213 B
  | 12, _ => exact yp_hs219 B
  | 13, _ => exact yp_hs225 B
  | 14, _ => exact yp_hs231 B
  | 15, _ => exact yp_hs237 B
  | n + 16, h => omega
set_option maxHeartbeats 1000000 in
theorem yp_hsJ1 (i : Nat) (h : i < 16) : yp_HS (yp_SH B) (B + (252 + 6 * i)) := by
  match i, h with
  | 0, _ => exact yp_hs252 B
  | 1, _ => exact yp_hs258 B
  | 2, _ => exact yp_hs264 B
  | 3, _ => exact yp_hs270 B
  | 4, _ => exact yp_hs276 B
  | 5, _ => exact yp_hs282 B
  | 6, _ => exact yp_hs288 B
  | 7, _ => exact yp_hs294 B
  | 8, _ => exact yp_hs300 B
  | 9, _ => exact yp_hs306 B
  | 10, _ => exact yp_hs312 B
  | 11, _ => exact yp_hs318 B
  | 12, _ => exact yp_hs324 B
  | 13, _ => exact yp_hs330 B
  | 14, _ => exact yp_hs336 B
  | 15, _ => exact yp_hs342 B
  | n + 16, h => omega
set_option maxHeartbeats 1000000 in
theorem yp_hsJ2 (i : Nat) (h : i < 16) : yp_HS (yp_SH B) (B + (357 + 6 * i)) := by
  match i, h with
  | 0, _ => exact yp_hs357 B
  | 1, _ => exact yp_hs363 B
  | 2, _ => exact yp_hs369 B
  | 3, _ => exact yp_hs375 B
  | 4, _ => exact yp_hs381 B
  | 5, _ => exact yp_hs387 B
  | 6, _ => exact yp_hs393 B
  | 7, _ => exact yp_hs399 B
  | 8, _ => exact yp_hs405 B
  | 9, _ => exact yp_hs411 B
  | 10, _ => exact yp_hs417 B
  | 11, _ => exact yp_hs423 B
  | 12, _ => exact yp_hs429 B
  | 13, _ => exact yp_hs435 B
  | 14, _ => exact yp_hs441 B
  | 15, _ => exact yp_hs447 B
  | n + 16, h => omega
set_option maxHeartbeats 1000000 in
set_option maxRecDepth 8192 in
theorem yp_so0 : yp_SH B (B + 0) = some (.inr (.inl (11, fun k => (([some 1, some 3, some 7, some 11, some 14, some 17, some 20, some 23, some 27, some 33, some 39, some 137, none, none, some 453, some 510] : List (Option Nat)).getD k none).map (fun j => B + j)))) := (yp_SHat B 0).trans rfl
set_option maxHeartbeats 1000000 in
set_option maxRecDepth 8192 in
theorem yp_so1 : yp_SH B (B + 1) = some (.inr (.inl (8, fun k => (([some 2] : List (Option Nat)).getD k none).map (fun j => B + j)))) := (yp_SHat B 1).trans rfl
set_option maxHeartbeats 1000000 in
set_option maxRecDepth 8192 in
theorem yp_sa2 : yp_SH B (B + 2) = some (.inl 600) := (yp_SHat B 2).trans rfl
set_option maxHeartbeats 1000000 in
set_option maxRecDepth 8192 in
theorem yp_so3 : yp_SH B (B + 3) = some (.inr (.inl (1, fun k => (([some 4, some 5, some 6] : List (Option Nat)).getD k none).map (fun j => B + j)))) := (yp_SHat B 3).trans rfl
set_option maxHeartbeats 1000000 in
set_option maxRecDepth 8192 in
theorem yp_sa4 : yp_SH B (B + 4) = some (.inl 42) := (yp_SHat B 4).trans rfl
set_option maxHeartbeats 1000000 in
set_option maxRecDepth 8192 in
theorem yp_sa5 : yp_SH B (B + 5) = some (.inl 8) := (yp_SHat B 5).trans rfl
set_option maxHeartbeats 1000000 in
set_option maxRecDepth 8192 in
theorem yp_sa6 : yp_SH B (B + 6) = some (.inl 8) := (yp_SHat B 6).trans rfl
set_option maxHeartbeats 1000000 in
set_option maxRecDepth 8192 in
theorem yp_so7 : yp_SH B (B + 7) = some (.inr (.inl (1, fun k => (([some 8, some 9, some 10] : List (Option Nat)).getD k none).map (fun j => B + j)))) := (yp_SHat B 7).trans rfl
set_option maxHeartbeats 1000000 in
set_option maxRecDepth 8192 in
theorem yp_sa8 : yp_SH B (B + 8) = some (.inl 42) := (yp_SHat B 8).trans rfl
set_option maxHeartbeats 1000000 in
set_option maxRecDepth 8192 in
theorem yp_sa9 : yp_SH B (B + 9) = some (.inl 8) := (yp_SHat B 9).trans rfl
set_option maxHeartbeats 1000000 in
set_option maxRecDepth 8192 in
theorem yp_sa10 : yp_SH B (B + 10) = some (.inl 8) := (yp_SHat B 10).trans rfl
set_option maxHeartbeats 1000000 in
set_option maxRecDepth 8192 in
theorem yp_so11 : yp_SH B (B + 11) = some (.inr (.inl (4, fun k => (([some 12, some 13] : List (Option Nat)).getD k none).map (fun j => B + j)))) := (yp_SHat B 11).trans rfl
set_option maxHeartbeats 1000000 in
set_option maxRecDepth 8192 in
theorem yp_sa12 : yp_SH B (B + 12) = some (.inl 151) := (yp_SHat B 12).trans rfl
set_option maxHeartbeats 1000000 in
set_option maxRecDepth 8192 in
theorem yp_sa13 : yp_SH B (B + 13) = some (.inl 151) := (yp_SHat B 13).trans rfl
set_option maxHeartbeats 1000000 in
set_option maxRecDepth 8192 in
theorem yp_so14 : yp_SH B (B + 14) = some (.inr (.inl (4, fun k => (([some 15, some 16] : List (Option Nat)).getD k none).map (fun j => B + j)))) := (yp_SHat B 14).trans rfl
set_option maxHeartbeats 1000000 in
set_option maxRecDepth 8192 in
theorem yp_sa15 : yp_SH B (B + 15) = some (.inl 151) := (yp_SHat B 15).trans rfl
set_option maxHeartbeats 1000000 in
set_option maxRecDepth 8192 in
theorem yp_sa16 : yp_SH B (B + 16) = some (.inl 151) := (yp_SHat B 16).trans rfl
set_option maxHeartbeats 1000000 in
set_option maxRecDepth 8192 in
theorem yp_so17 : yp_SH B (B + 17) = some (.inr (.inl (0, fun k => (([some 18, some 19] : List (Option Nat)).getD k none).map (fun j => B + j)))) := (yp_SHat B 17).trans rfl
set_option maxHeartbeats 1000000 in
set_option maxRecDepth 8192 in
theorem yp_sa18 : yp_SH B (B + 18) = some (.inl 8) := (yp_SHat B 18).trans rfl
set_option maxHeartbeats 1000000 in
set_option maxRecDepth 8192 in
theorem yp_sa19 : yp_SH B (B + 19) = some (.inl 8) := (yp_SHat B 19).trans rfl
set_option maxHeartbeats 1000000 in
set_option maxRecDepth 8192 in
theorem yp_so20 : yp_SH B (B + 20) = some (.inr (.inl (0, fun k => (([some 21, some 22] : List (Option Nat)).getD k none).map (fun j => B + j)))) := (yp_SHat B 20).trans rfl
set_option maxHeartbeats 1000000 in
set_option maxRecDepth 8192 in
theorem yp_sa21 : yp_SH B (B + 21) = some (.inl 8) := (yp_SHat B 21).trans rfl
set_option maxHeartbeats 1000000 in
set_option maxRecDepth 8192 in
theorem yp_sa22 : yp_SH B (B + 22) = some (.inl 8) := (yp_SHat B 22).trans rfl
set_option maxHeartbeats 1000000 in
set_option maxRecDepth 8192 in
theorem yp_so23 : yp_SH B (B + 23) = some (.inr (.inl (5, fun k => (([some 3, some 11, some 24, some 25, some 26] : List (Option Nat)).getD k none).map (fun j => B + j)))) := (yp_SHat B 23).trans rfl
set_option maxHeartbeats 1000000 in
set_option maxRecDepth 8192 in
theorem yp_sa24 : yp_SH B (B + 24) = some (.inl 8) := (yp_SHat B 24).trans rfl
set_option maxHeartbeats 1000000 in
set_option maxRecDepth 8192 in
theorem yp_sa25 : yp_SH B (B + 25) = some (.inl 7) := (yp_SHat B 25).trans rfl
set_option maxHeartbeats 1000000 in
set_option maxRecDepth 8192 in
theorem yp_sa26 : yp_SH B (B + 26) = some (.inl 8) := (yp_SHat B 26).trans rfl
set_option maxHeartbeats 1000000 in
set_option maxRecDepth 8192 in
theorem yp_so27 : yp_SH B (B + 27) = some (.inr (.inl (10, fun k => (([some 1, some 3, some 23, some 28, some 29, some 30, some 31, some 32] : List (Option Nat)).getD k none).map (fun j => B + j)))) := (yp_SHat B 27).trans rfl
set_option maxHeartbeats 1000000 in
set_option maxRecDepth 8192 in
theorem yp_sa28 : yp_SH B (B + 28) = some (.inl 150) := (yp_SHat B 28).trans rfl
set_option maxHeartbeats 1000000 in
set_option maxRecDepth 8192 in
theorem yp_sa29 : yp_SH B (B + 29) = some (.inl 150) := (yp_SHat B 29).trans rfl
set_option maxHeartbeats 1000000 in
set_option maxRecDepth 8192 in
theorem yp_sa30 : yp_SH B (B + 30) = some (.inl 150) := (yp_SHat B 30).trans rfl
set_option maxHeartbeats 1000000 in
set_option maxRecDepth 8192 in
theorem yp_sa31 : yp_SH B (B + 31) = some (.inl 150) := (yp_SHat B 31).trans rfl
set_option maxHeartbeats 1000000 in
set_option maxRecDepth 8192 in
theorem yp_sa32 : yp_SH B (B + 32) = some (.inl 150) := (yp_SHat B 32).trans rfl
set_option maxHeartbeats 1000000 in
set_option maxRecDepth 8192 in
theorem yp_so39 : yp_SH B (B + 39) = some (.inr (.inl (7, fun k => (([some 40] : List (Option Nat)).getD k none).map (fun j => B + j)))) := (yp_SHat B 39).trans rfl
set_option maxHeartbeats 1000000 in
set_option maxRecDepth 8192 in
theorem yp_st40 : yp_SH B (B + 40) = some (.inr (.inr (0, 16, fun k => (([some 41, some 47, some 53, some 59, some 65, some 71, some 77, some 83, some 89, some 95, some 101, some 107, some 113, some 119, some 125, some 131] : List (Option Nat)).getD k none).map (fun j => B + j)))) := (yp_SHat B 40).trans rfl
set_option maxHeartbeats 1000000 in
set_option maxRecDepth 8192 in
theorem yp_st137 : yp_SH B (B + 137) = some (.inr (.inr (1, 3, fun k => (([some 138, some 243, some 348] : List (Option Nat)).getD k none).map (fun j => B + j)))) := (yp_SHat B 137).trans rfl
set_option maxHeartbeats 1000000 in
set_option maxRecDepth 8192 in
theorem yp_so138 : yp_SH B (B + 138) = some (.inr (.inl (3, fun k => (([some 139, some 145] : List (Option Nat)).getD k none).map (fun j => B + j)))) := (yp_SHat B 138).trans rfl
set_option maxHeartbeats 1000000 in
set_option maxRecDepth 8192 in
theorem yp_so145 : yp_SH B (B + 145) = some (.inr (.inl (7, fun k => (([some 146] : List (Option Nat)).getD k none).map (fun j => B + j)))) := (yp_SHat B 145).trans rfl
set_option maxHeartbeats 1000000 in
set_option maxRecDepth 8192 in
theorem yp_st146 : yp_SH B (B + 146) = some (.inr (.inr (0, 16, fun k => (([some 147, some 153, some 159, some 165, some 171, some 177, some 183, some 189, some 195, some 201, some 207, some 213, some 219, some 225, some 231, some 237] : List (Option Nat)).getD k none).map (fun j => B + j)))) := (yp_SHat B 146).trans rfl
set_option maxHeartbeats 1000000 in
set_option maxRecDepth 8192 in
theorem yp_so243 : yp_SH B (B + 243) = some (.inr (.inl (3, fun k => (([some 244, some 250] : List (Option Nat)).getD k none).map (fun j => B + j)))) := (yp_SHat B 243).trans rfl
set_option maxHeartbeats 1000000 in
set_option maxRecDepth 8192 in
theorem yp_so250 : yp_SH B (B + 250) = some (.inr (.inl (7, fun k => (([some 251] : List (Option Nat)).getD k none).map (fun j => B + j)))) := (yp_SHat B 250).trans rfl
set_option maxHeartbeats 1000000 in
set_option maxRecDepth 8192 in
theorem yp_st251 : yp_SH B (B + 251) = some (.inr (.inr (0, 16, fun k => (([some 252, some 258, some 264, some 270, some 276, some 282, some 288, some 294, some 300, some 306, some 312, some 318, some 324, some 330, some 336, some 342] : List (Option Nat)).getD k none).map (fun j => B + j)))) := (yp_SHat B 251).trans rfl
set_option maxHeartbeats 1000000 in
set_option maxRecDepth 8192 in
theorem yp_so348 : yp_SH B (B + 348) = some (.inr (.inl (3, fun k => (([some 349, some 355] : List (Option Nat)).getD k none).map (fun j => B + j)))) := (yp_SHat B 348).trans rfl
set_option maxHeartbeats 1000000 in
set_option maxRecDepth 8192 in
theorem yp_so355 : yp_SH B (B + 355) = some (.inr (.inl (7, fun k => (([some 356] : List (Option Nat)).getD k none).map (fun j => B + j)))) := (yp_SHat B 355).trans rfl
set_option maxHeartbeats 1000000 in
set_option maxRecDepth 8192 in
theorem yp_st356 : yp_SH B (B + 356) = some (.inr (.inr (0, 16, fun k => (([some 357, some 363, some 369, some 375, some 381, some 387, some 393, some 399, some 405, some 411, some 417, some 423, some 429, some 435, some 441, some 447] : List (Option Nat)).getD k none).map (fun j => B + j)))) := (yp_SHat B 356).trans rfl
set_option maxHeartbeats 1000000 in
set_option maxRecDepth 8192 in
theorem yp_so453 : yp_SH B (B + 453) = some (.inr (.inl (6, fun k => (([some 3, some 17, some 23, some 454, some 460, some 509] : List (Option Nat)).getD k none).map (fun j => B + j)))) := (yp_SHat B 453).trans rfl
set_option maxHeartbeats 1000000 in
set_option maxRecDepth 8192 in
theorem yp_st460 : yp_SH B (B + 460) = some (.inr (.inr (2, 48, fun k => (([some 461, some 462, some 463, some 464, some 465, some 466, some 467, some 468, some 469, some 470, some 471, some 472, some 473, some 474, some 475, some 476, some 477, some 478, some 479, some 480, some 481, some 482, some 483, some 484, some 485, some 486, some 487, some 488, some 489, some 490, some 491, some 492, some 493, some 494, some 495, some 496, some 497, some 498, some 499, some 500, some 501, some 502, some 503, some 504, some 505, some 506, some 507, some 508] : List (Option Nat)).getD k none).map (fun j => B + j)))) := (yp_SHat B 460).trans rfl
set_option maxHeartbeats 1000000 in
set_option maxRecDepth 8192 in
theorem yp_sa509 : yp_SH B (B + 509) = some (.inl 1681) := (yp_SHat B 509).trans rfl
set_option maxHeartbeats 1000000 in
set_option maxRecDepth 8192 in
theorem yp_so510 : yp_SH B (B + 510) = some (.inr (.inl (9, fun k => (([some 3, some 23, some 511] : List (Option Nat)).getD k none).map (fun j => B + j)))) := (yp_SHat B 510).trans rfl
set_option maxHeartbeats 1000000 in
set_option maxRecDepth 8192 in
theorem yp_so517 : yp_SH B (B + 517) = some (.inr (.inl (12, fun k => (([none, some 518, none, none, none, none, none, none, none, some 519, some 520, some 521, some 522, some 523, none, none, none, none, none, none, some 524, some 525, some 526, some 527, some 528, none, none, some 529, some 530, some 531, none, none, none, none, none, none, some 532, some 533, some 534, some 535, some 536, some 537, none, some 538, some 539, none, some 540, none, some 541] : List (Option Nat)).getD k none).map (fun j => B + j)))) := (yp_SHat B 517).trans rfl
set_option maxHeartbeats 1000000 in
set_option maxRecDepth 8192 in
theorem yp_sa518 : yp_SH B (B + 518) = some (.inl 2) := (yp_SHat B 518).trans rfl
set_option maxHeartbeats 1000000 in
set_option maxRecDepth 8192 in
theorem yp_sa519 : yp_SH B (B + 519) = some (.inl 600) := (yp_SHat B 519).trans rfl
set_option maxHeartbeats 1000000 in
set_option maxRecDepth 8192 in
theorem yp_sa520 : yp_SH B (B + 520) = some (.inl 42) := (yp_SHat B 520).trans rfl
set_option maxHeartbeats 1000000 in
set_option maxRecDepth 8192 in
theorem yp_sa521 : yp_SH B (B + 521) = some (.inl 16) := (yp_SHat B 521).trans rfl
set_option maxHeartbeats 1000000 in
set_option maxRecDepth 8192 in
theorem yp_sa522 : yp_SH B (B + 522) = some (.inl 42) := (yp_SHat B 522).trans rfl
set_option maxHeartbeats 1000000 in
set_option maxRecDepth 8192 in
theorem yp_sa523 : yp_SH B (B + 523) = some (.inl 16) := (yp_SHat B 523).trans rfl
set_option maxHeartbeats 1000000 in
set_option maxRecDepth 8192 in
theorem yp_sa524 : yp_SH B (B + 524) = some (.inl 150) := (yp_SHat B 524).trans rfl
set_option maxHeartbeats 1000000 in
set_option maxRecDepth 8192 in
theorem yp_sa525 : yp_SH B (B + 525) = some (.inl 150) := (yp_SHat B 525).trans rfl
set_option maxHeartbeats 1000000 in
set_option maxRecDepth 8192 in
theorem yp_sa526 : yp_SH B (B + 526) = some (.inl 150) := (yp_SHat B 526).trans rfl
set_option maxHeartbeats 1000000 in
set_option maxRecDepth 8192 in
theorem yp_sa527 : yp_SH B (B + 527) = some (.inl 150) := (yp_SHat B 527).trans rfl
set_option maxHeartbeats 1000000 in
set_option maxRecDepth 8192 in
theorem yp_sa528 : yp_SH B (B + 528) = some (.inl 150) := (yp_SHat B 528).trans rfl
set_option maxHeartbeats 1000000 in
set_option maxRecDepth 8192 in
theorem yp_sa529 : yp_SH B (B + 529) = some (.inl 8) := (yp_SHat B 529).trans rfl
set_option maxHeartbeats 1000000 in
set_option maxRecDepth 8192 in
theorem yp_sa530 : yp_SH B (B + 530) = some (.inl 200) := (yp_SHat B 530).trans rfl
set_option maxHeartbeats 1000000 in
set_option maxRecDepth 8192 in
theorem yp_sa531 : yp_SH B (B + 531) = some (.inl 200) := (yp_SHat B 531).trans rfl
set_option maxHeartbeats 1000000 in
set_option maxRecDepth 8192 in
theorem yp_sa532 : yp_SH B (B + 532) = some (.inl 175) := (yp_SHat B 532).trans rfl
set_option maxHeartbeats 1000000 in
set_option maxRecDepth 8192 in
theorem yp_sa533 : yp_SH B (B + 533) = some (.inl 175) := (yp_SHat B 533).trans rfl
set_option maxHeartbeats 1000000 in
set_option maxRecDepth 8192 in
theorem yp_sa534 : yp_SH B (B + 534) = some (.inl 2800) := (yp_SHat B 534).trans rfl
set_option maxHeartbeats 1000000 in
set_option maxRecDepth 8192 in
theorem yp_sa535 : yp_SH B (B + 535) = some (.inl 7) := (yp_SHat B 535).trans rfl
set_option maxHeartbeats 1000000 in
set_option maxRecDepth 8192 in
theorem yp_sa536 : yp_SH B (B + 536) = some (.inl 16) := (yp_SHat B 536).trans rfl
set_option maxHeartbeats 1000000 in
set_option maxRecDepth 8192 in
theorem yp_sa537 : yp_SH B (B + 537) = some (.inl 16) := (yp_SHat B 537).trans rfl
set_option maxHeartbeats 1000000 in
set_option maxRecDepth 8192 in
theorem yp_sa538 : yp_SH B (B + 538) = some (.inl 48) := (yp_SHat B 538).trans rfl
set_option maxHeartbeats 1000000 in
set_option maxRecDepth 8192 in
theorem yp_sa539 : yp_SH B (B + 539) = some (.inl 48) := (yp_SHat B 539).trans rfl
set_option maxHeartbeats 1000000 in
set_option maxRecDepth 8192 in
theorem yp_sa540 : yp_SH B (B + 540) = some (.inl 4752) := (yp_SHat B 540).trans rfl
set_option maxHeartbeats 1000000 in
set_option maxRecDepth 8192 in
theorem yp_sa541 : yp_SH B (B + 541) = some (.inl 8928) := (yp_SHat B 541).trans rfl
set_option maxHeartbeats 1000000 in
set_option maxRecDepth 8192 in
theorem yp_st542 : yp_SH B (B + 542) = some (.inr (.inr (3, 1, fun k => (([] : List (Option Nat)).getD k none).map (fun j => B + j)))) := (yp_SHat B 542).trans rfl
set_option maxHeartbeats 1000000 in
theorem yp_so00 : yp_SH B B = some (.inr (.inl (11, fun k => (([some 1, some 3, some 7, some 11, some 14, some 17, some 20, some 23, some 27, some 33, some 39, some 137, none, none, some 453, some 510] : List (Option Nat)).getD k none).map (fun j => B + j)))) := yp_so0 B
set_option maxHeartbeats 1000000 in
theorem yp_cR : rR (yp_SH B) 11 B 0 = some (B + 1) ∧ rR (yp_SH B) 11 B 1 = some (B + 3) ∧ rR (yp_SH B) 11 B 2 = some (B + 7) ∧ rR (yp_SH B) 11 B 3 = some (B + 11) ∧ rR (yp_SH B) 11 B 4 = some (B + 14) ∧ rR (yp_SH B) 11 B 5 = some (B + 17) ∧ rR (yp_SH B) 11 B 6 = some (B + 20) ∧ rR (yp_SH B) 11 B 7 = some (B + 23) ∧ rR (yp_SH B) 11 B 8 = some (B + 27) ∧ rR (yp_SH B) 11 B 9 = some (B + 33) ∧ rR (yp_SH B) 11 B 10 = some (B + 39) ∧ rR (yp_SH B) 11 B 11 = some (B + 137) ∧ rR (yp_SH B) 11 B 14 = some (B + 453) ∧ rR (yp_SH B) 11 B 15 = some (B + 510) ∧ rR (yp_SH B) 8 (B + 1) 0 = some (B + 2) ∧ rR (yp_SH B) 1 (B + 3) 0 = some (B + 4) ∧ rR (yp_SH B) 1 (B + 3) 1 = some (B + 5) ∧ rR (yp_SH B) 1 (B + 3) 2 = some (B + 6) ∧ rR (yp_SH B) 1 (B + 7) 0 = some (B + 8) ∧ rR (yp_SH B) 1 (B + 7) 1 = some (B + 9) ∧ rR (yp_SH B) 1 (B + 7) 2 = some (B + 10) ∧ rR (yp_SH B) 4 (B + 11) 0 = some (B + 12) ∧ rR (yp_SH B) 4 (B + 11) 1 = some (B + 13) ∧ rR (yp_SH B) 4 (B + 14) 0 = some (B + 15) ∧ rR (yp_SH B) 4 (B + 14) 1 = some (B + 16) ∧ rR (yp_SH B) 0 (B + 17) 0 = some (B + 18) ∧ rR (yp_SH B) 0 (B + 17) 1 = some (B + 19) ∧ rR (yp_SH B) 0 (B + 20) 0 = some (B + 21) ∧ rR (yp_SH B) 0 (B + 20) 1 = some (B + 22) ∧ rR (yp_SH B) 5 (B + 23) 0 = some (B + 3) ∧ rR (yp_SH B) 5 (B + 23) 1 = some (B + 11) ∧ rR (yp_SH B) 5 (B + 23) 2 = some (B + 24) ∧ rR (yp_SH B) 5 (B + 23) 3 = some (B + 25) ∧ rR (yp_SH B) 5 (B + 23) 4 = some (B + 26) ∧ rR (yp_SH B) 10 (B + 27) 0 = some (B + 1) ∧ rR (yp_SH B) 10 (B + 27) 1 = some (B + 3) ∧ rR (yp_SH B) 10 (B + 27) 2 = some (B + 23) ∧ rR (yp_SH B) 10 (B + 27) 3 = some (B + 28) ∧ rR (yp_SH B) 10 (B + 27) 4 = some (B + 29) ∧ rR (yp_SH B) 10 (B + 27) 5 = some (B + 30) ∧ rR (yp_SH B) 10 (B + 27) 6 = some (B + 31) ∧ rR (yp_SH B) 10 (B + 27) 7 = some (B + 32) ∧ rR (yp_SH B) 7 (B + 39) 0 = some (B + 40) ∧ rR (yp_SH B) 3 (B + 138) 0 = some (B + 139) ∧ rR (yp_SH B) 3 (B + 138) 1 = some (B + 145) ∧ rR (yp_SH B) 7 (B + 145) 0 = some (B + 146) ∧ rR (yp_SH B) 3 (B + 243) 0 = some (B + 244) ∧ rR (yp_SH B) 3 (B + 243) 1 = some (B + 250) ∧ rR (yp_SH B) 7 (B + 250) 0 = some (B + 251) ∧ rR (yp_SH B) 3 (B + 348) 0 = some (B + 349) ∧ rR (yp_SH B) 3 (B + 348) 1 = some (B + 355) ∧ rR (yp_SH B) 7 (B + 355) 0 = some (B + 356) ∧ rR (yp_SH B) 6 (B + 453) 0 = some (B + 3) ∧ rR (yp_SH B) 6 (B + 453) 1 = some (B + 17) ∧ rR (yp_SH B) 6 (B + 453) 2 = some (B + 23) ∧ rR (yp_SH B) 6 (B + 453) 3 = some (B + 454) ∧ rR (yp_SH B) 6 (B + 453) 4 = some (B + 460) ∧ rR (yp_SH B) 6 (B + 453) 5 = some (B + 509) ∧ rR (yp_SH B) 9 (B + 510) 0 = some (B + 3) ∧ rR (yp_SH B) 9 (B + 510) 1 = some (B + 23) ∧ rR (yp_SH B) 9 (B + 510) 2 = some (B + 511) := ⟨by rw [rR, yp_so00]; rfl, by rw [rR, yp_so00]; rfl, by rw [rR, yp_so00]; rfl, by rw [rR, yp_so00]; rfl, by rw [rR, yp_so00]; rfl, by rw [rR, yp_so00]; rfl, by rw [rR, yp_so00]; rfl, by rw [rR, yp_so00]; rfl, by rw [rR, yp_so00]; rfl, by rw [rR, yp_so00]; rfl, by rw [rR, yp_so00]; rfl, by rw [rR, yp_so00]; rfl, by rw [rR, yp_so00]; rfl, by rw [rR, yp_so00]; rfl, by rw [rR, yp_so1]; rfl, by rw [rR, yp_so3]; rfl, by rw [rR, yp_so3]; rfl, by rw [rR, yp_so3]; rfl, by rw [rR, yp_so7]; rfl, by rw [rR, yp_so7]; rfl, by rw [rR, yp_so7]; rfl, by rw [rR, yp_so11]; rfl, by rw [rR, yp_so11]; rfl, by rw [rR, yp_so14]; rfl, by rw [rR, yp_so14]; rfl, by rw [rR, yp_so17]; rfl, by rw [rR, yp_so17]; rfl, by rw [rR, yp_so20]; rfl, by rw [rR, yp_so20]; rfl, by rw [rR, yp_so23]; rfl, by rw [rR, yp_so23]; rfl, by rw [rR, yp_so23]; rfl, by rw [rR, yp_so23]; rfl, by rw [rR, yp_so23]; rfl, by rw [rR, yp_so27]; rfl, by rw [rR, yp_so27]; rfl, by rw [rR, yp_so27]; rfl, by rw [rR, yp_so27]; rfl, by rw [rR, yp_so27]; rfl, by rw [rR, yp_so27]; rfl, by rw [rR, yp_so27]; rfl, by rw [rR, yp_so27]; rfl, by rw [rR, yp_so39]; rfl, by rw [rR, yp_so138]; rfl, by rw [rR, yp_so138]; rfl, by rw [rR, yp_so145]; rfl, by rw [rR, yp_so243]; rfl, by rw [rR, yp_so243]; rfl, by rw [rR, yp_so250]; rfl, by rw [rR, yp_so348]; rfl, by rw [rR, yp_so348]; rfl, by rw [rR, yp_so355]; rfl, by rw [rR, yp_so453]; rfl, by rw [rR, yp_so453]; rfl, by rw [rR, yp_so453]; rfl, by rw [rR, yp_so453]; rfl, by rw [rR, yp_so453]; rfl, by rw [rR, yp_so453]; rfl, by rw [rR, yp_so510]; rfl, by rw [rR, yp_so510]; rfl, by rw [rR, yp_so510]; rfl⟩
set_option maxHeartbeats 1000000 in
theorem yp_mR : rR (yp_SH B) 12 (B + 517) 1 = some (B + 518) ∧ rR (yp_SH B) 12 (B + 517) 9 = some (B + 519) ∧ rR (yp_SH B) 12 (B + 517) 10 = some (B + 520) ∧ rR (yp_SH B) 12 (B + 517) 11 = some (B + 521) ∧ rR (yp_SH B) 12 (B + 517) 12 = some (B + 522) ∧ rR (yp_SH B) 12 (B + 517) 13 = some (B + 523) ∧ rR (yp_SH B) 12 (B + 517) 20 = some (B + 524) ∧ rR (yp_SH B) 12 (B + 517) 21 = some (B + 525) ∧ rR (yp_SH B) 12 (B + 517) 22 = some (B + 526) ∧ rR (yp_SH B) 12 (B + 517) 23 = some (B + 527) ∧ rR (yp_SH B) 12 (B + 517) 24 = some (B + 528) ∧ rR (yp_SH B) 12 (B + 517) 27 = some (B + 529) ∧ rR (yp_SH B) 12 (B + 517) 28 = some (B + 530) ∧ rR (yp_SH B) 12 (B + 517) 29 = some (B + 531) ∧ rR (yp_SH B) 12 (B + 517) 36 = some (B + 532) ∧ rR (yp_SH B) 12 (B + 517) 37 = some (B + 533) ∧ rR (yp_SH B) 12 (B + 517) 38 = some (B + 534) ∧ rR (yp_SH B) 12 (B + 517) 39 = some (B + 535) ∧ rR (yp_SH B) 12 (B + 517) 40 = some (B + 536) ∧ rR (yp_SH B) 12 (B + 517) 41 = some (B + 537) ∧ rR (yp_SH B) 12 (B + 517) 43 = some (B + 538) ∧ rR (yp_SH B) 12 (B + 517) 44 = some (B + 539) ∧ rR (yp_SH B) 12 (B + 517) 46 = some (B + 540) ∧ rR (yp_SH B) 12 (B + 517) 48 = some (B + 541) := ⟨by rw [rR, yp_so517]; rfl, by rw [rR, yp_so517]; rfl, by rw [rR, yp_so517]; rfl, by rw [rR, yp_so517]; rfl, by rw [rR, yp_so517]; rfl, by rw [rR, yp_so517]; rfl, by rw [rR, yp_so517]; rfl, by rw [rR, yp_so517]; rfl, by rw [rR, yp_so517]; rfl, by rw [rR, yp_so517]; rfl, by rw [rR, yp_so517]; rfl, by rw [rR, yp_so517]; rfl, by rw [rR, yp_so517]; rfl, by rw [rR, yp_so517]; rfl, by rw [rR, yp_so517]; rfl, by rw [rR, yp_so517]; rfl, by rw [rR, yp_so517]; rfl, by rw [rR, yp_so517]; rfl, by rw [rR, yp_so517]; rfl, by rw [rR, yp_so517]; rfl, by rw [rR, yp_so517]; rfl, by rw [rR, yp_so517]; rfl, by rw [rR, yp_so517]; rfl, by rw [rR, yp_so517]; rfl⟩
set_option maxHeartbeats 1000000 in
theorem yp_cI : isO (yp_SH B) 11 B = some () ∧ (∀ mm k, rI (yp_SH B) mm 11 B k = some (mm B k)) ∧ (∀ mm k v, wI (yp_SH B) mm 11 B k v = some (up2 mm B k v)) ∧ isO (yp_SH B) 8 (B + 1) = some () ∧ (∀ mm k, rI (yp_SH B) mm 8 (B + 1) k = some (mm (B + 1) k)) ∧ (∀ mm k v, wI (yp_SH B) mm 8 (B + 1) k v = some (up2 mm (B + 1) k v)) ∧ isO (yp_SH B) 1 (B + 3) = some () ∧ (∀ mm k, rI (yp_SH B) mm 1 (B + 3) k = some (mm (B + 3) k)) ∧ (∀ mm k v, wI (yp_SH B) mm 1 (B + 3) k v = some (up2 mm (B + 3) k v)) ∧ isO (yp_SH B) 1 (B + 7) = some () ∧ (∀ mm k, rI (yp_SH B) mm 1 (B + 7) k = some (mm (B + 7) k)) ∧ (∀ mm k v, wI (yp_SH B) mm 1 (B + 7) k v = some (up2 mm (B + 7) k v)) ∧ isO (yp_SH B) 4 (B + 11) = some () ∧ (∀ mm k, rI (yp_SH B) mm 4 (B + 11) k = some (mm (B + 11) k)) ∧ (∀ mm k v, wI (yp_SH B) mm 4 (B + 11) k v = some (up2 mm (B + 11) k v)) ∧ isO (yp_SH B) 4 (B + 14) = some () ∧ (∀ mm k, rI (yp_SH B) mm 4 (B + 14) k = some (mm (B + 14) k)) ∧ (∀ mm k v, wI (yp_SH B) mm 4 (B + 14) k v = some (up2 mm (B + 14) k v)) ∧ isO (yp_SH B) 0 (B + 17) = some () ∧ (∀ mm k, rI (yp_SH B) mm 0 (B + 17) k = some (mm (B + 17) k)) ∧ (∀ mm k v, wI (yp_SH B) mm 0 (B + 17) k v = some (up2 mm (B + 17) k v)) ∧ isO (yp_SH B) 0 (B + 20) = some () ∧ (∀ mm k, rI (yp_SH B) mm 0 (B + 20) k = some (mm (B + 20) k)) ∧ (∀ mm k v, wI (yp_SH B) mm 0 (B + 20) k v = some (up2 mm (B + 20) k v)) ∧ isO (yp_SH B) 5 (B + 23) = some () ∧ (∀ mm k, rI (yp_SH B) mm 5 (B + 23) k = some (mm (B + 23) k)) ∧ (∀ mm k v, wI (yp_SH B) mm 5 (B + 23) k v = some (up2 mm (B + 23) k v)) ∧ isO (yp_SH B) 10 (B + 27) = some () ∧ (∀ mm k, rI (yp_SH B) mm 10 (B + 27) k = some (mm (B + 27) k)) ∧ (∀ mm k v, wI (yp_SH B) mm 10 (B + 27) k v = some (up2 mm (B + 27) k v)) ∧ isO (yp_SH B) 7 (B + 39) = some () ∧ (∀ mm k, rI (yp_SH B) mm 7 (B + 39) k = some (mm (B + 39) k)) ∧ (∀ mm k v, wI (yp_SH B) mm 7 (B + 39) k v = some (up2 mm (B + 39) k v)) ∧ isO (yp_SH B) 3 (B + 138) = some () ∧ (∀ mm k, rI (yp_SH B) mm 3 (B + 138) k = some (mm (B + 138) k)) ∧ (∀ mm k v, wI (yp_SH B) mm 3 (B + 138) k v = some (up2 mm (B + 138) k v)) ∧ isO (yp_SH B) 7 (B + 145) = some () ∧ (∀ mm k, rI (yp_SH B) mm 7 (B + 145) k = some (mm (B + 145) k)) ∧ (∀ mm k v, wI (yp_SH B) mm 7 (B + 145) k v = some (up2 mm (B + 145) k v)) ∧ isO (yp_SH B) 3 (B + 243) = some () ∧ (∀ mm k, rI (yp_SH B) mm 3 (B + 243) k = some (mm (B + 243) k)) ∧ (∀ mm k v, wI (yp_SH B) mm 3 (B + 243) k v = some (up2 mm (B + 243) k v)) ∧ isO (yp_SH B) 7 (B + 250) = some () ∧ (∀ mm k, rI (yp_SH B) mm 7 (B + 250) k = some (mm (B + 250) k)) ∧ (∀ mm k v, wI (yp_SH B) mm 7 (B + 250) k v = some (up2 mm (B + 250) k v)) ∧ isO (yp_SH B) 3 (B + 348) = some () ∧ (∀ mm k, rI (yp_SH B) mm 3 (B + 348) k = some (mm (B + 348) k)) ∧ (∀ mm k v, wI (yp_SH B) mm 3 (B + 348) k v = some (up2 mm (B + 348) k v)) ∧ isO (yp_SH B) 7 (B + 355) = some () ∧ (∀ mm k, rI (yp_SH B) mm 7 (B + 355) k = some (mm (B + 355) k)) ∧ (∀ mm k v, wI (yp_SH B) mm 7 (B + 355) k v = some (up2 mm (B + 355) k v)) ∧ isO (yp_SH B) 6 (B + 453) = some () ∧ (∀ mm k, rI (yp_SH B) mm 6 (B + 453) k = some (mm (B + 453) k)) ∧ (∀ mm k v, wI (yp_SH B) mm 6 (B + 453) k v = some (up2 mm (B + 453) k v)) ∧ isO (yp_SH B) 9 (B + 510) = some () ∧ (∀ mm k, rI (yp_SH B) mm 9 (B + 510) k = some (mm (B + 510) k)) ∧ (∀ mm k v, wI (yp_SH B) mm 9 (B + 510) k v = some (up2 mm (B + 510) k v)) := ⟨by rw [isO, yp_so00]; rfl, by intro mm k; rw [rI, yp_so00]; rfl, by intro mm k v; rw [wI, yp_so00]; rfl, by rw [isO, yp_so1]; rfl, by intro mm k; rw [rI, yp_so1]; rfl, by intro mm k v; rw [wI, yp_so1]; rfl, by rw [isO, yp_so3]; rfl, by intro mm k; rw [rI, yp_so3]; rfl, by intro mm k v; rw [wI, yp_so3]; rfl, by rw [isO, yp_so7]; rfl, by intro mm k; rw [rI, yp_so7]; rfl, by intro mm k v; rw [wI, yp_so7]; rfl, by rw [isO, yp_so11]; rfl, by intro mm k; rw [rI, yp_so11]; rfl, by intro mm k v; rw [wI, yp_so11]; rfl, by rw [isO, yp_so14]; rfl, by intro mm k; rw [rI, yp_so14]; rfl, by intro mm k v; rw [wI, yp_so14]; rfl, by rw [isO, yp_so17]; rfl, by intro mm k; rw [rI, yp_so17]; rfl, by intro mm k v; rw [wI, yp_so17]; rfl, by rw [isO, yp_so20]; rfl, by intro mm k; rw [rI, yp_so20]; rfl, by intro mm k v; rw [wI, yp_so20]; rfl, by rw [isO, yp_so23]; rfl, by intro mm k; rw [rI, yp_so23]; rfl, by intro mm k v; rw [wI, yp_so23]; rfl, by rw [isO, yp_so27]; rfl, by intro mm k; rw [rI, yp_so27]; rfl, by intro mm k v; rw [wI, yp_so27]; rfl, by rw [isO, yp_so39]; rfl, by intro mm k; rw [rI, yp_so39]; rfl, by intro mm k v; rw [wI, yp_so39]; rfl, by rw [isO, yp_so138]; rfl, by intro mm k; rw [rI, yp_so138]; rfl, by intro mm k v; rw [wI, yp_so138]; rfl, by rw [isO, yp_so145]; rfl, by intro mm k; rw [rI, yp_so145]; rfl, by intro mm k v; rw [wI, yp_so145]; rfl, by rw [isO, yp_so243]; rfl, by intro mm k; rw [rI, yp_so243]; rfl, by intro mm k v; rw [wI, yp_so243]; rfl, by rw [isO, yp_so250]; rfl, by intro mm k; rw [rI, yp_so250]; rfl, by intro mm k v; rw [wI, yp_so250]; rfl, by rw [isO, yp_so348]; rfl, by intro mm k; rw [rI, yp_so348]; rfl, by intro mm k v; rw [wI, yp_so348]; rfl, by rw [isO, yp_so355]; rfl, by intro mm k; rw [rI, yp_so355]; rfl, by intro mm k v; rw [wI, yp_so355]; rfl, by rw [isO, yp_so453]; rfl, by intro mm k; rw [rI, yp_so453]; rfl, by intro mm k v; rw [wI, yp_so453]; rfl, by rw [isO, yp_so510]; rfl, by intro mm k; rw [rI, yp_so510]; rfl, by intro mm k v; rw [wI, yp_so510]; rfl⟩
set_option maxHeartbeats 1000000 in
theorem yp_mI : isO (yp_SH B) 12 (B + 517) = some () ∧ (∀ mm k, rI (yp_SH B) mm 12 (B + 517) k = some (mm (B + 517) k)) ∧ (∀ mm k v, wI (yp_SH B) mm 12 (B + 517) k v = some (up2 mm (B + 517) k v)) := ⟨by rw [isO, yp_so517]; rfl, by intro mm k; rw [rI, yp_so517]; rfl, by intro mm k v; rw [wI, yp_so517]; rfl⟩
set_option maxHeartbeats 1000000 in
theorem yp_cA : (∀ mm k, k < 600 → aL (yp_SH B) mm (B + 2) (yp_N k) = some (mm (B + 2) k)) ∧ (∀ mm k v, k < 600 → aS (yp_SH B) mm (B + 2) (yp_N k) v = some (up2 mm (B + 2) k v)) ∧ (∀ mm k, k < 42 → aL (yp_SH B) mm (B + 4) (yp_N k) = some (mm (B + 4) k)) ∧ (∀ mm k v, k < 42 → aS (yp_SH B) mm (B + 4) (yp_N k) v = some (up2 mm (B + 4) k v)) ∧ (∀ mm k, k < 8 → aL (yp_SH B) mm (B + 5) (yp_N k) = some (mm (B + 5) k)) ∧ (∀ mm k v, k < 8 → aS (yp_SH B) mm (B + 5) (yp_N k) v = some (up2 mm (B + 5) k v)) ∧ (∀ mm k, k < 8 → aL (yp_SH B) mm (B + 6) (yp_N k) = some (mm (B + 6) k)) ∧ (∀ mm k v, k < 8 → aS (yp_SH B) mm (B + 6) (yp_N k) v = some (up2 mm (B + 6) k v)) ∧ (∀ mm k, k < 42 → aL (yp_SH B) mm (B + 8) (yp_N k) = some (mm (B + 8) k)) ∧ (∀ mm k v, k < 42 → aS (yp_SH B) mm (B + 8) (yp_N k) v = some (up2 mm (B + 8) k v)) ∧ (∀ mm k, k < 8 → aL (yp_SH B) mm (B + 9) (yp_N k) = some (mm (B + 9) k)) ∧ (∀ mm k v, k < 8 → aS (yp_SH B) mm (B + 9) (yp_N k) v = some (up2 mm (B + 9) k v)) ∧ (∀ mm k, k < 8 → aL (yp_SH B) mm (B + 10) (yp_N k) = some (mm (B + 10) k)) ∧ (∀ mm k v, k < 8 → aS (yp_SH B) mm (B + 10) (yp_N k) v = some (up2 mm (B + 10) k v)) ∧ (∀ mm k, k < 151 → aL (yp_SH B) mm (B + 12) (yp_N k) = some (mm (B + 12) k)) ∧ (∀ mm k v, k < 151 → aS (yp_SH B) mm (B + 12) (yp_N k) v = some (up2 mm (B + 12) k v)) ∧ (∀ mm k, k < 151 → aL (yp_SH B) mm (B + 13) (yp_N k) = some (mm (B + 13) k)) ∧ (∀ mm k v, k < 151 → aS (yp_SH B) mm (B + 13) (yp_N k) v = some (up2 mm (B + 13) k v)) ∧ (∀ mm k, k < 151 → aL (yp_SH B) mm (B + 15) (yp_N k) = some (mm (B + 15) k)) ∧ (∀ mm k v, k < 151 → aS (yp_SH B) mm (B + 15) (yp_N k) v = some (up2 mm (B + 15) k v)) ∧ (∀ mm k, k < 151 → aL (yp_SH B) mm (B + 16) (yp_N k) = some (mm (B + 16) k)) ∧ (∀ mm k v, k < 151 → aS (yp_SH B) mm (B + 16) (yp_N k) v = some (up2 mm (B + 16) k v)) ∧ (∀ mm k, k < 8 → aL (yp_SH B) mm (B + 18) (yp_N k) = some (mm (B + 18) k)) ∧ (∀ mm k v, k < 8 → aS (yp_SH B) mm (B + 18) (yp_N k) v = some (up2 mm (B + 18) k v)) ∧ (∀ mm k, k < 8 → aL (yp_SH B) mm (B + 19) (yp_N k) = some (mm (B + 19) k)) ∧ (∀ mm k v, k < 8 → aS (yp_SH B) mm (B + 19) (yp_N k) v = some (up2 mm (B + 19) k v)) ∧ (∀ mm k, k < 8 → aL (yp_SH B) mm (B + 21) (yp_N k) = some (mm (B + 21) k)) ∧ (∀ mm k v, k < 8 → aS (yp_SH B) mm (B + 21) (yp_N k) v = some (up2 mm (B + 21) k v)) ∧ (∀ mm k, k < 8 → aL (yp_SH B) mm (B + 22) (yp_N k) = some (mm (B + 22) k)) ∧ (∀ mm k v, k < 8 → aS (yp_SH B) mm (B + 22) (yp_N k) v = some (up2 mm (B + 22) k v)) ∧ (∀ mm k, k < 8 → aL (yp_SH B) mm (B + 24) (yp_N k) = some (mm (B + 24) k)) ∧ (∀ mm k v, k < 8 → aS (yp_SH B) mm (B + 24) (yp_N k) v = some (up2 mm (B + 24) k v)) ∧ (∀ mm k, k < 7 → aL (yp_SH B) mm (B + 25) (yp_N k) = some (mm (B + 25) k)) ∧ (∀ mm k v, k < 7 → aS (yp_SH B) mm (B + 25) (yp_N k) v = some (up2 mm (B + 25) k v)) ∧ (∀ mm k, k < 8 → aL (yp_SH B) mm (B + 26) (yp_N k) = some (mm (B + 26) k)) ∧ (∀ mm k v, k < 8 → aS (yp_SH B) mm (B + 26) (yp_N k) v = some (up2 mm (B + 26) k v)) ∧ (∀ mm k, k < 150 → aL (yp_SH B) mm (B + 28) (yp_N k) = some (mm (B + 28) k)) ∧ (∀ mm k v, k < 150 → aS (yp_SH B) mm (B + 28) (yp_N k) v = some (up2 mm (B + 28) k v)) ∧ (∀ mm k, k < 150 → aL (yp_SH B) mm (B + 29) (yp_N k) = some (mm (B + 29) k)) ∧ (∀ mm k v, k < 150 → aS (yp_SH B) mm (B + 29) (yp_N k) v = some (up2 mm (B + 29) k v)) ∧ (∀ mm k, k < 150 → aL (yp_SH B) mm (B + 30) (yp_N k) = some (mm (B + 30) k)) ∧ (∀ mm k v, k < 150 → aS (yp_SH B) mm (B + 30) (yp_N k) v = some (up2 mm (B + 30) k v)) ∧ (∀ mm k, k < 150 → aL (yp_SH B) mm (B + 31) (yp_N k) = some (mm (B + 31) k)) ∧ (∀ mm k v, k < 150 → aS (yp_SH B) mm (B + 31) (yp_N k) v = some (up2 mm (B + 31) k v)) ∧ (∀ mm k, k < 150 → aL (yp_SH B) mm (B + 32) (yp_N k) = some (mm (B + 32) k)) ∧ (∀ mm k v, k < 150 → aS (yp_SH B) mm (B + 32) (yp_N k) v = some (up2 mm (B + 32) k v)) ∧ (∀ mm k, k < 1681 → aL (yp_SH B) mm (B + 509) (yp_N k) = some (mm (B + 509) k)) ∧ (∀ mm k v, k < 1681 → aS (yp_SH B) mm (B + 509) (yp_N k) v = some (up2 mm (B + 509) k v)) := ⟨fun mm k h => yp_aLN (yp_sa2 B) mm k h (by omega), fun mm k v h => yp_aSN (yp_sa2 B) mm k v h (by omega), fun mm k h => yp_aLN (yp_sa4 B) mm k h (by omega), fun mm k v h => yp_aSN (yp_sa4 B) mm k v h (by omega), fun mm k h => yp_aLN (yp_sa5 B) mm k h (by omega), fun mm k v h => yp_aSN (yp_sa5 B) mm k v h (by omega), fun mm k h => yp_aLN (yp_sa6 B) mm k h (by omega), fun mm k v h => yp_aSN (yp_sa6 B) mm k v h (by omega), fun mm k h => yp_aLN (yp_sa8 B) mm k h (by omega), fun mm k v h => yp_aSN (yp_sa8 B) mm k v h (by omega), fun mm k h => yp_aLN (yp_sa9 B) mm k h (by omega), fun mm k v h => yp_aSN (yp_sa9 B) mm k v h (by omega), fun mm k h => yp_aLN (yp_sa10 B) mm k h (by omega), fun mm k v h => yp_aSN (yp_sa10 B) mm k v h (by omega), fun mm k h => yp_aLN (yp_sa12 B) mm k h (by omega), fun mm k v h => yp_aSN (yp_sa12 B) mm k v h (by omega), fun mm k h => yp_aLN (yp_sa13 B) mm k h (by omega), fun mm k v h => yp_aSN (yp_sa13 B) mm k v h (by omega), fun mm k h => yp_aLN (yp_sa15 B) mm k h (by omega), fun mm k v h => yp_aSN (yp_sa15 B) mm k v h (by omega), fun mm k h => yp_aLN (yp_sa16 B) mm k h (by omega), fun mm k v h => yp_aSN (yp_sa16 B) mm k v h (by omega), fun mm k h => yp_aLN (yp_sa18 B) mm k h (by omega), fun mm k v h => yp_aSN (yp_sa18 B) mm k v h (by omega), fun mm k h => yp_aLN (yp_sa19 B) mm k h (by omega), fun mm k v h => yp_aSN (yp_sa19 B) mm k v h (by omega), fun mm k h => yp_aLN (yp_sa21 B) mm k h (by omega), fun mm k v h => yp_aSN (yp_sa21 B) mm k v h (by omega), fun mm k h => yp_aLN (yp_sa22 B) mm k h (by omega), fun mm k v h => yp_aSN (yp_sa22 B) mm k v h (by omega), fun mm k h => yp_aLN (yp_sa24 B) mm k h (by omega), fun mm k v h => yp_aSN (yp_sa24 B) mm k v h (by omega), fun mm k h => yp_aLN (yp_sa25 B) mm k h (by omega), fun mm k v h => yp_aSN (yp_sa25 B) mm k v h (by omega), fun mm k h => yp_aLN (yp_sa26 B) mm k h (by omega), fun mm k v h => yp_aSN (yp_sa26 B) mm k v h (by omega), fun mm k h => yp_aLN (yp_sa28 B) mm k h (by omega), fun mm k v h => yp_aSN (yp_sa28 B) mm k v h (by omega), fun mm k h => yp_aLN (yp_sa29 B) mm k h (by omega), fun mm k v h => yp_aSN (yp_sa29 B) mm k v h (by omega), fun mm k h => yp_aLN (yp_sa30 B) mm k h (by omega), fun mm k v h => yp_aSN (yp_sa30 B) mm k v h (by omega), fun mm k h => yp_aLN (yp_sa31 B) mm k h (by omega), fun mm k v h => yp_aSN (yp_sa31 B) mm k v h (by omega), fun mm k h => yp_aLN (yp_sa32 B) mm k h (by omega), fun mm k v h => yp_aSN (yp_sa32 B) mm k v h (by omega), fun mm k h => yp_aLN (yp_sa509 B) mm k h (by omega), fun mm k v h => yp_aSN (yp_sa509 B) mm k v h (by omega)⟩
set_option maxHeartbeats 1000000 in
theorem yp_mA : (∀ mm k, k < 2 → aL (yp_SH B) mm (B + 518) (yp_N k) = some (mm (B + 518) k)) ∧ (∀ mm k v, k < 2 → aS (yp_SH B) mm (B + 518) (yp_N k) v = some (up2 mm (B + 518) k v)) ∧ (∀ mm k, k < 600 → aL (yp_SH B) mm (B + 519) (yp_N k) = some (mm (B + 519) k)) ∧ (∀ mm k v, k < 600 → aS (yp_SH B) mm (B + 519) (yp_N k) v = some (up2 mm (B + 519) k v)) ∧ (∀ mm k, k < 42 → aL (yp_SH B) mm (B + 520) (yp_N k) = some (mm (B + 520) k)) ∧ (∀ mm k v, k < 42 → aS (yp_SH B) mm (B + 520) (yp_N k) v = some (up2 mm (B + 520) k v)) ∧ (∀ mm k, k < 16 → aL (yp_SH B) mm (B + 521) (yp_N k) = some (mm (B + 521) k)) ∧ (∀ mm k v, k < 16 → aS (yp_SH B) mm (B + 521) (yp_N k) v = some (up2 mm (B + 521) k v)) ∧ (∀ mm k, k < 42 → aL (yp_SH B) mm (B + 522) (yp_N k) = some (mm (B + 522) k)) ∧ (∀ mm k v, k < 42 → aS (yp_SH B) mm (B + 522) (yp_N k) v = some (up2 mm (B + 522) k v)) ∧ (∀ mm k, k < 16 → aL (yp_SH B) mm (B + 523) (yp_N k) = some (mm (B + 523) k)) ∧ (∀ mm k v, k < 16 → aS (yp_SH B) mm (B + 523) (yp_N k) v = some (up2 mm (B + 523) k v)) ∧ (∀ mm k, k < 150 → aL (yp_SH B) mm (B + 524) (yp_N k) = some (mm (B + 524) k)) ∧ (∀ mm k v, k < 150 → aS (yp_SH B) mm (B + 524) (yp_N k) v = some (up2 mm (B + 524) k v)) ∧ (∀ mm k, k < 150 → aL (yp_SH B) mm (B + 525) (yp_N k) = some (mm (B + 525) k)) ∧ (∀ mm k v, k < 150 → aS (yp_SH B) mm (B + 525) (yp_N k) v = some (up2 mm (B + 525) k v)) ∧ (∀ mm k, k < 150 → aL (yp_SH B) mm (B + 526) (yp_N k) = some (mm (B + 526) k)) ∧ (∀ mm k v, k < 150 → aS (yp_SH B) mm (B + 526) (yp_N k) v = some (up2 mm (B + 526) k v)) ∧ (∀ mm k, k < 150 → aL (yp_SH B) mm (B + 527) (yp_N k) = some (mm (B + 527) k)) ∧ (∀ mm k v, k < 150 → aS (yp_SH B) mm (B + 527) (yp_N k) v = some (up2 mm (B + 527) k v)) ∧ (∀ mm k, k < 150 → aL (yp_SH B) mm (B + 528) (yp_N k) = some (mm (B + 528) k)) ∧ (∀ mm k v, k < 150 → aS (yp_SH B) mm (B + 528) (yp_N k) v = some (up2 mm (B + 528) k v)) ∧ (∀ mm k, k < 8 → aL (yp_SH B) mm (B + 529) (yp_N k) = some (mm (B + 529) k)) ∧ (∀ mm k v, k < 8 → aS (yp_SH B) mm (B + 529) (yp_N k) v = some (up2 mm (B + 529) k v)) ∧ (∀ mm k, k < 200 → aL (yp_SH B) mm (B + 530) (yp_N k) = some (mm (B + 530) k)) ∧ (∀ mm k v, k < 200 → aS (yp_SH B) mm (B + 530) (yp_N k) v = some (up2 mm (B + 530) k v)) ∧ (∀ mm k, k < 200 → aL (yp_SH B) mm (B + 531) (yp_N k) = some (mm (B + 531) k)) ∧ (∀ mm k v, k < 200 → aS (yp_SH B) mm (B + 531) (yp_N k) v = some (up2 mm (B + 531) k v)) ∧ (∀ mm k, k < 175 → aL (yp_SH B) mm (B + 532) (yp_N k) = some (mm (B + 532) k)) ∧ (∀ mm k v, k < 175 → aS (yp_SH B) mm (B + 532) (yp_N k) v = some (up2 mm (B + 532) k v)) ∧ (∀ mm k, k < 175 → aL (yp_SH B) mm (B + 533) (yp_N k) = some (mm (B + 533) k)) ∧ (∀ mm k v, k < 175 → aS (yp_SH B) mm (B + 533) (yp_N k) v = some (up2 mm (B + 533) k v)) ∧ (∀ mm k, k < 2800 → aL (yp_SH B) mm (B + 534) (yp_N k) = some (mm (B + 534) k)) ∧ (∀ mm k v, k < 2800 → aS (yp_SH B) mm (B + 534) (yp_N k) v = some (up2 mm (B + 534) k v)) ∧ (∀ mm k, k < 7 → aL (yp_SH B) mm (B + 535) (yp_N k) = some (mm (B + 535) k)) ∧ (∀ mm k v, k < 7 → aS (yp_SH B) mm (B + 535) (yp_N k) v = some (up2 mm (B + 535) k v)) ∧ (∀ mm k, k < 16 → aL (yp_SH B) mm (B + 536) (yp_N k) = some (mm (B + 536) k)) ∧ (∀ mm k v, k < 16 → aS (yp_SH B) mm (B + 536) (yp_N k) v = some (up2 mm (B + 536) k v)) ∧ (∀ mm k, k < 16 → aL (yp_SH B) mm (B + 537) (yp_N k) = some (mm (B + 537) k)) ∧ (∀ mm k v, k < 16 → aS (yp_SH B) mm (B + 537) (yp_N k) v = some (up2 mm (B + 537) k v)) ∧ (∀ mm k, k < 48 → aL (yp_SH B) mm (B + 538) (yp_N k) = some (mm (B + 538) k)) ∧ (∀ mm k v, k < 48 → aS (yp_SH B) mm (B + 538) (yp_N k) v = some (up2 mm (B + 538) k v)) ∧ (∀ mm k, k < 48 → aL (yp_SH B) mm (B + 539) (yp_N k) = some (mm (B + 539) k)) ∧ (∀ mm k v, k < 48 → aS (yp_SH B) mm (B + 539) (yp_N k) v = some (up2 mm (B + 539) k v)) ∧ (∀ mm k, k < 4752 → aL (yp_SH B) mm (B + 540) (yp_N k) = some (mm (B + 540) k)) ∧ (∀ mm k v, k < 4752 → aS (yp_SH B) mm (B + 540) (yp_N k) v = some (up2 mm (B + 540) k v)) ∧ (∀ mm k, k < 8928 → aL (yp_SH B) mm (B + 541) (yp_N k) = some (mm (B + 541) k)) ∧ (∀ mm k v, k < 8928 → aS (yp_SH B) mm (B + 541) (yp_N k) v = some (up2 mm (B + 541) k v)) := ⟨fun mm k h => yp_aLN (yp_sa518 B) mm k h (by omega), fun mm k v h => yp_aSN (yp_sa518 B) mm k v h (by omega), fun mm k h => yp_aLN (yp_sa519 B) mm k h (by omega), fun mm k v h => yp_aSN (yp_sa519 B) mm k v h (by omega), fun mm k h => yp_aLN (yp_sa520 B) mm k h (by omega), fun mm k v h => yp_aSN (yp_sa520 B) mm k v h (by omega), fun mm k h => yp_aLN (yp_sa521 B) mm k h (by omega), fun mm k v h => yp_aSN (yp_sa521 B) mm k v h (by omega), fun mm k h => yp_aLN (yp_sa522 B) mm k h (by omega), fun mm k v h => yp_aSN (yp_sa522 B) mm k v h (by omega), fun mm k h => yp_aLN (yp_sa523 B) mm k h (by omega), fun mm k v h => yp_aSN (yp_sa523 B) mm k v h (by omega), fun mm k h => yp_aLN (yp_sa524 B) mm k h (by omega), fun mm k v h => yp_aSN (yp_sa524 B) mm k v h (by omega), fun mm k h => yp_aLN (yp_sa525 B) mm k h (by omega), fun mm k v h => yp_aSN (yp_sa525 B) mm k v h (by omega), fun mm k h => yp_aLN (yp_sa526 B) mm k h (by omega), fun mm k v h => yp_aSN (yp_sa526 B) mm k v h (by omega), fun mm k h => yp_aLN (yp_sa527 B) mm k h (by omega), fun mm k v h => yp_aSN (yp_sa527 B) mm k v h (by omega), fun mm k h => yp_aLN (yp_sa528 B) mm k h (by omega), fun mm k v h => yp_aSN (yp_sa528 B) mm k v h (by omega), fun mm k h => yp_aLN (yp_sa529 B) mm k h (by omega), fun mm k v h => yp_aSN (yp_sa529 B) mm k v h (by omega), fun mm k h => yp_aLN (yp_sa530 B) mm k h (by omega), fun mm k v h => yp_aSN (yp_sa530 B) mm k v h (by omega), fun mm k h => yp_aLN (yp_sa531 B) mm k h (by omega), fun mm k v h => yp_aSN (yp_sa531 B) mm k v h (by omega), fun mm k h => yp_aLN (yp_sa532 B) mm k h (by omega), fun mm k v h => yp_aSN (yp_sa532 B) mm k v h (by omega), fun mm k h => yp_aLN (yp_sa533 B) mm k h (by omega), fun mm k v h => yp_aSN (yp_sa533 B) mm k v h (by omega), fun mm k h => yp_aLN (yp_sa534 B) mm k h (by omega), fun mm k v h => yp_aSN (yp_sa534 B) mm k v h (by omega), fun mm k h => yp_aLN (yp_sa535 B) mm k h (by omega), fun mm k v h => yp_aSN (yp_sa535 B) mm k v h (by omega), fun mm k h => yp_aLN (yp_sa536 B) mm k h (by omega), fun mm k v h => yp_aSN (yp_sa536 B) mm k v h (by omega), fun mm k h => yp_aLN (yp_sa537 B) mm k h (by omega), fun mm k v h => yp_aSN (yp_sa537 B) mm k v h (by omega), fun mm k h => yp_aLN (yp_sa538 B) mm k h (by omega), fun mm k v h => yp_aSN (yp_sa538 B) mm k v h (by omega), fun mm k h => yp_aLN (yp_sa539 B) mm k h (by omega), fun mm k v h => yp_aSN (yp_sa539 B) mm k v h (by omega), fun mm k h => yp_aLN (yp_sa540 B) mm k h (by omega), fun mm k v h => yp_aSN (yp_sa540 B) mm k v h (by omega), fun mm k h => yp_aLN (yp_sa541 B) mm k h (by omega), fun mm k v h => yp_aSN (yp_sa541 B) mm k v h (by omega)⟩
set_option maxHeartbeats 1000000 in
theorem yp_cN : aN (yp_SH B) (B + 2) = some (yp_N 600) ∧ aN (yp_SH B) (B + 4) = some (yp_N 42) ∧ aN (yp_SH B) (B + 5) = some (yp_N 8) ∧ aN (yp_SH B) (B + 6) = some (yp_N 8) ∧ aN (yp_SH B) (B + 8) = some (yp_N 42) ∧ aN (yp_SH B) (B + 9) = some (yp_N 8) ∧ aN (yp_SH B) (B + 10) = some (yp_N 8) ∧ aN (yp_SH B) (B + 12) = some (yp_N 151) ∧ aN (yp_SH B) (B + 13) = some (yp_N 151) ∧ aN (yp_SH B) (B + 15) = some (yp_N 151) ∧ aN (yp_SH B) (B + 16) = some (yp_N 151) ∧ aN (yp_SH B) (B + 18) = some (yp_N 8) ∧ aN (yp_SH B) (B + 19) = some (yp_N 8) ∧ aN (yp_SH B) (B + 21) = some (yp_N 8) ∧ aN (yp_SH B) (B + 22) = some (yp_N 8) ∧ aN (yp_SH B) (B + 24) = some (yp_N 8) ∧ aN (yp_SH B) (B + 25) = some (yp_N 7) ∧ aN (yp_SH B) (B + 26) = some (yp_N 8) ∧ aN (yp_SH B) (B + 28) = some (yp_N 150) ∧ aN (yp_SH B) (B + 29) = some (yp_N 150) ∧ aN (yp_SH B) (B + 30) = some (yp_N 150) ∧ aN (yp_SH B) (B + 31) = some (yp_N 150) ∧ aN (yp_SH B) (B + 32) = some (yp_N 150) ∧ aN (yp_SH B) (B + 509) = some (yp_N 1681) ∧ aN (yp_SH B) (B + 518) = some (yp_N 2) ∧ aN (yp_SH B) (B + 519) = some (yp_N 600) ∧ aN (yp_SH B) (B + 520) = some (yp_N 42) ∧ aN (yp_SH B) (B + 521) = some (yp_N 16) ∧ aN (yp_SH B) (B + 522) = some (yp_N 42) ∧ aN (yp_SH B) (B + 523) = some (yp_N 16) ∧ aN (yp_SH B) (B + 524) = some (yp_N 150) ∧ aN (yp_SH B) (B + 525) = some (yp_N 150) ∧ aN (yp_SH B) (B + 526) = some (yp_N 150) ∧ aN (yp_SH B) (B + 527) = some (yp_N 150) ∧ aN (yp_SH B) (B + 528) = some (yp_N 150) ∧ aN (yp_SH B) (B + 529) = some (yp_N 8) ∧ aN (yp_SH B) (B + 530) = some (yp_N 200) ∧ aN (yp_SH B) (B + 531) = some (yp_N 200) ∧ aN (yp_SH B) (B + 532) = some (yp_N 175) ∧ aN (yp_SH B) (B + 533) = some (yp_N 175) ∧ aN (yp_SH B) (B + 534) = some (yp_N 2800) ∧ aN (yp_SH B) (B + 535) = some (yp_N 7) ∧ aN (yp_SH B) (B + 536) = some (yp_N 16) ∧ aN (yp_SH B) (B + 537) = some (yp_N 16) ∧ aN (yp_SH B) (B + 538) = some (yp_N 48) ∧ aN (yp_SH B) (B + 539) = some (yp_N 48) ∧ aN (yp_SH B) (B + 540) = some (yp_N 4752) ∧ aN (yp_SH B) (B + 541) = some (yp_N 8928) := ⟨by rw [aN, yp_sa2]; rfl, by rw [aN, yp_sa4]; rfl, by rw [aN, yp_sa5]; rfl, by rw [aN, yp_sa6]; rfl, by rw [aN, yp_sa8]; rfl, by rw [aN, yp_sa9]; rfl, by rw [aN, yp_sa10]; rfl, by rw [aN, yp_sa12]; rfl, by rw [aN, yp_sa13]; rfl, by rw [aN, yp_sa15]; rfl, by rw [aN, yp_sa16]; rfl, by rw [aN, yp_sa18]; rfl, by rw [aN, yp_sa19]; rfl, by rw [aN, yp_sa21]; rfl, by rw [aN, yp_sa22]; rfl, by rw [aN, yp_sa24]; rfl, by rw [aN, yp_sa25]; rfl, by rw [aN, yp_sa26]; rfl, by rw [aN, yp_sa28]; rfl, by rw [aN, yp_sa29]; rfl, by rw [aN, yp_sa30]; rfl, by rw [aN, yp_sa31]; rfl, by rw [aN, yp_sa32]; rfl, by rw [aN, yp_sa509]; rfl, by rw [aN, yp_sa518]; rfl, by rw [aN, yp_sa519]; rfl, by rw [aN, yp_sa520]; rfl, by rw [aN, yp_sa521]; rfl, by rw [aN, yp_sa522]; rfl, by rw [aN, yp_sa523]; rfl, by rw [aN, yp_sa524]; rfl, by rw [aN, yp_sa525]; rfl, by rw [aN, yp_sa526]; rfl, by rw [aN, yp_sa527]; rfl, by rw [aN, yp_sa528]; rfl, by rw [aN, yp_sa529]; rfl, by rw [aN, yp_sa530]; rfl, by rw [aN, yp_sa531]; rfl, by rw [aN, yp_sa532]; rfl, by rw [aN, yp_sa533]; rfl, by rw [aN, yp_sa534]; rfl, by rw [aN, yp_sa535]; rfl, by rw [aN, yp_sa536]; rfl, by rw [aN, yp_sa537]; rfl, by rw [aN, yp_sa538]; rfl, by rw [aN, yp_sa539]; rfl, by rw [aN, yp_sa540]; rfl, by rw [aN, yp_sa541]; rfl⟩
end CELLS
