theorem al_in {l t : List Cond} (is : List Nat) (h : is.filterMap (fun i => t[i]?) = l) : ∀ w ∈ l, w ∈ t := by
  intro w hw
  rw [← h] at hw
  obtain ⟨i, -, hi⟩ := List.mem_filterMap.mp hw
  exact List.mem_of_getElem? hi
set_option maxRecDepth 100000 in
set_option maxHeartbeats 4000000 in
theorem AL_0_in : ∀ w ∈ AL_0, w ∈ lw_tbl := al_in [0, 1, 2, 3, 4, 5, 6, 7, 8, 9, 10, 11, 12, 13, 14, 15, 16, 17, 18, 19, 20, 21, 22, 23, 24, 25, 26, 27, 28, 29, 30, 31, 32, 33, 34, 35, 36, 37, 38, 39] rfl
set_option maxRecDepth 100000 in
set_option maxHeartbeats 4000000 in
theorem AL_1_in : ∀ w ∈ AL_1, w ∈ lw_tbl := al_in [40, 41, 42, 43, 44, 45, 46, 47, 49, 50, 51, 52, 53, 54, 55, 56, 57, 58, 59, 60, 61, 63, 64, 65, 66, 67, 68, 70, 72, 75, 76, 77, 78, 79, 80, 81, 82, 83, 84, 85] rfl
set_option maxRecDepth 100000 in
set_option maxHeartbeats 4000000 in
theorem AL_2_in : ∀ w ∈ AL_2, w ∈ lw_tbl := al_in [86, 87, 88, 89, 91, 93, 95, 98, 99, 100, 101, 102, 103, 104, 105, 106, 108, 110, 112, 114, 116, 118, 120, 123, 124, 125, 126, 127, 128, 129, 130, 131, 132, 133, 134, 135, 136, 137, 138, 139] rfl
set_option maxRecDepth 100000 in
set_option maxHeartbeats 4000000 in
theorem AL_3_in : ∀ w ∈ AL_3, w ∈ lw_tbl := al_in [140, 141, 142, 143, 144, 145, 146, 147, 148, 149, 150, 151, 152, 153, 154, 155, 157, 159, 161, 163, 166, 168, 169, 170, 171, 172, 173, 174, 175, 176, 177, 178, 180, 181, 182, 183, 184, 185, 186, 188] rfl
set_option maxRecDepth 100000 in
set_option maxHeartbeats 4000000 in
theorem AL_4_in : ∀ w ∈ AL_4, w ∈ lw_tbl := al_in [189, 190, 192, 193, 194, 196, 197, 198, 199, 200, 201, 202, 203, 204, 205, 206, 207, 208, 209, 210, 212, 213, 214, 215, 216, 217, 218, 219, 220, 221, 223, 224, 225, 226, 227, 228, 229, 230, 231, 232] rfl
set_option maxRecDepth 100000 in
set_option maxHeartbeats 4000000 in
theorem AL_5_in : ∀ w ∈ AL_5, w ∈ lw_tbl := al_in [233, 234, 236, 237, 238, 239, 240, 241, 242, 243, 244, 245, 246, 247, 248, 249, 250, 251, 252, 254, 255, 256, 257, 258, 259, 260, 261, 262, 263, 264, 265, 266, 267, 268, 270, 271, 272, 273, 275, 276] rfl
set_option maxRecDepth 100000 in
set_option maxHeartbeats 4000000 in
theorem AL_6_in : ∀ w ∈ AL_6, w ∈ lw_tbl := al_in [277, 279, 280, 281, 282, 283, 284, 285, 286, 287, 288, 289, 291, 292, 293, 294, 295, 296, 297, 298, 299, 300, 301, 302, 303, 304, 305, 306, 307, 309, 310, 311, 313, 314, 315, 316, 317, 319, 320, 321] rfl
set_option maxRecDepth 100000 in
set_option maxHeartbeats 4000000 in
theorem AL_7_in : ∀ w ∈ AL_7, w ∈ lw_tbl := al_in [322, 323, 324, 325, 326, 327, 328, 329, 330, 331, 332, 333, 334, 335, 336, 337, 338, 339, 340, 341, 342, 343, 344, 345, 346, 347, 349, 350, 351, 352, 353, 354, 355, 356, 357, 358, 359, 360, 361, 362] rfl
set_option maxRecDepth 100000 in
set_option maxHeartbeats 4000000 in
theorem AL_8_in : ∀ w ∈ AL_8, w ∈ lw_tbl := al_in [363, 364, 365, 366, 367, 368, 369, 370, 371, 372, 373, 374, 375, 376, 377, 378, 379, 380, 381, 382, 383, 384, 385, 386, 387, 388, 389, 390, 391, 392, 393, 394, 395, 396, 397, 398, 399, 400, 402, 404] rfl
set_option maxRecDepth 100000 in
set_option maxHeartbeats 4000000 in
theorem AL_9_in : ∀ w ∈ AL_9, w ∈ lw_tbl := al_in [406, 408, 410, 412, 414, 416, 418, 420, 422, 424, 426, 428, 430, 433, 434, 435, 436, 437, 438, 439, 440, 441, 442, 443, 444, 446, 447, 448, 450, 451, 452, 453, 454, 455, 456, 457, 458, 459, 460, 461] rfl
set_option maxRecDepth 100000 in
set_option maxHeartbeats 4000000 in
theorem AL_10_in : ∀ w ∈ AL_10, w ∈ lw_tbl := al_in [462, 463, 464, 466, 467, 468, 470, 471, 472, 473, 474, 475, 476, 477, 478, 479, 480, 481, 482, 483, 484, 485, 486, 487, 488, 489, 490, 491, 492, 493, 494, 495, 496, 497, 498, 499, 501, 502, 503, 505] rfl
set_option maxRecDepth 100000 in
set_option maxHeartbeats 4000000 in
theorem AL_11_in : ∀ w ∈ AL_11, w ∈ lw_tbl := al_in [506, 507, 508, 509, 510, 511, 512, 513, 514, 515, 516, 517, 518, 519, 520, 521, 522, 523, 524, 525, 526, 527, 528, 529, 530, 531, 532, 533, 534, 535, 536, 537, 540] rfl
theorem AL_in : ∀ w ∈ AL, w ∈ lw_tbl := List.forall_mem_append.mpr ⟨AL_0_in, List.forall_mem_append.mpr ⟨AL_1_in, List.forall_mem_append.mpr ⟨AL_2_in, List.forall_mem_append.mpr ⟨AL_3_in, List.forall_mem_append.mpr ⟨AL_4_in, List.forall_mem_append.mpr ⟨AL_5_in, List.forall_mem_append.mpr ⟨AL_6_in, List.forall_mem_append.mpr ⟨AL_7_in, List.forall_mem_append.mpr ⟨AL_8_in, List.forall_mem_append.mpr ⟨AL_9_in, List.forall_mem_append.mpr ⟨AL_10_in, AL_11_in⟩⟩⟩⟩⟩⟩⟩⟩⟩⟩⟩
