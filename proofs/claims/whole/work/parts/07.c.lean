/-! THE HEAP WHILE THE LAW RUNS: which cells there are is fixed; what ints and longs they hold is the state -/
abbrev mS : Type := (Nat → Nat → Int32) × (Nat → Nat → Int64) × Bool × Nat × Nat
abbrev mShp : Type := (Nat × Nat) ⊕ (Nat × List (Option Nat))
def mm_sh0 : List mShp := [.inr (10, [some 1, some 3, some 10, some 17, some 26, some 58, some 90, some 122, some 123, some 127, none, none, none, none]), .inr (8, [some 2, none, none]), .inl (0, 400), .inr (2, [none, none, some 4, some 5, some 6, some 7, some 8, some 9]), .inl (0, 12), .inl (0, 12), .inl (0, 12), .inl (0, 400), .inl (0, 10), .inl (0, 40), .inr (2, [none, none, some 11, some 12, some 13, some 14, some 15, some 16]), .inl (0, 12), .inl (0, 12), .inl (0, 12), .inl (0, 400), .inl (0, 10), .inl (0, 40), .inr (3, [some 18, some 1, some 25, none, none]), .inr (2, [none, none, some 19, some 20, some 21, some 22, some 23, some 24]), .inl (0, 12), .inl (0, 12), .inl (0, 12), .inl (0, 400), .inl (0, 10), .inl (0, 40), .inl (0, 24), .inr (9, [some 3, some 27, some 32, some 44, some 52, some 54, some 55, some 56, some 57, none, none, none, none, none]), .inr (0, [none, none, some 28, some 29, some 30, some 31]), .inl (0, 5), .inl (0, 5), .inl (0, 5), .inl (0, 5), .inr (6, [none, none, none, none, some 33, some 34, some 35, some 36, some 37, some 38, some 39, some 40, some 41, some 42, some 43]), .inl (0, 8), .inl (0, 8), .inl (0, 8), .inl (0, 8), .inl (0, 8), .inl (0, 8), .inl (0, 8), .inl (0, 8), .inl (0, 8), .inl (0, 8), .inl (0, 80), .inr (1, [none, none, some 45, some 46, some 47, some 48, some 49, some 50, some 51]), .inl (0, 12), .inl (0, 12), .inl (0, 12), .inl (0, 12), .inl (0, 120), .inl (0, 120), .inl (0, 12), .inr (4, [none, none, some 53]), .inl (0, 240), .inl (0, 10), .inl (0, 10), .inl (0, 10), .inl (0, 10), .inr (9, [some 3, some 59, some 64, some 76, some 84, some 86, some 87, some 88, some 89, none, none, none, none, none]), .inr (0, [none, none, some 60, some 61, some 62, some 63]), .inl (0, 5), .inl (0, 5), .inl (0, 5), .inl (0, 5), .inr (6, [none, none, none, none, some 65, some 66, some 67, some 68, some 69, some 70, some 71, some 72, some 73, some 74, some 75]), .inl (0, 8), .inl (0, 8), .inl (0, 8), .inl (0, 8), .inl (0, 8), .inl (0, 8), .inl (0, 8), .inl (0, 8), .inl (0, 8), .inl (0, 8)]
def mm_sh1 : List mShp := [.inl (0, 80), .inr (1, [none, none, some 77, some 78, some 79, some 80, some 81, some 82, some 83]), .inl (0, 12), .inl (0, 12), .inl (0, 12), .inl (0, 12), .inl (0, 120), .inl (0, 120), .inl (0, 12), .inr (4, [none, none, some 85]), .inl (0, 240), .inl (0, 10), .inl (0, 10), .inl (0, 10), .inl (0, 10), .inr (9, [some 3, some 91, some 96, some 108, some 116, some 118, some 119, some 120, some 121, none, none, none, none, none]), .inr (0, [none, none, some 92, some 93, some 94, some 95]), .inl (0, 5), .inl (0, 5), .inl (0, 5), .inl (0, 5), .inr (6, [none, none, none, none, some 97, some 98, some 99, some 100, some 101, some 102, some 103, some 104, some 105, some 106, some 107]), .inl (0, 8), .inl (0, 8), .inl (0, 8), .inl (0, 8), .inl (0, 8), .inl (0, 8), .inl (0, 8), .inl (0, 8), .inl (0, 8), .inl (0, 8), .inl (0, 80), .inr (1, [none, none, some 109, some 110, some 111, some 112, some 113, some 114, some 115]), .inl (0, 12), .inl (0, 12), .inl (0, 12), .inl (0, 12), .inl (0, 120), .inl (0, 120), .inl (0, 12), .inr (4, [none, none, some 117]), .inl (0, 240), .inl (0, 10), .inl (0, 10), .inl (0, 10), .inl (0, 10), .inr (7, [some 1]), .inr (5, [some 27, some 124, some 125, some 126, none]), .inl (0, 5), .inl (0, 5), .inl (0, 5), .inl (3, 12), .inr (9, [some 3, some 129, some 134, some 146, some 154, some 156, some 157, some 158, some 159, none, none, none, none, none]), .inr (0, [none, none, some 130, some 131, some 132, some 133]), .inl (0, 5), .inl (0, 5), .inl (0, 5), .inl (0, 5), .inr (6, [none, none, none, none, some 135, some 136, some 137, some 138, some 139, some 140, some 141, some 142, some 143, some 144, some 145]), .inl (0, 8), .inl (0, 8), .inl (0, 8), .inl (0, 8), .inl (0, 8), .inl (0, 8), .inl (0, 8), .inl (0, 8), .inl (0, 8), .inl (0, 8), .inl (0, 80), .inr (1, [none, none, some 147, some 148, some 149, some 150, some 151, some 152, some 153]), .inl (0, 12), .inl (0, 12), .inl (0, 12)]
def mm_sh2 : List mShp := [.inl (0, 12), .inl (0, 120), .inl (0, 120), .inl (0, 12), .inr (4, [none, none, some 155]), .inl (0, 240), .inl (0, 10), .inl (0, 10), .inl (0, 10), .inl (0, 10), .inr (9, [some 3, some 161, some 166, some 178, some 186, some 188, some 189, some 190, some 191, none, none, none, none, none]), .inr (0, [none, none, some 162, some 163, some 164, some 165]), .inl (0, 5), .inl (0, 5), .inl (0, 5), .inl (0, 5), .inr (6, [none, none, none, none, some 167, some 168, some 169, some 170, some 171, some 172, some 173, some 174, some 175, some 176, some 177]), .inl (0, 8), .inl (0, 8), .inl (0, 8), .inl (0, 8), .inl (0, 8), .inl (0, 8), .inl (0, 8), .inl (0, 8), .inl (0, 8), .inl (0, 8), .inl (0, 80), .inr (1, [none, none, some 179, some 180, some 181, some 182, some 183, some 184, some 185]), .inl (0, 12), .inl (0, 12), .inl (0, 12), .inl (0, 12), .inl (0, 120), .inl (0, 120), .inl (0, 12), .inr (4, [none, none, some 187]), .inl (0, 240), .inl (0, 10), .inl (0, 10), .inl (0, 10), .inl (0, 10), .inr (9, [some 3, some 193, some 198, some 210, some 218, some 220, some 221, some 222, some 223, none, none, none, none, none]), .inr (0, [none, none, some 194, some 195, some 196, some 197]), .inl (0, 5), .inl (0, 5), .inl (0, 5), .inl (0, 5), .inr (6, [none, none, none, none, some 199, some 200, some 201, some 202, some 203, some 204, some 205, some 206, some 207, some 208, some 209]), .inl (0, 8), .inl (0, 8), .inl (0, 8), .inl (0, 8), .inl (0, 8), .inl (0, 8), .inl (0, 8), .inl (0, 8), .inl (0, 8), .inl (0, 8), .inl (0, 80), .inr (1, [none, none, some 211, some 212, some 213, some 214, some 215, some 216, some 217]), .inl (0, 12), .inl (0, 12), .inl (0, 12), .inl (0, 12), .inl (0, 120), .inl (0, 120), .inl (0, 12), .inr (4, [none, none, some 219]), .inl (0, 240), .inl (0, 10), .inl (0, 10), .inl (0, 10), .inl (0, 10), .inr (9, [some 3, some 225, some 230, some 242, some 250, some 252, some 253, some 254, some 255, none, none, none, none, none])]
def mm_sh3 : List mShp := [.inr (0, [none, none, some 226, some 227, some 228, some 229]), .inl (0, 5), .inl (0, 5), .inl (0, 5), .inl (0, 5), .inr (6, [none, none, none, none, some 231, some 232, some 233, some 234, some 235, some 236, some 237, some 238, some 239, some 240, some 241]), .inl (0, 8), .inl (0, 8), .inl (0, 8), .inl (0, 8), .inl (0, 8), .inl (0, 8), .inl (0, 8), .inl (0, 8), .inl (0, 8), .inl (0, 8), .inl (0, 80), .inr (1, [none, none, some 243, some 244, some 245, some 246, some 247, some 248, some 249]), .inl (0, 12), .inl (0, 12), .inl (0, 12), .inl (0, 12), .inl (0, 120), .inl (0, 120), .inl (0, 12), .inr (4, [none, none, some 251]), .inl (0, 240), .inl (0, 10), .inl (0, 10), .inl (0, 10), .inl (0, 10), .inr (9, [some 3, some 257, some 262, some 274, some 282, some 284, some 285, some 286, some 287, none, none, none, none, none]), .inr (0, [none, none, some 258, some 259, some 260, some 261]), .inl (0, 5), .inl (0, 5), .inl (0, 5), .inl (0, 5), .inr (6, [none, none, none, none, some 263, some 264, some 265, some 266, some 267, some 268, some 269, some 270, some 271, some 272, some 273]), .inl (0, 8), .inl (0, 8), .inl (0, 8), .inl (0, 8), .inl (0, 8), .inl (0, 8), .inl (0, 8), .inl (0, 8), .inl (0, 8), .inl (0, 8), .inl (0, 80), .inr (1, [none, none, some 275, some 276, some 277, some 278, some 279, some 280, some 281]), .inl (0, 12), .inl (0, 12), .inl (0, 12), .inl (0, 12), .inl (0, 120), .inl (0, 120), .inl (0, 12), .inr (4, [none, none, some 283]), .inl (0, 240), .inl (0, 10), .inl (0, 10), .inl (0, 10), .inl (0, 10), .inr (9, [some 3, some 289, some 294, some 306, some 314, some 316, some 317, some 318, some 319, none, none, none, none, none]), .inr (0, [none, none, some 290, some 291, some 292, some 293]), .inl (0, 5), .inl (0, 5), .inl (0, 5), .inl (0, 5), .inr (6, [none, none, none, none, some 295, some 296, some 297, some 298, some 299, some 300, some 301, some 302, some 303, some 304, some 305]), .inl (0, 8), .inl (0, 8), .inl (0, 8), .inl (0, 8), .inl (0, 8)]
def mm_sh4 : List mShp := [.inl (0, 8), .inl (0, 8), .inl (0, 8), .inl (0, 8), .inl (0, 8), .inl (0, 80), .inr (1, [none, none, some 307, some 308, some 309, some 310, some 311, some 312, some 313]), .inl (0, 12), .inl (0, 12), .inl (0, 12), .inl (0, 12), .inl (0, 120), .inl (0, 120), .inl (0, 12), .inr (4, [none, none, some 315]), .inl (0, 240), .inl (0, 10), .inl (0, 10), .inl (0, 10), .inl (0, 10), .inr (9, [some 3, some 321, some 326, some 338, some 346, some 348, some 349, some 350, some 351, none, none, none, none, none]), .inr (0, [none, none, some 322, some 323, some 324, some 325]), .inl (0, 5), .inl (0, 5), .inl (0, 5), .inl (0, 5), .inr (6, [none, none, none, none, some 327, some 328, some 329, some 330, some 331, some 332, some 333, some 334, some 335, some 336, some 337]), .inl (0, 8), .inl (0, 8), .inl (0, 8), .inl (0, 8), .inl (0, 8), .inl (0, 8), .inl (0, 8), .inl (0, 8), .inl (0, 8), .inl (0, 8), .inl (0, 80), .inr (1, [none, none, some 339, some 340, some 341, some 342, some 343, some 344, some 345]), .inl (0, 12), .inl (0, 12), .inl (0, 12), .inl (0, 12), .inl (0, 120), .inl (0, 120), .inl (0, 12), .inr (4, [none, none, some 347]), .inl (0, 240), .inl (0, 10), .inl (0, 10), .inl (0, 10), .inl (0, 10), .inr (9, [some 3, some 353, some 358, some 370, some 378, some 380, some 381, some 382, some 383, none, none, none, none, none]), .inr (0, [none, none, some 354, some 355, some 356, some 357]), .inl (0, 5), .inl (0, 5), .inl (0, 5), .inl (0, 5), .inr (6, [none, none, none, none, some 359, some 360, some 361, some 362, some 363, some 364, some 365, some 366, some 367, some 368, some 369]), .inl (0, 8), .inl (0, 8), .inl (0, 8), .inl (0, 8), .inl (0, 8), .inl (0, 8), .inl (0, 8), .inl (0, 8), .inl (0, 8), .inl (0, 8), .inl (0, 80), .inr (1, [none, none, some 371, some 372, some 373, some 374, some 375, some 376, some 377]), .inl (0, 12), .inl (0, 12), .inl (0, 12), .inl (0, 12)]
def mm_sh5 : List mShp := [.inl (0, 120), .inl (0, 120), .inl (0, 12), .inr (4, [none, none, some 379]), .inl (0, 240), .inl (0, 10), .inl (0, 10), .inl (0, 10), .inl (0, 10), .inr (9, [some 3, some 385, some 390, some 402, some 410, some 412, some 413, some 414, some 415, none, none, none, none, none]), .inr (0, [none, none, some 386, some 387, some 388, some 389]), .inl (0, 5), .inl (0, 5), .inl (0, 5), .inl (0, 5), .inr (6, [none, none, none, none, some 391, some 392, some 393, some 394, some 395, some 396, some 397, some 398, some 399, some 400, some 401]), .inl (0, 8), .inl (0, 8), .inl (0, 8), .inl (0, 8), .inl (0, 8), .inl (0, 8), .inl (0, 8), .inl (0, 8), .inl (0, 8), .inl (0, 8), .inl (0, 80), .inr (1, [none, none, some 403, some 404, some 405, some 406, some 407, some 408, some 409]), .inl (0, 12), .inl (0, 12), .inl (0, 12), .inl (0, 12), .inl (0, 120), .inl (0, 120), .inl (0, 12), .inr (4, [none, none, some 411]), .inl (0, 240), .inl (0, 10), .inl (0, 10), .inl (0, 10), .inl (0, 10), .inr (9, [some 3, some 417, some 422, some 434, some 442, some 444, some 445, some 446, some 447, none, none, none, none, none]), .inr (0, [none, none, some 418, some 419, some 420, some 421]), .inl (0, 5), .inl (0, 5), .inl (0, 5), .inl (0, 5), .inr (6, [none, none, none, none, some 423, some 424, some 425, some 426, some 427, some 428, some 429, some 430, some 431, some 432, some 433]), .inl (0, 8), .inl (0, 8), .inl (0, 8), .inl (0, 8), .inl (0, 8), .inl (0, 8), .inl (0, 8), .inl (0, 8), .inl (0, 8), .inl (0, 8), .inl (0, 80), .inr (1, [none, none, some 435, some 436, some 437, some 438, some 439, some 440, some 441]), .inl (0, 12), .inl (0, 12), .inl (0, 12), .inl (0, 12), .inl (0, 120), .inl (0, 120), .inl (0, 12), .inr (4, [none, none, some 443]), .inl (0, 240), .inl (0, 10), .inl (0, 10), .inl (0, 10), .inl (0, 10), .inr (9, [some 3, some 449, some 454, some 466, some 474, some 476, some 477, some 478, some 479, none, none, none, none, none]), .inr (0, [none, none, some 450, some 451, some 452, some 453])]
def mm_sh6 : List mShp := [.inl (0, 5), .inl (0, 5), .inl (0, 5), .inl (0, 5), .inr (6, [none, none, none, none, some 455, some 456, some 457, some 458, some 459, some 460, some 461, some 462, some 463, some 464, some 465]), .inl (0, 8), .inl (0, 8), .inl (0, 8), .inl (0, 8), .inl (0, 8), .inl (0, 8), .inl (0, 8), .inl (0, 8), .inl (0, 8), .inl (0, 8), .inl (0, 80), .inr (1, [none, none, some 467, some 468, some 469, some 470, some 471, some 472, some 473]), .inl (0, 12), .inl (0, 12), .inl (0, 12), .inl (0, 12), .inl (0, 120), .inl (0, 120), .inl (0, 12), .inr (4, [none, none, some 475]), .inl (0, 240), .inl (0, 10), .inl (0, 10), .inl (0, 10), .inl (0, 10), .inr (9, [some 3, some 481, some 486, some 498, some 506, some 508, some 509, some 510, some 511, none, none, none, none, none]), .inr (0, [none, none, some 482, some 483, some 484, some 485]), .inl (0, 5), .inl (0, 5), .inl (0, 5), .inl (0, 5), .inr (6, [none, none, none, none, some 487, some 488, some 489, some 490, some 491, some 492, some 493, some 494, some 495, some 496, some 497]), .inl (0, 8), .inl (0, 8), .inl (0, 8), .inl (0, 8), .inl (0, 8), .inl (0, 8), .inl (0, 8), .inl (0, 8), .inl (0, 8), .inl (0, 8), .inl (0, 80), .inr (1, [none, none, some 499, some 500, some 501, some 502, some 503, some 504, some 505]), .inl (0, 12), .inl (0, 12), .inl (0, 12), .inl (0, 12), .inl (0, 120), .inl (0, 120), .inl (0, 12), .inr (4, [none, none, some 507]), .inl (0, 240), .inl (0, 10), .inl (0, 10), .inl (0, 10), .inl (0, 10), .inr (11, [none, some 513, some 514, some 515, some 516, some 517, none, none, some 518, none, none, none, none, none, none, some 519, none, some 520, none, some 521, none, some 522, some 523]), .inl (0, 2468), .inl (0, 1619), .inl (0, 1619), .inl (0, 770), .inl (0, 9240), .inl (1, 400), .inl (0, 5), .inl (0, 400), .inl (0, 5), .inl (0, 32), .inl (2, 6), .inl (2, 1)]
def mm_shL : List mShp := mm_sh0 ++ (mm_sh1 ++ (mm_sh2 ++ (mm_sh3 ++ (mm_sh4 ++ (mm_sh5 ++ (mm_sh6))))))
def mm_sh (a : Nat) : mShp := mm_shL.getD a (.inl (0, 0))
def mm_cellO (f : Nat → Int32) : Nat → List (Option Nat) → List Value
  | _, [] => []
  | k, none :: r => .int (f k) :: mm_cellO f (k + 1) r
  | k, some q :: r => .ref q :: mm_cellO f (k + 1) r
def mm_cellS (h : mShp) (f : Nat → Int32) (g : Nat → Int64) : va_E := match h with
  | .inl (t, n) => if t = 2 then .inl (2, n, .inr (.inl g)) else if t = 3 then .inl (3, n, .inr (.inr (.inr (.inr (fun i => if i < 12 then some (128 + 32 * i) else none))))) else .inl (t, n, .inl f)
  | .inr (ci, tm) => .inr (ci, mm_cellO f 0 tm)
def mm_cell (s : mS) (a : Nat) : va_E := mm_cellS (mm_sh a) (s.1 a) (s.2.1 a)
def hpL (s : mS) : List va_E := (List.range 525).map (mm_cell s)
def hp (s : mS) : mm_H := (hpL s, s.2.2)
theorem hpL_get {s : mS} {a : Nat} (ha : a < 525) : (hpL s)[a]? = some (mm_cell s a) := by
  unfold hpL
  rw [List.getElem?_map, List.getElem?_range ha]
  rfl
theorem hp_get {s : mS} {a : Nat} (ha : a < 525) : (hp s).1[a]? = some (mm_cell s a) := by
  simp only [hp]
  exact hpL_get ha
theorem hpL_out {s : mS} {a : Nat} (ha : ¬ a < 525) : (hpL s)[a]? = none := by
  unfold hpL
  rw [List.getElem?_map, List.getElem?_eq_none (by rw [List.length_range]; omega)]
  rfl
theorem hpL_len {s : mS} : (hpL s).length = 525 := by
  unfold hpL
  rw [List.length_map, List.length_range]
theorem hpL_set {s s' : mS} {a : Nat} {e : va_E} (h1 : ∀ b, b ≠ a → s'.1 b = s.1 b) (h2 : ∀ b, b ≠ a → s'.2.1 b = s.2.1 b) (he : mm_cell s' a = e) : (hpL s).set a e = hpL s' := by
  apply List.ext_getElem?
  intro i
  rw [List.getElem?_set]
  by_cases hl : i < 525
  · rw [hpL_get hl, hpL_get hl, hpL_len]
    by_cases e1 : a = i
    · subst e1
      rw [if_pos rfl, if_pos hl, he]
    · rw [if_neg e1]
      unfold mm_cell
      rw [h1 i (Ne.symm e1), h2 i (Ne.symm e1)]
  · rw [hpL_out hl, hpL_out hl, hpL_len]
    by_cases e1 : a = i
    · rw [if_pos e1, e1, if_neg hl]
    · rw [if_neg e1]
theorem hp_set {s s' : mS} {a : Nat} {e : va_E} (h1 : ∀ b, b ≠ a → s'.1 b = s.1 b) (h2 : ∀ b, b ≠ a → s'.2.1 b = s.2.1 b) (h3 : s'.2.2 = s.2.2) (he : mm_cell s' a = e) : ((hp s).1.set a e, (hp s).2) = hp s' := by
  simp only [hp]
  rw [hpL_set h1 h2 he, h3]
theorem mm_range_map {f g : Nat → va_E} (h : f = g) : (List.range 525).map f = (List.range 525).map g := by rw [h]
/-- an int into cell a, at k -/
def sI (s : mS) (a k : Nat) (x : Int32) : mS := (fun b => if b = a then upd (s.1 a) k x else s.1 b, s.2)
def sL (s : mS) (a k : Nat) (x : Int64) : mS := (s.1, fun b => if b = a then vp_updL (s.2.1 a) k x else s.2.1 b, s.2.2)
def sC (s : mS) (a0 a1 sp dp n : Nat) : mS := (fun b => if b = a1 then va_cpy (s.1 a0) (s.1 a1) sp dp n else s.1 b, s.2)
def sX (s : mS) : mS := (s.1, s.2.1, false, s.2.2.2.1 + 1, s.2.2.2.2 + 6)
theorem hpL_X {s : mS} : hpL (sX s) = hpL s := by
  unfold hpL
  exact mm_range_map (show mm_cell (sX s) = mm_cell s from rfl)
theorem hp_X {s : mS} : hp (sX s) = ((hp s).1, false, (hp s).2.2.1 + 1, (hp s).2.2.2 + 6) := by
  simp only [hp]
  rw [hpL_X]
  simp only [sX]
theorem mm_cellO_int {f : Nat → Int32} : ∀ {tm : List (Option Nat)} {i k : Nat}, tm[k]? = some none → (mm_cellO f i tm)[k]? = some (.int (f (i + k)))
  | [], _, _, h => by simp at h
  | none :: r, i, 0, _ => rfl
  | some q :: r, i, 0, h => by simp at h
  | none :: r, i, k + 1, h => by
    rw [List.getElem?_cons_succ] at h
    show (mm_cellO f (i + 1) r)[k]? = _
    rw [mm_cellO_int h]
    congr 3; omega
  | some q :: r, i, k + 1, h => by
    rw [List.getElem?_cons_succ] at h
    show (mm_cellO f (i + 1) r)[k]? = _
    rw [mm_cellO_int h]
    congr 3; omega
theorem mm_cellO_ref {f : Nat → Int32} {q : Nat} : ∀ {tm : List (Option Nat)} {i k : Nat}, tm[k]? = some (some q) → (mm_cellO f i tm)[k]? = some (.ref q)
  | [], _, _, h => by simp at h
  | none :: r, i, 0, h => by simp at h
  | some p :: r, i, 0, h => by
    simp at h; subst h; rfl
  | none :: r, i, k + 1, h => by
    rw [List.getElem?_cons_succ] at h
    exact mm_cellO_ref (tm := r) h
  | some p :: r, i, k + 1, h => by
    rw [List.getElem?_cons_succ] at h
    exact mm_cellO_ref (tm := r) h
theorem mm_cellO_ge {f g : Nat → Int32} : ∀ {tm : List (Option Nat)} {i : Nat}, (∀ j, i ≤ j → f j = g j) → mm_cellO f i tm = mm_cellO g i tm
  | [], _, _ => rfl
  | none :: r, i, h => by
    show Value.int (f i) :: mm_cellO f (i + 1) r = Value.int (g i) :: mm_cellO g (i + 1) r
    rw [h i (Nat.le_refl _), mm_cellO_ge (fun j hj => h j (by omega))]
  | some q :: r, i, h => by
    show Value.ref q :: mm_cellO f (i + 1) r = Value.ref q :: mm_cellO g (i + 1) r
    rw [mm_cellO_ge (fun j hj => h j (by omega))]
theorem mm_cellO_set {f : Nat → Int32} {x : Int32} : ∀ {tm : List (Option Nat)} {i k : Nat}, tm[k]? = some none → mm_cellO (upd f (i + k) x) i tm = (mm_cellO f i tm).set k (.int x)
  | [], _, _, h => by simp at h
  | none :: r, i, 0, _ => by
    show Value.int (upd f i x i) :: mm_cellO (upd f i x) (i + 1) r = Value.int x :: mm_cellO f (i + 1) r
    rw [show upd f i x i = x from if_pos rfl, mm_cellO_ge (fun j hj => show upd f i x j = f j from if_neg (by omega))]
  | some q :: r, i, 0, h => by simp at h
  | none :: r, i, k + 1, h => by
    rw [List.getElem?_cons_succ] at h
    show Value.int (upd f (i + (k + 1)) x i) :: mm_cellO (upd f (i + (k + 1)) x) (i + 1) r = Value.int (f i) :: (mm_cellO f (i + 1) r).set k (.int x)
    rw [show upd f (i + (k + 1)) x i = f i from if_neg (by omega), show i + (k + 1) = (i + 1) + k from by omega, mm_cellO_set h]
  | some q :: r, i, k + 1, h => by
    rw [List.getElem?_cons_succ] at h
    show Value.ref q :: mm_cellO (upd f (i + (k + 1)) x) (i + 1) r = Value.ref q :: (mm_cellO f (i + 1) r).set k (.int x)
    rw [show i + (k + 1) = (i + 1) + k from by omega, mm_cellO_set h]
theorem mm_cellO_len {f : Nat → Int32} : ∀ {tm : List (Option Nat)} {i : Nat}, (mm_cellO f i tm).length = tm.length
  | [], _ => rfl
  | none :: r, i => by show (mm_cellO f (i + 1) r).length + 1 = _; rw [mm_cellO_len]; rfl
  | some q :: r, i => by show (mm_cellO f (i + 1) r).length + 1 = _; rw [mm_cellO_len]; rfl
/-- cell a is an object of class ci, with these fields (none: an int; some q: it points to q) -/
def mm_ob (a ci : Nat) (tm : List (Option Nat)) : Prop := mm_sh a = .inr (ci, tm) ∧ a < 525
/-- cell a is an array -/
def mm_ar (a t n : Nat) : Prop := mm_sh a = .inl (t, n) ∧ a < 525
theorem mm_ob_get {s : mS} {a ci : Nat} {tm : List (Option Nat)} (o : mm_ob a ci tm) : (hp s).1[a]? = some (.inr (ci, mm_cellO (s.1 a) 0 tm)) := by
  rw [hp_get o.2]; unfold mm_cell; rw [o.1]; rfl
theorem mm_ar_get {s : mS} {a t n : Nat} (o : mm_ar a t n) (h2 : ¬ t = 2) (h3 : ¬ t = 3) : (hp s).1[a]? = some (.inl (t, n, .inl (s.1 a))) := by
  rw [hp_get o.2]; unfold mm_cell; rw [o.1]; unfold mm_cellS; dsimp only; rw [if_neg h2, if_neg h3]
theorem mm_ar_getL {s : mS} {a n : Nat} (o : mm_ar a 2 n) : (hp s).1[a]? = some (.inl (2, n, .inr (.inl (s.2.1 a)))) := by
  rw [hp_get o.2]; unfold mm_cell; rw [o.1]; rfl
theorem mm_ar_getR {s : mS} {a n : Nat} (o : mm_ar a 3 n) : (hp s).1[a]? = some (.inl (3, n, .inr (.inr (.inr (.inr (fun i => if i < 12 then some (128 + 32 * i) else none)))))) := by
  rw [hp_get o.2]; unfold mm_cell; rw [o.1]; rfl
/-! READINGS: what a method comes to, as a function; none where an index is wrong, or the count of rounds runs out -/
abbrev mQ : Type := (Option Int32 ⊕ Nat) × mS
def hr (r : mQ) : mm_R := (match r.1 with
  | .inl v => .inl (v.map Value.int)
  | .inr x => .inr x, hp r.2)
def rv (v : Int32) (s : mS) : Option mQ := some (.inl (some v), s)
def ru (s : mS) : Option mQ := some (.inl none, s)
def rx (x : Nat) (s : mS) : Option mQ := some (.inr x, sX s)
def bx (v : Int32) (k : Int32 → Option mQ) : Option mQ := k v
def by_ (v : Int64) (k : Int64 → Option mQ) : Option mQ := k v
def sp (s : mS) (k : mS → Option mQ) : Option mQ := k s
def bN (c : Option mQ) (k : Int32 → mS → Option mQ) : Option mQ := match c with
  | some (.inl (some v), s) => k v s
  | _ => none
def bM (c : Option mQ) (k : mS → Option mQ) : Option mQ := match c with
  | some (.inl none, s) => k s
  | _ => none
def bV (c : Option mQ) (k : Int32 → mS → Option mQ) : Option mQ := match c with
  | some (.inl (some v), s) => k v s
  | some (.inr x, s) => some (.inr x, s)
  | _ => none
def bU (c : Option mQ) (k : mS → Option mQ) : Option mQ := match c with
  | some (.inl none, s) => k s
  | some (.inr x, s) => some (.inr x, s)
  | _ => none
def bC (cat : List (Nat × Nat × Int)) (c : Option mQ) (k : Int32 → mS → Option mQ) : Option mQ := match c with
  | some (.inl (some v), s) => k v s
  | some (.inr x, s) => (match cat.find? (fun q => q.1 == x) with
    | some (_, _, code) => some (.inl (some (Int32.ofInt code)), s)
    | none => none)
  | _ => none
def shlI (x y : Int32) : Int32 := x <<< (y &&& 31)
def shrI (x y : Int32) : Int32 := x >>> (y &&& 31)
def ushI (x y : Int32) : Int32 := (x.toUInt32 >>> (y.toUInt32 &&& Int32.toUInt32 31)).toInt32
def rmI (x y : Int32) : Int32 := x - x / y * y
def mxI (x y : Int32) : Int32 := if x < y then y else x
def mnI (x y : Int32) : Int32 := if y < x then y else x
def mm_ok (n : Nat) (i : Int32) : Prop := ¬ (i < 0 ∨ n ≤ i.toNatClampNeg)
def gA (n : Nat) (i : Int32) (c : Option mQ) : Option mQ := if i < 0 ∨ n ≤ i.toNatClampNeg then none else c
def gZ (y : Int32) (c : Option mQ) : Option mQ := if y = 0 then none else c
def gY (y : Int64) (c : Option mQ) : Option mQ := if y = 0 then none else c
def gB (x : Int32) (c : Option mQ) : Option mQ := if x = 0 ∨ x = 1 then c else none
def mm_cpk (n0 n1 : Nat) (p q n : Int32) : Prop := (¬ p < 0 ∧ ¬ q < 0 ∧ ¬ n < 0) ∧ (p.toNatClampNeg + n.toNatClampNeg ≤ n0 ∧ q.toNatClampNeg + n.toNatClampNeg ≤ n1)
def gC (n0 n1 : Nat) (p q n : Int32) (c : Option mQ) : Option mQ := if (¬ p < 0 ∧ ¬ q < 0 ∧ ¬ n < 0) ∧ (p.toNatClampNeg + n.toNatClampNeg ≤ n0 ∧ q.toNatClampNeg + n.toNatClampNeg ≤ n1) then c else none
theorem gA_e {n : Nat} {i : Int32} {c : Option mQ} {r : mQ} (h : gA n i c = some r) : mm_ok n i ∧ c = some r := by
  unfold gA at h
  by_cases q : i < 0 ∨ n ≤ i.toNatClampNeg
  · rw [if_pos q] at h; cases h
  · rw [if_neg q] at h; exact ⟨q, h⟩
theorem gZ_e {y : Int32} {c : Option mQ} {r : mQ} (h : gZ y c = some r) : ¬ y = 0 ∧ c = some r := by
  unfold gZ at h
  by_cases q : y = 0
  · rw [if_pos q] at h; cases h
  · rw [if_neg q] at h; exact ⟨q, h⟩
theorem gY_e {y : Int64} {c : Option mQ} {r : mQ} (h : gY y c = some r) : ¬ y = 0 ∧ c = some r := by
  unfold gY at h
  by_cases q : y = 0
  · rw [if_pos q] at h; cases h
  · rw [if_neg q] at h; exact ⟨q, h⟩
theorem gB_e {x : Int32} {c : Option mQ} {r : mQ} (h : gB x c = some r) : (x = 0 ∨ x = 1) ∧ c = some r := by
  unfold gB at h
  by_cases q : x = 0 ∨ x = 1
  · rw [if_pos q] at h; exact ⟨q, h⟩
  · rw [if_neg q] at h; cases h
theorem gC_e {n0 n1 : Nat} {p q n : Int32} {c : Option mQ} {r : mQ} (h : gC n0 n1 p q n c = some r) : mm_cpk n0 n1 p q n ∧ c = some r := by
  unfold gC at h
  by_cases z : (¬ p < 0 ∧ ¬ q < 0 ∧ ¬ n < 0) ∧ (p.toNatClampNeg + n.toNatClampNeg ≤ n0 ∧ q.toNatClampNeg + n.toNatClampNeg ≤ n1)
  · rw [if_pos z] at h; exact ⟨z, h⟩
  · rw [if_neg z] at h; cases h
theorem bN_e {c : Option mQ} {k : Int32 → mS → Option mQ} {r : mQ} (h : bN c k = some r) : ∃ v s, c = some (.inl (some v), s) ∧ k v s = some r := by
  unfold bN at h
  split at h
  · exact ⟨_, _, rfl, h⟩
  · cases h
theorem bM_e {c : Option mQ} {k : mS → Option mQ} {r : mQ} (h : bM c k = some r) : ∃ s, c = some (.inl none, s) ∧ k s = some r := by
  unfold bM at h
  split at h
  · exact ⟨_, rfl, h⟩
  · cases h
theorem bV_e {c : Option mQ} {k : Int32 → mS → Option mQ} {r : mQ} (h : bV c k = some r) : (∃ v s, c = some (.inl (some v), s) ∧ k v s = some r) ∨ (∃ x s, c = some (.inr x, s) ∧ r = (.inr x, s)) := by
  unfold bV at h
  split at h
  · exact Or.inl ⟨_, _, rfl, h⟩
  · exact Or.inr ⟨_, _, rfl, (Option.some.inj h).symm⟩
  · cases h
theorem bU_e {c : Option mQ} {k : mS → Option mQ} {r : mQ} (h : bU c k = some r) : (∃ s, c = some (.inl none, s) ∧ k s = some r) ∨ (∃ x s, c = some (.inr x, s) ∧ r = (.inr x, s)) := by
  unfold bU at h
  split at h
  · exact Or.inl ⟨_, rfl, h⟩
  · exact Or.inr ⟨_, _, rfl, (Option.some.inj h).symm⟩
  · cases h
theorem bC_e {cat : List (Nat × Nat × Int)} {c : Option mQ} {k : Int32 → mS → Option mQ} {r : mQ} (h : bC cat c k = some r) : (∃ v s, c = some (.inl (some v), s) ∧ k v s = some r) ∨ (∃ x s u w code, c = some (.inr x, s) ∧ cat.find? (fun q => q.1 == x) = some (u, w, code) ∧ r = (.inl (some (Int32.ofInt code)), s)) := by
  unfold bC at h
  split at h
  · exact Or.inl ⟨_, _, rfl, h⟩
  · split at h
    · rename_i hf
      exact Or.inr ⟨_, _, _, _, _, rfl, hf, (Option.some.inj h).symm⟩
    · cases h
  · cases h
/-! ROWS OF CODE OVER THE STATE -/
section EVS
variable {L : Nat} {xs : Nat → Int32} {d mi pc : Nat} {lv : mm_L} {st : List Value} {s : mS} {r : mQ} {r1 : Int} {r2 : Nat} {H : mm_Hd}
theorem Rd.istore {i : Nat} {e : Int32} {k : Int32 → Option mQ} (hh : mm_hd mi = some H) (hi : mm_cd mi pc = some (.istore i, 2, r1, r2)) (hn : i < H.2.1) {lv2 : Int32 → mm_L} (hl : ∀ x, mm_st1 lv i (.int x) = lv2 x) (h : bx e k = some r) (kk : ∀ x, k x = some r → Ev L xs d mi (pc + 2) (lv2 x) st (hp s) (hr r)) : Ev L xs d mi pc lv (.int e :: st) (hp s) (hr r) := Ev.istore hh hi hn (hl e) (kk e h)
theorem Rd.istore_n {i : Fin 4} {e : Int32} {k : Int32 → Option mQ} (hh : mm_hd mi = some H) (hi : mm_cd mi pc = some (.istore_n i, 1, r1, r2)) (hn : (i : Nat) < H.2.1) {lv2 : Int32 → mm_L} (hl : ∀ x, mm_st1 lv i (.int x) = lv2 x) (h : bx e k = some r) (kk : ∀ x, k x = some r → Ev L xs d mi (pc + 1) (lv2 x) st (hp s) (hr r)) : Ev L xs d mi pc lv (.int e :: st) (hp s) (hr r) := Ev.istore_n hh hi hn (hl e) (kk e h)
theorem Rd.lstore {i : Nat} {e : Int64} {k : Int64 → Option mQ} (hh : mm_hd mi = some H) (hi : mm_cd mi pc = some (.lstore i, 2, r1, r2)) (hn : i + 1 < H.2.1) {lv2 : Int64 → mm_L} (hl : ∀ x, mm_st2 lv i (.long x) = lv2 x) (h : by_ e k = some r) (kk : ∀ x, k x = some r → Ev L xs d mi (pc + 2) (lv2 x) st (hp s) (hr r)) : Ev L xs d mi pc lv (.long e :: st) (hp s) (hr r) := Ev.lstore hh hi hn (hl e) (kk e h)
theorem Rd.lstore_n {i : Fin 4} {e : Int64} {k : Int64 → Option mQ} (hh : mm_hd mi = some H) (hi : mm_cd mi pc = some (.lstore_n i, 1, r1, r2)) (hn : (i : Nat) + 1 < H.2.1) {lv2 : Int64 → mm_L} (hl : ∀ x, mm_st2 lv i (.long x) = lv2 x) (h : by_ e k = some r) (kk : ∀ x, k x = some r → Ev L xs d mi (pc + 1) (lv2 x) st (hp s) (hr r)) : Ev L xs d mi pc lv (.long e :: st) (hp s) (hr r) := Ev.lstore_n hh hi hn (hl e) (kk e h)
theorem Rd.iinc {i : Nat} {n : Int} {c x0 : Int32} {k : Int32 → Option mQ} (hh : mm_hd mi = some H) (hi : mm_cd mi pc = some (.iinc i n, 3, r1, r2)) (hn : i < H.2.1) (hx : mm_look lv i = some (.int x0)) (hv : Int32.ofInt n = c) {lv2 : Int32 → mm_L} (hl : ∀ x, mm_st1 lv i (.int x) = lv2 x) (h : bx (x0 + c) k = some r) (kk : ∀ x, k x = some r → Ev L xs d mi (pc + 3) (lv2 x) st (hp s) (hr r)) : Ev L xs d mi pc lv st (hp s) (hr r) := Ev.iinc hh hi hn hx hv (hl _) (kk (x0 + c) h)
theorem Rd.if_eq {off : Int} {t : Nat} {x : Int32} {A B : Option mQ} (hh : mm_hd mi = some H) (hi : mm_cd mi pc = some (.ifCond .eq off, 3, r1, r2)) (ht : mm_tgt pc off = some t) (h : (if x = 0 then A else B) = some r) (k1 : x = 0 → A = some r → Ev L xs d mi t lv st (hp s) (hr r)) (k2 : ¬ (x = 0) → B = some r → Ev L xs d mi (pc + 3) lv st (hp s) (hr r)) : Ev L xs d mi pc lv (.int x :: st) (hp s) (hr r) := Ev.if_eq hh hi ht (fun hc => k1 hc ((if_pos hc).symm.trans h)) (fun hc => k2 hc ((if_neg hc).symm.trans h))
theorem Rd.if_ne {off : Int} {t : Nat} {x : Int32} {A B : Option mQ} (hh : mm_hd mi = some H) (hi : mm_cd mi pc = some (.ifCond .ne off, 3, r1, r2)) (ht : mm_tgt pc off = some t) (h : (if ¬ x = 0 then A else B) = some r) (k1 : ¬ x = 0 → A = some r → Ev L xs d mi t lv st (hp s) (hr r)) (k2 : ¬ (¬ x = 0) → B = some r → Ev L xs d mi (pc + 3) lv st (hp s) (hr r)) : Ev L xs d mi pc lv (.int x :: st) (hp s) (hr r) := Ev.if_ne hh hi ht (fun hc => k1 hc ((if_pos hc).symm.trans h)) (fun hc => k2 hc ((if_neg hc).symm.trans h))
theorem Rd.if_lt {off : Int} {t : Nat} {x : Int32} {A B : Option mQ} (hh : mm_hd mi = some H) (hi : mm_cd mi pc = some (.ifCond .lt off, 3, r1, r2)) (ht : mm_tgt pc off = some t) (h : (if x < 0 then A else B) = some r) (k1 : x < 0 → A = some r → Ev L xs d mi t lv st (hp s) (hr r)) (k2 : ¬ (x < 0) → B = some r → Ev L xs d mi (pc + 3) lv st (hp s) (hr r)) : Ev L xs d mi pc lv (.int x :: st) (hp s) (hr r) := Ev.if_lt hh hi ht (fun hc => k1 hc ((if_pos hc).symm.trans h)) (fun hc => k2 hc ((if_neg hc).symm.trans h))
theorem Rd.if_ge {off : Int} {t : Nat} {x : Int32} {A B : Option mQ} (hh : mm_hd mi = some H) (hi : mm_cd mi pc = some (.ifCond .ge off, 3, r1, r2)) (ht : mm_tgt pc off = some t) (h : (if 0 ≤ x then A else B) = some r) (k1 : 0 ≤ x → A = some r → Ev L xs d mi t lv st (hp s) (hr r)) (k2 : ¬ (0 ≤ x) → B = some r → Ev L xs d mi (pc + 3) lv st (hp s) (hr r)) : Ev L xs d mi pc lv (.int x :: st) (hp s) (hr r) := Ev.if_ge hh hi ht (fun hc => k1 hc ((if_pos hc).symm.trans h)) (fun hc => k2 hc ((if_neg hc).symm.trans h))
theorem Rd.if_gt {off : Int} {t : Nat} {x : Int32} {A B : Option mQ} (hh : mm_hd mi = some H) (hi : mm_cd mi pc = some (.ifCond .gt off, 3, r1, r2)) (ht : mm_tgt pc off = some t) (h : (if 0 < x then A else B) = some r) (k1 : 0 < x → A = some r → Ev L xs d mi t lv st (hp s) (hr r)) (k2 : ¬ (0 < x) → B = some r → Ev L xs d mi (pc + 3) lv st (hp s) (hr r)) : Ev L xs d mi pc lv (.int x :: st) (hp s) (hr r) := Ev.if_gt hh hi ht (fun hc => k1 hc ((if_pos hc).symm.trans h)) (fun hc => k2 hc ((if_neg hc).symm.trans h))
theorem Rd.if_le {off : Int} {t : Nat} {x : Int32} {A B : Option mQ} (hh : mm_hd mi = some H) (hi : mm_cd mi pc = some (.ifCond .le off, 3, r1, r2)) (ht : mm_tgt pc off = some t) (h : (if x ≤ 0 then A else B) = some r) (k1 : x ≤ 0 → A = some r → Ev L xs d mi t lv st (hp s) (hr r)) (k2 : ¬ (x ≤ 0) → B = some r → Ev L xs d mi (pc + 3) lv st (hp s) (hr r)) : Ev L xs d mi pc lv (.int x :: st) (hp s) (hr r) := Ev.if_le hh hi ht (fun hc => k1 hc ((if_pos hc).symm.trans h)) (fun hc => k2 hc ((if_neg hc).symm.trans h))
theorem Rd.ic_eq {off : Int} {t : Nat} {x y : Int32} {A B : Option mQ} (hh : mm_hd mi = some H) (hi : mm_cd mi pc = some (.if_icmp .eq off, 3, r1, r2)) (ht : mm_tgt pc off = some t) (h : (if x = y then A else B) = some r) (k1 : x = y → A = some r → Ev L xs d mi t lv st (hp s) (hr r)) (k2 : ¬ (x = y) → B = some r → Ev L xs d mi (pc + 3) lv st (hp s) (hr r)) : Ev L xs d mi pc lv (.int y :: .int x :: st) (hp s) (hr r) := Ev.ic_eq hh hi ht (fun hc => k1 hc ((if_pos hc).symm.trans h)) (fun hc => k2 hc ((if_neg hc).symm.trans h))
theorem Rd.ic_ne {off : Int} {t : Nat} {x y : Int32} {A B : Option mQ} (hh : mm_hd mi = some H) (hi : mm_cd mi pc = some (.if_icmp .ne off, 3, r1, r2)) (ht : mm_tgt pc off = some t) (h : (if ¬ x = y then A else B) = some r) (k1 : ¬ x = y → A = some r → Ev L xs d mi t lv st (hp s) (hr r)) (k2 : ¬ (¬ x = y) → B = some r → Ev L xs d mi (pc + 3) lv st (hp s) (hr r)) : Ev L xs d mi pc lv (.int y :: .int x :: st) (hp s) (hr r) := Ev.ic_ne hh hi ht (fun hc => k1 hc ((if_pos hc).symm.trans h)) (fun hc => k2 hc ((if_neg hc).symm.trans h))
theorem Rd.ic_lt {off : Int} {t : Nat} {x y : Int32} {A B : Option mQ} (hh : mm_hd mi = some H) (hi : mm_cd mi pc = some (.if_icmp .lt off, 3, r1, r2)) (ht : mm_tgt pc off = some t) (h : (if x < y then A else B) = some r) (k1 : x < y → A = some r → Ev L xs d mi t lv st (hp s) (hr r)) (k2 : ¬ (x < y) → B = some r → Ev L xs d mi (pc + 3) lv st (hp s) (hr r)) : Ev L xs d mi pc lv (.int y :: .int x :: st) (hp s) (hr r) := Ev.ic_lt hh hi ht (fun hc => k1 hc ((if_pos hc).symm.trans h)) (fun hc => k2 hc ((if_neg hc).symm.trans h))
theorem Rd.ic_ge {off : Int} {t : Nat} {x y : Int32} {A B : Option mQ} (hh : mm_hd mi = some H) (hi : mm_cd mi pc = some (.if_icmp .ge off, 3, r1, r2)) (ht : mm_tgt pc off = some t) (h : (if y ≤ x then A else B) = some r) (k1 : y ≤ x → A = some r → Ev L xs d mi t lv st (hp s) (hr r)) (k2 : ¬ (y ≤ x) → B = some r → Ev L xs d mi (pc + 3) lv st (hp s) (hr r)) : Ev L xs d mi pc lv (.int y :: .int x :: st) (hp s) (hr r) := Ev.ic_ge hh hi ht (fun hc => k1 hc ((if_pos hc).symm.trans h)) (fun hc => k2 hc ((if_neg hc).symm.trans h))
theorem Rd.ic_gt {off : Int} {t : Nat} {x y : Int32} {A B : Option mQ} (hh : mm_hd mi = some H) (hi : mm_cd mi pc = some (.if_icmp .gt off, 3, r1, r2)) (ht : mm_tgt pc off = some t) (h : (if y < x then A else B) = some r) (k1 : y < x → A = some r → Ev L xs d mi t lv st (hp s) (hr r)) (k2 : ¬ (y < x) → B = some r → Ev L xs d mi (pc + 3) lv st (hp s) (hr r)) : Ev L xs d mi pc lv (.int y :: .int x :: st) (hp s) (hr r) := Ev.ic_gt hh hi ht (fun hc => k1 hc ((if_pos hc).symm.trans h)) (fun hc => k2 hc ((if_neg hc).symm.trans h))
theorem Rd.ic_le {off : Int} {t : Nat} {x y : Int32} {A B : Option mQ} (hh : mm_hd mi = some H) (hi : mm_cd mi pc = some (.if_icmp .le off, 3, r1, r2)) (ht : mm_tgt pc off = some t) (h : (if x ≤ y then A else B) = some r) (k1 : x ≤ y → A = some r → Ev L xs d mi t lv st (hp s) (hr r)) (k2 : ¬ (x ≤ y) → B = some r → Ev L xs d mi (pc + 3) lv st (hp s) (hr r)) : Ev L xs d mi pc lv (.int y :: .int x :: st) (hp s) (hr r) := Ev.ic_le hh hi ht (fun hc => k1 hc ((if_pos hc).symm.trans h)) (fun hc => k2 hc ((if_neg hc).symm.trans h))
theorem Rd.idiv {x y : Int32} {c : Option mQ} (hh : mm_hd mi = some H) (hi : mm_cd mi pc = some (.idiv, 1, r1, r2)) (h : gZ y c = some r) (kk : c = some r → Ev L xs d mi (pc + 1) lv (.int (x / y) :: st) (hp s) (hr r)) : Ev L xs d mi pc lv (.int y :: .int x :: st) (hp s) (hr r) := Ev.idiv hh hi (gZ_e h).1 (kk (gZ_e h).2)
theorem Rd.irem {x y : Int32} {c : Option mQ} (hh : mm_hd mi = some H) (hi : mm_cd mi pc = some (.irem, 1, r1, r2)) (h : gZ y c = some r) (kk : c = some r → Ev L xs d mi (pc + 1) lv (.int (rmI x y) :: st) (hp s) (hr r)) : Ev L xs d mi pc lv (.int y :: .int x :: st) (hp s) (hr r) := Ev.irem hh hi (gZ_e h).1 (kk (gZ_e h).2)
theorem Rd.ldiv {x y : Int64} {c : Option mQ} (hh : mm_hd mi = some H) (hi : mm_cd mi pc = some (.ldiv, 1, r1, r2)) (h : gY y c = some r) (kk : c = some r → Ev L xs d mi (pc + 1) lv (.long (x / y) :: st) (hp s) (hr r)) : Ev L xs d mi pc lv (.long y :: .long x :: st) (hp s) (hr r) := Ev.ldiv hh hi (gY_e h).1 (kk (gY_e h).2)
theorem Rd.ishl {x y : Int32} (hh : mm_hd mi = some H) (hi : mm_cd mi pc = some (.ishl, 1, r1, r2)) (k : Ev L xs d mi (pc + 1) lv (.int (shlI x y) :: st) (hp s) (hr r)) : Ev L xs d mi pc lv (.int y :: .int x :: st) (hp s) (hr r) := Ev.ishl hh hi k
theorem Rd.ishr {x y : Int32} (hh : mm_hd mi = some H) (hi : mm_cd mi pc = some (.ishr, 1, r1, r2)) (k : Ev L xs d mi (pc + 1) lv (.int (shrI x y) :: st) (hp s) (hr r)) : Ev L xs d mi pc lv (.int y :: .int x :: st) (hp s) (hr r) := Ev.ishr hh hi k
theorem Rd.iushr {x y : Int32} (hh : mm_hd mi = some H) (hi : mm_cd mi pc = some (.iushr, 1, r1, r2)) (k : Ev L xs d mi (pc + 1) lv (.int (ushI x y) :: st) (hp s) (hr r)) : Ev L xs d mi pc lv (.int y :: .int x :: st) (hp s) (hr r) := Ev.iushr hh hi k
theorem Rd.max {i : Nat} {x y : Int32} (hh : mm_hd mi = some H) (hi : mm_cd mi pc = some (.invokestatic i, 3, 2, r2)) (hs : (st.map fun v => v.category).sum ≤ 8) (k : Ev L xs d mi (pc + 3) lv (.int (mxI x y) :: st) (hp s) (hr r)) : Ev L xs d mi pc lv (.int y :: .int x :: st) (hp s) (hr r) := Ev.minmax hh hi hs k
theorem Rd.min {i : Nat} {x y : Int32} (hh : mm_hd mi = some H) (hi : mm_cd mi pc = some (.invokestatic i, 3, 3, r2)) (hs : (st.map fun v => v.category).sum ≤ 8) (k : Ev L xs d mi (pc + 3) lv (.int (mnI x y) :: st) (hp s) (hr r)) : Ev L xs d mi pc lv (.int y :: .int x :: st) (hp s) (hr r) := Ev.minmax3 hh hi hs k
theorem Rd.sw {pc : Nat} {x c : Int32} {A B : Option mQ} (h : (if x = c then A else B) = some r) (k1 : x = c → A = some r → Ev L xs d mi pc lv st (hp s) (hr r)) (k2 : ¬ x = c → B = some r → Ev L xs d mi pc lv st (hp s) (hr r)) : Ev L xs d mi pc lv st (hp s) (hr r) := by
  by_cases hc : x = c
  · exact k1 hc ((if_pos hc).symm.trans h)
  · exact k2 hc ((if_neg hc).symm.trans h)
theorem mm_sw {x : Int32} {lo : Int} {n : Nat} (hn : ∀ k : Nat, k < n → ¬ x = Int32.ofInt (lo + k)) : x.toInt < lo ∨ lo + n - 1 < x.toInt := by
  by_cases h1 : x.toInt < lo
  · exact Or.inl h1
  · refine Or.inr ?_
    by_cases h2 : lo + n - 1 < x.toInt
    · exact h2
    · exfalso
      refine hn (x.toInt - lo).toNat (by omega) ?_
      rw [show lo + (((x.toInt - lo).toNat : Nat) : Int) = x.toInt from by omega, Int32.ofInt_toInt]
theorem Rd.getI {i a ci k : Nat} {tm : List (Option Nat)} (hh : mm_hd mi = some H) (hi : mm_cd mi pc = some (.getfield i, 3, (ci : Int), k)) (o : mm_ob a ci tm) (hk : tm[k]? = some none) (kk : Ev L xs d mi (pc + 3) lv (.int (s.1 a k) :: st) (hp s) (hr r)) : Ev L xs d mi pc lv (.ref a :: st) (hp s) (hr r) := by
  refine Ev.nx hh hi (x := (pc + 3, lv, .int (s.1 a k) :: st, hp s)) ?_ kk
  simp only [mm_step, mm_getf, if_true, Int.toNat_natCast]
  rw [mm_ob_get o]
  dsimp only
  rw [if_pos rfl, mm_cellO_int hk, Nat.zero_add]
theorem Rd.getR {i a ci k q : Nat} {tm : List (Option Nat)} (hh : mm_hd mi = some H) (hi : mm_cd mi pc = some (.getfield i, 3, (ci : Int), k)) (o : mm_ob a ci tm) (hk : tm[k]? = some (some q)) (kk : Ev L xs d mi (pc + 3) lv (.ref q :: st) (hp s) (hr r)) : Ev L xs d mi pc lv (.ref a :: st) (hp s) (hr r) := by
  refine Ev.nx hh hi (x := (pc + 3, lv, .ref q :: st, hp s)) ?_ kk
  simp only [mm_step, mm_getf, if_true, Int.toNat_natCast]
  rw [mm_ob_get o]
  dsimp only
  rw [if_pos rfl, mm_cellO_ref hk]
theorem mm_putI {a ci k own : Nat} {ini : Bool} {tm : List (Option Nat)} {x : Int32} (o : mm_ob a ci tm) (hk : tm[k]? = some none) (hf : mm_fitF mm_ty ci k (.int x) = true) (hn : mm_fin ci k = false) : mm_putf mm_ty mm_fin ini own ci k pc lv (.int x :: .ref a :: st) (hp s) = some (.inl (pc + 3, lv, st, hp (sI s a k x))) := by
  unfold mm_putf
  dsimp only
  rw [mm_ob_get o]
  dsimp only
  have hl : k < (mm_cellO (s.1 a) 0 tm).length := by rw [mm_cellO_len]; exact (List.getElem?_eq_some_iff.mp hk).1
  rw [if_pos ⟨rfl, hl, hf, Or.inl hn⟩]
  rw [hp_set (s' := sI s a k x) (fun b hb => if_neg hb) (fun b _ => rfl) rfl (by
    unfold mm_cell
    rw [o.1]
    show Sum.inr (ci, mm_cellO ((sI s a k x).1 a) 0 tm) = _
    rw [show (sI s a k x).1 a = upd (s.1 a) k x from if_pos rfl]
    have := mm_cellO_set (f := s.1 a) (x := x) (i := 0) hk
    rw [Nat.zero_add] at this
    rw [this])]
theorem Rd.putI {i a ci k : Nat} {tm : List (Option Nat)} {x : Int32} {kq : mS → Option mQ} (hh : mm_hd mi = some H) (hi : mm_cd mi pc = some (.putfield i, 3, (ci : Int), k)) (o : mm_ob a ci tm) (hk : tm[k]? = some none) (hf : mm_ty ci k = .int) (hn : mm_fin ci k = false) (h : sp (sI s a k x) kq = some r) (kk : ∀ s, kq s = some r → Ev L xs d mi (pc + 3) lv st (hp s) (hr r)) : Ev L xs d mi pc lv (.int x :: .ref a :: st) (hp s) (hr r) := by
  refine Ev.nx hh hi (x := (pc + 3, lv, st, hp (sI s a k x))) ?_ (kk _ h)
  simp only [mm_step, if_true, Int.toNat_natCast]
  exact mm_putI o hk (by unfold mm_fitF; rw [hf]) hn
theorem Rd.putZ {i a ci k : Nat} {tm : List (Option Nat)} {x : Int32} {kq : mS → Option mQ} (hh : mm_hd mi = some H) (hi : mm_cd mi pc = some (.putfield i, 3, (ci : Int), k)) (o : mm_ob a ci tm) (hk : tm[k]? = some none) (hf : mm_ty ci k = .boolean) (hn : mm_fin ci k = false) (h : gB x (sp (sI s a k x) kq) = some r) (kk : ∀ s, kq s = some r → Ev L xs d mi (pc + 3) lv st (hp s) (hr r)) : Ev L xs d mi pc lv (.int x :: .ref a :: st) (hp s) (hr r) := by
  refine Ev.nx hh hi (x := (pc + 3, lv, st, hp (sI s a k x))) ?_ (kk _ (gB_e h).2)
  simp only [mm_step, if_true, Int.toNat_natCast]
  exact mm_putI o hk (by unfold mm_fitF; rw [hf]; exact decide_eq_true (gB_e h).1) hn
theorem Rd.iaload {a n : Nat} {i : Int32} {c : Option mQ} (hh : mm_hd mi = some H) (hi : mm_cd mi pc = some (.iaload, 1, r1, r2)) (o : mm_ar a 0 n) (h : gA n i c = some r) (kk : c = some r → Ev L xs d mi (pc + 1) lv (.int (s.1 a i.toNatClampNeg) :: st) (hp s) (hr r)) : Ev L xs d mi pc lv (.int i :: .ref a :: st) (hp s) (hr r) := by
  refine Ev.nx hh hi (x := (pc + 1, lv, .int (s.1 a i.toNatClampNeg) :: st, hp s)) ?_ (kk (gA_e h).2)
  simp only [mm_step, mm_sld, mm_iald, if_true]
  rw [mm_ar_get o (by decide) (by decide)]
  dsimp only
  rw [if_pos ⟨rfl, (gA_e h).1⟩]
theorem Rd.baload {a n : Nat} {i : Int32} {c : Option mQ} (hh : mm_hd mi = some H) (hi : mm_cd mi pc = some (.baload, 1, r1, r2)) (o : mm_ar a 1 n) (h : gA n i c = some r) (kk : c = some r → Ev L xs d mi (pc + 1) lv (.int (s.1 a i.toNatClampNeg) :: st) (hp s) (hr r)) : Ev L xs d mi pc lv (.int i :: .ref a :: st) (hp s) (hr r) := by
  refine Ev.nx hh hi (x := (pc + 1, lv, .int (s.1 a i.toNatClampNeg) :: st, hp s)) ?_ (kk (gA_e h).2)
  simp only [mm_step, mm_iald, if_true]
  rw [mm_ar_get o (by decide) (by decide)]
  dsimp only
  rw [if_pos ⟨rfl, (gA_e h).1⟩]
theorem Rd.laload {a n : Nat} {i : Int32} {c : Option mQ} (hh : mm_hd mi = some H) (hi : mm_cd mi pc = some (.laload, 1, r1, r2)) (o : mm_ar a 2 n) (h : gA n i c = some r) (kk : c = some r → Ev L xs d mi (pc + 1) lv (.long (s.2.1 a i.toNatClampNeg) :: st) (hp s) (hr r)) : Ev L xs d mi pc lv (.int i :: .ref a :: st) (hp s) (hr r) := by
  refine Ev.nx hh hi (x := (pc + 1, lv, .long (s.2.1 a i.toNatClampNeg) :: st, hp s)) ?_ (kk (gA_e h).2)
  simp only [mm_step, mm_lald, if_true]
  rw [mm_ar_getL o]
  dsimp only
  rw [if_pos ⟨rfl, (gA_e h).1⟩]
theorem Rd.aaload {a : Nat} {i : Int32} {c : Option mQ} (hh : mm_hd mi = some H) (hi : mm_cd mi pc = some (.aaload, 1, r1, r2)) (o : mm_ar a 3 12) (h : gA 12 i c = some r) (kk : i.toNatClampNeg < 12 → c = some r → Ev L xs d mi (pc + 1) lv (.ref (128 + 32 * i.toNatClampNeg) :: st) (hp s) (hr r)) : Ev L xs d mi pc lv (.int i :: .ref a :: st) (hp s) (hr r) := by
  have hg := (gA_e h).1
  have hl : i.toNatClampNeg < 12 := by
    unfold mm_ok at hg
    omega
  refine Ev.nx hh hi (x := (pc + 1, lv, .ref (128 + 32 * i.toNatClampNeg) :: st, hp s)) ?_ (kk hl (gA_e h).2)
  simp only [mm_step, mm_aald, if_true]
  rw [mm_ar_getR o]
  dsimp only
  rw [if_pos ⟨rfl, hg⟩, if_pos hl]
theorem mm_arS {a t n : Nat} {i : Nat} {x : Int32} (o : mm_ar a t n) (h2 : ¬ t = 2) (h3 : ¬ t = 3) : ((hp s).1.set a (.inl (t, n, .inl (upd (s.1 a) i x))), (hp s).2) = hp (sI s a i x) := by
  refine hp_set (s' := sI s a i x) (fun b hb => if_neg hb) (fun b _ => rfl) rfl ?_
  unfold mm_cell
  rw [o.1]
  unfold mm_cellS
  dsimp only
  rw [if_neg h2, if_neg h3, show (sI s a i x).1 a = upd (s.1 a) i x from if_pos rfl]
theorem Rd.iastore {a n : Nat} {i x : Int32} {kq : mS → Option mQ} (hh : mm_hd mi = some H) (hi : mm_cd mi pc = some (.iastore, 1, r1, r2)) (o : mm_ar a 0 n) (h : gA n i (sp (sI s a i.toNatClampNeg x) kq) = some r) (kk : ∀ s, kq s = some r → Ev L xs d mi (pc + 1) lv st (hp s) (hr r)) : Ev L xs d mi pc lv (.int x :: .int i :: .ref a :: st) (hp s) (hr r) := by
  refine Ev.nx hh hi (x := (pc + 1, lv, st, hp (sI s a i.toNatClampNeg x))) ?_ (kk _ (gA_e h).2)
  simp only [mm_step, mm_iast, if_true]
  rw [mm_ar_get o (by decide) (by decide)]
  dsimp only
  rw [if_pos ⟨rfl, (gA_e h).1⟩, mm_arS o (by decide) (by decide)]
theorem Rd.bastore {a n : Nat} {i x : Int32} {kq : mS → Option mQ} (hh : mm_hd mi = some H) (hi : mm_cd mi pc = some (.bastore, 1, r1, r2)) (o : mm_ar a 1 n) (h : gA n i (sp (sI s a i.toNatClampNeg (vp_nar .byte x)) kq) = some r) (kk : ∀ s, kq s = some r → Ev L xs d mi (pc + 1) lv st (hp s) (hr r)) : Ev L xs d mi pc lv (.int x :: .int i :: .ref a :: st) (hp s) (hr r) := by
  refine Ev.nx hh hi (x := (pc + 1, lv, st, hp (sI s a i.toNatClampNeg (vp_nar .byte x)))) ?_ (kk _ (gA_e h).2)
  simp only [mm_step, mm_bast, if_true]
  rw [mm_ar_get o (by decide) (by decide)]
  dsimp only
  rw [if_pos ⟨rfl, (gA_e h).1⟩, mm_arS o (by decide) (by decide)]
theorem Rd.lastore {a n : Nat} {i : Int32} {x : Int64} {kq : mS → Option mQ} (hh : mm_hd mi = some H) (hi : mm_cd mi pc = some (.lastore, 1, r1, r2)) (o : mm_ar a 2 n) (h : gA n i (sp (sL s a i.toNatClampNeg x) kq) = some r) (kk : ∀ s, kq s = some r → Ev L xs d mi (pc + 1) lv st (hp s) (hr r)) : Ev L xs d mi pc lv (.long x :: .int i :: .ref a :: st) (hp s) (hr r) := by
  refine Ev.nx hh hi (x := (pc + 1, lv, st, hp (sL s a i.toNatClampNeg x))) ?_ (kk _ (gA_e h).2)
  simp only [mm_step, mm_last, if_true]
  rw [mm_ar_getL o]
  dsimp only
  rw [if_pos ⟨rfl, (gA_e h).1⟩, hp_set (s := s) (s' := sL s a i.toNatClampNeg x) (fun b hb => rfl) (fun b hb => if_neg hb) rfl (by
    unfold mm_cell
    rw [o.1]
    show Sum.inl (2, n, Sum.inr (Sum.inl ((sL s a i.toNatClampNeg x).2.1 a))) = _
    rw [show (sL s a i.toNatClampNeg x).2.1 a = vp_updL (s.2.1 a) i.toNatClampNeg x from if_pos rfl])]
theorem Rd.copy {a0 a1 n0 n1 i j : Nat} {p q n : Int32} {kq : mS → Option mQ} (hh : mm_hd mi = some H) (hi : mm_cd mi pc = some (.invokestatic i, 3, 1, j)) (o0 : mm_ar a0 0 n0) (o1 : mm_ar a1 0 n1) (hs : (st.map fun v => v.category).sum ≤ 8) (h : gC n0 n1 p q n (sp (sC s a0 a1 p.toNatClampNeg q.toNatClampNeg n.toNatClampNeg) kq) = some r) (kk : ∀ s, kq s = some r → Ev L xs d mi (pc + 3) lv st (hp s) (hr r)) : Ev L xs d mi pc lv (.int n :: .int q :: .ref a1 :: .int p :: .ref a0 :: st) (hp s) (hr r) := by
  refine Ev.nx hh hi (x := (pc + 3, lv, st, hp (sC s a0 a1 p.toNatClampNeg q.toNatClampNeg n.toNatClampNeg))) ?_ (kk _ (gC_e h).2)
  simp only [mm_step, mm_copy, if_true]
  rw [mm_ar_get o0 (by decide) (by decide), mm_ar_get o1 (by decide) (by decide)]
  dsimp only
  rw [if_pos ⟨⟨rfl, rfl⟩, (gC_e h).1.1, (gC_e h).1.2, hs⟩, hp_set (s' := sC s a0 a1 p.toNatClampNeg q.toNatClampNeg n.toNatClampNeg) (fun b hb => if_neg hb) (fun b _ => rfl) rfl (by
    unfold mm_cell
    rw [o1.1]
    show Sum.inl (0, n1, Sum.inl ((sC s a0 a1 p.toNatClampNeg q.toNatClampNeg n.toNatClampNeg).1 a1)) = _
    rw [show (sC s a0 a1 p.toNatClampNeg q.toNatClampNeg n.toNatClampNeg).1 a1 = va_cpy (s.1 a0) (s.1 a1) p.toNatClampNeg q.toNatClampNeg n.toNatClampNeg from if_pos rfl])]
theorem Rd.sld {i k : Nat} {x : Int32} {c : Option mQ} (hh : mm_hd mi = some H) (hi : mm_cd mi pc = some (.iaload, 1, r1, r2)) (h : gA L x c = some r) (kk : c = some r → Ev L xs d mi (pc + 1) lv (.int (xs x.toNatClampNeg) :: st) (hp s) (hr r)) : Ev L xs d mi pc lv (.int x :: .retAddr 1000000 :: st) (hp s) (hr r) := by
  refine Ev.nx hh hi (x := (pc + 1, lv, .int (xs x.toNatClampNeg) :: st, hp s)) ?_ (kk (gA_e h).2)
  simp only [mm_step, mm_sld, if_true]
  rw [if_pos ⟨trivial, (gA_e h).1⟩]
  rfl
theorem Rd.sln (hh : mm_hd mi = some H) (hi : mm_cd mi pc = some (.arraylength, 1, r1, r2)) (kk : Ev L xs d mi (pc + 1) lv (.int (Int32.ofNat L) :: st) (hp s) (hr r)) : Ev L xs d mi pc lv (.retAddr 1000000 :: st) (hp s) (hr r) := by
  refine Ev.nx hh hi (x := (pc + 1, lv, .int (Int32.ofNat L) :: st, hp s)) ?_ kk
  simp only [mm_step, mm_sln, if_true]
  rfl
theorem Rd.slen {i k j : Nat} (hh : mm_hd mi = some H) (hi : mm_cd mi pc = some (.invokevirtual i, 3, 1, j)) (hs : (st.map fun v => v.category).sum ≤ 8) (hk : k < 36) (kk : Ev L xs d mi (pc + 3) lv (.int (Int32.ofNat (mm_txt k).length) :: st) (hp s) (hr r)) : Ev L xs d mi pc lv (.retAddr k :: st) (hp s) (hr r) := by
  refine Ev.nx hh hi (x := (pc + 3, lv, .int (Int32.ofNat (mm_txt k).length) :: st, hp s)) ?_ kk
  simp only [mm_step, mm_len, if_true]
  rw [if_pos ⟨hs, hk⟩]
  rfl
theorem Rd.schr {i k j : Nat} {x : Int32} {c : Option mQ} (hh : mm_hd mi = some H) (hi : mm_cd mi pc = some (.invokevirtual i, 3, 2, j)) (hs : (st.map fun v => v.category).sum ≤ 8) (hk : k < 36) (h : gA (mm_txt k).length x c = some r) (kk : c = some r → Ev L xs d mi (pc + 3) lv (.int ((mm_txt k).getD x.toNatClampNeg 0) :: st) (hp s) (hr r)) : Ev L xs d mi pc lv (.int x :: .retAddr k :: st) (hp s) (hr r) := by
  refine Ev.nx hh hi (x := (pc + 3, lv, .int ((mm_txt k).getD x.toNatClampNeg 0) :: st, hp s)) ?_ (kk (gA_e h).2)
  simp only [mm_step, mm_chr, if_true]
  rw [if_pos ⟨hs, hk, (gA_e h).1⟩]
  rfl
theorem Rd.ireturn {x : Int32} (hh : mm_hd mi = some H) (hi : mm_cd mi pc = some (.ireturn, 1, r1, r2)) (hret : H.2.2.1 = some .int) (h : rv x s = some r) : Ev L xs d mi pc lv [.int x] (hp s) (hr r) := by
  cases h
  exact Ev.ireturn hh hi (by rw [hret]; rfl)
theorem Rd.ireturnZ {x : Int32} (hh : mm_hd mi = some H) (hi : mm_cd mi pc = some (.ireturn, 1, r1, r2)) (hret : H.2.2.1 = some .boolean) (h : gB x (rv x s) = some r) : Ev L xs d mi pc lv [.int x] (hp s) (hr r) := by
  have hg := gB_e h
  cases hg.2
  exact Ev.ireturn hh hi (by rw [hret]; exact decide_eq_true hg.1)
theorem Rd.ireturnK {x : Int32} (hh : mm_hd mi = some H) (hi : mm_cd mi pc = some (.ireturn, 1, r1, r2)) (hret : H.2.2.1 = some .boolean) (hx : x = 0 ∨ x = 1) (h : rv x s = some r) : Ev L xs d mi pc lv [.int x] (hp s) (hr r) := by
  cases h
  exact Ev.ireturn hh hi (by rw [hret]; exact decide_eq_true hx)
theorem Rd.return_ (hh : mm_hd mi = some H) (hi : mm_cd mi pc = some (.return_, 1, r1, r2)) (hret : H.2.2.1 = none) (h : ru s = some r) : Ev L xs d mi pc lv [] (hp s) (hr r) := by
  cases h
  exact Ev.return_ hh hi (by rw [hret]; rfl)
theorem Rd.throw {i t x : Nat} (hh : mm_hd mi = some H) (hi : mm_cd mi pc = some (.new i, 3, 1, t)) (hx : mm_X t = x) (hs : (st.map fun v => v.category).sum ≤ 8) (h : rx x s = some r) : Ev L xs d mi pc lv st (hp s) (hr r) := by
  cases h
  subst hx
  have h1 := Ev.throw (L := L) (xs := xs) (d := d) (lv := lv) (h := hp s) hh hi hs
  rw [← hp_X] at h1
  exact h1
theorem Rd.tsw {dd lo hi' : Int} {offs : Array Int} {len t : Nat} {x : Int32} (hh : mm_hd mi = some H) (hi : mm_cd mi pc = some (.tableswitch dd lo hi' offs, len, r1, r2)) (hx : (if x.toInt < lo ∨ hi' < x.toInt then mm_tgt pc dd else (match offs[(x.toInt - lo).toNat]? with | some off => mm_tgt pc off | none => none)) = some t) (kk : Ev L xs d mi t lv st (hp s) (hr r)) : Ev L xs d mi pc lv (.int x :: st) (hp s) (hr r) := by
  refine Ev.nx hh hi (x := (t, lv, st, hp s)) ?_ kk
  simp only [mm_step, mm_jmp]
  by_cases hc : x.toInt < lo ∨ hi' < x.toInt
  · rw [if_pos hc] at hx ⊢
    rw [hx]
  · rw [if_neg hc] at hx ⊢
    cases ho : offs[(x.toInt - lo).toNat]? with
    | none => rw [ho] at hx; cases hx
    | some off => rw [ho] at hx; dsimp only at hx ⊢; rw [hx]
theorem mm_callV_ok {ci j n a : Nat} {tm : List (Option Nat)} {As : List Value} (o : mm_ob a ci tm) (hn : As.length = n) (hs : (st.map fun v => v.category).sum ≤ 8) : mm_callV ci j n (As.reverse ++ .ref a :: st) (hp s) = some (.inr (.inr (.inl (j, .ref a :: As, st)))) := by
  unfold mm_callV
  have e1 : (As.reverse ++ Value.ref a :: st).drop n = .ref a :: st := by rw [← hn, ← List.length_reverse, List.drop_left]
  have e2 : (As.reverse ++ Value.ref a :: st).take n = As.reverse := by rw [← hn, ← List.length_reverse, List.take_left]
  rw [e1]
  dsimp only
  rw [mm_ob_get o]
  dsimp only
  rw [if_pos ⟨rfl, by rw [List.length_append, List.length_reverse]; omega, hs⟩, e2, List.reverse_reverse]
theorem mm_callS_ok {j n : Nat} {As : List Value} (hn : As.length = n) (hs : (st.map fun v => v.category).sum ≤ 8) : mm_callS j n (As.reverse ++ st) = some (.inr (.inr (.inl (j, As, st)))) := by
  unfold mm_callS
  have e1 : (As.reverse ++ st).drop n = st := by rw [← hn, ← List.length_reverse, List.drop_left]
  have e2 : (As.reverse ++ st).take n = As.reverse := by rw [← hn, ← List.length_reverse, List.take_left]
  rw [e1, e2, List.reverse_reverse, if_pos ⟨by rw [List.length_append, List.length_reverse]; omega, hs⟩]
/-- what a call needs: the callee's class, how many arguments, its head -/
def mm_cal (j ci n : Nat) (J : mm_Hd) : Prop := mm_mc j = ci ∧ mm_na j = n ∧ mm_hd j = some J
theorem mm_stepV {i j ci n a own nL : Nat} {ini : Bool} {J : mm_Hd} {tm : List (Option Nat)} {As : List Value} (hj : mm_cal j ci n J) (o : mm_ob a ci tm) (hn : As.length = n) (hs : (st.map fun v => v.category).sum ≤ 8) : mm_step (mm_B L xs mm_mc mm_na) own nL ini (.invokevirtual i) 3 0 j pc lv (As.reverse ++ .ref a :: st) (hp s) = some (.inr (.inr (.inl (j, .ref a :: As, st)))) := by
  simp only [mm_step, if_true]
  show mm_callV (mm_mc j) j (mm_na j) _ _ = _
  rw [hj.1, hj.2.1]
  exact mm_callV_ok o hn hs
theorem mm_stepP {i j ci n a own nL : Nat} {ini : Bool} {J : mm_Hd} {tm : List (Option Nat)} {As : List Value} (hj : mm_cal j ci n J) (o : mm_ob a ci tm) (hn : As.length = n) (hs : (st.map fun v => v.category).sum ≤ 8) : mm_step (mm_B L xs mm_mc mm_na) own nL ini (.invokespecial i) 3 0 j pc lv (As.reverse ++ .ref a :: st) (hp s) = some (.inr (.inr (.inl (j, .ref a :: As, st)))) := by
  simp only [mm_step, if_true]
  show mm_callV (mm_mc j) j (mm_na j) _ _ = _
  rw [hj.1, hj.2.1]
  exact mm_callV_ok o hn hs
theorem mm_stepS {i j ci n own nL : Nat} {ini : Bool} {J : mm_Hd} {As : List Value} (hj : mm_cal j ci n J) (hn : As.length = n) (hs : (st.map fun v => v.category).sum ≤ 8) : mm_step (mm_B L xs mm_mc mm_na) own nL ini (.invokestatic i) 3 0 j pc lv (As.reverse ++ st) (hp s) = some (.inr (.inr (.inl (j, As, st)))) := by
  simp only [mm_step, if_true]
  show mm_callS j (mm_na j) _ = _
  rw [hj.2.1]
  exact mm_callS_ok hn hs
theorem Rd.cV0vN {i j ci dj : Nat} {a : Nat} {tm : List (Option Nat)} {J : mm_Hd} {c : Option mQ} {kq : Int32 → mS → Option mQ} (hh : mm_hd mi = some H) (hi : mm_cd mi pc = some (.invokevirtual i, 3, 0, j)) (hj : mm_cal j ci 0 J) (o : mm_ob a ci tm) (hs : (st.map fun v => v.category).sum ≤ 8) (hl : (lg_sl [.ref a]).length ≤ J.2.1) (hd : dj < d) (hc : ∀ q, c = some q → ∀ e, dj ≤ e → Cl L xs e j [.ref a] (hp s) (hr q)) (h : bN c kq = some r) (kk : ∀ v s, kq v s = some r → Ev L xs d mi (pc + 3) lv (.int v :: st) (hp s) (hr r)) : Ev L xs d mi pc lv (.ref a :: st) (hp s) (hr r) := by
  obtain ⟨v, s1, hq, h⟩ := bN_e h
  exact Ev.cl hh hi (mm_stepV (As := []) hj o rfl hs) hj.2.2 hl hd (hc _ hq) (kk v s1 h)
theorem Rd.cV0vT {i j ci dj : Nat} {a : Nat} {tm : List (Option Nat)} {J : mm_Hd} {c : Option mQ} {kq : Int32 → mS → Option mQ} (hh : mm_hd mi = some H) (hi : mm_cd mi pc = some (.invokevirtual i, 3, 0, j)) (hj : mm_cal j ci 0 J) (o : mm_ob a ci tm) (hs : (st.map fun v => v.category).sum ≤ 8) (hl : (lg_sl [.ref a]).length ≤ J.2.1) (hin : J.2.2.2.1 = false) (hcat : H.2.2.2.2 = []) (hd : dj < d) (hc : ∀ q, c = some q → ∀ e, dj ≤ e → Cl L xs e j [.ref a] (hp s) (hr q)) (h : bV c kq = some r) (kk : ∀ v s, kq v s = some r → Ev L xs d mi (pc + 3) lv (.int v :: st) (hp s) (hr r)) : Ev L xs d mi pc lv (.ref a :: st) (hp s) (hr r) := by
  rcases bV_e h with ⟨v, s1, hq, h⟩ | ⟨x, s1, hq, rfl⟩
  · exact Ev.cl hh hi (mm_stepV (As := []) hj o rfl hs) hj.2.2 hl hd (hc _ hq) (kk v s1 h)
  · exact Ev.cx hh hi (mm_stepV (As := []) hj o rfl hs) hj.2.2 hl hin hcat hd (hc _ hq)
theorem Rd.cV0vC {i j ci dj : Nat} {a : Nat} {tm : List (Option Nat)} {J : mm_Hd} {c : Option mQ} {kq : Int32 → mS → Option mQ} (hh : mm_hd mi = some H) (hi : mm_cd mi pc = some (.invokevirtual i, 3, 0, j)) (hj : mm_cal j ci 0 J) (o : mm_ob a ci tm) (hs : (st.map fun v => v.category).sum ≤ 8) (hl : (lg_sl [.ref a]).length ≤ J.2.1) (hin : J.2.2.2.1 = false) (hd : dj < d) (hc : ∀ q, c = some q → ∀ e, dj ≤ e → Cl L xs e j [.ref a] (hp s) (hr q)) (h : bC H.2.2.2.2 c kq = some r) (kk : ∀ v s, kq v s = some r → Ev L xs d mi (pc + 3) lv (.int v :: st) (hp s) (hr r)) : Ev L xs d mi pc lv (.ref a :: st) (hp s) (hr r) := by
  rcases bC_e h with ⟨v, s1, hq, h⟩ | ⟨x, s1, u, w, code, hq, hf, rfl⟩
  · exact Ev.cl hh hi (mm_stepV (As := []) hj o rfl hs) hj.2.2 hl hd (hc _ hq) (kk v s1 h)
  · exact Ev.cc hh hi (mm_stepV (As := []) hj o rfl hs) hj.2.2 hl hin hf hd (hc _ hq)
theorem Rd.cV0uN {i j ci dj : Nat} {a : Nat} {tm : List (Option Nat)} {J : mm_Hd} {c : Option mQ} {kq : mS → Option mQ} (hh : mm_hd mi = some H) (hi : mm_cd mi pc = some (.invokevirtual i, 3, 0, j)) (hj : mm_cal j ci 0 J) (o : mm_ob a ci tm) (hs : (st.map fun v => v.category).sum ≤ 8) (hl : (lg_sl [.ref a]).length ≤ J.2.1) (hd : dj < d) (hc : ∀ q, c = some q → ∀ e, dj ≤ e → Cl L xs e j [.ref a] (hp s) (hr q)) (h : bM c kq = some r) (kk : ∀ s, kq s = some r → Ev L xs d mi (pc + 3) lv st (hp s) (hr r)) : Ev L xs d mi pc lv (.ref a :: st) (hp s) (hr r) := by
  obtain ⟨s1, hq, h⟩ := bM_e h
  exact Ev.cl hh hi (mm_stepV (As := []) hj o rfl hs) hj.2.2 hl hd (hc _ hq) (kk s1 h)
theorem Rd.cV0uT {i j ci dj : Nat} {a : Nat} {tm : List (Option Nat)} {J : mm_Hd} {c : Option mQ} {kq : mS → Option mQ} (hh : mm_hd mi = some H) (hi : mm_cd mi pc = some (.invokevirtual i, 3, 0, j)) (hj : mm_cal j ci 0 J) (o : mm_ob a ci tm) (hs : (st.map fun v => v.category).sum ≤ 8) (hl : (lg_sl [.ref a]).length ≤ J.2.1) (hin : J.2.2.2.1 = false) (hcat : H.2.2.2.2 = []) (hd : dj < d) (hc : ∀ q, c = some q → ∀ e, dj ≤ e → Cl L xs e j [.ref a] (hp s) (hr q)) (h : bU c kq = some r) (kk : ∀ s, kq s = some r → Ev L xs d mi (pc + 3) lv st (hp s) (hr r)) : Ev L xs d mi pc lv (.ref a :: st) (hp s) (hr r) := by
  rcases bU_e h with ⟨s1, hq, h⟩ | ⟨x, s1, hq, rfl⟩
  · exact Ev.cl hh hi (mm_stepV (As := []) hj o rfl hs) hj.2.2 hl hd (hc _ hq) (kk s1 h)
  · exact Ev.cx hh hi (mm_stepV (As := []) hj o rfl hs) hj.2.2 hl hin hcat hd (hc _ hq)
theorem Rd.cV1vN {i j ci dj : Nat} {a : Nat} {tm : List (Option Nat)} {v1 : Value} {J : mm_Hd} {c : Option mQ} {kq : Int32 → mS → Option mQ} (hh : mm_hd mi = some H) (hi : mm_cd mi pc = some (.invokevirtual i, 3, 0, j)) (hj : mm_cal j ci 1 J) (o : mm_ob a ci tm) (hs : (st.map fun v => v.category).sum ≤ 8) (hl : (lg_sl [.ref a, v1]).length ≤ J.2.1) (hd : dj < d) (hc : ∀ q, c = some q → ∀ e, dj ≤ e → Cl L xs e j [.ref a, v1] (hp s) (hr q)) (h : bN c kq = some r) (kk : ∀ v s, kq v s = some r → Ev L xs d mi (pc + 3) lv (.int v :: st) (hp s) (hr r)) : Ev L xs d mi pc lv (v1 :: .ref a :: st) (hp s) (hr r) := by
  obtain ⟨v, s1, hq, h⟩ := bN_e h
  exact Ev.cl hh hi (mm_stepV (As := [v1]) hj o rfl hs) hj.2.2 hl hd (hc _ hq) (kk v s1 h)
theorem Rd.cV1vT {i j ci dj : Nat} {a : Nat} {tm : List (Option Nat)} {v1 : Value} {J : mm_Hd} {c : Option mQ} {kq : Int32 → mS → Option mQ} (hh : mm_hd mi = some H) (hi : mm_cd mi pc = some (.invokevirtual i, 3, 0, j)) (hj : mm_cal j ci 1 J) (o : mm_ob a ci tm) (hs : (st.map fun v => v.category).sum ≤ 8) (hl : (lg_sl [.ref a, v1]).length ≤ J.2.1) (hin : J.2.2.2.1 = false) (hcat : H.2.2.2.2 = []) (hd : dj < d) (hc : ∀ q, c = some q → ∀ e, dj ≤ e → Cl L xs e j [.ref a, v1] (hp s) (hr q)) (h : bV c kq = some r) (kk : ∀ v s, kq v s = some r → Ev L xs d mi (pc + 3) lv (.int v :: st) (hp s) (hr r)) : Ev L xs d mi pc lv (v1 :: .ref a :: st) (hp s) (hr r) := by
  rcases bV_e h with ⟨v, s1, hq, h⟩ | ⟨x, s1, hq, rfl⟩
  · exact Ev.cl hh hi (mm_stepV (As := [v1]) hj o rfl hs) hj.2.2 hl hd (hc _ hq) (kk v s1 h)
  · exact Ev.cx hh hi (mm_stepV (As := [v1]) hj o rfl hs) hj.2.2 hl hin hcat hd (hc _ hq)
theorem Rd.cV1vC {i j ci dj : Nat} {a : Nat} {tm : List (Option Nat)} {v1 : Value} {J : mm_Hd} {c : Option mQ} {kq : Int32 → mS → Option mQ} (hh : mm_hd mi = some H) (hi : mm_cd mi pc = some (.invokevirtual i, 3, 0, j)) (hj : mm_cal j ci 1 J) (o : mm_ob a ci tm) (hs : (st.map fun v => v.category).sum ≤ 8) (hl : (lg_sl [.ref a, v1]).length ≤ J.2.1) (hin : J.2.2.2.1 = false) (hd : dj < d) (hc : ∀ q, c = some q → ∀ e, dj ≤ e → Cl L xs e j [.ref a, v1] (hp s) (hr q)) (h : bC H.2.2.2.2 c kq = some r) (kk : ∀ v s, kq v s = some r → Ev L xs d mi (pc + 3) lv (.int v :: st) (hp s) (hr r)) : Ev L xs d mi pc lv (v1 :: .ref a :: st) (hp s) (hr r) := by
  rcases bC_e h with ⟨v, s1, hq, h⟩ | ⟨x, s1, u, w, code, hq, hf, rfl⟩
  · exact Ev.cl hh hi (mm_stepV (As := [v1]) hj o rfl hs) hj.2.2 hl hd (hc _ hq) (kk v s1 h)
  · exact Ev.cc hh hi (mm_stepV (As := [v1]) hj o rfl hs) hj.2.2 hl hin hf hd (hc _ hq)
theorem Rd.cV1uN {i j ci dj : Nat} {a : Nat} {tm : List (Option Nat)} {v1 : Value} {J : mm_Hd} {c : Option mQ} {kq : mS → Option mQ} (hh : mm_hd mi = some H) (hi : mm_cd mi pc = some (.invokevirtual i, 3, 0, j)) (hj : mm_cal j ci 1 J) (o : mm_ob a ci tm) (hs : (st.map fun v => v.category).sum ≤ 8) (hl : (lg_sl [.ref a, v1]).length ≤ J.2.1) (hd : dj < d) (hc : ∀ q, c = some q → ∀ e, dj ≤ e → Cl L xs e j [.ref a, v1] (hp s) (hr q)) (h : bM c kq = some r) (kk : ∀ s, kq s = some r → Ev L xs d mi (pc + 3) lv st (hp s) (hr r)) : Ev L xs d mi pc lv (v1 :: .ref a :: st) (hp s) (hr r) := by
  obtain ⟨s1, hq, h⟩ := bM_e h
  exact Ev.cl hh hi (mm_stepV (As := [v1]) hj o rfl hs) hj.2.2 hl hd (hc _ hq) (kk s1 h)
theorem Rd.cV1uT {i j ci dj : Nat} {a : Nat} {tm : List (Option Nat)} {v1 : Value} {J : mm_Hd} {c : Option mQ} {kq : mS → Option mQ} (hh : mm_hd mi = some H) (hi : mm_cd mi pc = some (.invokevirtual i, 3, 0, j)) (hj : mm_cal j ci 1 J) (o : mm_ob a ci tm) (hs : (st.map fun v => v.category).sum ≤ 8) (hl : (lg_sl [.ref a, v1]).length ≤ J.2.1) (hin : J.2.2.2.1 = false) (hcat : H.2.2.2.2 = []) (hd : dj < d) (hc : ∀ q, c = some q → ∀ e, dj ≤ e → Cl L xs e j [.ref a, v1] (hp s) (hr q)) (h : bU c kq = some r) (kk : ∀ s, kq s = some r → Ev L xs d mi (pc + 3) lv st (hp s) (hr r)) : Ev L xs d mi pc lv (v1 :: .ref a :: st) (hp s) (hr r) := by
  rcases bU_e h with ⟨s1, hq, h⟩ | ⟨x, s1, hq, rfl⟩
  · exact Ev.cl hh hi (mm_stepV (As := [v1]) hj o rfl hs) hj.2.2 hl hd (hc _ hq) (kk s1 h)
  · exact Ev.cx hh hi (mm_stepV (As := [v1]) hj o rfl hs) hj.2.2 hl hin hcat hd (hc _ hq)
theorem Rd.cV2vN {i j ci dj : Nat} {a : Nat} {tm : List (Option Nat)} {v1 v2 : Value} {J : mm_Hd} {c : Option mQ} {kq : Int32 → mS → Option mQ} (hh : mm_hd mi = some H) (hi : mm_cd mi pc = some (.invokevirtual i, 3, 0, j)) (hj : mm_cal j ci 2 J) (o : mm_ob a ci tm) (hs : (st.map fun v => v.category).sum ≤ 8) (hl : (lg_sl [.ref a, v1, v2]).length ≤ J.2.1) (hd : dj < d) (hc : ∀ q, c = some q → ∀ e, dj ≤ e → Cl L xs e j [.ref a, v1, v2] (hp s) (hr q)) (h : bN c kq = some r) (kk : ∀ v s, kq v s = some r → Ev L xs d mi (pc + 3) lv (.int v :: st) (hp s) (hr r)) : Ev L xs d mi pc lv (v2 :: v1 :: .ref a :: st) (hp s) (hr r) := by
  obtain ⟨v, s1, hq, h⟩ := bN_e h
  exact Ev.cl hh hi (mm_stepV (As := [v1, v2]) hj o rfl hs) hj.2.2 hl hd (hc _ hq) (kk v s1 h)
theorem Rd.cV2vT {i j ci dj : Nat} {a : Nat} {tm : List (Option Nat)} {v1 v2 : Value} {J : mm_Hd} {c : Option mQ} {kq : Int32 → mS → Option mQ} (hh : mm_hd mi = some H) (hi : mm_cd mi pc = some (.invokevirtual i, 3, 0, j)) (hj : mm_cal j ci 2 J) (o : mm_ob a ci tm) (hs : (st.map fun v => v.category).sum ≤ 8) (hl : (lg_sl [.ref a, v1, v2]).length ≤ J.2.1) (hin : J.2.2.2.1 = false) (hcat : H.2.2.2.2 = []) (hd : dj < d) (hc : ∀ q, c = some q → ∀ e, dj ≤ e → Cl L xs e j [.ref a, v1, v2] (hp s) (hr q)) (h : bV c kq = some r) (kk : ∀ v s, kq v s = some r → Ev L xs d mi (pc + 3) lv (.int v :: st) (hp s) (hr r)) : Ev L xs d mi pc lv (v2 :: v1 :: .ref a :: st) (hp s) (hr r) := by
  rcases bV_e h with ⟨v, s1, hq, h⟩ | ⟨x, s1, hq, rfl⟩
  · exact Ev.cl hh hi (mm_stepV (As := [v1, v2]) hj o rfl hs) hj.2.2 hl hd (hc _ hq) (kk v s1 h)
  · exact Ev.cx hh hi (mm_stepV (As := [v1, v2]) hj o rfl hs) hj.2.2 hl hin hcat hd (hc _ hq)
theorem Rd.cV2vC {i j ci dj : Nat} {a : Nat} {tm : List (Option Nat)} {v1 v2 : Value} {J : mm_Hd} {c : Option mQ} {kq : Int32 → mS → Option mQ} (hh : mm_hd mi = some H) (hi : mm_cd mi pc = some (.invokevirtual i, 3, 0, j)) (hj : mm_cal j ci 2 J) (o : mm_ob a ci tm) (hs : (st.map fun v => v.category).sum ≤ 8) (hl : (lg_sl [.ref a, v1, v2]).length ≤ J.2.1) (hin : J.2.2.2.1 = false) (hd : dj < d) (hc : ∀ q, c = some q → ∀ e, dj ≤ e → Cl L xs e j [.ref a, v1, v2] (hp s) (hr q)) (h : bC H.2.2.2.2 c kq = some r) (kk : ∀ v s, kq v s = some r → Ev L xs d mi (pc + 3) lv (.int v :: st) (hp s) (hr r)) : Ev L xs d mi pc lv (v2 :: v1 :: .ref a :: st) (hp s) (hr r) := by
  rcases bC_e h with ⟨v, s1, hq, h⟩ | ⟨x, s1, u, w, code, hq, hf, rfl⟩
  · exact Ev.cl hh hi (mm_stepV (As := [v1, v2]) hj o rfl hs) hj.2.2 hl hd (hc _ hq) (kk v s1 h)
  · exact Ev.cc hh hi (mm_stepV (As := [v1, v2]) hj o rfl hs) hj.2.2 hl hin hf hd (hc _ hq)
theorem Rd.cV2uN {i j ci dj : Nat} {a : Nat} {tm : List (Option Nat)} {v1 v2 : Value} {J : mm_Hd} {c : Option mQ} {kq : mS → Option mQ} (hh : mm_hd mi = some H) (hi : mm_cd mi pc = some (.invokevirtual i, 3, 0, j)) (hj : mm_cal j ci 2 J) (o : mm_ob a ci tm) (hs : (st.map fun v => v.category).sum ≤ 8) (hl : (lg_sl [.ref a, v1, v2]).length ≤ J.2.1) (hd : dj < d) (hc : ∀ q, c = some q → ∀ e, dj ≤ e → Cl L xs e j [.ref a, v1, v2] (hp s) (hr q)) (h : bM c kq = some r) (kk : ∀ s, kq s = some r → Ev L xs d mi (pc + 3) lv st (hp s) (hr r)) : Ev L xs d mi pc lv (v2 :: v1 :: .ref a :: st) (hp s) (hr r) := by
  obtain ⟨s1, hq, h⟩ := bM_e h
  exact Ev.cl hh hi (mm_stepV (As := [v1, v2]) hj o rfl hs) hj.2.2 hl hd (hc _ hq) (kk s1 h)
theorem Rd.cV2uT {i j ci dj : Nat} {a : Nat} {tm : List (Option Nat)} {v1 v2 : Value} {J : mm_Hd} {c : Option mQ} {kq : mS → Option mQ} (hh : mm_hd mi = some H) (hi : mm_cd mi pc = some (.invokevirtual i, 3, 0, j)) (hj : mm_cal j ci 2 J) (o : mm_ob a ci tm) (hs : (st.map fun v => v.category).sum ≤ 8) (hl : (lg_sl [.ref a, v1, v2]).length ≤ J.2.1) (hin : J.2.2.2.1 = false) (hcat : H.2.2.2.2 = []) (hd : dj < d) (hc : ∀ q, c = some q → ∀ e, dj ≤ e → Cl L xs e j [.ref a, v1, v2] (hp s) (hr q)) (h : bU c kq = some r) (kk : ∀ s, kq s = some r → Ev L xs d mi (pc + 3) lv st (hp s) (hr r)) : Ev L xs d mi pc lv (v2 :: v1 :: .ref a :: st) (hp s) (hr r) := by
  rcases bU_e h with ⟨s1, hq, h⟩ | ⟨x, s1, hq, rfl⟩
  · exact Ev.cl hh hi (mm_stepV (As := [v1, v2]) hj o rfl hs) hj.2.2 hl hd (hc _ hq) (kk s1 h)
  · exact Ev.cx hh hi (mm_stepV (As := [v1, v2]) hj o rfl hs) hj.2.2 hl hin hcat hd (hc _ hq)
theorem Rd.cV3vN {i j ci dj : Nat} {a : Nat} {tm : List (Option Nat)} {v1 v2 v3 : Value} {J : mm_Hd} {c : Option mQ} {kq : Int32 → mS → Option mQ} (hh : mm_hd mi = some H) (hi : mm_cd mi pc = some (.invokevirtual i, 3, 0, j)) (hj : mm_cal j ci 3 J) (o : mm_ob a ci tm) (hs : (st.map fun v => v.category).sum ≤ 8) (hl : (lg_sl [.ref a, v1, v2, v3]).length ≤ J.2.1) (hd : dj < d) (hc : ∀ q, c = some q → ∀ e, dj ≤ e → Cl L xs e j [.ref a, v1, v2, v3] (hp s) (hr q)) (h : bN c kq = some r) (kk : ∀ v s, kq v s = some r → Ev L xs d mi (pc + 3) lv (.int v :: st) (hp s) (hr r)) : Ev L xs d mi pc lv (v3 :: v2 :: v1 :: .ref a :: st) (hp s) (hr r) := by
  obtain ⟨v, s1, hq, h⟩ := bN_e h
  exact Ev.cl hh hi (mm_stepV (As := [v1, v2, v3]) hj o rfl hs) hj.2.2 hl hd (hc _ hq) (kk v s1 h)
theorem Rd.cV3vT {i j ci dj : Nat} {a : Nat} {tm : List (Option Nat)} {v1 v2 v3 : Value} {J : mm_Hd} {c : Option mQ} {kq : Int32 → mS → Option mQ} (hh : mm_hd mi = some H) (hi : mm_cd mi pc = some (.invokevirtual i, 3, 0, j)) (hj : mm_cal j ci 3 J) (o : mm_ob a ci tm) (hs : (st.map fun v => v.category).sum ≤ 8) (hl : (lg_sl [.ref a, v1, v2, v3]).length ≤ J.2.1) (hin : J.2.2.2.1 = false) (hcat : H.2.2.2.2 = []) (hd : dj < d) (hc : ∀ q, c = some q → ∀ e, dj ≤ e → Cl L xs e j [.ref a, v1, v2, v3] (hp s) (hr q)) (h : bV c kq = some r) (kk : ∀ v s, kq v s = some r → Ev L xs d mi (pc + 3) lv (.int v :: st) (hp s) (hr r)) : Ev L xs d mi pc lv (v3 :: v2 :: v1 :: .ref a :: st) (hp s) (hr r) := by
  rcases bV_e h with ⟨v, s1, hq, h⟩ | ⟨x, s1, hq, rfl⟩
  · exact Ev.cl hh hi (mm_stepV (As := [v1, v2, v3]) hj o rfl hs) hj.2.2 hl hd (hc _ hq) (kk v s1 h)
  · exact Ev.cx hh hi (mm_stepV (As := [v1, v2, v3]) hj o rfl hs) hj.2.2 hl hin hcat hd (hc _ hq)
theorem Rd.cV3vC {i j ci dj : Nat} {a : Nat} {tm : List (Option Nat)} {v1 v2 v3 : Value} {J : mm_Hd} {c : Option mQ} {kq : Int32 → mS → Option mQ} (hh : mm_hd mi = some H) (hi : mm_cd mi pc = some (.invokevirtual i, 3, 0, j)) (hj : mm_cal j ci 3 J) (o : mm_ob a ci tm) (hs : (st.map fun v => v.category).sum ≤ 8) (hl : (lg_sl [.ref a, v1, v2, v3]).length ≤ J.2.1) (hin : J.2.2.2.1 = false) (hd : dj < d) (hc : ∀ q, c = some q → ∀ e, dj ≤ e → Cl L xs e j [.ref a, v1, v2, v3] (hp s) (hr q)) (h : bC H.2.2.2.2 c kq = some r) (kk : ∀ v s, kq v s = some r → Ev L xs d mi (pc + 3) lv (.int v :: st) (hp s) (hr r)) : Ev L xs d mi pc lv (v3 :: v2 :: v1 :: .ref a :: st) (hp s) (hr r) := by
  rcases bC_e h with ⟨v, s1, hq, h⟩ | ⟨x, s1, u, w, code, hq, hf, rfl⟩
  · exact Ev.cl hh hi (mm_stepV (As := [v1, v2, v3]) hj o rfl hs) hj.2.2 hl hd (hc _ hq) (kk v s1 h)
  · exact Ev.cc hh hi (mm_stepV (As := [v1, v2, v3]) hj o rfl hs) hj.2.2 hl hin hf hd (hc _ hq)
theorem Rd.cV3uN {i j ci dj : Nat} {a : Nat} {tm : List (Option Nat)} {v1 v2 v3 : Value} {J : mm_Hd} {c : Option mQ} {kq : mS → Option mQ} (hh : mm_hd mi = some H) (hi : mm_cd mi pc = some (.invokevirtual i, 3, 0, j)) (hj : mm_cal j ci 3 J) (o : mm_ob a ci tm) (hs : (st.map fun v => v.category).sum ≤ 8) (hl : (lg_sl [.ref a, v1, v2, v3]).length ≤ J.2.1) (hd : dj < d) (hc : ∀ q, c = some q → ∀ e, dj ≤ e → Cl L xs e j [.ref a, v1, v2, v3] (hp s) (hr q)) (h : bM c kq = some r) (kk : ∀ s, kq s = some r → Ev L xs d mi (pc + 3) lv st (hp s) (hr r)) : Ev L xs d mi pc lv (v3 :: v2 :: v1 :: .ref a :: st) (hp s) (hr r) := by
  obtain ⟨s1, hq, h⟩ := bM_e h
  exact Ev.cl hh hi (mm_stepV (As := [v1, v2, v3]) hj o rfl hs) hj.2.2 hl hd (hc _ hq) (kk s1 h)
theorem Rd.cV3uT {i j ci dj : Nat} {a : Nat} {tm : List (Option Nat)} {v1 v2 v3 : Value} {J : mm_Hd} {c : Option mQ} {kq : mS → Option mQ} (hh : mm_hd mi = some H) (hi : mm_cd mi pc = some (.invokevirtual i, 3, 0, j)) (hj : mm_cal j ci 3 J) (o : mm_ob a ci tm) (hs : (st.map fun v => v.category).sum ≤ 8) (hl : (lg_sl [.ref a, v1, v2, v3]).length ≤ J.2.1) (hin : J.2.2.2.1 = false) (hcat : H.2.2.2.2 = []) (hd : dj < d) (hc : ∀ q, c = some q → ∀ e, dj ≤ e → Cl L xs e j [.ref a, v1, v2, v3] (hp s) (hr q)) (h : bU c kq = some r) (kk : ∀ s, kq s = some r → Ev L xs d mi (pc + 3) lv st (hp s) (hr r)) : Ev L xs d mi pc lv (v3 :: v2 :: v1 :: .ref a :: st) (hp s) (hr r) := by
  rcases bU_e h with ⟨s1, hq, h⟩ | ⟨x, s1, hq, rfl⟩
  · exact Ev.cl hh hi (mm_stepV (As := [v1, v2, v3]) hj o rfl hs) hj.2.2 hl hd (hc _ hq) (kk s1 h)
  · exact Ev.cx hh hi (mm_stepV (As := [v1, v2, v3]) hj o rfl hs) hj.2.2 hl hin hcat hd (hc _ hq)
theorem Rd.cV4vN {i j ci dj : Nat} {a : Nat} {tm : List (Option Nat)} {v1 v2 v3 v4 : Value} {J : mm_Hd} {c : Option mQ} {kq : Int32 → mS → Option mQ} (hh : mm_hd mi = some H) (hi : mm_cd mi pc = some (.invokevirtual i, 3, 0, j)) (hj : mm_cal j ci 4 J) (o : mm_ob a ci tm) (hs : (st.map fun v => v.category).sum ≤ 8) (hl : (lg_sl [.ref a, v1, v2, v3, v4]).length ≤ J.2.1) (hd : dj < d) (hc : ∀ q, c = some q → ∀ e, dj ≤ e → Cl L xs e j [.ref a, v1, v2, v3, v4] (hp s) (hr q)) (h : bN c kq = some r) (kk : ∀ v s, kq v s = some r → Ev L xs d mi (pc + 3) lv (.int v :: st) (hp s) (hr r)) : Ev L xs d mi pc lv (v4 :: v3 :: v2 :: v1 :: .ref a :: st) (hp s) (hr r) := by
  obtain ⟨v, s1, hq, h⟩ := bN_e h
  exact Ev.cl hh hi (mm_stepV (As := [v1, v2, v3, v4]) hj o rfl hs) hj.2.2 hl hd (hc _ hq) (kk v s1 h)
theorem Rd.cV4vT {i j ci dj : Nat} {a : Nat} {tm : List (Option Nat)} {v1 v2 v3 v4 : Value} {J : mm_Hd} {c : Option mQ} {kq : Int32 → mS → Option mQ} (hh : mm_hd mi = some H) (hi : mm_cd mi pc = some (.invokevirtual i, 3, 0, j)) (hj : mm_cal j ci 4 J) (o : mm_ob a ci tm) (hs : (st.map fun v => v.category).sum ≤ 8) (hl : (lg_sl [.ref a, v1, v2, v3, v4]).length ≤ J.2.1) (hin : J.2.2.2.1 = false) (hcat : H.2.2.2.2 = []) (hd : dj < d) (hc : ∀ q, c = some q → ∀ e, dj ≤ e → Cl L xs e j [.ref a, v1, v2, v3, v4] (hp s) (hr q)) (h : bV c kq = some r) (kk : ∀ v s, kq v s = some r → Ev L xs d mi (pc + 3) lv (.int v :: st) (hp s) (hr r)) : Ev L xs d mi pc lv (v4 :: v3 :: v2 :: v1 :: .ref a :: st) (hp s) (hr r) := by
  rcases bV_e h with ⟨v, s1, hq, h⟩ | ⟨x, s1, hq, rfl⟩
  · exact Ev.cl hh hi (mm_stepV (As := [v1, v2, v3, v4]) hj o rfl hs) hj.2.2 hl hd (hc _ hq) (kk v s1 h)
  · exact Ev.cx hh hi (mm_stepV (As := [v1, v2, v3, v4]) hj o rfl hs) hj.2.2 hl hin hcat hd (hc _ hq)
theorem Rd.cV4vC {i j ci dj : Nat} {a : Nat} {tm : List (Option Nat)} {v1 v2 v3 v4 : Value} {J : mm_Hd} {c : Option mQ} {kq : Int32 → mS → Option mQ} (hh : mm_hd mi = some H) (hi : mm_cd mi pc = some (.invokevirtual i, 3, 0, j)) (hj : mm_cal j ci 4 J) (o : mm_ob a ci tm) (hs : (st.map fun v => v.category).sum ≤ 8) (hl : (lg_sl [.ref a, v1, v2, v3, v4]).length ≤ J.2.1) (hin : J.2.2.2.1 = false) (hd : dj < d) (hc : ∀ q, c = some q → ∀ e, dj ≤ e → Cl L xs e j [.ref a, v1, v2, v3, v4] (hp s) (hr q)) (h : bC H.2.2.2.2 c kq = some r) (kk : ∀ v s, kq v s = some r → Ev L xs d mi (pc + 3) lv (.int v :: st) (hp s) (hr r)) : Ev L xs d mi pc lv (v4 :: v3 :: v2 :: v1 :: .ref a :: st) (hp s) (hr r) := by
  rcases bC_e h with ⟨v, s1, hq, h⟩ | ⟨x, s1, u, w, code, hq, hf, rfl⟩
  · exact Ev.cl hh hi (mm_stepV (As := [v1, v2, v3, v4]) hj o rfl hs) hj.2.2 hl hd (hc _ hq) (kk v s1 h)
  · exact Ev.cc hh hi (mm_stepV (As := [v1, v2, v3, v4]) hj o rfl hs) hj.2.2 hl hin hf hd (hc _ hq)
theorem Rd.cV4uN {i j ci dj : Nat} {a : Nat} {tm : List (Option Nat)} {v1 v2 v3 v4 : Value} {J : mm_Hd} {c : Option mQ} {kq : mS → Option mQ} (hh : mm_hd mi = some H) (hi : mm_cd mi pc = some (.invokevirtual i, 3, 0, j)) (hj : mm_cal j ci 4 J) (o : mm_ob a ci tm) (hs : (st.map fun v => v.category).sum ≤ 8) (hl : (lg_sl [.ref a, v1, v2, v3, v4]).length ≤ J.2.1) (hd : dj < d) (hc : ∀ q, c = some q → ∀ e, dj ≤ e → Cl L xs e j [.ref a, v1, v2, v3, v4] (hp s) (hr q)) (h : bM c kq = some r) (kk : ∀ s, kq s = some r → Ev L xs d mi (pc + 3) lv st (hp s) (hr r)) : Ev L xs d mi pc lv (v4 :: v3 :: v2 :: v1 :: .ref a :: st) (hp s) (hr r) := by
  obtain ⟨s1, hq, h⟩ := bM_e h
  exact Ev.cl hh hi (mm_stepV (As := [v1, v2, v3, v4]) hj o rfl hs) hj.2.2 hl hd (hc _ hq) (kk s1 h)
theorem Rd.cV4uT {i j ci dj : Nat} {a : Nat} {tm : List (Option Nat)} {v1 v2 v3 v4 : Value} {J : mm_Hd} {c : Option mQ} {kq : mS → Option mQ} (hh : mm_hd mi = some H) (hi : mm_cd mi pc = some (.invokevirtual i, 3, 0, j)) (hj : mm_cal j ci 4 J) (o : mm_ob a ci tm) (hs : (st.map fun v => v.category).sum ≤ 8) (hl : (lg_sl [.ref a, v1, v2, v3, v4]).length ≤ J.2.1) (hin : J.2.2.2.1 = false) (hcat : H.2.2.2.2 = []) (hd : dj < d) (hc : ∀ q, c = some q → ∀ e, dj ≤ e → Cl L xs e j [.ref a, v1, v2, v3, v4] (hp s) (hr q)) (h : bU c kq = some r) (kk : ∀ s, kq s = some r → Ev L xs d mi (pc + 3) lv st (hp s) (hr r)) : Ev L xs d mi pc lv (v4 :: v3 :: v2 :: v1 :: .ref a :: st) (hp s) (hr r) := by
  rcases bU_e h with ⟨s1, hq, h⟩ | ⟨x, s1, hq, rfl⟩
  · exact Ev.cl hh hi (mm_stepV (As := [v1, v2, v3, v4]) hj o rfl hs) hj.2.2 hl hd (hc _ hq) (kk s1 h)
  · exact Ev.cx hh hi (mm_stepV (As := [v1, v2, v3, v4]) hj o rfl hs) hj.2.2 hl hin hcat hd (hc _ hq)
theorem Rd.cV5vN {i j ci dj : Nat} {a : Nat} {tm : List (Option Nat)} {v1 v2 v3 v4 v5 : Value} {J : mm_Hd} {c : Option mQ} {kq : Int32 → mS → Option mQ} (hh : mm_hd mi = some H) (hi : mm_cd mi pc = some (.invokevirtual i, 3, 0, j)) (hj : mm_cal j ci 5 J) (o : mm_ob a ci tm) (hs : (st.map fun v => v.category).sum ≤ 8) (hl : (lg_sl [.ref a, v1, v2, v3, v4, v5]).length ≤ J.2.1) (hd : dj < d) (hc : ∀ q, c = some q → ∀ e, dj ≤ e → Cl L xs e j [.ref a, v1, v2, v3, v4, v5] (hp s) (hr q)) (h : bN c kq = some r) (kk : ∀ v s, kq v s = some r → Ev L xs d mi (pc + 3) lv (.int v :: st) (hp s) (hr r)) : Ev L xs d mi pc lv (v5 :: v4 :: v3 :: v2 :: v1 :: .ref a :: st) (hp s) (hr r) := by
  obtain ⟨v, s1, hq, h⟩ := bN_e h
  exact Ev.cl hh hi (mm_stepV (As := [v1, v2, v3, v4, v5]) hj o rfl hs) hj.2.2 hl hd (hc _ hq) (kk v s1 h)
theorem Rd.cV5vT {i j ci dj : Nat} {a : Nat} {tm : List (Option Nat)} {v1 v2 v3 v4 v5 : Value} {J : mm_Hd} {c : Option mQ} {kq : Int32 → mS → Option mQ} (hh : mm_hd mi = some H) (hi : mm_cd mi pc = some (.invokevirtual i, 3, 0, j)) (hj : mm_cal j ci 5 J) (o : mm_ob a ci tm) (hs : (st.map fun v => v.category).sum ≤ 8) (hl : (lg_sl [.ref a, v1, v2, v3, v4, v5]).length ≤ J.2.1) (hin : J.2.2.2.1 = false) (hcat : H.2.2.2.2 = []) (hd : dj < d) (hc : ∀ q, c = some q → ∀ e, dj ≤ e → Cl L xs e j [.ref a, v1, v2, v3, v4, v5] (hp s) (hr q)) (h : bV c kq = some r) (kk : ∀ v s, kq v s = some r → Ev L xs d mi (pc + 3) lv (.int v :: st) (hp s) (hr r)) : Ev L xs d mi pc lv (v5 :: v4 :: v3 :: v2 :: v1 :: .ref a :: st) (hp s) (hr r) := by
  rcases bV_e h with ⟨v, s1, hq, h⟩ | ⟨x, s1, hq, rfl⟩
  · exact Ev.cl hh hi (mm_stepV (As := [v1, v2, v3, v4, v5]) hj o rfl hs) hj.2.2 hl hd (hc _ hq) (kk v s1 h)
  · exact Ev.cx hh hi (mm_stepV (As := [v1, v2, v3, v4, v5]) hj o rfl hs) hj.2.2 hl hin hcat hd (hc _ hq)
theorem Rd.cV5vC {i j ci dj : Nat} {a : Nat} {tm : List (Option Nat)} {v1 v2 v3 v4 v5 : Value} {J : mm_Hd} {c : Option mQ} {kq : Int32 → mS → Option mQ} (hh : mm_hd mi = some H) (hi : mm_cd mi pc = some (.invokevirtual i, 3, 0, j)) (hj : mm_cal j ci 5 J) (o : mm_ob a ci tm) (hs : (st.map fun v => v.category).sum ≤ 8) (hl : (lg_sl [.ref a, v1, v2, v3, v4, v5]).length ≤ J.2.1) (hin : J.2.2.2.1 = false) (hd : dj < d) (hc : ∀ q, c = some q → ∀ e, dj ≤ e → Cl L xs e j [.ref a, v1, v2, v3, v4, v5] (hp s) (hr q)) (h : bC H.2.2.2.2 c kq = some r) (kk : ∀ v s, kq v s = some r → Ev L xs d mi (pc + 3) lv (.int v :: st) (hp s) (hr r)) : Ev L xs d mi pc lv (v5 :: v4 :: v3 :: v2 :: v1 :: .ref a :: st) (hp s) (hr r) := by
  rcases bC_e h with ⟨v, s1, hq, h⟩ | ⟨x, s1, u, w, code, hq, hf, rfl⟩
  · exact Ev.cl hh hi (mm_stepV (As := [v1, v2, v3, v4, v5]) hj o rfl hs) hj.2.2 hl hd (hc _ hq) (kk v s1 h)
  · exact Ev.cc hh hi (mm_stepV (As := [v1, v2, v3, v4, v5]) hj o rfl hs) hj.2.2 hl hin hf hd (hc _ hq)
theorem Rd.cV5uN {i j ci dj : Nat} {a : Nat} {tm : List (Option Nat)} {v1 v2 v3 v4 v5 : Value} {J : mm_Hd} {c : Option mQ} {kq : mS → Option mQ} (hh : mm_hd mi = some H) (hi : mm_cd mi pc = some (.invokevirtual i, 3, 0, j)) (hj : mm_cal j ci 5 J) (o : mm_ob a ci tm) (hs : (st.map fun v => v.category).sum ≤ 8) (hl : (lg_sl [.ref a, v1, v2, v3, v4, v5]).length ≤ J.2.1) (hd : dj < d) (hc : ∀ q, c = some q → ∀ e, dj ≤ e → Cl L xs e j [.ref a, v1, v2, v3, v4, v5] (hp s) (hr q)) (h : bM c kq = some r) (kk : ∀ s, kq s = some r → Ev L xs d mi (pc + 3) lv st (hp s) (hr r)) : Ev L xs d mi pc lv (v5 :: v4 :: v3 :: v2 :: v1 :: .ref a :: st) (hp s) (hr r) := by
  obtain ⟨s1, hq, h⟩ := bM_e h
  exact Ev.cl hh hi (mm_stepV (As := [v1, v2, v3, v4, v5]) hj o rfl hs) hj.2.2 hl hd (hc _ hq) (kk s1 h)
theorem Rd.cV5uT {i j ci dj : Nat} {a : Nat} {tm : List (Option Nat)} {v1 v2 v3 v4 v5 : Value} {J : mm_Hd} {c : Option mQ} {kq : mS → Option mQ} (hh : mm_hd mi = some H) (hi : mm_cd mi pc = some (.invokevirtual i, 3, 0, j)) (hj : mm_cal j ci 5 J) (o : mm_ob a ci tm) (hs : (st.map fun v => v.category).sum ≤ 8) (hl : (lg_sl [.ref a, v1, v2, v3, v4, v5]).length ≤ J.2.1) (hin : J.2.2.2.1 = false) (hcat : H.2.2.2.2 = []) (hd : dj < d) (hc : ∀ q, c = some q → ∀ e, dj ≤ e → Cl L xs e j [.ref a, v1, v2, v3, v4, v5] (hp s) (hr q)) (h : bU c kq = some r) (kk : ∀ s, kq s = some r → Ev L xs d mi (pc + 3) lv st (hp s) (hr r)) : Ev L xs d mi pc lv (v5 :: v4 :: v3 :: v2 :: v1 :: .ref a :: st) (hp s) (hr r) := by
  rcases bU_e h with ⟨s1, hq, h⟩ | ⟨x, s1, hq, rfl⟩
  · exact Ev.cl hh hi (mm_stepV (As := [v1, v2, v3, v4, v5]) hj o rfl hs) hj.2.2 hl hd (hc _ hq) (kk s1 h)
  · exact Ev.cx hh hi (mm_stepV (As := [v1, v2, v3, v4, v5]) hj o rfl hs) hj.2.2 hl hin hcat hd (hc _ hq)
theorem Rd.cV6vN {i j ci dj : Nat} {a : Nat} {tm : List (Option Nat)} {v1 v2 v3 v4 v5 v6 : Value} {J : mm_Hd} {c : Option mQ} {kq : Int32 → mS → Option mQ} (hh : mm_hd mi = some H) (hi : mm_cd mi pc = some (.invokevirtual i, 3, 0, j)) (hj : mm_cal j ci 6 J) (o : mm_ob a ci tm) (hs : (st.map fun v => v.category).sum ≤ 8) (hl : (lg_sl [.ref a, v1, v2, v3, v4, v5, v6]).length ≤ J.2.1) (hd : dj < d) (hc : ∀ q, c = some q → ∀ e, dj ≤ e → Cl L xs e j [.ref a, v1, v2, v3, v4, v5, v6] (hp s) (hr q)) (h : bN c kq = some r) (kk : ∀ v s, kq v s = some r → Ev L xs d mi (pc + 3) lv (.int v :: st) (hp s) (hr r)) : Ev L xs d mi pc lv (v6 :: v5 :: v4 :: v3 :: v2 :: v1 :: .ref a :: st) (hp s) (hr r) := by
  obtain ⟨v, s1, hq, h⟩ := bN_e h
  exact Ev.cl hh hi (mm_stepV (As := [v1, v2, v3, v4, v5, v6]) hj o rfl hs) hj.2.2 hl hd (hc _ hq) (kk v s1 h)
theorem Rd.cV6vT {i j ci dj : Nat} {a : Nat} {tm : List (Option Nat)} {v1 v2 v3 v4 v5 v6 : Value} {J : mm_Hd} {c : Option mQ} {kq : Int32 → mS → Option mQ} (hh : mm_hd mi = some H) (hi : mm_cd mi pc = some (.invokevirtual i, 3, 0, j)) (hj : mm_cal j ci 6 J) (o : mm_ob a ci tm) (hs : (st.map fun v => v.category).sum ≤ 8) (hl : (lg_sl [.ref a, v1, v2, v3, v4, v5, v6]).length ≤ J.2.1) (hin : J.2.2.2.1 = false) (hcat : H.2.2.2.2 = []) (hd : dj < d) (hc : ∀ q, c = some q → ∀ e, dj ≤ e → Cl L xs e j [.ref a, v1, v2, v3, v4, v5, v6] (hp s) (hr q)) (h : bV c kq = some r) (kk : ∀ v s, kq v s = some r → Ev L xs d mi (pc + 3) lv (.int v :: st) (hp s) (hr r)) : Ev L xs d mi pc lv (v6 :: v5 :: v4 :: v3 :: v2 :: v1 :: .ref a :: st) (hp s) (hr r) := by
  rcases bV_e h with ⟨v, s1, hq, h⟩ | ⟨x, s1, hq, rfl⟩
  · exact Ev.cl hh hi (mm_stepV (As := [v1, v2, v3, v4, v5, v6]) hj o rfl hs) hj.2.2 hl hd (hc _ hq) (kk v s1 h)
  · exact Ev.cx hh hi (mm_stepV (As := [v1, v2, v3, v4, v5, v6]) hj o rfl hs) hj.2.2 hl hin hcat hd (hc _ hq)
theorem Rd.cV6vC {i j ci dj : Nat} {a : Nat} {tm : List (Option Nat)} {v1 v2 v3 v4 v5 v6 : Value} {J : mm_Hd} {c : Option mQ} {kq : Int32 → mS → Option mQ} (hh : mm_hd mi = some H) (hi : mm_cd mi pc = some (.invokevirtual i, 3, 0, j)) (hj : mm_cal j ci 6 J) (o : mm_ob a ci tm) (hs : (st.map fun v => v.category).sum ≤ 8) (hl : (lg_sl [.ref a, v1, v2, v3, v4, v5, v6]).length ≤ J.2.1) (hin : J.2.2.2.1 = false) (hd : dj < d) (hc : ∀ q, c = some q → ∀ e, dj ≤ e → Cl L xs e j [.ref a, v1, v2, v3, v4, v5, v6] (hp s) (hr q)) (h : bC H.2.2.2.2 c kq = some r) (kk : ∀ v s, kq v s = some r → Ev L xs d mi (pc + 3) lv (.int v :: st) (hp s) (hr r)) : Ev L xs d mi pc lv (v6 :: v5 :: v4 :: v3 :: v2 :: v1 :: .ref a :: st) (hp s) (hr r) := by
  rcases bC_e h with ⟨v, s1, hq, h⟩ | ⟨x, s1, u, w, code, hq, hf, rfl⟩
  · exact Ev.cl hh hi (mm_stepV (As := [v1, v2, v3, v4, v5, v6]) hj o rfl hs) hj.2.2 hl hd (hc _ hq) (kk v s1 h)
  · exact Ev.cc hh hi (mm_stepV (As := [v1, v2, v3, v4, v5, v6]) hj o rfl hs) hj.2.2 hl hin hf hd (hc _ hq)
theorem Rd.cV6uN {i j ci dj : Nat} {a : Nat} {tm : List (Option Nat)} {v1 v2 v3 v4 v5 v6 : Value} {J : mm_Hd} {c : Option mQ} {kq : mS → Option mQ} (hh : mm_hd mi = some H) (hi : mm_cd mi pc = some (.invokevirtual i, 3, 0, j)) (hj : mm_cal j ci 6 J) (o : mm_ob a ci tm) (hs : (st.map fun v => v.category).sum ≤ 8) (hl : (lg_sl [.ref a, v1, v2, v3, v4, v5, v6]).length ≤ J.2.1) (hd : dj < d) (hc : ∀ q, c = some q → ∀ e, dj ≤ e → Cl L xs e j [.ref a, v1, v2, v3, v4, v5, v6] (hp s) (hr q)) (h : bM c kq = some r) (kk : ∀ s, kq s = some r → Ev L xs d mi (pc + 3) lv st (hp s) (hr r)) : Ev L xs d mi pc lv (v6 :: v5 :: v4 :: v3 :: v2 :: v1 :: .ref a :: st) (hp s) (hr r) := by
  obtain ⟨s1, hq, h⟩ := bM_e h
  exact Ev.cl hh hi (mm_stepV (As := [v1, v2, v3, v4, v5, v6]) hj o rfl hs) hj.2.2 hl hd (hc _ hq) (kk s1 h)
theorem Rd.cV6uT {i j ci dj : Nat} {a : Nat} {tm : List (Option Nat)} {v1 v2 v3 v4 v5 v6 : Value} {J : mm_Hd} {c : Option mQ} {kq : mS → Option mQ} (hh : mm_hd mi = some H) (hi : mm_cd mi pc = some (.invokevirtual i, 3, 0, j)) (hj : mm_cal j ci 6 J) (o : mm_ob a ci tm) (hs : (st.map fun v => v.category).sum ≤ 8) (hl : (lg_sl [.ref a, v1, v2, v3, v4, v5, v6]).length ≤ J.2.1) (hin : J.2.2.2.1 = false) (hcat : H.2.2.2.2 = []) (hd : dj < d) (hc : ∀ q, c = some q → ∀ e, dj ≤ e → Cl L xs e j [.ref a, v1, v2, v3, v4, v5, v6] (hp s) (hr q)) (h : bU c kq = some r) (kk : ∀ s, kq s = some r → Ev L xs d mi (pc + 3) lv st (hp s) (hr r)) : Ev L xs d mi pc lv (v6 :: v5 :: v4 :: v3 :: v2 :: v1 :: .ref a :: st) (hp s) (hr r) := by
  rcases bU_e h with ⟨s1, hq, h⟩ | ⟨x, s1, hq, rfl⟩
  · exact Ev.cl hh hi (mm_stepV (As := [v1, v2, v3, v4, v5, v6]) hj o rfl hs) hj.2.2 hl hd (hc _ hq) (kk s1 h)
  · exact Ev.cx hh hi (mm_stepV (As := [v1, v2, v3, v4, v5, v6]) hj o rfl hs) hj.2.2 hl hin hcat hd (hc _ hq)
theorem Rd.cP0vN {i j ci dj : Nat} {a : Nat} {tm : List (Option Nat)} {J : mm_Hd} {c : Option mQ} {kq : Int32 → mS → Option mQ} (hh : mm_hd mi = some H) (hi : mm_cd mi pc = some (.invokespecial i, 3, 0, j)) (hj : mm_cal j ci 0 J) (o : mm_ob a ci tm) (hs : (st.map fun v => v.category).sum ≤ 8) (hl : (lg_sl [.ref a]).length ≤ J.2.1) (hd : dj < d) (hc : ∀ q, c = some q → ∀ e, dj ≤ e → Cl L xs e j [.ref a] (hp s) (hr q)) (h : bN c kq = some r) (kk : ∀ v s, kq v s = some r → Ev L xs d mi (pc + 3) lv (.int v :: st) (hp s) (hr r)) : Ev L xs d mi pc lv (.ref a :: st) (hp s) (hr r) := by
  obtain ⟨v, s1, hq, h⟩ := bN_e h
  exact Ev.cl hh hi (mm_stepP (As := []) hj o rfl hs) hj.2.2 hl hd (hc _ hq) (kk v s1 h)
theorem Rd.cP0vT {i j ci dj : Nat} {a : Nat} {tm : List (Option Nat)} {J : mm_Hd} {c : Option mQ} {kq : Int32 → mS → Option mQ} (hh : mm_hd mi = some H) (hi : mm_cd mi pc = some (.invokespecial i, 3, 0, j)) (hj : mm_cal j ci 0 J) (o : mm_ob a ci tm) (hs : (st.map fun v => v.category).sum ≤ 8) (hl : (lg_sl [.ref a]).length ≤ J.2.1) (hin : J.2.2.2.1 = false) (hcat : H.2.2.2.2 = []) (hd : dj < d) (hc : ∀ q, c = some q → ∀ e, dj ≤ e → Cl L xs e j [.ref a] (hp s) (hr q)) (h : bV c kq = some r) (kk : ∀ v s, kq v s = some r → Ev L xs d mi (pc + 3) lv (.int v :: st) (hp s) (hr r)) : Ev L xs d mi pc lv (.ref a :: st) (hp s) (hr r) := by
  rcases bV_e h with ⟨v, s1, hq, h⟩ | ⟨x, s1, hq, rfl⟩
  · exact Ev.cl hh hi (mm_stepP (As := []) hj o rfl hs) hj.2.2 hl hd (hc _ hq) (kk v s1 h)
  · exact Ev.cx hh hi (mm_stepP (As := []) hj o rfl hs) hj.2.2 hl hin hcat hd (hc _ hq)
theorem Rd.cP0uN {i j ci dj : Nat} {a : Nat} {tm : List (Option Nat)} {J : mm_Hd} {c : Option mQ} {kq : mS → Option mQ} (hh : mm_hd mi = some H) (hi : mm_cd mi pc = some (.invokespecial i, 3, 0, j)) (hj : mm_cal j ci 0 J) (o : mm_ob a ci tm) (hs : (st.map fun v => v.category).sum ≤ 8) (hl : (lg_sl [.ref a]).length ≤ J.2.1) (hd : dj < d) (hc : ∀ q, c = some q → ∀ e, dj ≤ e → Cl L xs e j [.ref a] (hp s) (hr q)) (h : bM c kq = some r) (kk : ∀ s, kq s = some r → Ev L xs d mi (pc + 3) lv st (hp s) (hr r)) : Ev L xs d mi pc lv (.ref a :: st) (hp s) (hr r) := by
  obtain ⟨s1, hq, h⟩ := bM_e h
  exact Ev.cl hh hi (mm_stepP (As := []) hj o rfl hs) hj.2.2 hl hd (hc _ hq) (kk s1 h)
theorem Rd.cP0uT {i j ci dj : Nat} {a : Nat} {tm : List (Option Nat)} {J : mm_Hd} {c : Option mQ} {kq : mS → Option mQ} (hh : mm_hd mi = some H) (hi : mm_cd mi pc = some (.invokespecial i, 3, 0, j)) (hj : mm_cal j ci 0 J) (o : mm_ob a ci tm) (hs : (st.map fun v => v.category).sum ≤ 8) (hl : (lg_sl [.ref a]).length ≤ J.2.1) (hin : J.2.2.2.1 = false) (hcat : H.2.2.2.2 = []) (hd : dj < d) (hc : ∀ q, c = some q → ∀ e, dj ≤ e → Cl L xs e j [.ref a] (hp s) (hr q)) (h : bU c kq = some r) (kk : ∀ s, kq s = some r → Ev L xs d mi (pc + 3) lv st (hp s) (hr r)) : Ev L xs d mi pc lv (.ref a :: st) (hp s) (hr r) := by
  rcases bU_e h with ⟨s1, hq, h⟩ | ⟨x, s1, hq, rfl⟩
  · exact Ev.cl hh hi (mm_stepP (As := []) hj o rfl hs) hj.2.2 hl hd (hc _ hq) (kk s1 h)
  · exact Ev.cx hh hi (mm_stepP (As := []) hj o rfl hs) hj.2.2 hl hin hcat hd (hc _ hq)
theorem Rd.cP1vN {i j ci dj : Nat} {a : Nat} {tm : List (Option Nat)} {v1 : Value} {J : mm_Hd} {c : Option mQ} {kq : Int32 → mS → Option mQ} (hh : mm_hd mi = some H) (hi : mm_cd mi pc = some (.invokespecial i, 3, 0, j)) (hj : mm_cal j ci 1 J) (o : mm_ob a ci tm) (hs : (st.map fun v => v.category).sum ≤ 8) (hl : (lg_sl [.ref a, v1]).length ≤ J.2.1) (hd : dj < d) (hc : ∀ q, c = some q → ∀ e, dj ≤ e → Cl L xs e j [.ref a, v1] (hp s) (hr q)) (h : bN c kq = some r) (kk : ∀ v s, kq v s = some r → Ev L xs d mi (pc + 3) lv (.int v :: st) (hp s) (hr r)) : Ev L xs d mi pc lv (v1 :: .ref a :: st) (hp s) (hr r) := by
  obtain ⟨v, s1, hq, h⟩ := bN_e h
  exact Ev.cl hh hi (mm_stepP (As := [v1]) hj o rfl hs) hj.2.2 hl hd (hc _ hq) (kk v s1 h)
theorem Rd.cP1vT {i j ci dj : Nat} {a : Nat} {tm : List (Option Nat)} {v1 : Value} {J : mm_Hd} {c : Option mQ} {kq : Int32 → mS → Option mQ} (hh : mm_hd mi = some H) (hi : mm_cd mi pc = some (.invokespecial i, 3, 0, j)) (hj : mm_cal j ci 1 J) (o : mm_ob a ci tm) (hs : (st.map fun v => v.category).sum ≤ 8) (hl : (lg_sl [.ref a, v1]).length ≤ J.2.1) (hin : J.2.2.2.1 = false) (hcat : H.2.2.2.2 = []) (hd : dj < d) (hc : ∀ q, c = some q → ∀ e, dj ≤ e → Cl L xs e j [.ref a, v1] (hp s) (hr q)) (h : bV c kq = some r) (kk : ∀ v s, kq v s = some r → Ev L xs d mi (pc + 3) lv (.int v :: st) (hp s) (hr r)) : Ev L xs d mi pc lv (v1 :: .ref a :: st) (hp s) (hr r) := by
  rcases bV_e h with ⟨v, s1, hq, h⟩ | ⟨x, s1, hq, rfl⟩
  · exact Ev.cl hh hi (mm_stepP (As := [v1]) hj o rfl hs) hj.2.2 hl hd (hc _ hq) (kk v s1 h)
  · exact Ev.cx hh hi (mm_stepP (As := [v1]) hj o rfl hs) hj.2.2 hl hin hcat hd (hc _ hq)
theorem Rd.cP1uN {i j ci dj : Nat} {a : Nat} {tm : List (Option Nat)} {v1 : Value} {J : mm_Hd} {c : Option mQ} {kq : mS → Option mQ} (hh : mm_hd mi = some H) (hi : mm_cd mi pc = some (.invokespecial i, 3, 0, j)) (hj : mm_cal j ci 1 J) (o : mm_ob a ci tm) (hs : (st.map fun v => v.category).sum ≤ 8) (hl : (lg_sl [.ref a, v1]).length ≤ J.2.1) (hd : dj < d) (hc : ∀ q, c = some q → ∀ e, dj ≤ e → Cl L xs e j [.ref a, v1] (hp s) (hr q)) (h : bM c kq = some r) (kk : ∀ s, kq s = some r → Ev L xs d mi (pc + 3) lv st (hp s) (hr r)) : Ev L xs d mi pc lv (v1 :: .ref a :: st) (hp s) (hr r) := by
  obtain ⟨s1, hq, h⟩ := bM_e h
  exact Ev.cl hh hi (mm_stepP (As := [v1]) hj o rfl hs) hj.2.2 hl hd (hc _ hq) (kk s1 h)
theorem Rd.cP1uT {i j ci dj : Nat} {a : Nat} {tm : List (Option Nat)} {v1 : Value} {J : mm_Hd} {c : Option mQ} {kq : mS → Option mQ} (hh : mm_hd mi = some H) (hi : mm_cd mi pc = some (.invokespecial i, 3, 0, j)) (hj : mm_cal j ci 1 J) (o : mm_ob a ci tm) (hs : (st.map fun v => v.category).sum ≤ 8) (hl : (lg_sl [.ref a, v1]).length ≤ J.2.1) (hin : J.2.2.2.1 = false) (hcat : H.2.2.2.2 = []) (hd : dj < d) (hc : ∀ q, c = some q → ∀ e, dj ≤ e → Cl L xs e j [.ref a, v1] (hp s) (hr q)) (h : bU c kq = some r) (kk : ∀ s, kq s = some r → Ev L xs d mi (pc + 3) lv st (hp s) (hr r)) : Ev L xs d mi pc lv (v1 :: .ref a :: st) (hp s) (hr r) := by
  rcases bU_e h with ⟨s1, hq, h⟩ | ⟨x, s1, hq, rfl⟩
  · exact Ev.cl hh hi (mm_stepP (As := [v1]) hj o rfl hs) hj.2.2 hl hd (hc _ hq) (kk s1 h)
  · exact Ev.cx hh hi (mm_stepP (As := [v1]) hj o rfl hs) hj.2.2 hl hin hcat hd (hc _ hq)
theorem Rd.cP2vN {i j ci dj : Nat} {a : Nat} {tm : List (Option Nat)} {v1 v2 : Value} {J : mm_Hd} {c : Option mQ} {kq : Int32 → mS → Option mQ} (hh : mm_hd mi = some H) (hi : mm_cd mi pc = some (.invokespecial i, 3, 0, j)) (hj : mm_cal j ci 2 J) (o : mm_ob a ci tm) (hs : (st.map fun v => v.category).sum ≤ 8) (hl : (lg_sl [.ref a, v1, v2]).length ≤ J.2.1) (hd : dj < d) (hc : ∀ q, c = some q → ∀ e, dj ≤ e → Cl L xs e j [.ref a, v1, v2] (hp s) (hr q)) (h : bN c kq = some r) (kk : ∀ v s, kq v s = some r → Ev L xs d mi (pc + 3) lv (.int v :: st) (hp s) (hr r)) : Ev L xs d mi pc lv (v2 :: v1 :: .ref a :: st) (hp s) (hr r) := by
  obtain ⟨v, s1, hq, h⟩ := bN_e h
  exact Ev.cl hh hi (mm_stepP (As := [v1, v2]) hj o rfl hs) hj.2.2 hl hd (hc _ hq) (kk v s1 h)
theorem Rd.cP2vT {i j ci dj : Nat} {a : Nat} {tm : List (Option Nat)} {v1 v2 : Value} {J : mm_Hd} {c : Option mQ} {kq : Int32 → mS → Option mQ} (hh : mm_hd mi = some H) (hi : mm_cd mi pc = some (.invokespecial i, 3, 0, j)) (hj : mm_cal j ci 2 J) (o : mm_ob a ci tm) (hs : (st.map fun v => v.category).sum ≤ 8) (hl : (lg_sl [.ref a, v1, v2]).length ≤ J.2.1) (hin : J.2.2.2.1 = false) (hcat : H.2.2.2.2 = []) (hd : dj < d) (hc : ∀ q, c = some q → ∀ e, dj ≤ e → Cl L xs e j [.ref a, v1, v2] (hp s) (hr q)) (h : bV c kq = some r) (kk : ∀ v s, kq v s = some r → Ev L xs d mi (pc + 3) lv (.int v :: st) (hp s) (hr r)) : Ev L xs d mi pc lv (v2 :: v1 :: .ref a :: st) (hp s) (hr r) := by
  rcases bV_e h with ⟨v, s1, hq, h⟩ | ⟨x, s1, hq, rfl⟩
  · exact Ev.cl hh hi (mm_stepP (As := [v1, v2]) hj o rfl hs) hj.2.2 hl hd (hc _ hq) (kk v s1 h)
  · exact Ev.cx hh hi (mm_stepP (As := [v1, v2]) hj o rfl hs) hj.2.2 hl hin hcat hd (hc _ hq)
theorem Rd.cP2uN {i j ci dj : Nat} {a : Nat} {tm : List (Option Nat)} {v1 v2 : Value} {J : mm_Hd} {c : Option mQ} {kq : mS → Option mQ} (hh : mm_hd mi = some H) (hi : mm_cd mi pc = some (.invokespecial i, 3, 0, j)) (hj : mm_cal j ci 2 J) (o : mm_ob a ci tm) (hs : (st.map fun v => v.category).sum ≤ 8) (hl : (lg_sl [.ref a, v1, v2]).length ≤ J.2.1) (hd : dj < d) (hc : ∀ q, c = some q → ∀ e, dj ≤ e → Cl L xs e j [.ref a, v1, v2] (hp s) (hr q)) (h : bM c kq = some r) (kk : ∀ s, kq s = some r → Ev L xs d mi (pc + 3) lv st (hp s) (hr r)) : Ev L xs d mi pc lv (v2 :: v1 :: .ref a :: st) (hp s) (hr r) := by
  obtain ⟨s1, hq, h⟩ := bM_e h
  exact Ev.cl hh hi (mm_stepP (As := [v1, v2]) hj o rfl hs) hj.2.2 hl hd (hc _ hq) (kk s1 h)
theorem Rd.cP2uT {i j ci dj : Nat} {a : Nat} {tm : List (Option Nat)} {v1 v2 : Value} {J : mm_Hd} {c : Option mQ} {kq : mS → Option mQ} (hh : mm_hd mi = some H) (hi : mm_cd mi pc = some (.invokespecial i, 3, 0, j)) (hj : mm_cal j ci 2 J) (o : mm_ob a ci tm) (hs : (st.map fun v => v.category).sum ≤ 8) (hl : (lg_sl [.ref a, v1, v2]).length ≤ J.2.1) (hin : J.2.2.2.1 = false) (hcat : H.2.2.2.2 = []) (hd : dj < d) (hc : ∀ q, c = some q → ∀ e, dj ≤ e → Cl L xs e j [.ref a, v1, v2] (hp s) (hr q)) (h : bU c kq = some r) (kk : ∀ s, kq s = some r → Ev L xs d mi (pc + 3) lv st (hp s) (hr r)) : Ev L xs d mi pc lv (v2 :: v1 :: .ref a :: st) (hp s) (hr r) := by
  rcases bU_e h with ⟨s1, hq, h⟩ | ⟨x, s1, hq, rfl⟩
  · exact Ev.cl hh hi (mm_stepP (As := [v1, v2]) hj o rfl hs) hj.2.2 hl hd (hc _ hq) (kk s1 h)
  · exact Ev.cx hh hi (mm_stepP (As := [v1, v2]) hj o rfl hs) hj.2.2 hl hin hcat hd (hc _ hq)
theorem Rd.cP3vN {i j ci dj : Nat} {a : Nat} {tm : List (Option Nat)} {v1 v2 v3 : Value} {J : mm_Hd} {c : Option mQ} {kq : Int32 → mS → Option mQ} (hh : mm_hd mi = some H) (hi : mm_cd mi pc = some (.invokespecial i, 3, 0, j)) (hj : mm_cal j ci 3 J) (o : mm_ob a ci tm) (hs : (st.map fun v => v.category).sum ≤ 8) (hl : (lg_sl [.ref a, v1, v2, v3]).length ≤ J.2.1) (hd : dj < d) (hc : ∀ q, c = some q → ∀ e, dj ≤ e → Cl L xs e j [.ref a, v1, v2, v3] (hp s) (hr q)) (h : bN c kq = some r) (kk : ∀ v s, kq v s = some r → Ev L xs d mi (pc + 3) lv (.int v :: st) (hp s) (hr r)) : Ev L xs d mi pc lv (v3 :: v2 :: v1 :: .ref a :: st) (hp s) (hr r) := by
  obtain ⟨v, s1, hq, h⟩ := bN_e h
  exact Ev.cl hh hi (mm_stepP (As := [v1, v2, v3]) hj o rfl hs) hj.2.2 hl hd (hc _ hq) (kk v s1 h)
theorem Rd.cP3vT {i j ci dj : Nat} {a : Nat} {tm : List (Option Nat)} {v1 v2 v3 : Value} {J : mm_Hd} {c : Option mQ} {kq : Int32 → mS → Option mQ} (hh : mm_hd mi = some H) (hi : mm_cd mi pc = some (.invokespecial i, 3, 0, j)) (hj : mm_cal j ci 3 J) (o : mm_ob a ci tm) (hs : (st.map fun v => v.category).sum ≤ 8) (hl : (lg_sl [.ref a, v1, v2, v3]).length ≤ J.2.1) (hin : J.2.2.2.1 = false) (hcat : H.2.2.2.2 = []) (hd : dj < d) (hc : ∀ q, c = some q → ∀ e, dj ≤ e → Cl L xs e j [.ref a, v1, v2, v3] (hp s) (hr q)) (h : bV c kq = some r) (kk : ∀ v s, kq v s = some r → Ev L xs d mi (pc + 3) lv (.int v :: st) (hp s) (hr r)) : Ev L xs d mi pc lv (v3 :: v2 :: v1 :: .ref a :: st) (hp s) (hr r) := by
  rcases bV_e h with ⟨v, s1, hq, h⟩ | ⟨x, s1, hq, rfl⟩
  · exact Ev.cl hh hi (mm_stepP (As := [v1, v2, v3]) hj o rfl hs) hj.2.2 hl hd (hc _ hq) (kk v s1 h)
  · exact Ev.cx hh hi (mm_stepP (As := [v1, v2, v3]) hj o rfl hs) hj.2.2 hl hin hcat hd (hc _ hq)
theorem Rd.cP3uN {i j ci dj : Nat} {a : Nat} {tm : List (Option Nat)} {v1 v2 v3 : Value} {J : mm_Hd} {c : Option mQ} {kq : mS → Option mQ} (hh : mm_hd mi = some H) (hi : mm_cd mi pc = some (.invokespecial i, 3, 0, j)) (hj : mm_cal j ci 3 J) (o : mm_ob a ci tm) (hs : (st.map fun v => v.category).sum ≤ 8) (hl : (lg_sl [.ref a, v1, v2, v3]).length ≤ J.2.1) (hd : dj < d) (hc : ∀ q, c = some q → ∀ e, dj ≤ e → Cl L xs e j [.ref a, v1, v2, v3] (hp s) (hr q)) (h : bM c kq = some r) (kk : ∀ s, kq s = some r → Ev L xs d mi (pc + 3) lv st (hp s) (hr r)) : Ev L xs d mi pc lv (v3 :: v2 :: v1 :: .ref a :: st) (hp s) (hr r) := by
  obtain ⟨s1, hq, h⟩ := bM_e h
  exact Ev.cl hh hi (mm_stepP (As := [v1, v2, v3]) hj o rfl hs) hj.2.2 hl hd (hc _ hq) (kk s1 h)
theorem Rd.cP3uT {i j ci dj : Nat} {a : Nat} {tm : List (Option Nat)} {v1 v2 v3 : Value} {J : mm_Hd} {c : Option mQ} {kq : mS → Option mQ} (hh : mm_hd mi = some H) (hi : mm_cd mi pc = some (.invokespecial i, 3, 0, j)) (hj : mm_cal j ci 3 J) (o : mm_ob a ci tm) (hs : (st.map fun v => v.category).sum ≤ 8) (hl : (lg_sl [.ref a, v1, v2, v3]).length ≤ J.2.1) (hin : J.2.2.2.1 = false) (hcat : H.2.2.2.2 = []) (hd : dj < d) (hc : ∀ q, c = some q → ∀ e, dj ≤ e → Cl L xs e j [.ref a, v1, v2, v3] (hp s) (hr q)) (h : bU c kq = some r) (kk : ∀ s, kq s = some r → Ev L xs d mi (pc + 3) lv st (hp s) (hr r)) : Ev L xs d mi pc lv (v3 :: v2 :: v1 :: .ref a :: st) (hp s) (hr r) := by
  rcases bU_e h with ⟨s1, hq, h⟩ | ⟨x, s1, hq, rfl⟩
  · exact Ev.cl hh hi (mm_stepP (As := [v1, v2, v3]) hj o rfl hs) hj.2.2 hl hd (hc _ hq) (kk s1 h)
  · exact Ev.cx hh hi (mm_stepP (As := [v1, v2, v3]) hj o rfl hs) hj.2.2 hl hin hcat hd (hc _ hq)
theorem Rd.cP4vN {i j ci dj : Nat} {a : Nat} {tm : List (Option Nat)} {v1 v2 v3 v4 : Value} {J : mm_Hd} {c : Option mQ} {kq : Int32 → mS → Option mQ} (hh : mm_hd mi = some H) (hi : mm_cd mi pc = some (.invokespecial i, 3, 0, j)) (hj : mm_cal j ci 4 J) (o : mm_ob a ci tm) (hs : (st.map fun v => v.category).sum ≤ 8) (hl : (lg_sl [.ref a, v1, v2, v3, v4]).length ≤ J.2.1) (hd : dj < d) (hc : ∀ q, c = some q → ∀ e, dj ≤ e → Cl L xs e j [.ref a, v1, v2, v3, v4] (hp s) (hr q)) (h : bN c kq = some r) (kk : ∀ v s, kq v s = some r → Ev L xs d mi (pc + 3) lv (.int v :: st) (hp s) (hr r)) : Ev L xs d mi pc lv (v4 :: v3 :: v2 :: v1 :: .ref a :: st) (hp s) (hr r) := by
  obtain ⟨v, s1, hq, h⟩ := bN_e h
  exact Ev.cl hh hi (mm_stepP (As := [v1, v2, v3, v4]) hj o rfl hs) hj.2.2 hl hd (hc _ hq) (kk v s1 h)
theorem Rd.cP4vT {i j ci dj : Nat} {a : Nat} {tm : List (Option Nat)} {v1 v2 v3 v4 : Value} {J : mm_Hd} {c : Option mQ} {kq : Int32 → mS → Option mQ} (hh : mm_hd mi = some H) (hi : mm_cd mi pc = some (.invokespecial i, 3, 0, j)) (hj : mm_cal j ci 4 J) (o : mm_ob a ci tm) (hs : (st.map fun v => v.category).sum ≤ 8) (hl : (lg_sl [.ref a, v1, v2, v3, v4]).length ≤ J.2.1) (hin : J.2.2.2.1 = false) (hcat : H.2.2.2.2 = []) (hd : dj < d) (hc : ∀ q, c = some q → ∀ e, dj ≤ e → Cl L xs e j [.ref a, v1, v2, v3, v4] (hp s) (hr q)) (h : bV c kq = some r) (kk : ∀ v s, kq v s = some r → Ev L xs d mi (pc + 3) lv (.int v :: st) (hp s) (hr r)) : Ev L xs d mi pc lv (v4 :: v3 :: v2 :: v1 :: .ref a :: st) (hp s) (hr r) := by
  rcases bV_e h with ⟨v, s1, hq, h⟩ | ⟨x, s1, hq, rfl⟩
  · exact Ev.cl hh hi (mm_stepP (As := [v1, v2, v3, v4]) hj o rfl hs) hj.2.2 hl hd (hc _ hq) (kk v s1 h)
  · exact Ev.cx hh hi (mm_stepP (As := [v1, v2, v3, v4]) hj o rfl hs) hj.2.2 hl hin hcat hd (hc _ hq)
theorem Rd.cP4uN {i j ci dj : Nat} {a : Nat} {tm : List (Option Nat)} {v1 v2 v3 v4 : Value} {J : mm_Hd} {c : Option mQ} {kq : mS → Option mQ} (hh : mm_hd mi = some H) (hi : mm_cd mi pc = some (.invokespecial i, 3, 0, j)) (hj : mm_cal j ci 4 J) (o : mm_ob a ci tm) (hs : (st.map fun v => v.category).sum ≤ 8) (hl : (lg_sl [.ref a, v1, v2, v3, v4]).length ≤ J.2.1) (hd : dj < d) (hc : ∀ q, c = some q → ∀ e, dj ≤ e → Cl L xs e j [.ref a, v1, v2, v3, v4] (hp s) (hr q)) (h : bM c kq = some r) (kk : ∀ s, kq s = some r → Ev L xs d mi (pc + 3) lv st (hp s) (hr r)) : Ev L xs d mi pc lv (v4 :: v3 :: v2 :: v1 :: .ref a :: st) (hp s) (hr r) := by
  obtain ⟨s1, hq, h⟩ := bM_e h
  exact Ev.cl hh hi (mm_stepP (As := [v1, v2, v3, v4]) hj o rfl hs) hj.2.2 hl hd (hc _ hq) (kk s1 h)
theorem Rd.cP4uT {i j ci dj : Nat} {a : Nat} {tm : List (Option Nat)} {v1 v2 v3 v4 : Value} {J : mm_Hd} {c : Option mQ} {kq : mS → Option mQ} (hh : mm_hd mi = some H) (hi : mm_cd mi pc = some (.invokespecial i, 3, 0, j)) (hj : mm_cal j ci 4 J) (o : mm_ob a ci tm) (hs : (st.map fun v => v.category).sum ≤ 8) (hl : (lg_sl [.ref a, v1, v2, v3, v4]).length ≤ J.2.1) (hin : J.2.2.2.1 = false) (hcat : H.2.2.2.2 = []) (hd : dj < d) (hc : ∀ q, c = some q → ∀ e, dj ≤ e → Cl L xs e j [.ref a, v1, v2, v3, v4] (hp s) (hr q)) (h : bU c kq = some r) (kk : ∀ s, kq s = some r → Ev L xs d mi (pc + 3) lv st (hp s) (hr r)) : Ev L xs d mi pc lv (v4 :: v3 :: v2 :: v1 :: .ref a :: st) (hp s) (hr r) := by
  rcases bU_e h with ⟨s1, hq, h⟩ | ⟨x, s1, hq, rfl⟩
  · exact Ev.cl hh hi (mm_stepP (As := [v1, v2, v3, v4]) hj o rfl hs) hj.2.2 hl hd (hc _ hq) (kk s1 h)
  · exact Ev.cx hh hi (mm_stepP (As := [v1, v2, v3, v4]) hj o rfl hs) hj.2.2 hl hin hcat hd (hc _ hq)
theorem Rd.cP5vN {i j ci dj : Nat} {a : Nat} {tm : List (Option Nat)} {v1 v2 v3 v4 v5 : Value} {J : mm_Hd} {c : Option mQ} {kq : Int32 → mS → Option mQ} (hh : mm_hd mi = some H) (hi : mm_cd mi pc = some (.invokespecial i, 3, 0, j)) (hj : mm_cal j ci 5 J) (o : mm_ob a ci tm) (hs : (st.map fun v => v.category).sum ≤ 8) (hl : (lg_sl [.ref a, v1, v2, v3, v4, v5]).length ≤ J.2.1) (hd : dj < d) (hc : ∀ q, c = some q → ∀ e, dj ≤ e → Cl L xs e j [.ref a, v1, v2, v3, v4, v5] (hp s) (hr q)) (h : bN c kq = some r) (kk : ∀ v s, kq v s = some r → Ev L xs d mi (pc + 3) lv (.int v :: st) (hp s) (hr r)) : Ev L xs d mi pc lv (v5 :: v4 :: v3 :: v2 :: v1 :: .ref a :: st) (hp s) (hr r) := by
  obtain ⟨v, s1, hq, h⟩ := bN_e h
  exact Ev.cl hh hi (mm_stepP (As := [v1, v2, v3, v4, v5]) hj o rfl hs) hj.2.2 hl hd (hc _ hq) (kk v s1 h)
theorem Rd.cP5vT {i j ci dj : Nat} {a : Nat} {tm : List (Option Nat)} {v1 v2 v3 v4 v5 : Value} {J : mm_Hd} {c : Option mQ} {kq : Int32 → mS → Option mQ} (hh : mm_hd mi = some H) (hi : mm_cd mi pc = some (.invokespecial i, 3, 0, j)) (hj : mm_cal j ci 5 J) (o : mm_ob a ci tm) (hs : (st.map fun v => v.category).sum ≤ 8) (hl : (lg_sl [.ref a, v1, v2, v3, v4, v5]).length ≤ J.2.1) (hin : J.2.2.2.1 = false) (hcat : H.2.2.2.2 = []) (hd : dj < d) (hc : ∀ q, c = some q → ∀ e, dj ≤ e → Cl L xs e j [.ref a, v1, v2, v3, v4, v5] (hp s) (hr q)) (h : bV c kq = some r) (kk : ∀ v s, kq v s = some r → Ev L xs d mi (pc + 3) lv (.int v :: st) (hp s) (hr r)) : Ev L xs d mi pc lv (v5 :: v4 :: v3 :: v2 :: v1 :: .ref a :: st) (hp s) (hr r) := by
  rcases bV_e h with ⟨v, s1, hq, h⟩ | ⟨x, s1, hq, rfl⟩
  · exact Ev.cl hh hi (mm_stepP (As := [v1, v2, v3, v4, v5]) hj o rfl hs) hj.2.2 hl hd (hc _ hq) (kk v s1 h)
  · exact Ev.cx hh hi (mm_stepP (As := [v1, v2, v3, v4, v5]) hj o rfl hs) hj.2.2 hl hin hcat hd (hc _ hq)
theorem Rd.cP5uN {i j ci dj : Nat} {a : Nat} {tm : List (Option Nat)} {v1 v2 v3 v4 v5 : Value} {J : mm_Hd} {c : Option mQ} {kq : mS → Option mQ} (hh : mm_hd mi = some H) (hi : mm_cd mi pc = some (.invokespecial i, 3, 0, j)) (hj : mm_cal j ci 5 J) (o : mm_ob a ci tm) (hs : (st.map fun v => v.category).sum ≤ 8) (hl : (lg_sl [.ref a, v1, v2, v3, v4, v5]).length ≤ J.2.1) (hd : dj < d) (hc : ∀ q, c = some q → ∀ e, dj ≤ e → Cl L xs e j [.ref a, v1, v2, v3, v4, v5] (hp s) (hr q)) (h : bM c kq = some r) (kk : ∀ s, kq s = some r → Ev L xs d mi (pc + 3) lv st (hp s) (hr r)) : Ev L xs d mi pc lv (v5 :: v4 :: v3 :: v2 :: v1 :: .ref a :: st) (hp s) (hr r) := by
  obtain ⟨s1, hq, h⟩ := bM_e h
  exact Ev.cl hh hi (mm_stepP (As := [v1, v2, v3, v4, v5]) hj o rfl hs) hj.2.2 hl hd (hc _ hq) (kk s1 h)
theorem Rd.cP5uT {i j ci dj : Nat} {a : Nat} {tm : List (Option Nat)} {v1 v2 v3 v4 v5 : Value} {J : mm_Hd} {c : Option mQ} {kq : mS → Option mQ} (hh : mm_hd mi = some H) (hi : mm_cd mi pc = some (.invokespecial i, 3, 0, j)) (hj : mm_cal j ci 5 J) (o : mm_ob a ci tm) (hs : (st.map fun v => v.category).sum ≤ 8) (hl : (lg_sl [.ref a, v1, v2, v3, v4, v5]).length ≤ J.2.1) (hin : J.2.2.2.1 = false) (hcat : H.2.2.2.2 = []) (hd : dj < d) (hc : ∀ q, c = some q → ∀ e, dj ≤ e → Cl L xs e j [.ref a, v1, v2, v3, v4, v5] (hp s) (hr q)) (h : bU c kq = some r) (kk : ∀ s, kq s = some r → Ev L xs d mi (pc + 3) lv st (hp s) (hr r)) : Ev L xs d mi pc lv (v5 :: v4 :: v3 :: v2 :: v1 :: .ref a :: st) (hp s) (hr r) := by
  rcases bU_e h with ⟨s1, hq, h⟩ | ⟨x, s1, hq, rfl⟩
  · exact Ev.cl hh hi (mm_stepP (As := [v1, v2, v3, v4, v5]) hj o rfl hs) hj.2.2 hl hd (hc _ hq) (kk s1 h)
  · exact Ev.cx hh hi (mm_stepP (As := [v1, v2, v3, v4, v5]) hj o rfl hs) hj.2.2 hl hin hcat hd (hc _ hq)
theorem Rd.cP6vN {i j ci dj : Nat} {a : Nat} {tm : List (Option Nat)} {v1 v2 v3 v4 v5 v6 : Value} {J : mm_Hd} {c : Option mQ} {kq : Int32 → mS → Option mQ} (hh : mm_hd mi = some H) (hi : mm_cd mi pc = some (.invokespecial i, 3, 0, j)) (hj : mm_cal j ci 6 J) (o : mm_ob a ci tm) (hs : (st.map fun v => v.category).sum ≤ 8) (hl : (lg_sl [.ref a, v1, v2, v3, v4, v5, v6]).length ≤ J.2.1) (hd : dj < d) (hc : ∀ q, c = some q → ∀ e, dj ≤ e → Cl L xs e j [.ref a, v1, v2, v3, v4, v5, v6] (hp s) (hr q)) (h : bN c kq = some r) (kk : ∀ v s, kq v s = some r → Ev L xs d mi (pc + 3) lv (.int v :: st) (hp s) (hr r)) : Ev L xs d mi pc lv (v6 :: v5 :: v4 :: v3 :: v2 :: v1 :: .ref a :: st) (hp s) (hr r) := by
  obtain ⟨v, s1, hq, h⟩ := bN_e h
  exact Ev.cl hh hi (mm_stepP (As := [v1, v2, v3, v4, v5, v6]) hj o rfl hs) hj.2.2 hl hd (hc _ hq) (kk v s1 h)
theorem Rd.cP6vT {i j ci dj : Nat} {a : Nat} {tm : List (Option Nat)} {v1 v2 v3 v4 v5 v6 : Value} {J : mm_Hd} {c : Option mQ} {kq : Int32 → mS → Option mQ} (hh : mm_hd mi = some H) (hi : mm_cd mi pc = some (.invokespecial i, 3, 0, j)) (hj : mm_cal j ci 6 J) (o : mm_ob a ci tm) (hs : (st.map fun v => v.category).sum ≤ 8) (hl : (lg_sl [.ref a, v1, v2, v3, v4, v5, v6]).length ≤ J.2.1) (hin : J.2.2.2.1 = false) (hcat : H.2.2.2.2 = []) (hd : dj < d) (hc : ∀ q, c = some q → ∀ e, dj ≤ e → Cl L xs e j [.ref a, v1, v2, v3, v4, v5, v6] (hp s) (hr q)) (h : bV c kq = some r) (kk : ∀ v s, kq v s = some r → Ev L xs d mi (pc + 3) lv (.int v :: st) (hp s) (hr r)) : Ev L xs d mi pc lv (v6 :: v5 :: v4 :: v3 :: v2 :: v1 :: .ref a :: st) (hp s) (hr r) := by
  rcases bV_e h with ⟨v, s1, hq, h⟩ | ⟨x, s1, hq, rfl⟩
  · exact Ev.cl hh hi (mm_stepP (As := [v1, v2, v3, v4, v5, v6]) hj o rfl hs) hj.2.2 hl hd (hc _ hq) (kk v s1 h)
  · exact Ev.cx hh hi (mm_stepP (As := [v1, v2, v3, v4, v5, v6]) hj o rfl hs) hj.2.2 hl hin hcat hd (hc _ hq)
theorem Rd.cP6uN {i j ci dj : Nat} {a : Nat} {tm : List (Option Nat)} {v1 v2 v3 v4 v5 v6 : Value} {J : mm_Hd} {c : Option mQ} {kq : mS → Option mQ} (hh : mm_hd mi = some H) (hi : mm_cd mi pc = some (.invokespecial i, 3, 0, j)) (hj : mm_cal j ci 6 J) (o : mm_ob a ci tm) (hs : (st.map fun v => v.category).sum ≤ 8) (hl : (lg_sl [.ref a, v1, v2, v3, v4, v5, v6]).length ≤ J.2.1) (hd : dj < d) (hc : ∀ q, c = some q → ∀ e, dj ≤ e → Cl L xs e j [.ref a, v1, v2, v3, v4, v5, v6] (hp s) (hr q)) (h : bM c kq = some r) (kk : ∀ s, kq s = some r → Ev L xs d mi (pc + 3) lv st (hp s) (hr r)) : Ev L xs d mi pc lv (v6 :: v5 :: v4 :: v3 :: v2 :: v1 :: .ref a :: st) (hp s) (hr r) := by
  obtain ⟨s1, hq, h⟩ := bM_e h
  exact Ev.cl hh hi (mm_stepP (As := [v1, v2, v3, v4, v5, v6]) hj o rfl hs) hj.2.2 hl hd (hc _ hq) (kk s1 h)
theorem Rd.cP6uT {i j ci dj : Nat} {a : Nat} {tm : List (Option Nat)} {v1 v2 v3 v4 v5 v6 : Value} {J : mm_Hd} {c : Option mQ} {kq : mS → Option mQ} (hh : mm_hd mi = some H) (hi : mm_cd mi pc = some (.invokespecial i, 3, 0, j)) (hj : mm_cal j ci 6 J) (o : mm_ob a ci tm) (hs : (st.map fun v => v.category).sum ≤ 8) (hl : (lg_sl [.ref a, v1, v2, v3, v4, v5, v6]).length ≤ J.2.1) (hin : J.2.2.2.1 = false) (hcat : H.2.2.2.2 = []) (hd : dj < d) (hc : ∀ q, c = some q → ∀ e, dj ≤ e → Cl L xs e j [.ref a, v1, v2, v3, v4, v5, v6] (hp s) (hr q)) (h : bU c kq = some r) (kk : ∀ s, kq s = some r → Ev L xs d mi (pc + 3) lv st (hp s) (hr r)) : Ev L xs d mi pc lv (v6 :: v5 :: v4 :: v3 :: v2 :: v1 :: .ref a :: st) (hp s) (hr r) := by
  rcases bU_e h with ⟨s1, hq, h⟩ | ⟨x, s1, hq, rfl⟩
  · exact Ev.cl hh hi (mm_stepP (As := [v1, v2, v3, v4, v5, v6]) hj o rfl hs) hj.2.2 hl hd (hc _ hq) (kk s1 h)
  · exact Ev.cx hh hi (mm_stepP (As := [v1, v2, v3, v4, v5, v6]) hj o rfl hs) hj.2.2 hl hin hcat hd (hc _ hq)
theorem Rd.cS0vN {i j ci dj : Nat} {J : mm_Hd} {c : Option mQ} {kq : Int32 → mS → Option mQ} (hh : mm_hd mi = some H) (hi : mm_cd mi pc = some (.invokestatic i, 3, 0, j)) (hj : mm_cal j ci 0 J) (hs : (st.map fun v => v.category).sum ≤ 8) (hl : (lg_sl []).length ≤ J.2.1) (hd : dj < d) (hc : ∀ q, c = some q → ∀ e, dj ≤ e → Cl L xs e j [] (hp s) (hr q)) (h : bN c kq = some r) (kk : ∀ v s, kq v s = some r → Ev L xs d mi (pc + 3) lv (.int v :: st) (hp s) (hr r)) : Ev L xs d mi pc lv (st) (hp s) (hr r) := by
  obtain ⟨v, s1, hq, h⟩ := bN_e h
  exact Ev.cl hh hi (mm_stepS (As := []) hj rfl hs) hj.2.2 hl hd (hc _ hq) (kk v s1 h)
theorem Rd.cS0vT {i j ci dj : Nat} {J : mm_Hd} {c : Option mQ} {kq : Int32 → mS → Option mQ} (hh : mm_hd mi = some H) (hi : mm_cd mi pc = some (.invokestatic i, 3, 0, j)) (hj : mm_cal j ci 0 J) (hs : (st.map fun v => v.category).sum ≤ 8) (hl : (lg_sl []).length ≤ J.2.1) (hin : J.2.2.2.1 = false) (hcat : H.2.2.2.2 = []) (hd : dj < d) (hc : ∀ q, c = some q → ∀ e, dj ≤ e → Cl L xs e j [] (hp s) (hr q)) (h : bV c kq = some r) (kk : ∀ v s, kq v s = some r → Ev L xs d mi (pc + 3) lv (.int v :: st) (hp s) (hr r)) : Ev L xs d mi pc lv (st) (hp s) (hr r) := by
  rcases bV_e h with ⟨v, s1, hq, h⟩ | ⟨x, s1, hq, rfl⟩
  · exact Ev.cl hh hi (mm_stepS (As := []) hj rfl hs) hj.2.2 hl hd (hc _ hq) (kk v s1 h)
  · exact Ev.cx hh hi (mm_stepS (As := []) hj rfl hs) hj.2.2 hl hin hcat hd (hc _ hq)
theorem Rd.cS0uN {i j ci dj : Nat} {J : mm_Hd} {c : Option mQ} {kq : mS → Option mQ} (hh : mm_hd mi = some H) (hi : mm_cd mi pc = some (.invokestatic i, 3, 0, j)) (hj : mm_cal j ci 0 J) (hs : (st.map fun v => v.category).sum ≤ 8) (hl : (lg_sl []).length ≤ J.2.1) (hd : dj < d) (hc : ∀ q, c = some q → ∀ e, dj ≤ e → Cl L xs e j [] (hp s) (hr q)) (h : bM c kq = some r) (kk : ∀ s, kq s = some r → Ev L xs d mi (pc + 3) lv st (hp s) (hr r)) : Ev L xs d mi pc lv (st) (hp s) (hr r) := by
  obtain ⟨s1, hq, h⟩ := bM_e h
  exact Ev.cl hh hi (mm_stepS (As := []) hj rfl hs) hj.2.2 hl hd (hc _ hq) (kk s1 h)
theorem Rd.cS0uT {i j ci dj : Nat} {J : mm_Hd} {c : Option mQ} {kq : mS → Option mQ} (hh : mm_hd mi = some H) (hi : mm_cd mi pc = some (.invokestatic i, 3, 0, j)) (hj : mm_cal j ci 0 J) (hs : (st.map fun v => v.category).sum ≤ 8) (hl : (lg_sl []).length ≤ J.2.1) (hin : J.2.2.2.1 = false) (hcat : H.2.2.2.2 = []) (hd : dj < d) (hc : ∀ q, c = some q → ∀ e, dj ≤ e → Cl L xs e j [] (hp s) (hr q)) (h : bU c kq = some r) (kk : ∀ s, kq s = some r → Ev L xs d mi (pc + 3) lv st (hp s) (hr r)) : Ev L xs d mi pc lv (st) (hp s) (hr r) := by
  rcases bU_e h with ⟨s1, hq, h⟩ | ⟨x, s1, hq, rfl⟩
  · exact Ev.cl hh hi (mm_stepS (As := []) hj rfl hs) hj.2.2 hl hd (hc _ hq) (kk s1 h)
  · exact Ev.cx hh hi (mm_stepS (As := []) hj rfl hs) hj.2.2 hl hin hcat hd (hc _ hq)
theorem Rd.cS1vN {i j ci dj : Nat} {v1 : Value} {J : mm_Hd} {c : Option mQ} {kq : Int32 → mS → Option mQ} (hh : mm_hd mi = some H) (hi : mm_cd mi pc = some (.invokestatic i, 3, 0, j)) (hj : mm_cal j ci 1 J) (hs : (st.map fun v => v.category).sum ≤ 8) (hl : (lg_sl [v1]).length ≤ J.2.1) (hd : dj < d) (hc : ∀ q, c = some q → ∀ e, dj ≤ e → Cl L xs e j [v1] (hp s) (hr q)) (h : bN c kq = some r) (kk : ∀ v s, kq v s = some r → Ev L xs d mi (pc + 3) lv (.int v :: st) (hp s) (hr r)) : Ev L xs d mi pc lv (v1 :: st) (hp s) (hr r) := by
  obtain ⟨v, s1, hq, h⟩ := bN_e h
  exact Ev.cl hh hi (mm_stepS (As := [v1]) hj rfl hs) hj.2.2 hl hd (hc _ hq) (kk v s1 h)
theorem Rd.cS1vT {i j ci dj : Nat} {v1 : Value} {J : mm_Hd} {c : Option mQ} {kq : Int32 → mS → Option mQ} (hh : mm_hd mi = some H) (hi : mm_cd mi pc = some (.invokestatic i, 3, 0, j)) (hj : mm_cal j ci 1 J) (hs : (st.map fun v => v.category).sum ≤ 8) (hl : (lg_sl [v1]).length ≤ J.2.1) (hin : J.2.2.2.1 = false) (hcat : H.2.2.2.2 = []) (hd : dj < d) (hc : ∀ q, c = some q → ∀ e, dj ≤ e → Cl L xs e j [v1] (hp s) (hr q)) (h : bV c kq = some r) (kk : ∀ v s, kq v s = some r → Ev L xs d mi (pc + 3) lv (.int v :: st) (hp s) (hr r)) : Ev L xs d mi pc lv (v1 :: st) (hp s) (hr r) := by
  rcases bV_e h with ⟨v, s1, hq, h⟩ | ⟨x, s1, hq, rfl⟩
  · exact Ev.cl hh hi (mm_stepS (As := [v1]) hj rfl hs) hj.2.2 hl hd (hc _ hq) (kk v s1 h)
  · exact Ev.cx hh hi (mm_stepS (As := [v1]) hj rfl hs) hj.2.2 hl hin hcat hd (hc _ hq)
theorem Rd.cS1uN {i j ci dj : Nat} {v1 : Value} {J : mm_Hd} {c : Option mQ} {kq : mS → Option mQ} (hh : mm_hd mi = some H) (hi : mm_cd mi pc = some (.invokestatic i, 3, 0, j)) (hj : mm_cal j ci 1 J) (hs : (st.map fun v => v.category).sum ≤ 8) (hl : (lg_sl [v1]).length ≤ J.2.1) (hd : dj < d) (hc : ∀ q, c = some q → ∀ e, dj ≤ e → Cl L xs e j [v1] (hp s) (hr q)) (h : bM c kq = some r) (kk : ∀ s, kq s = some r → Ev L xs d mi (pc + 3) lv st (hp s) (hr r)) : Ev L xs d mi pc lv (v1 :: st) (hp s) (hr r) := by
  obtain ⟨s1, hq, h⟩ := bM_e h
  exact Ev.cl hh hi (mm_stepS (As := [v1]) hj rfl hs) hj.2.2 hl hd (hc _ hq) (kk s1 h)
theorem Rd.cS1uT {i j ci dj : Nat} {v1 : Value} {J : mm_Hd} {c : Option mQ} {kq : mS → Option mQ} (hh : mm_hd mi = some H) (hi : mm_cd mi pc = some (.invokestatic i, 3, 0, j)) (hj : mm_cal j ci 1 J) (hs : (st.map fun v => v.category).sum ≤ 8) (hl : (lg_sl [v1]).length ≤ J.2.1) (hin : J.2.2.2.1 = false) (hcat : H.2.2.2.2 = []) (hd : dj < d) (hc : ∀ q, c = some q → ∀ e, dj ≤ e → Cl L xs e j [v1] (hp s) (hr q)) (h : bU c kq = some r) (kk : ∀ s, kq s = some r → Ev L xs d mi (pc + 3) lv st (hp s) (hr r)) : Ev L xs d mi pc lv (v1 :: st) (hp s) (hr r) := by
  rcases bU_e h with ⟨s1, hq, h⟩ | ⟨x, s1, hq, rfl⟩
  · exact Ev.cl hh hi (mm_stepS (As := [v1]) hj rfl hs) hj.2.2 hl hd (hc _ hq) (kk s1 h)
  · exact Ev.cx hh hi (mm_stepS (As := [v1]) hj rfl hs) hj.2.2 hl hin hcat hd (hc _ hq)
theorem Rd.cS2vN {i j ci dj : Nat} {v1 v2 : Value} {J : mm_Hd} {c : Option mQ} {kq : Int32 → mS → Option mQ} (hh : mm_hd mi = some H) (hi : mm_cd mi pc = some (.invokestatic i, 3, 0, j)) (hj : mm_cal j ci 2 J) (hs : (st.map fun v => v.category).sum ≤ 8) (hl : (lg_sl [v1, v2]).length ≤ J.2.1) (hd : dj < d) (hc : ∀ q, c = some q → ∀ e, dj ≤ e → Cl L xs e j [v1, v2] (hp s) (hr q)) (h : bN c kq = some r) (kk : ∀ v s, kq v s = some r → Ev L xs d mi (pc + 3) lv (.int v :: st) (hp s) (hr r)) : Ev L xs d mi pc lv (v2 :: v1 :: st) (hp s) (hr r) := by
  obtain ⟨v, s1, hq, h⟩ := bN_e h
  exact Ev.cl hh hi (mm_stepS (As := [v1, v2]) hj rfl hs) hj.2.2 hl hd (hc _ hq) (kk v s1 h)
theorem Rd.cS2vT {i j ci dj : Nat} {v1 v2 : Value} {J : mm_Hd} {c : Option mQ} {kq : Int32 → mS → Option mQ} (hh : mm_hd mi = some H) (hi : mm_cd mi pc = some (.invokestatic i, 3, 0, j)) (hj : mm_cal j ci 2 J) (hs : (st.map fun v => v.category).sum ≤ 8) (hl : (lg_sl [v1, v2]).length ≤ J.2.1) (hin : J.2.2.2.1 = false) (hcat : H.2.2.2.2 = []) (hd : dj < d) (hc : ∀ q, c = some q → ∀ e, dj ≤ e → Cl L xs e j [v1, v2] (hp s) (hr q)) (h : bV c kq = some r) (kk : ∀ v s, kq v s = some r → Ev L xs d mi (pc + 3) lv (.int v :: st) (hp s) (hr r)) : Ev L xs d mi pc lv (v2 :: v1 :: st) (hp s) (hr r) := by
  rcases bV_e h with ⟨v, s1, hq, h⟩ | ⟨x, s1, hq, rfl⟩
  · exact Ev.cl hh hi (mm_stepS (As := [v1, v2]) hj rfl hs) hj.2.2 hl hd (hc _ hq) (kk v s1 h)
  · exact Ev.cx hh hi (mm_stepS (As := [v1, v2]) hj rfl hs) hj.2.2 hl hin hcat hd (hc _ hq)
theorem Rd.cS2uN {i j ci dj : Nat} {v1 v2 : Value} {J : mm_Hd} {c : Option mQ} {kq : mS → Option mQ} (hh : mm_hd mi = some H) (hi : mm_cd mi pc = some (.invokestatic i, 3, 0, j)) (hj : mm_cal j ci 2 J) (hs : (st.map fun v => v.category).sum ≤ 8) (hl : (lg_sl [v1, v2]).length ≤ J.2.1) (hd : dj < d) (hc : ∀ q, c = some q → ∀ e, dj ≤ e → Cl L xs e j [v1, v2] (hp s) (hr q)) (h : bM c kq = some r) (kk : ∀ s, kq s = some r → Ev L xs d mi (pc + 3) lv st (hp s) (hr r)) : Ev L xs d mi pc lv (v2 :: v1 :: st) (hp s) (hr r) := by
  obtain ⟨s1, hq, h⟩ := bM_e h
  exact Ev.cl hh hi (mm_stepS (As := [v1, v2]) hj rfl hs) hj.2.2 hl hd (hc _ hq) (kk s1 h)
theorem Rd.cS2uT {i j ci dj : Nat} {v1 v2 : Value} {J : mm_Hd} {c : Option mQ} {kq : mS → Option mQ} (hh : mm_hd mi = some H) (hi : mm_cd mi pc = some (.invokestatic i, 3, 0, j)) (hj : mm_cal j ci 2 J) (hs : (st.map fun v => v.category).sum ≤ 8) (hl : (lg_sl [v1, v2]).length ≤ J.2.1) (hin : J.2.2.2.1 = false) (hcat : H.2.2.2.2 = []) (hd : dj < d) (hc : ∀ q, c = some q → ∀ e, dj ≤ e → Cl L xs e j [v1, v2] (hp s) (hr q)) (h : bU c kq = some r) (kk : ∀ s, kq s = some r → Ev L xs d mi (pc + 3) lv st (hp s) (hr r)) : Ev L xs d mi pc lv (v2 :: v1 :: st) (hp s) (hr r) := by
  rcases bU_e h with ⟨s1, hq, h⟩ | ⟨x, s1, hq, rfl⟩
  · exact Ev.cl hh hi (mm_stepS (As := [v1, v2]) hj rfl hs) hj.2.2 hl hd (hc _ hq) (kk s1 h)
  · exact Ev.cx hh hi (mm_stepS (As := [v1, v2]) hj rfl hs) hj.2.2 hl hin hcat hd (hc _ hq)
theorem Rd.cS3vN {i j ci dj : Nat} {v1 v2 v3 : Value} {J : mm_Hd} {c : Option mQ} {kq : Int32 → mS → Option mQ} (hh : mm_hd mi = some H) (hi : mm_cd mi pc = some (.invokestatic i, 3, 0, j)) (hj : mm_cal j ci 3 J) (hs : (st.map fun v => v.category).sum ≤ 8) (hl : (lg_sl [v1, v2, v3]).length ≤ J.2.1) (hd : dj < d) (hc : ∀ q, c = some q → ∀ e, dj ≤ e → Cl L xs e j [v1, v2, v3] (hp s) (hr q)) (h : bN c kq = some r) (kk : ∀ v s, kq v s = some r → Ev L xs d mi (pc + 3) lv (.int v :: st) (hp s) (hr r)) : Ev L xs d mi pc lv (v3 :: v2 :: v1 :: st) (hp s) (hr r) := by
  obtain ⟨v, s1, hq, h⟩ := bN_e h
  exact Ev.cl hh hi (mm_stepS (As := [v1, v2, v3]) hj rfl hs) hj.2.2 hl hd (hc _ hq) (kk v s1 h)
theorem Rd.cS3vT {i j ci dj : Nat} {v1 v2 v3 : Value} {J : mm_Hd} {c : Option mQ} {kq : Int32 → mS → Option mQ} (hh : mm_hd mi = some H) (hi : mm_cd mi pc = some (.invokestatic i, 3, 0, j)) (hj : mm_cal j ci 3 J) (hs : (st.map fun v => v.category).sum ≤ 8) (hl : (lg_sl [v1, v2, v3]).length ≤ J.2.1) (hin : J.2.2.2.1 = false) (hcat : H.2.2.2.2 = []) (hd : dj < d) (hc : ∀ q, c = some q → ∀ e, dj ≤ e → Cl L xs e j [v1, v2, v3] (hp s) (hr q)) (h : bV c kq = some r) (kk : ∀ v s, kq v s = some r → Ev L xs d mi (pc + 3) lv (.int v :: st) (hp s) (hr r)) : Ev L xs d mi pc lv (v3 :: v2 :: v1 :: st) (hp s) (hr r) := by
  rcases bV_e h with ⟨v, s1, hq, h⟩ | ⟨x, s1, hq, rfl⟩
  · exact Ev.cl hh hi (mm_stepS (As := [v1, v2, v3]) hj rfl hs) hj.2.2 hl hd (hc _ hq) (kk v s1 h)
  · exact Ev.cx hh hi (mm_stepS (As := [v1, v2, v3]) hj rfl hs) hj.2.2 hl hin hcat hd (hc _ hq)
theorem Rd.cS3uN {i j ci dj : Nat} {v1 v2 v3 : Value} {J : mm_Hd} {c : Option mQ} {kq : mS → Option mQ} (hh : mm_hd mi = some H) (hi : mm_cd mi pc = some (.invokestatic i, 3, 0, j)) (hj : mm_cal j ci 3 J) (hs : (st.map fun v => v.category).sum ≤ 8) (hl : (lg_sl [v1, v2, v3]).length ≤ J.2.1) (hd : dj < d) (hc : ∀ q, c = some q → ∀ e, dj ≤ e → Cl L xs e j [v1, v2, v3] (hp s) (hr q)) (h : bM c kq = some r) (kk : ∀ s, kq s = some r → Ev L xs d mi (pc + 3) lv st (hp s) (hr r)) : Ev L xs d mi pc lv (v3 :: v2 :: v1 :: st) (hp s) (hr r) := by
  obtain ⟨s1, hq, h⟩ := bM_e h
  exact Ev.cl hh hi (mm_stepS (As := [v1, v2, v3]) hj rfl hs) hj.2.2 hl hd (hc _ hq) (kk s1 h)
theorem Rd.cS3uT {i j ci dj : Nat} {v1 v2 v3 : Value} {J : mm_Hd} {c : Option mQ} {kq : mS → Option mQ} (hh : mm_hd mi = some H) (hi : mm_cd mi pc = some (.invokestatic i, 3, 0, j)) (hj : mm_cal j ci 3 J) (hs : (st.map fun v => v.category).sum ≤ 8) (hl : (lg_sl [v1, v2, v3]).length ≤ J.2.1) (hin : J.2.2.2.1 = false) (hcat : H.2.2.2.2 = []) (hd : dj < d) (hc : ∀ q, c = some q → ∀ e, dj ≤ e → Cl L xs e j [v1, v2, v3] (hp s) (hr q)) (h : bU c kq = some r) (kk : ∀ s, kq s = some r → Ev L xs d mi (pc + 3) lv st (hp s) (hr r)) : Ev L xs d mi pc lv (v3 :: v2 :: v1 :: st) (hp s) (hr r) := by
  rcases bU_e h with ⟨s1, hq, h⟩ | ⟨x, s1, hq, rfl⟩
  · exact Ev.cl hh hi (mm_stepS (As := [v1, v2, v3]) hj rfl hs) hj.2.2 hl hd (hc _ hq) (kk s1 h)
  · exact Ev.cx hh hi (mm_stepS (As := [v1, v2, v3]) hj rfl hs) hj.2.2 hl hin hcat hd (hc _ hq)
theorem Rd.cS4vN {i j ci dj : Nat} {v1 v2 v3 v4 : Value} {J : mm_Hd} {c : Option mQ} {kq : Int32 → mS → Option mQ} (hh : mm_hd mi = some H) (hi : mm_cd mi pc = some (.invokestatic i, 3, 0, j)) (hj : mm_cal j ci 4 J) (hs : (st.map fun v => v.category).sum ≤ 8) (hl : (lg_sl [v1, v2, v3, v4]).length ≤ J.2.1) (hd : dj < d) (hc : ∀ q, c = some q → ∀ e, dj ≤ e → Cl L xs e j [v1, v2, v3, v4] (hp s) (hr q)) (h : bN c kq = some r) (kk : ∀ v s, kq v s = some r → Ev L xs d mi (pc + 3) lv (.int v :: st) (hp s) (hr r)) : Ev L xs d mi pc lv (v4 :: v3 :: v2 :: v1 :: st) (hp s) (hr r) := by
  obtain ⟨v, s1, hq, h⟩ := bN_e h
  exact Ev.cl hh hi (mm_stepS (As := [v1, v2, v3, v4]) hj rfl hs) hj.2.2 hl hd (hc _ hq) (kk v s1 h)
theorem Rd.cS4vT {i j ci dj : Nat} {v1 v2 v3 v4 : Value} {J : mm_Hd} {c : Option mQ} {kq : Int32 → mS → Option mQ} (hh : mm_hd mi = some H) (hi : mm_cd mi pc = some (.invokestatic i, 3, 0, j)) (hj : mm_cal j ci 4 J) (hs : (st.map fun v => v.category).sum ≤ 8) (hl : (lg_sl [v1, v2, v3, v4]).length ≤ J.2.1) (hin : J.2.2.2.1 = false) (hcat : H.2.2.2.2 = []) (hd : dj < d) (hc : ∀ q, c = some q → ∀ e, dj ≤ e → Cl L xs e j [v1, v2, v3, v4] (hp s) (hr q)) (h : bV c kq = some r) (kk : ∀ v s, kq v s = some r → Ev L xs d mi (pc + 3) lv (.int v :: st) (hp s) (hr r)) : Ev L xs d mi pc lv (v4 :: v3 :: v2 :: v1 :: st) (hp s) (hr r) := by
  rcases bV_e h with ⟨v, s1, hq, h⟩ | ⟨x, s1, hq, rfl⟩
  · exact Ev.cl hh hi (mm_stepS (As := [v1, v2, v3, v4]) hj rfl hs) hj.2.2 hl hd (hc _ hq) (kk v s1 h)
  · exact Ev.cx hh hi (mm_stepS (As := [v1, v2, v3, v4]) hj rfl hs) hj.2.2 hl hin hcat hd (hc _ hq)
theorem Rd.cS4uN {i j ci dj : Nat} {v1 v2 v3 v4 : Value} {J : mm_Hd} {c : Option mQ} {kq : mS → Option mQ} (hh : mm_hd mi = some H) (hi : mm_cd mi pc = some (.invokestatic i, 3, 0, j)) (hj : mm_cal j ci 4 J) (hs : (st.map fun v => v.category).sum ≤ 8) (hl : (lg_sl [v1, v2, v3, v4]).length ≤ J.2.1) (hd : dj < d) (hc : ∀ q, c = some q → ∀ e, dj ≤ e → Cl L xs e j [v1, v2, v3, v4] (hp s) (hr q)) (h : bM c kq = some r) (kk : ∀ s, kq s = some r → Ev L xs d mi (pc + 3) lv st (hp s) (hr r)) : Ev L xs d mi pc lv (v4 :: v3 :: v2 :: v1 :: st) (hp s) (hr r) := by
  obtain ⟨s1, hq, h⟩ := bM_e h
  exact Ev.cl hh hi (mm_stepS (As := [v1, v2, v3, v4]) hj rfl hs) hj.2.2 hl hd (hc _ hq) (kk s1 h)
theorem Rd.cS4uT {i j ci dj : Nat} {v1 v2 v3 v4 : Value} {J : mm_Hd} {c : Option mQ} {kq : mS → Option mQ} (hh : mm_hd mi = some H) (hi : mm_cd mi pc = some (.invokestatic i, 3, 0, j)) (hj : mm_cal j ci 4 J) (hs : (st.map fun v => v.category).sum ≤ 8) (hl : (lg_sl [v1, v2, v3, v4]).length ≤ J.2.1) (hin : J.2.2.2.1 = false) (hcat : H.2.2.2.2 = []) (hd : dj < d) (hc : ∀ q, c = some q → ∀ e, dj ≤ e → Cl L xs e j [v1, v2, v3, v4] (hp s) (hr q)) (h : bU c kq = some r) (kk : ∀ s, kq s = some r → Ev L xs d mi (pc + 3) lv st (hp s) (hr r)) : Ev L xs d mi pc lv (v4 :: v3 :: v2 :: v1 :: st) (hp s) (hr r) := by
  rcases bU_e h with ⟨s1, hq, h⟩ | ⟨x, s1, hq, rfl⟩
  · exact Ev.cl hh hi (mm_stepS (As := [v1, v2, v3, v4]) hj rfl hs) hj.2.2 hl hd (hc _ hq) (kk s1 h)
  · exact Ev.cx hh hi (mm_stepS (As := [v1, v2, v3, v4]) hj rfl hs) hj.2.2 hl hin hcat hd (hc _ hq)
theorem Rd.cS5vN {i j ci dj : Nat} {v1 v2 v3 v4 v5 : Value} {J : mm_Hd} {c : Option mQ} {kq : Int32 → mS → Option mQ} (hh : mm_hd mi = some H) (hi : mm_cd mi pc = some (.invokestatic i, 3, 0, j)) (hj : mm_cal j ci 5 J) (hs : (st.map fun v => v.category).sum ≤ 8) (hl : (lg_sl [v1, v2, v3, v4, v5]).length ≤ J.2.1) (hd : dj < d) (hc : ∀ q, c = some q → ∀ e, dj ≤ e → Cl L xs e j [v1, v2, v3, v4, v5] (hp s) (hr q)) (h : bN c kq = some r) (kk : ∀ v s, kq v s = some r → Ev L xs d mi (pc + 3) lv (.int v :: st) (hp s) (hr r)) : Ev L xs d mi pc lv (v5 :: v4 :: v3 :: v2 :: v1 :: st) (hp s) (hr r) := by
  obtain ⟨v, s1, hq, h⟩ := bN_e h
  exact Ev.cl hh hi (mm_stepS (As := [v1, v2, v3, v4, v5]) hj rfl hs) hj.2.2 hl hd (hc _ hq) (kk v s1 h)
theorem Rd.cS5vT {i j ci dj : Nat} {v1 v2 v3 v4 v5 : Value} {J : mm_Hd} {c : Option mQ} {kq : Int32 → mS → Option mQ} (hh : mm_hd mi = some H) (hi : mm_cd mi pc = some (.invokestatic i, 3, 0, j)) (hj : mm_cal j ci 5 J) (hs : (st.map fun v => v.category).sum ≤ 8) (hl : (lg_sl [v1, v2, v3, v4, v5]).length ≤ J.2.1) (hin : J.2.2.2.1 = false) (hcat : H.2.2.2.2 = []) (hd : dj < d) (hc : ∀ q, c = some q → ∀ e, dj ≤ e → Cl L xs e j [v1, v2, v3, v4, v5] (hp s) (hr q)) (h : bV c kq = some r) (kk : ∀ v s, kq v s = some r → Ev L xs d mi (pc + 3) lv (.int v :: st) (hp s) (hr r)) : Ev L xs d mi pc lv (v5 :: v4 :: v3 :: v2 :: v1 :: st) (hp s) (hr r) := by
  rcases bV_e h with ⟨v, s1, hq, h⟩ | ⟨x, s1, hq, rfl⟩
  · exact Ev.cl hh hi (mm_stepS (As := [v1, v2, v3, v4, v5]) hj rfl hs) hj.2.2 hl hd (hc _ hq) (kk v s1 h)
  · exact Ev.cx hh hi (mm_stepS (As := [v1, v2, v3, v4, v5]) hj rfl hs) hj.2.2 hl hin hcat hd (hc _ hq)
theorem Rd.cS5uN {i j ci dj : Nat} {v1 v2 v3 v4 v5 : Value} {J : mm_Hd} {c : Option mQ} {kq : mS → Option mQ} (hh : mm_hd mi = some H) (hi : mm_cd mi pc = some (.invokestatic i, 3, 0, j)) (hj : mm_cal j ci 5 J) (hs : (st.map fun v => v.category).sum ≤ 8) (hl : (lg_sl [v1, v2, v3, v4, v5]).length ≤ J.2.1) (hd : dj < d) (hc : ∀ q, c = some q → ∀ e, dj ≤ e → Cl L xs e j [v1, v2, v3, v4, v5] (hp s) (hr q)) (h : bM c kq = some r) (kk : ∀ s, kq s = some r → Ev L xs d mi (pc + 3) lv st (hp s) (hr r)) : Ev L xs d mi pc lv (v5 :: v4 :: v3 :: v2 :: v1 :: st) (hp s) (hr r) := by
  obtain ⟨s1, hq, h⟩ := bM_e h
  exact Ev.cl hh hi (mm_stepS (As := [v1, v2, v3, v4, v5]) hj rfl hs) hj.2.2 hl hd (hc _ hq) (kk s1 h)
theorem Rd.cS5uT {i j ci dj : Nat} {v1 v2 v3 v4 v5 : Value} {J : mm_Hd} {c : Option mQ} {kq : mS → Option mQ} (hh : mm_hd mi = some H) (hi : mm_cd mi pc = some (.invokestatic i, 3, 0, j)) (hj : mm_cal j ci 5 J) (hs : (st.map fun v => v.category).sum ≤ 8) (hl : (lg_sl [v1, v2, v3, v4, v5]).length ≤ J.2.1) (hin : J.2.2.2.1 = false) (hcat : H.2.2.2.2 = []) (hd : dj < d) (hc : ∀ q, c = some q → ∀ e, dj ≤ e → Cl L xs e j [v1, v2, v3, v4, v5] (hp s) (hr q)) (h : bU c kq = some r) (kk : ∀ s, kq s = some r → Ev L xs d mi (pc + 3) lv st (hp s) (hr r)) : Ev L xs d mi pc lv (v5 :: v4 :: v3 :: v2 :: v1 :: st) (hp s) (hr r) := by
  rcases bU_e h with ⟨s1, hq, h⟩ | ⟨x, s1, hq, rfl⟩
  · exact Ev.cl hh hi (mm_stepS (As := [v1, v2, v3, v4, v5]) hj rfl hs) hj.2.2 hl hd (hc _ hq) (kk s1 h)
  · exact Ev.cx hh hi (mm_stepS (As := [v1, v2, v3, v4, v5]) hj rfl hs) hj.2.2 hl hin hcat hd (hc _ hq)
theorem Rd.cS6vN {i j ci dj : Nat} {v1 v2 v3 v4 v5 v6 : Value} {J : mm_Hd} {c : Option mQ} {kq : Int32 → mS → Option mQ} (hh : mm_hd mi = some H) (hi : mm_cd mi pc = some (.invokestatic i, 3, 0, j)) (hj : mm_cal j ci 6 J) (hs : (st.map fun v => v.category).sum ≤ 8) (hl : (lg_sl [v1, v2, v3, v4, v5, v6]).length ≤ J.2.1) (hd : dj < d) (hc : ∀ q, c = some q → ∀ e, dj ≤ e → Cl L xs e j [v1, v2, v3, v4, v5, v6] (hp s) (hr q)) (h : bN c kq = some r) (kk : ∀ v s, kq v s = some r → Ev L xs d mi (pc + 3) lv (.int v :: st) (hp s) (hr r)) : Ev L xs d mi pc lv (v6 :: v5 :: v4 :: v3 :: v2 :: v1 :: st) (hp s) (hr r) := by
  obtain ⟨v, s1, hq, h⟩ := bN_e h
  exact Ev.cl hh hi (mm_stepS (As := [v1, v2, v3, v4, v5, v6]) hj rfl hs) hj.2.2 hl hd (hc _ hq) (kk v s1 h)
theorem Rd.cS6vT {i j ci dj : Nat} {v1 v2 v3 v4 v5 v6 : Value} {J : mm_Hd} {c : Option mQ} {kq : Int32 → mS → Option mQ} (hh : mm_hd mi = some H) (hi : mm_cd mi pc = some (.invokestatic i, 3, 0, j)) (hj : mm_cal j ci 6 J) (hs : (st.map fun v => v.category).sum ≤ 8) (hl : (lg_sl [v1, v2, v3, v4, v5, v6]).length ≤ J.2.1) (hin : J.2.2.2.1 = false) (hcat : H.2.2.2.2 = []) (hd : dj < d) (hc : ∀ q, c = some q → ∀ e, dj ≤ e → Cl L xs e j [v1, v2, v3, v4, v5, v6] (hp s) (hr q)) (h : bV c kq = some r) (kk : ∀ v s, kq v s = some r → Ev L xs d mi (pc + 3) lv (.int v :: st) (hp s) (hr r)) : Ev L xs d mi pc lv (v6 :: v5 :: v4 :: v3 :: v2 :: v1 :: st) (hp s) (hr r) := by
  rcases bV_e h with ⟨v, s1, hq, h⟩ | ⟨x, s1, hq, rfl⟩
  · exact Ev.cl hh hi (mm_stepS (As := [v1, v2, v3, v4, v5, v6]) hj rfl hs) hj.2.2 hl hd (hc _ hq) (kk v s1 h)
  · exact Ev.cx hh hi (mm_stepS (As := [v1, v2, v3, v4, v5, v6]) hj rfl hs) hj.2.2 hl hin hcat hd (hc _ hq)
theorem Rd.cS6uN {i j ci dj : Nat} {v1 v2 v3 v4 v5 v6 : Value} {J : mm_Hd} {c : Option mQ} {kq : mS → Option mQ} (hh : mm_hd mi = some H) (hi : mm_cd mi pc = some (.invokestatic i, 3, 0, j)) (hj : mm_cal j ci 6 J) (hs : (st.map fun v => v.category).sum ≤ 8) (hl : (lg_sl [v1, v2, v3, v4, v5, v6]).length ≤ J.2.1) (hd : dj < d) (hc : ∀ q, c = some q → ∀ e, dj ≤ e → Cl L xs e j [v1, v2, v3, v4, v5, v6] (hp s) (hr q)) (h : bM c kq = some r) (kk : ∀ s, kq s = some r → Ev L xs d mi (pc + 3) lv st (hp s) (hr r)) : Ev L xs d mi pc lv (v6 :: v5 :: v4 :: v3 :: v2 :: v1 :: st) (hp s) (hr r) := by
  obtain ⟨s1, hq, h⟩ := bM_e h
  exact Ev.cl hh hi (mm_stepS (As := [v1, v2, v3, v4, v5, v6]) hj rfl hs) hj.2.2 hl hd (hc _ hq) (kk s1 h)
theorem Rd.cS6uT {i j ci dj : Nat} {v1 v2 v3 v4 v5 v6 : Value} {J : mm_Hd} {c : Option mQ} {kq : mS → Option mQ} (hh : mm_hd mi = some H) (hi : mm_cd mi pc = some (.invokestatic i, 3, 0, j)) (hj : mm_cal j ci 6 J) (hs : (st.map fun v => v.category).sum ≤ 8) (hl : (lg_sl [v1, v2, v3, v4, v5, v6]).length ≤ J.2.1) (hin : J.2.2.2.1 = false) (hcat : H.2.2.2.2 = []) (hd : dj < d) (hc : ∀ q, c = some q → ∀ e, dj ≤ e → Cl L xs e j [v1, v2, v3, v4, v5, v6] (hp s) (hr q)) (h : bU c kq = some r) (kk : ∀ s, kq s = some r → Ev L xs d mi (pc + 3) lv st (hp s) (hr r)) : Ev L xs d mi pc lv (v6 :: v5 :: v4 :: v3 :: v2 :: v1 :: st) (hp s) (hr r) := by
  rcases bU_e h with ⟨s1, hq, h⟩ | ⟨x, s1, hq, rfl⟩
  · exact Ev.cl hh hi (mm_stepS (As := [v1, v2, v3, v4, v5, v6]) hj rfl hs) hj.2.2 hl hd (hc _ hq) (kk s1 h)
  · exact Ev.cx hh hi (mm_stepS (As := [v1, v2, v3, v4, v5, v6]) hj rfl hs) hj.2.2 hl hin hcat hd (hc _ hq)
end EVS
theorem mm_sub_n {l : mm_L} : mm_sub [] l := trivial
theorem mm_sub_c {l r : mm_L} {i : Nat} {v : Value} (h1 : mm_look l i = some v) (h2 : mm_sub r l) : mm_sub ((i, v) :: r) l := ⟨h1, h2⟩
