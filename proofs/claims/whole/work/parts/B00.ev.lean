theorem sD_sh {H : Hp} {a f : Nat} {v : Int32} : (H.sD a f v).sh = H.sh := rfl
theorem sD_P {H : Hp} {a f : Nat} {v : Int32} : (H.sD a f v).P = H.P := rfl
theorem sD_L {H : Hp} {a f : Nat} {v : Int32} : (H.sD a f v).L = H.L := rfl
theorem sD_D {H : Hp} {a f : Nat} {v : Int32} : (H.sD a f v).D = up2 H.D a f v := rfl
theorem sP_sh {H : Hp} {a f : Nat} {v : Value} : (H.sP a f v).sh = H.sh := rfl
theorem sP_D {H : Hp} {a f : Nat} {v : Value} : (H.sP a f v).D = H.D := rfl
theorem sP_P {H : Hp} {a f : Nat} {v : Value} : (H.sP a f v).P = up2 H.P a f v := rfl
theorem cpy_sh {H : Hp} {a b s d n : Nat} : (H.cpy a b s d n).sh = H.sh := rfl
theorem cpy_P {H : Hp} {a b s d n : Nat} : (H.cpy a b s d n).P = H.P := rfl
theorem cpy_D {H : Hp} {a b s d n : Nat} : (H.cpy a b s d n).D = fun x => if x = b then va_cpy (H.D a) (H.D b) s d n else H.D x := rfl
theorem ck_t {α : Type} {c : Prop} [Decidable c] {x : Option α} (h : c) : ck c x = x := if_pos h
theorem ar_t {α : Type} {H : Hp} {k a n : Nat} {K : Nat → Option α} (h : H.sh[a]? = some (k, n)) : ar H k a K = K n := by unfold ar; rw [h]; exact if_pos rfl
theorem rf_t {α : Type} {v : Value} {a : Nat} {K : Nat → Option α} (h : v = .ref a) : rf v K = K a := by subst h; rfl
theorem bC_t {α β : Type} {m : Option (α × Hp)} {v : α} {H : Hp} {K : α → Hp → Option β} (h : m = some (v, H)) : bC m K = K v H := by subst h; rfl
theorem bT_t {α β : Type} {m : Option (Ot α × Hp)} {v : α} {H : Hp} {K : α → Hp → Option (Ot β × Hp)} (h : m = some (.inl v, H)) : bT m K = K v H := by subst h; rfl
theorem bT_x {α β : Type} {m : Option (Ot α × Hp)} {x : Nat} {H : Hp} {K : α → Hp → Option (Ot β × Hp)} (h : m = some (.inr x, H)) : bT m K = some (.inr x, H) := by subst h; rfl
theorem bnd_t {α β : Type} {e : α} {k : α → β} : bnd e k = k e := rfl
theorem on_t {α : Type} {a : Nat} {K : Nat → Option α} : on (some a) K = K a := rfl
/-- a loop that counts up: S i is the heap at its i-th turn -/
theorem cnt {α : Type} (B : Nat → Int32 → Hp → α) (S : Nat → Hp) (n : Nat) (h : ∀ m i, i < n → B (m + 1) (nI i) (S i) = B m (nI (i + 1)) (S (i + 1))) : ∀ (k m i : Nat), i + k = n → B (m + k) (nI i) (S i) = B m (nI n) (S n) := by
  intro k
  induction k with
  | zero => intro m i hi; have : i = n := by omega
            subst this; rfl
  | succ k ih =>
    intro m i hi
    rw [show m + (k + 1) = (m + k) + 1 by omega, h (m + k) i (by omega)]
    exact ih m (i + 1) (by omega)
theorem cnt0 {α : Type} {B : Nat → Int32 → Hp → α} {N n : Nat} (S : Nat → Hp) (hN : n ≤ N) (h : ∀ m i, i < n → B (m + 1) (nI i) (S i) = B m (nI (i + 1)) (S (i + 1))) : B N 0 (S 0) = B (N - n) (nI n) (S n) := by
  have e := cnt B S n h n (N - n) 0 (by omega)
  rw [show N - n + n = N by omega] at e
  exact e
/-- the static heap: shapes; final references -/
def sh0 : List (Nat × Nat) := [(0, 0), (1, 0), (101, 6000), (100, 6001), (100, 6001), (100, 6001), (102, 6001), (100, 42), (5, 0), (6, 0), (100, 21), (10, 0), (7, 0), (100, 256), (100, 256), (100, 12288), (100, 1792), (100, 32), (105, 16), (7, 0), (100, 256), (100, 256), (100, 12288), (100, 1792), (100, 32), (7, 0), (100, 256), (100, 256), (100, 12288), (100, 1792), (100, 32), (7, 0), (100, 256), (100, 256), (100, 12288), (100, 1792), (100, 32), (7, 0), (100, 256), (100, 256), (100, 12288), (100, 1792), (100, 32), (7, 0), (100, 256), (100, 256), (100, 12288), (100, 1792), (100, 32), (7, 0), (100, 256), (100, 256), (100, 12288), (100, 1792), (100, 32), (7, 0), (100, 256), (100, 256), (100, 12288), (100, 1792), (100, 32), (7, 0), (100, 256), (100, 256), (100, 12288), (100, 1792), (100, 32), (7, 0), (100, 256), (100, 256), (100, 12288), (100, 1792), (100, 32), (7, 0), (100, 256), (100, 256), (100, 12288), (100, 1792), (100, 32), (7, 0), (100, 256), (100, 256), (100, 12288), (100, 1792), (100, 32), (7, 0), (100, 256), (100, 256), (100, 12288), (100, 1792), (100, 32), (7, 0), (100, 256), (100, 256), (100, 12288), (100, 1792), (100, 32), (7, 0), (100, 256), (100, 256), (100, 12288), (100, 1792), (100, 32), (7, 0), (100, 256), (100, 256), (100, 12288), (100, 1792), (100, 32), (7, 0), (100, 256), (100, 256), (100, 12288), (100, 1792), (100, 32), (100, 256), (9, 0), (8, 0), (100, 704), (100, 160), (100, 12), (100, 21), (100, 21), (100, 11), (100, 48), (102, 256), (100, 256), (100, 4), (100, 16), (100, 64), (100, 4), (11, 0), (101, 60000), (4, 0), (106, 68), (2, 0), (2, 0), (2, 0), (2, 0), (2, 0), (2, 0), (2, 0), (2, 0), (2, 0), (2, 0), (2, 0), (2, 0), (2, 0), (2, 0), (2, 0), (2, 0), (2, 0), (2, 0), (2, 0), (2, 0), (2, 0), (2, 0), (2, 0), (2, 0), (2, 0), (2, 0), (2, 0), (2, 0), (2, 0), (2, 0), (2, 0), (2, 0), (2, 0), (2, 0), (2, 0), (2, 0), (2, 0), (2, 0), (2, 0), (2, 0), (2, 0), (2, 0), (2, 0), (2, 0), (2, 0), (2, 0), (2, 0), (2, 0), (2, 0), (2, 0), (2, 0), (2, 0), (2, 0), (2, 0), (2, 0), (2, 0), (2, 0), (2, 0), (2, 0), (2, 0), (2, 0), (2, 0), (2, 0), (2, 0), (2, 0), (2, 0), (2, 0), (2, 0), (3, 0), (106, 16), (2, 0), (2, 0), (2, 0), (2, 0), (2, 0), (2, 0), (2, 0), (2, 0), (2, 0), (2, 0), (2, 0), (2, 0), (2, 0), (2, 0), (2, 0), (2, 0), (106, 48), (2, 0), (2, 0), (2, 0), (2, 0), (2, 0), (2, 0), (2, 0), (2, 0), (2, 0), (2, 0), (2, 0), (2, 0), (2, 0), (2, 0), (2, 0), (2, 0), (2, 0), (2, 0), (2, 0), (2, 0), (2, 0), (2, 0), (2, 0), (2, 0), (2, 0), (2, 0), (2, 0), (2, 0), (2, 0), (2, 0), (2, 0), (2, 0), (2, 0), (2, 0), (2, 0), (2, 0), (2, 0), (2, 0), (2, 0), (2, 0), (2, 0), (2, 0), (2, 0), (2, 0), (2, 0), (2, 0), (2, 0), (2, 0), (100, 17), (3, 0), (106, 8), (2, 0), (2, 0), (2, 0), (2, 0), (2, 0), (2, 0), (2, 0), (2, 0), (106, 32), (2, 0), (2, 0), (2, 0), (2, 0), (2, 0), (2, 0), (2, 0), (2, 0), (2, 0), (2, 0), (2, 0), (2, 0), (2, 0), (2, 0), (2, 0), (2, 0), (2, 0), (2, 0), (2, 0), (2, 0), (2, 0), (2, 0), (2, 0), (2, 0), (2, 0), (2, 0), (2, 0), (2, 0), (2, 0), (2, 0), (2, 0), (2, 0), (100, 9), (100, 16), (100, 768), (100, 16), (100, 16), (100, 16), (100, 16), (100, 16), (100, 16), (100, 16), (100, 12000), (4, 0), (106, 68), (2, 0), (2, 0), (2, 0), (2, 0), (2, 0), (2, 0), (2, 0), (2, 0), (2, 0), (2, 0), (2, 0), (2, 0), (2, 0), (2, 0), (2, 0), (2, 0), (2, 0), (2, 0), (2, 0), (2, 0), (2, 0), (2, 0), (2, 0), (2, 0), (2, 0), (2, 0), (2, 0), (2, 0), (2, 0), (2, 0), (2, 0), (2, 0), (2, 0), (2, 0), (2, 0), (2, 0), (2, 0), (2, 0), (2, 0), (2, 0), (2, 0), (2, 0), (2, 0), (2, 0), (2, 0), (2, 0), (2, 0), (2, 0), (2, 0), (2, 0), (2, 0), (2, 0), (2, 0), (2, 0), (2, 0), (2, 0), (2, 0), (2, 0), (2, 0), (2, 0), (2, 0), (2, 0), (2, 0), (2, 0), (2, 0), (2, 0), (2, 0), (2, 0), (3, 0), (106, 16), (2, 0), (2, 0), (2, 0), (2, 0), (2, 0), (2, 0), (2, 0), (2, 0), (2, 0), (2, 0), (2, 0), (2, 0), (2, 0), (2, 0), (2, 0), (2, 0), (106, 48), (2, 0), (2, 0), (2, 0), (2, 0), (2, 0), (2, 0), (2, 0), (2, 0), (2, 0), (2, 0), (2, 0), (2, 0), (2, 0), (2, 0), (2, 0), (2, 0), (2, 0), (2, 0), (2, 0), (2, 0), (2, 0), (2, 0), (2, 0), (2, 0), (2, 0), (2, 0), (2, 0), (2, 0), (2, 0), (2, 0), (2, 0), (2, 0), (2, 0), (2, 0), (2, 0), (2, 0), (2, 0), (2, 0), (2, 0), (2, 0), (2, 0), (2, 0), (2, 0), (2, 0), (2, 0), (2, 0), (2, 0), (2, 0), (100, 17), (3, 0), (106, 8), (2, 0), (2, 0), (2, 0), (2, 0), (2, 0), (2, 0), (2, 0), (2, 0), (106, 32), (2, 0), (2, 0), (2, 0), (2, 0), (2, 0), (2, 0), (2, 0), (2, 0), (2, 0), (2, 0), (2, 0), (2, 0), (2, 0), (2, 0), (2, 0), (2, 0), (2, 0), (2, 0), (2, 0), (2, 0), (2, 0), (2, 0), (2, 0), (2, 0), (2, 0), (2, 0), (2, 0), (2, 0), (2, 0), (2, 0), (2, 0), (2, 0), (100, 9), (100, 16), (100, 768), (100, 16), (100, 16), (100, 16), (100, 16), (100, 16), (100, 16), (100, 16), (100, 12000), (12, 0), (101, 6000), (14, 0), (101, 6000), (100, 6002), (100, 6002), (100, 6002), (100, 6002), (102, 6002), (100, 6002), (100, 56), (100, 56), (100, 56), (100, 16), (100, 17), (100, 48), (100, 48), (100, 8), (100, 8), (100, 32), (100, 32), (100, 16), (100, 768), (100, 16), (100, 16), (100, 16), (100, 16), (100, 16), (100, 16), (100, 16), (100, 12), (100, 12), (102, 12), (14, 0), (101, 6000), (100, 6002), (100, 6002), (100, 6002), (100, 6002), (102, 6002), (100, 6002), (100, 56), (100, 56), (100, 56), (100, 16), (100, 17), (100, 48), (100, 48), (100, 8), (100, 8), (100, 32), (100, 32), (100, 16), (100, 768), (100, 16), (100, 16), (100, 16), (100, 16), (100, 16), (100, 16), (100, 16), (100, 12), (100, 12), (102, 12), (13, 0), (100, 256), (102, 256), (100, 256), (100, 12288), (100, 256), (100, 256), (100, 256), (100, 1024), (100, 32), (13, 0), (100, 256), (102, 256), (100, 256), (100, 12288), (100, 256), (100, 256), (100, 256), (100, 1024), (100, 32), (13, 0), (100, 256), (102, 256), (100, 256), (100, 12288), (100, 256), (100, 256), (100, 256), (100, 1024), (100, 32), (15, 0), (100, 393216), (100, 48), (100, 12), (100, 8), (100, 256), (102, 256), (100, 64), (100, 4), (100, 4), (100, 256), (101, 58000), (102, 8), (102, 8), (104, 1)]
def rf0 : List (Nat × Nat × Nat) := [(0, 0, 1), (0, 1, 8), (0, 2, 11), (0, 3, 131), (1, 0, 2), (1, 6, 3), (1, 7, 4), (1, 8, 5), (1, 9, 6), (1, 12, 7), (8, 0, 1), (8, 1, 9), (9, 0, 1), (9, 4, 10), (11, 0, 12), (11, 4, 115), (11, 6, 18), (11, 7, 116), (11, 8, 125), (11, 9, 126), (11, 10, 127), (11, 11, 128), (11, 12, 129), (11, 13, 130), (12, 7, 13), (12, 8, 14), (12, 11, 15), (12, 12, 16), (12, 14, 17), (18, 0, 19), (18, 1, 25), (18, 2, 31), (18, 3, 37), (18, 4, 43), (18, 5, 49), (18, 6, 55), (18, 7, 61), (18, 8, 67), (18, 9, 73), (18, 10, 79), (18, 11, 85), (18, 12, 91), (18, 13, 97), (18, 14, 103), (18, 15, 109), (19, 7, 20), (19, 8, 21), (19, 11, 22), (19, 12, 23), (19, 14, 24), (25, 7, 26), (25, 8, 27), (25, 11, 28), (25, 12, 29), (25, 14, 30), (31, 7, 32), (31, 8, 33), (31, 11, 34), (31, 12, 35), (31, 14, 36), (37, 7, 38), (37, 8, 39), (37, 11, 40), (37, 12, 41), (37, 14, 42), (43, 7, 44), (43, 8, 45), (43, 11, 46), (43, 12, 47), (43, 14, 48), (49, 7, 50), (49, 8, 51), (49, 11, 52), (49, 12, 53), (49, 14, 54), (55, 7, 56), (55, 8, 57), (55, 11, 58), (55, 12, 59), (55, 14, 60), (61, 7, 62), (61, 8, 63), (61, 11, 64), (61, 12, 65), (61, 14, 66), (67, 7, 68), (67, 8, 69), (67, 11, 70), (67, 12, 71), (67, 14, 72), (73, 7, 74), (73, 8, 75), (73, 11, 76), (73, 12, 77), (73, 14, 78), (79, 7, 80), (79, 8, 81), (79, 11, 82), (79, 12, 83), (79, 14, 84), (85, 7, 86), (85, 8, 87), (85, 11, 88), (85, 12, 89), (85, 14, 90), (91, 7, 92), (91, 8, 93), (91, 11, 94), (91, 12, 95), (91, 14, 96), (97, 7, 98), (97, 8, 99), (97, 11, 100), (97, 12, 101), (97, 14, 102), (103, 7, 104), (103, 8, 105), (103, 11, 106), (103, 12, 107), (103, 14, 108), (109, 7, 110), (109, 8, 111), (109, 11, 112), (109, 12, 113), (109, 14, 114), (116, 0, 117), (117, 5, 119), (117, 7, 120), (117, 8, 121), (117, 9, 122), (117, 10, 123), (117, 11, 124), (131, 0, 132), (133, 0, 134), (133, 2, 203), (133, 3, 271), (133, 5, 315), (133, 6, 316), (133, 8, 317), (133, 9, 318), (133, 10, 319), (133, 11, 320), (133, 12, 321), (133, 13, 322), (133, 14, 323), (133, 16, 324), (134, 0, 135), (134, 1, 136), (134, 2, 137), (134, 3, 138), (134, 4, 139), (134, 5, 140), (134, 6, 141), (134, 7, 142), (134, 8, 143), (134, 9, 144), (134, 10, 145), (134, 11, 146), (134, 12, 147), (134, 13, 148), (134, 14, 149), (134, 15, 150), (134, 16, 151), (134, 17, 152), (134, 18, 153), (134, 19, 154), (134, 20, 155), (134, 21, 156), (134, 22, 157), (134, 23, 158), (134, 24, 159), (134, 25, 160), (134, 26, 161), (134, 27, 162), (134, 28, 163), (134, 29, 164), (134, 30, 165), (134, 31, 166), (134, 32, 167), (134, 33, 168), (134, 34, 169), (134, 35, 170), (134, 36, 171), (134, 37, 172), (134, 38, 173), (134, 39, 174), (134, 40, 175), (134, 41, 176), (134, 42, 177), (134, 43, 178), (134, 44, 179), (134, 45, 180), (134, 46, 181), (134, 47, 182), (134, 48, 183), (134, 49, 184), (134, 50, 185), (134, 51, 186), (134, 52, 187), (134, 53, 188), (134, 54, 189), (134, 55, 190), (134, 56, 191), (134, 57, 192), (134, 58, 193), (134, 59, 194), (134, 60, 195), (134, 61, 196), (134, 62, 197), (134, 63, 198), (134, 64, 199), (134, 65, 200), (134, 66, 201), (134, 67, 202), (203, 0, 204), (203, 1, 221), (203, 2, 270), (204, 0, 205), (204, 1, 206), (204, 2, 207), (204, 3, 208), (204, 4, 209), (204, 5, 210), (204, 6, 211), (204, 7, 212), (204, 8, 213), (204, 9, 214), (204, 10, 215), (204, 11, 216), (204, 12, 217), (204, 13, 218), (204, 14, 219), (204, 15, 220), (221, 0, 222), (221, 1, 223), (221, 2, 224), (221, 3, 225), (221, 4, 226), (221, 5, 227), (221, 6, 228), (221, 7, 229), (221, 8, 230), (221, 9, 231), (221, 10, 232), (221, 11, 233), (221, 12, 234), (221, 13, 235), (221, 14, 236), (221, 15, 237), (221, 16, 238), (221, 17, 239), (221, 18, 240), (221, 19, 241), (221, 20, 242), (221, 21, 243), (221, 22, 244), (221, 23, 245), (221, 24, 246), (221, 25, 247), (221, 26, 248), (221, 27, 249), (221, 28, 250), (221, 29, 251), (221, 30, 252), (221, 31, 253), (221, 32, 254), (221, 33, 255), (221, 34, 256), (221, 35, 257), (221, 36, 258), (221, 37, 259), (221, 38, 260), (221, 39, 261), (221, 40, 262), (221, 41, 263), (221, 42, 264), (221, 43, 265), (221, 44, 266), (221, 45, 267), (221, 46, 268), (221, 47, 269), (271, 0, 272), (271, 1, 281), (271, 2, 314), (272, 0, 273), (272, 1, 274), (272, 2, 275), (272, 3, 276), (272, 4, 277), (272, 5, 278), (272, 6, 279), (272, 7, 280), (281, 0, 282), (281, 1, 283), (281, 2, 284), (281, 3, 285), (281, 4, 286), (281, 5, 287), (281, 6, 288), (281, 7, 289), (281, 8, 290), (281, 9, 291), (281, 10, 292), (281, 11, 293), (281, 12, 294), (281, 13, 295), (281, 14, 296), (281, 15, 297), (281, 16, 298), (281, 17, 299), (281, 18, 300), (281, 19, 301), (281, 20, 302), (281, 21, 303), (281, 22, 304), (281, 23, 305), (281, 24, 306), (281, 25, 307), (281, 26, 308), (281, 27, 309), (281, 28, 310), (281, 29, 311), (281, 30, 312), (281, 31, 313), (325, 0, 326), (325, 2, 395), (325, 3, 463), (325, 5, 507), (325, 6, 508), (325, 8, 509), (325, 9, 510), (325, 10, 511), (325, 11, 512), (325, 12, 513), (325, 13, 514), (325, 14, 515), (325, 16, 516), (326, 0, 327), (326, 1, 328), (326, 2, 329), (326, 3, 330), (326, 4, 331), (326, 5, 332), (326, 6, 333), (326, 7, 334), (326, 8, 335), (326, 9, 336), (326, 10, 337), (326, 11, 338), (326, 12, 339), (326, 13, 340), (326, 14, 341), (326, 15, 342), (326, 16, 343), (326, 17, 344), (326, 18, 345), (326, 19, 346), (326, 20, 347), (326, 21, 348), (326, 22, 349), (326, 23, 350), (326, 24, 351), (326, 25, 352), (326, 26, 353), (326, 27, 354), (326, 28, 355), (326, 29, 356), (326, 30, 357), (326, 31, 358), (326, 32, 359), (326, 33, 360), (326, 34, 361), (326, 35, 362), (326, 36, 363), (326, 37, 364), (326, 38, 365), (326, 39, 366), (326, 40, 367), (326, 41, 368), (326, 42, 369), (326, 43, 370), (326, 44, 371), (326, 45, 372), (326, 46, 373), (326, 47, 374), (326, 48, 375), (326, 49, 376), (326, 50, 377), (326, 51, 378), (326, 52, 379), (326, 53, 380), (326, 54, 381), (326, 55, 382), (326, 56, 383), (326, 57, 384), (326, 58, 385), (326, 59, 386), (326, 60, 387), (326, 61, 388), (326, 62, 389), (326, 63, 390), (326, 64, 391), (326, 65, 392), (326, 66, 393), (326, 67, 394), (395, 0, 396), (395, 1, 413), (395, 2, 462), (396, 0, 397), (396, 1, 398), (396, 2, 399), (396, 3, 400), (396, 4, 401), (396, 5, 402), (396, 6, 403), (396, 7, 404), (396, 8, 405), (396, 9, 406), (396, 10, 407), (396, 11, 408), (396, 12, 409), (396, 13, 410), (396, 14, 411), (396, 15, 412), (413, 0, 414), (413, 1, 415), (413, 2, 416), (413, 3, 417), (413, 4, 418), (413, 5, 419), (413, 6, 420), (413, 7, 421), (413, 8, 422), (413, 9, 423), (413, 10, 424), (413, 11, 425), (413, 12, 426), (413, 13, 427), (413, 14, 428), (413, 15, 429), (413, 16, 430), (413, 17, 431), (413, 18, 432), (413, 19, 433), (413, 20, 434), (413, 21, 435), (413, 22, 436), (413, 23, 437), (413, 24, 438), (413, 25, 439), (413, 26, 440), (413, 27, 441), (413, 28, 442), (413, 29, 443), (413, 30, 444), (413, 31, 445), (413, 32, 446), (413, 33, 447), (413, 34, 448), (413, 35, 449), (413, 36, 450), (413, 37, 451), (413, 38, 452), (413, 39, 453), (413, 40, 454), (413, 41, 455), (413, 42, 456), (413, 43, 457), (413, 44, 458), (413, 45, 459), (413, 46, 460), (413, 47, 461), (463, 0, 464), (463, 1, 473), (463, 2, 506), (464, 0, 465), (464, 1, 466), (464, 2, 467), (464, 3, 468), (464, 4, 469), (464, 5, 470), (464, 6, 471), (464, 7, 472), (473, 0, 474), (473, 1, 475), (473, 2, 476), (473, 3, 477), (473, 4, 478), (473, 5, 479), (473, 6, 480), (473, 7, 481), (473, 8, 482), (473, 9, 483), (473, 10, 484), (473, 11, 485), (473, 12, 486), (473, 13, 487), (473, 14, 488), (473, 15, 489), (473, 16, 490), (473, 17, 491), (473, 18, 492), (473, 19, 493), (473, 20, 494), (473, 21, 495), (473, 22, 496), (473, 23, 497), (473, 24, 498), (473, 25, 499), (473, 26, 500), (473, 27, 501), (473, 28, 502), (473, 29, 503), (473, 30, 504), (473, 31, 505), (517, 1, 518), (517, 11, 611), (517, 14, 616), (517, 15, 617), (517, 16, 618), (517, 17, 619), (517, 18, 620), (517, 19, 621), (517, 21, 622), (517, 25, 623), (517, 26, 624), (519, 0, 520), (519, 3, 521), (519, 4, 522), (519, 5, 523), (519, 6, 524), (519, 7, 525), (519, 8, 526), (519, 13, 527), (519, 14, 528), (519, 15, 529), (519, 17, 530), (519, 18, 531), (519, 19, 532), (519, 20, 533), (519, 22, 534), (519, 23, 535), (519, 24, 536), (519, 25, 537), (519, 27, 538), (519, 28, 539), (519, 30, 540), (519, 31, 541), (519, 32, 542), (519, 33, 543), (519, 34, 544), (519, 35, 545), (519, 36, 546), (519, 38, 547), (519, 39, 548), (519, 40, 549), (550, 0, 551), (550, 3, 552), (550, 4, 553), (550, 5, 554), (550, 6, 555), (550, 7, 556), (550, 8, 557), (550, 13, 558), (550, 14, 559), (550, 15, 560), (550, 17, 561), (550, 18, 562), (550, 19, 563), (550, 20, 564), (550, 22, 565), (550, 23, 566), (550, 24, 567), (550, 25, 568), (550, 27, 569), (550, 28, 570), (550, 30, 571), (550, 31, 572), (550, 32, 573), (550, 33, 574), (550, 34, 575), (550, 35, 576), (550, 36, 577), (550, 38, 578), (550, 39, 579), (550, 40, 580), (581, 4, 582), (581, 5, 583), (581, 6, 584), (581, 7, 585), (581, 9, 586), (581, 10, 587), (581, 11, 588), (581, 12, 589), (581, 17, 590), (591, 4, 592), (591, 5, 593), (591, 6, 594), (591, 7, 595), (591, 9, 596), (591, 10, 597), (591, 11, 598), (591, 12, 599), (591, 17, 600), (601, 4, 602), (601, 5, 603), (601, 6, 604), (601, 7, 605), (601, 9, 606), (601, 10, 607), (601, 11, 608), (601, 12, 609), (601, 17, 610), (611, 3, 612), (611, 13, 613), (611, 14, 614), (611, 15, 615)]
def Gr (H : Hp) : Prop := (∃ l, H.sh = sh0 ++ l) ∧ ∀ q ∈ rf0, H.P q.1 q.2.1 = .ref q.2.2
theorem rf0_fin : rf0.all (fun q => match sh0[q.1]? with | some s => isFin s.1 q.2.1 | none => false) = true := by decide +kernel
theorem Gr.st {H K : Hp} (h : Gr H) (hf : Fn H K) (hm : Mo H K) : Gr K := by
  obtain ⟨⟨l, e⟩, h2⟩ := h
  obtain ⟨⟨l', e'⟩, -⟩ := hm
  refine ⟨⟨l ++ l', by rw [e', e, List.append_assoc]⟩, fun q hq => ?_⟩
  have h3 := List.all_eq_true.mp rf0_fin q hq
  cases hs : sh0[q.1]? with
  | none => rw [hs] at h3; cases h3
  | some s =>
    rw [hs] at h3
    have h4 : H.sh[q.1]? = some s := by
      rw [e, List.getElem?_append_left (List.getElem?_eq_some_iff.mp hs).1]
      exact hs
    rw [hf q.1 q.2.1 s h4 h3]
    exact h2 q hq
theorem Gr.rg {Q : Nat → Prop} {H K : Hp} (h : Gr H) (hr : Rg Q H K) : Gr K := h.st hr.2.2.1 hr.2.2.2
theorem Gr.s {H : Hp} (h : Gr H) {a : Nat} {s : Nat × Nat} (hs : sh0[a]? = some s) : H.sh[a]? = some s := by
  obtain ⟨⟨l, e⟩, -⟩ := h
  rw [e, List.getElem?_append_left (List.getElem?_eq_some_iff.mp hs).1]
  exact hs
theorem Gr.p {H : Hp} (h : Gr H) (k : Nat) {a f b : Nat} (hk : rf0[k]? = some (a, f, b)) : H.P a f = .ref b := h.2 (a, f, b) (List.mem_of_getElem? hk)
theorem Gr.len {H : Hp} (h : Gr H) : 626 ≤ H.sh.length := by
  obtain ⟨⟨l, e⟩, -⟩ := h
  rw [e, List.length_append, show sh0.length = 626 from by decide +kernel]
  omega
theorem rS_0 {H : Hp} (h : Gr H) : H.sh[0]? = some (0, 0) := h.s rfl
theorem rP_0_0 {H : Hp} (h : Gr H) : H.P 0 0 = .ref 1 := h.p 0 rfl
theorem rP_0_1 {H : Hp} (h : Gr H) : H.P 0 1 = .ref 8 := h.p 1 rfl
theorem rP_0_2 {H : Hp} (h : Gr H) : H.P 0 2 = .ref 11 := h.p 2 rfl
theorem rP_0_3 {H : Hp} (h : Gr H) : H.P 0 3 = .ref 131 := h.p 3 rfl
theorem rS_1 {H : Hp} (h : Gr H) : H.sh[1]? = some (1, 0) := h.s rfl
theorem rP_1_0 {H : Hp} (h : Gr H) : H.P 1 0 = .ref 2 := h.p 4 rfl
theorem rA_1_0 {H : Hp} (h : Gr H) : H.sh[2]? = some (101, 6000) := h.s rfl
theorem rP_1_6 {H : Hp} (h : Gr H) : H.P 1 6 = .ref 3 := h.p 5 rfl
theorem rA_1_6 {H : Hp} (h : Gr H) : H.sh[3]? = some (100, 6001) := h.s rfl
theorem rP_1_7 {H : Hp} (h : Gr H) : H.P 1 7 = .ref 4 := h.p 6 rfl
theorem rA_1_7 {H : Hp} (h : Gr H) : H.sh[4]? = some (100, 6001) := h.s rfl
theorem rP_1_8 {H : Hp} (h : Gr H) : H.P 1 8 = .ref 5 := h.p 7 rfl
theorem rA_1_8 {H : Hp} (h : Gr H) : H.sh[5]? = some (100, 6001) := h.s rfl
theorem rP_1_9 {H : Hp} (h : Gr H) : H.P 1 9 = .ref 6 := h.p 8 rfl
theorem rA_1_9 {H : Hp} (h : Gr H) : H.sh[6]? = some (102, 6001) := h.s rfl
theorem rP_1_12 {H : Hp} (h : Gr H) : H.P 1 12 = .ref 7 := h.p 9 rfl
theorem rA_1_12 {H : Hp} (h : Gr H) : H.sh[7]? = some (100, 42) := h.s rfl
theorem rS_8 {H : Hp} (h : Gr H) : H.sh[8]? = some (5, 0) := h.s rfl
theorem rP_8_0 {H : Hp} (h : Gr H) : H.P 8 0 = .ref 1 := h.p 10 rfl
theorem rP_8_1 {H : Hp} (h : Gr H) : H.P 8 1 = .ref 9 := h.p 11 rfl
theorem rS_9 {H : Hp} (h : Gr H) : H.sh[9]? = some (6, 0) := h.s rfl
theorem rP_9_0 {H : Hp} (h : Gr H) : H.P 9 0 = .ref 1 := h.p 12 rfl
theorem rP_9_4 {H : Hp} (h : Gr H) : H.P 9 4 = .ref 10 := h.p 13 rfl
theorem rA_9_4 {H : Hp} (h : Gr H) : H.sh[10]? = some (100, 21) := h.s rfl
theorem rS_11 {H : Hp} (h : Gr H) : H.sh[11]? = some (10, 0) := h.s rfl
theorem rP_11_0 {H : Hp} (h : Gr H) : H.P 11 0 = .ref 12 := h.p 14 rfl
theorem rA_11_0 {H : Hp} (h : Gr H) : H.sh[12]? = some (7, 0) := h.s rfl
theorem rP_11_4 {H : Hp} (h : Gr H) : H.P 11 4 = .ref 115 := h.p 15 rfl
theorem rA_11_4 {H : Hp} (h : Gr H) : H.sh[115]? = some (100, 256) := h.s rfl
theorem rP_11_6 {H : Hp} (h : Gr H) : H.P 11 6 = .ref 18 := h.p 16 rfl
theorem rA_11_6 {H : Hp} (h : Gr H) : H.sh[18]? = some (105, 16) := h.s rfl
theorem rP_11_7 {H : Hp} (h : Gr H) : H.P 11 7 = .ref 116 := h.p 17 rfl
theorem rP_11_8 {H : Hp} (h : Gr H) : H.P 11 8 = .ref 125 := h.p 18 rfl
theorem rA_11_8 {H : Hp} (h : Gr H) : H.sh[125]? = some (102, 256) := h.s rfl
theorem rP_11_9 {H : Hp} (h : Gr H) : H.P 11 9 = .ref 126 := h.p 19 rfl
theorem rA_11_9 {H : Hp} (h : Gr H) : H.sh[126]? = some (100, 256) := h.s rfl
theorem rP_11_10 {H : Hp} (h : Gr H) : H.P 11 10 = .ref 127 := h.p 20 rfl
theorem rA_11_10 {H : Hp} (h : Gr H) : H.sh[127]? = some (100, 4) := h.s rfl
theorem rP_11_11 {H : Hp} (h : Gr H) : H.P 11 11 = .ref 128 := h.p 21 rfl
theorem rA_11_11 {H : Hp} (h : Gr H) : H.sh[128]? = some (100, 16) := h.s rfl
theorem rP_11_12 {H : Hp} (h : Gr H) : H.P 11 12 = .ref 129 := h.p 22 rfl
theorem rA_11_12 {H : Hp} (h : Gr H) : H.sh[129]? = some (100, 64) := h.s rfl
theorem rP_11_13 {H : Hp} (h : Gr H) : H.P 11 13 = .ref 130 := h.p 23 rfl
theorem rA_11_13 {H : Hp} (h : Gr H) : H.sh[130]? = some (100, 4) := h.s rfl
theorem rS_116 {H : Hp} (h : Gr H) : H.sh[116]? = some (9, 0) := h.s rfl
theorem rP_116_0 {H : Hp} (h : Gr H) : H.P 116 0 = .ref 117 := h.p 125 rfl
theorem rS_117 {H : Hp} (h : Gr H) : H.sh[117]? = some (8, 0) := h.s rfl
theorem rP_117_5 {H : Hp} (h : Gr H) : H.P 117 5 = .ref 119 := h.p 126 rfl
theorem rA_117_5 {H : Hp} (h : Gr H) : H.sh[119]? = some (100, 160) := h.s rfl
theorem rP_117_7 {H : Hp} (h : Gr H) : H.P 117 7 = .ref 120 := h.p 127 rfl
theorem rA_117_7 {H : Hp} (h : Gr H) : H.sh[120]? = some (100, 12) := h.s rfl
theorem rP_117_8 {H : Hp} (h : Gr H) : H.P 117 8 = .ref 121 := h.p 128 rfl
theorem rA_117_8 {H : Hp} (h : Gr H) : H.sh[121]? = some (100, 21) := h.s rfl
theorem rP_117_9 {H : Hp} (h : Gr H) : H.P 117 9 = .ref 122 := h.p 129 rfl
theorem rA_117_9 {H : Hp} (h : Gr H) : H.sh[122]? = some (100, 21) := h.s rfl
theorem rP_117_10 {H : Hp} (h : Gr H) : H.P 117 10 = .ref 123 := h.p 130 rfl
theorem rA_117_10 {H : Hp} (h : Gr H) : H.sh[123]? = some (100, 11) := h.s rfl
theorem rP_117_11 {H : Hp} (h : Gr H) : H.P 117 11 = .ref 124 := h.p 131 rfl
theorem rA_117_11 {H : Hp} (h : Gr H) : H.sh[124]? = some (100, 48) := h.s rfl
theorem rS_131 {H : Hp} (h : Gr H) : H.sh[131]? = some (11, 0) := h.s rfl
theorem rP_131_0 {H : Hp} (h : Gr H) : H.P 131 0 = .ref 132 := h.p 132 rfl
theorem rA_131_0 {H : Hp} (h : Gr H) : H.sh[132]? = some (101, 60000) := h.s rfl
set_option maxRecDepth 20000 in
theorem rS_517 {H : Hp} (h : Gr H) : H.sh[517]? = some (12, 0) := h.s rfl
set_option maxRecDepth 20000 in
theorem rP_517_1 {H : Hp} (h : Gr H) : H.P 517 1 = .ref 518 := h.p 515 rfl
set_option maxRecDepth 20000 in
theorem rA_517_1 {H : Hp} (h : Gr H) : H.sh[518]? = some (101, 6000) := h.s rfl
set_option maxRecDepth 20000 in
theorem rP_517_11 {H : Hp} (h : Gr H) : H.P 517 11 = .ref 611 := h.p 516 rfl
set_option maxRecDepth 20000 in
theorem rP_517_14 {H : Hp} (h : Gr H) : H.P 517 14 = .ref 616 := h.p 517 rfl
set_option maxRecDepth 20000 in
theorem rA_517_14 {H : Hp} (h : Gr H) : H.sh[616]? = some (100, 256) := h.s rfl
set_option maxRecDepth 20000 in
theorem rP_517_15 {H : Hp} (h : Gr H) : H.P 517 15 = .ref 617 := h.p 518 rfl
set_option maxRecDepth 20000 in
theorem rA_517_15 {H : Hp} (h : Gr H) : H.sh[617]? = some (102, 256) := h.s rfl
set_option maxRecDepth 20000 in
theorem rP_517_16 {H : Hp} (h : Gr H) : H.P 517 16 = .ref 618 := h.p 519 rfl
set_option maxRecDepth 20000 in
theorem rA_517_16 {H : Hp} (h : Gr H) : H.sh[618]? = some (100, 64) := h.s rfl
set_option maxRecDepth 20000 in
theorem rP_517_17 {H : Hp} (h : Gr H) : H.P 517 17 = .ref 619 := h.p 520 rfl
set_option maxRecDepth 20000 in
theorem rA_517_17 {H : Hp} (h : Gr H) : H.sh[619]? = some (100, 4) := h.s rfl
set_option maxRecDepth 20000 in
theorem rP_517_18 {H : Hp} (h : Gr H) : H.P 517 18 = .ref 620 := h.p 521 rfl
set_option maxRecDepth 20000 in
theorem rA_517_18 {H : Hp} (h : Gr H) : H.sh[620]? = some (100, 4) := h.s rfl
set_option maxRecDepth 20000 in
theorem rP_517_19 {H : Hp} (h : Gr H) : H.P 517 19 = .ref 621 := h.p 522 rfl
set_option maxRecDepth 20000 in
theorem rA_517_19 {H : Hp} (h : Gr H) : H.sh[621]? = some (100, 256) := h.s rfl
set_option maxRecDepth 20000 in
theorem rP_517_21 {H : Hp} (h : Gr H) : H.P 517 21 = .ref 622 := h.p 523 rfl
set_option maxRecDepth 20000 in
theorem rA_517_21 {H : Hp} (h : Gr H) : H.sh[622]? = some (101, 58000) := h.s rfl
set_option maxRecDepth 20000 in
theorem rP_517_25 {H : Hp} (h : Gr H) : H.P 517 25 = .ref 623 := h.p 524 rfl
set_option maxRecDepth 20000 in
theorem rA_517_25 {H : Hp} (h : Gr H) : H.sh[623]? = some (102, 8) := h.s rfl
set_option maxRecDepth 20000 in
theorem rP_517_26 {H : Hp} (h : Gr H) : H.P 517 26 = .ref 624 := h.p 525 rfl
set_option maxRecDepth 20000 in
theorem rA_517_26 {H : Hp} (h : Gr H) : H.sh[624]? = some (102, 8) := h.s rfl
set_option maxRecDepth 20000 in
theorem rS_611 {H : Hp} (h : Gr H) : H.sh[611]? = some (15, 0) := h.s rfl
set_option maxRecDepth 20000 in
theorem rP_611_3 {H : Hp} (h : Gr H) : H.P 611 3 = .ref 612 := h.p 613 rfl
set_option maxRecDepth 20000 in
theorem rA_611_3 {H : Hp} (h : Gr H) : H.sh[612]? = some (100, 393216) := h.s rfl
set_option maxRecDepth 20000 in
theorem rP_611_13 {H : Hp} (h : Gr H) : H.P 611 13 = .ref 613 := h.p 614 rfl
set_option maxRecDepth 20000 in
theorem rA_611_13 {H : Hp} (h : Gr H) : H.sh[613]? = some (100, 48) := h.s rfl
set_option maxRecDepth 20000 in
theorem rP_611_14 {H : Hp} (h : Gr H) : H.P 611 14 = .ref 614 := h.p 615 rfl
set_option maxRecDepth 20000 in
theorem rA_611_14 {H : Hp} (h : Gr H) : H.sh[614]? = some (100, 12) := h.s rfl
set_option maxRecDepth 20000 in
theorem rP_611_15 {H : Hp} (h : Gr H) : H.P 611 15 = .ref 615 := h.p 616 rfl
set_option maxRecDepth 20000 in
theorem rA_611_15 {H : Hp} (h : Gr H) : H.sh[615]? = some (100, 8) := h.s rfl
def isW (H : Hp) (w : Nat) : Prop := H.sh[w]? = some (7, 0) ∧ (H.P w 7 = .ref (w + 1) ∧ H.sh[w + 1]? = some (100, 256)) ∧ (H.P w 8 = .ref (w + 2) ∧ H.sh[w + 2]? = some (100, 256)) ∧ (H.P w 11 = .ref (w + 3) ∧ H.sh[w + 3]? = some (100, 12288)) ∧ (H.P w 12 = .ref (w + 4) ∧ H.sh[w + 4]? = some (100, 1792)) ∧ (H.P w 14 = .ref (w + 5) ∧ H.sh[w + 5]? = some (100, 32))
theorem WP_7 {H : Hp} {w : Nat} (h : isW H w) : H.P w 7 = .ref (w + 1) := h.2.1.1
theorem WA_7 {H : Hp} {w : Nat} (h : isW H w) : H.sh[w + 1]? = some (100, 256) := h.2.1.2
theorem WP_8 {H : Hp} {w : Nat} (h : isW H w) : H.P w 8 = .ref (w + 2) := h.2.2.1.1
theorem WA_8 {H : Hp} {w : Nat} (h : isW H w) : H.sh[w + 2]? = some (100, 256) := h.2.2.1.2
theorem WP_11 {H : Hp} {w : Nat} (h : isW H w) : H.P w 11 = .ref (w + 3) := h.2.2.2.1.1
theorem WA_11 {H : Hp} {w : Nat} (h : isW H w) : H.sh[w + 3]? = some (100, 12288) := h.2.2.2.1.2
theorem WP_12 {H : Hp} {w : Nat} (h : isW H w) : H.P w 12 = .ref (w + 4) := h.2.2.2.2.1.1
theorem WA_12 {H : Hp} {w : Nat} (h : isW H w) : H.sh[w + 4]? = some (100, 1792) := h.2.2.2.2.1.2
theorem WP_14 {H : Hp} {w : Nat} (h : isW H w) : H.P w 14 = .ref (w + 5) := h.2.2.2.2.2.1
theorem WA_14 {H : Hp} {w : Nat} (h : isW H w) : H.sh[w + 5]? = some (100, 32) := h.2.2.2.2.2.2
theorem WS {H : Hp} {w : Nat} (h : isW H w) : H.sh[w]? = some (7, 0) := h.1
def lW : List Nat := [12, 19, 25, 31, 37, 43, 49, 55, 61, 67, 73, 79, 85, 91, 97, 103, 109]
set_option maxRecDepth 20000 in
theorem gr_W {H : Hp} (h : Gr H) : ∀ w ∈ lW, isW H w := by
  intro w hw
  simp only [lW, List.mem_cons, List.not_mem_nil, or_false] at hw
  rcases hw with rfl | rfl | rfl | rfl | rfl | rfl | rfl | rfl | rfl | rfl | rfl | rfl | rfl | rfl | rfl | rfl | rfl
  · exact ⟨h.s rfl, ⟨h.p 24 rfl, h.s rfl⟩, ⟨h.p 25 rfl, h.s rfl⟩, ⟨h.p 26 rfl, h.s rfl⟩, ⟨h.p 27 rfl, h.s rfl⟩, ⟨h.p 28 rfl, h.s rfl⟩⟩
  · exact ⟨h.s rfl, ⟨h.p 45 rfl, h.s rfl⟩, ⟨h.p 46 rfl, h.s rfl⟩, ⟨h.p 47 rfl, h.s rfl⟩, ⟨h.p 48 rfl, h.s rfl⟩, ⟨h.p 49 rfl, h.s rfl⟩⟩
  · exact ⟨h.s rfl, ⟨h.p 50 rfl, h.s rfl⟩, ⟨h.p 51 rfl, h.s rfl⟩, ⟨h.p 52 rfl, h.s rfl⟩, ⟨h.p 53 rfl, h.s rfl⟩, ⟨h.p 54 rfl, h.s rfl⟩⟩
  · exact ⟨h.s rfl, ⟨h.p 55 rfl, h.s rfl⟩, ⟨h.p 56 rfl, h.s rfl⟩, ⟨h.p 57 rfl, h.s rfl⟩, ⟨h.p 58 rfl, h.s rfl⟩, ⟨h.p 59 rfl, h.s rfl⟩⟩
  · exact ⟨h.s rfl, ⟨h.p 60 rfl, h.s rfl⟩, ⟨h.p 61 rfl, h.s rfl⟩, ⟨h.p 62 rfl, h.s rfl⟩, ⟨h.p 63 rfl, h.s rfl⟩, ⟨h.p 64 rfl, h.s rfl⟩⟩
  · exact ⟨h.s rfl, ⟨h.p 65 rfl, h.s rfl⟩, ⟨h.p 66 rfl, h.s rfl⟩, ⟨h.p 67 rfl, h.s rfl⟩, ⟨h.p 68 rfl, h.s rfl⟩, ⟨h.p 69 rfl, h.s rfl⟩⟩
  · exact ⟨h.s rfl, ⟨h.p 70 rfl, h.s rfl⟩, ⟨h.p 71 rfl, h.s rfl⟩, ⟨h.p 72 rfl, h.s rfl⟩, ⟨h.p 73 rfl, h.s rfl⟩, ⟨h.p 74 rfl, h.s rfl⟩⟩
  · exact ⟨h.s rfl, ⟨h.p 75 rfl, h.s rfl⟩, ⟨h.p 76 rfl, h.s rfl⟩, ⟨h.p 77 rfl, h.s rfl⟩, ⟨h.p 78 rfl, h.s rfl⟩, ⟨h.p 79 rfl, h.s rfl⟩⟩
  · exact ⟨h.s rfl, ⟨h.p 80 rfl, h.s rfl⟩, ⟨h.p 81 rfl, h.s rfl⟩, ⟨h.p 82 rfl, h.s rfl⟩, ⟨h.p 83 rfl, h.s rfl⟩, ⟨h.p 84 rfl, h.s rfl⟩⟩
  · exact ⟨h.s rfl, ⟨h.p 85 rfl, h.s rfl⟩, ⟨h.p 86 rfl, h.s rfl⟩, ⟨h.p 87 rfl, h.s rfl⟩, ⟨h.p 88 rfl, h.s rfl⟩, ⟨h.p 89 rfl, h.s rfl⟩⟩
  · exact ⟨h.s rfl, ⟨h.p 90 rfl, h.s rfl⟩, ⟨h.p 91 rfl, h.s rfl⟩, ⟨h.p 92 rfl, h.s rfl⟩, ⟨h.p 93 rfl, h.s rfl⟩, ⟨h.p 94 rfl, h.s rfl⟩⟩
  · exact ⟨h.s rfl, ⟨h.p 95 rfl, h.s rfl⟩, ⟨h.p 96 rfl, h.s rfl⟩, ⟨h.p 97 rfl, h.s rfl⟩, ⟨h.p 98 rfl, h.s rfl⟩, ⟨h.p 99 rfl, h.s rfl⟩⟩
  · exact ⟨h.s rfl, ⟨h.p 100 rfl, h.s rfl⟩, ⟨h.p 101 rfl, h.s rfl⟩, ⟨h.p 102 rfl, h.s rfl⟩, ⟨h.p 103 rfl, h.s rfl⟩, ⟨h.p 104 rfl, h.s rfl⟩⟩
  · exact ⟨h.s rfl, ⟨h.p 105 rfl, h.s rfl⟩, ⟨h.p 106 rfl, h.s rfl⟩, ⟨h.p 107 rfl, h.s rfl⟩, ⟨h.p 108 rfl, h.s rfl⟩, ⟨h.p 109 rfl, h.s rfl⟩⟩
  · exact ⟨h.s rfl, ⟨h.p 110 rfl, h.s rfl⟩, ⟨h.p 111 rfl, h.s rfl⟩, ⟨h.p 112 rfl, h.s rfl⟩, ⟨h.p 113 rfl, h.s rfl⟩, ⟨h.p 114 rfl, h.s rfl⟩⟩
  · exact ⟨h.s rfl, ⟨h.p 115 rfl, h.s rfl⟩, ⟨h.p 116 rfl, h.s rfl⟩, ⟨h.p 117 rfl, h.s rfl⟩, ⟨h.p 118 rfl, h.s rfl⟩, ⟨h.p 119 rfl, h.s rfl⟩⟩
  · exact ⟨h.s rfl, ⟨h.p 120 rfl, h.s rfl⟩, ⟨h.p 121 rfl, h.s rfl⟩, ⟨h.p 122 rfl, h.s rfl⟩, ⟨h.p 123 rfl, h.s rfl⟩, ⟨h.p 124 rfl, h.s rfl⟩⟩
def isU (H : Hp) (w : Nat) : Prop := H.sh[w]? = some (13, 0) ∧ (H.P w 4 = .ref (w + 1) ∧ H.sh[w + 1]? = some (100, 256)) ∧ (H.P w 5 = .ref (w + 2) ∧ H.sh[w + 2]? = some (102, 256)) ∧ (H.P w 6 = .ref (w + 3) ∧ H.sh[w + 3]? = some (100, 256)) ∧ (H.P w 7 = .ref (w + 4) ∧ H.sh[w + 4]? = some (100, 12288)) ∧ (H.P w 9 = .ref (w + 5) ∧ H.sh[w + 5]? = some (100, 256)) ∧ (H.P w 10 = .ref (w + 6) ∧ H.sh[w + 6]? = some (100, 256)) ∧ (H.P w 11 = .ref (w + 7) ∧ H.sh[w + 7]? = some (100, 256)) ∧ (H.P w 12 = .ref (w + 8) ∧ H.sh[w + 8]? = some (100, 1024)) ∧ (H.P w 17 = .ref (w + 9) ∧ H.sh[w + 9]? = some (100, 32))
theorem UP_4 {H : Hp} {w : Nat} (h : isU H w) : H.P w 4 = .ref (w + 1) := h.2.1.1
theorem UA_4 {H : Hp} {w : Nat} (h : isU H w) : H.sh[w + 1]? = some (100, 256) := h.2.1.2
theorem UP_5 {H : Hp} {w : Nat} (h : isU H w) : H.P w 5 = .ref (w + 2) := h.2.2.1.1
theorem UA_5 {H : Hp} {w : Nat} (h : isU H w) : H.sh[w + 2]? = some (102, 256) := h.2.2.1.2
theorem UP_6 {H : Hp} {w : Nat} (h : isU H w) : H.P w 6 = .ref (w + 3) := h.2.2.2.1.1
theorem UA_6 {H : Hp} {w : Nat} (h : isU H w) : H.sh[w + 3]? = some (100, 256) := h.2.2.2.1.2
theorem UP_7 {H : Hp} {w : Nat} (h : isU H w) : H.P w 7 = .ref (w + 4) := h.2.2.2.2.1.1
theorem UA_7 {H : Hp} {w : Nat} (h : isU H w) : H.sh[w + 4]? = some (100, 12288) := h.2.2.2.2.1.2
theorem UP_9 {H : Hp} {w : Nat} (h : isU H w) : H.P w 9 = .ref (w + 5) := h.2.2.2.2.2.1.1
theorem UA_9 {H : Hp} {w : Nat} (h : isU H w) : H.sh[w + 5]? = some (100, 256) := h.2.2.2.2.2.1.2
theorem UP_10 {H : Hp} {w : Nat} (h : isU H w) : H.P w 10 = .ref (w + 6) := h.2.2.2.2.2.2.1.1
theorem UA_10 {H : Hp} {w : Nat} (h : isU H w) : H.sh[w + 6]? = some (100, 256) := h.2.2.2.2.2.2.1.2
theorem UP_11 {H : Hp} {w : Nat} (h : isU H w) : H.P w 11 = .ref (w + 7) := h.2.2.2.2.2.2.2.1.1
theorem UA_11 {H : Hp} {w : Nat} (h : isU H w) : H.sh[w + 7]? = some (100, 256) := h.2.2.2.2.2.2.2.1.2
theorem UP_12 {H : Hp} {w : Nat} (h : isU H w) : H.P w 12 = .ref (w + 8) := h.2.2.2.2.2.2.2.2.1.1
theorem UA_12 {H : Hp} {w : Nat} (h : isU H w) : H.sh[w + 8]? = some (100, 1024) := h.2.2.2.2.2.2.2.2.1.2
theorem UP_17 {H : Hp} {w : Nat} (h : isU H w) : H.P w 17 = .ref (w + 9) := h.2.2.2.2.2.2.2.2.2.1
theorem UA_17 {H : Hp} {w : Nat} (h : isU H w) : H.sh[w + 9]? = some (100, 32) := h.2.2.2.2.2.2.2.2.2.2
theorem US {H : Hp} {w : Nat} (h : isU H w) : H.sh[w]? = some (13, 0) := h.1
def lU : List Nat := [581, 591, 601]
set_option maxRecDepth 20000 in
theorem gr_U {H : Hp} (h : Gr H) : ∀ w ∈ lU, isU H w := by
  intro w hw
  simp only [lU, List.mem_cons, List.not_mem_nil, or_false] at hw
  rcases hw with rfl | rfl | rfl
  · exact ⟨h.s rfl, ⟨h.p 586 rfl, h.s rfl⟩, ⟨h.p 587 rfl, h.s rfl⟩, ⟨h.p 588 rfl, h.s rfl⟩, ⟨h.p 589 rfl, h.s rfl⟩, ⟨h.p 590 rfl, h.s rfl⟩, ⟨h.p 591 rfl, h.s rfl⟩, ⟨h.p 592 rfl, h.s rfl⟩, ⟨h.p 593 rfl, h.s rfl⟩, ⟨h.p 594 rfl, h.s rfl⟩⟩
  · exact ⟨h.s rfl, ⟨h.p 595 rfl, h.s rfl⟩, ⟨h.p 596 rfl, h.s rfl⟩, ⟨h.p 597 rfl, h.s rfl⟩, ⟨h.p 598 rfl, h.s rfl⟩, ⟨h.p 599 rfl, h.s rfl⟩, ⟨h.p 600 rfl, h.s rfl⟩, ⟨h.p 601 rfl, h.s rfl⟩, ⟨h.p 602 rfl, h.s rfl⟩, ⟨h.p 603 rfl, h.s rfl⟩⟩
  · exact ⟨h.s rfl, ⟨h.p 604 rfl, h.s rfl⟩, ⟨h.p 605 rfl, h.s rfl⟩, ⟨h.p 606 rfl, h.s rfl⟩, ⟨h.p 607 rfl, h.s rfl⟩, ⟨h.p 608 rfl, h.s rfl⟩, ⟨h.p 609 rfl, h.s rfl⟩, ⟨h.p 610 rfl, h.s rfl⟩, ⟨h.p 611 rfl, h.s rfl⟩, ⟨h.p 612 rfl, h.s rfl⟩⟩
def isT (H : Hp) (w : Nat) : Prop := H.sh[w]? = some (14, 0) ∧ (H.P w 0 = .ref (w + 1) ∧ H.sh[w + 1]? = some (101, 6000)) ∧ (H.P w 3 = .ref (w + 2) ∧ H.sh[w + 2]? = some (100, 6002)) ∧ (H.P w 4 = .ref (w + 3) ∧ H.sh[w + 3]? = some (100, 6002)) ∧ (H.P w 5 = .ref (w + 4) ∧ H.sh[w + 4]? = some (100, 6002)) ∧ (H.P w 6 = .ref (w + 5) ∧ H.sh[w + 5]? = some (100, 6002)) ∧ (H.P w 7 = .ref (w + 6) ∧ H.sh[w + 6]? = some (102, 6002)) ∧ (H.P w 8 = .ref (w + 7) ∧ H.sh[w + 7]? = some (100, 6002)) ∧ (H.P w 13 = .ref (w + 8) ∧ H.sh[w + 8]? = some (100, 56)) ∧ (H.P w 14 = .ref (w + 9) ∧ H.sh[w + 9]? = some (100, 56)) ∧ (H.P w 15 = .ref (w + 10) ∧ H.sh[w + 10]? = some (100, 56)) ∧ (H.P w 17 = .ref (w + 11) ∧ H.sh[w + 11]? = some (100, 16)) ∧ (H.P w 18 = .ref (w + 12) ∧ H.sh[w + 12]? = some (100, 17)) ∧ (H.P w 19 = .ref (w + 13) ∧ H.sh[w + 13]? = some (100, 48)) ∧ (H.P w 20 = .ref (w + 14) ∧ H.sh[w + 14]? = some (100, 48)) ∧ (H.P w 22 = .ref (w + 15) ∧ H.sh[w + 15]? = some (100, 8)) ∧ (H.P w 23 = .ref (w + 16) ∧ H.sh[w + 16]? = some (100, 8)) ∧ (H.P w 24 = .ref (w + 17) ∧ H.sh[w + 17]? = some (100, 32)) ∧ (H.P w 25 = .ref (w + 18) ∧ H.sh[w + 18]? = some (100, 32)) ∧ (H.P w 27 = .ref (w + 19) ∧ H.sh[w + 19]? = some (100, 16)) ∧ (H.P w 28 = .ref (w + 20) ∧ H.sh[w + 20]? = some (100, 768)) ∧ (H.P w 30 = .ref (w + 21) ∧ H.sh[w + 21]? = some (100, 16)) ∧ (H.P w 31 = .ref (w + 22) ∧ H.sh[w + 22]? = some (100, 16)) ∧ (H.P w 32 = .ref (w + 23) ∧ H.sh[w + 23]? = some (100, 16)) ∧ (H.P w 33 = .ref (w + 24) ∧ H.sh[w + 24]? = some (100, 16)) ∧ (H.P w 34 = .ref (w + 25) ∧ H.sh[w + 25]? = some (100, 16)) ∧ (H.P w 35 = .ref (w + 26) ∧ H.sh[w + 26]? = some (100, 16)) ∧ (H.P w 36 = .ref (w + 27) ∧ H.sh[w + 27]? = some (100, 16)) ∧ (H.P w 38 = .ref (w + 28) ∧ H.sh[w + 28]? = some (100, 12)) ∧ (H.P w 39 = .ref (w + 29) ∧ H.sh[w + 29]? = some (100, 12)) ∧ (H.P w 40 = .ref (w + 30) ∧ H.sh[w + 30]? = some (102, 12))
theorem TP_0 {H : Hp} {w : Nat} (h : isT H w) : H.P w 0 = .ref (w + 1) := h.2.1.1
theorem TA_0 {H : Hp} {w : Nat} (h : isT H w) : H.sh[w + 1]? = some (101, 6000) := h.2.1.2
theorem TP_3 {H : Hp} {w : Nat} (h : isT H w) : H.P w 3 = .ref (w + 2) := h.2.2.1.1
theorem TA_3 {H : Hp} {w : Nat} (h : isT H w) : H.sh[w + 2]? = some (100, 6002) := h.2.2.1.2
theorem TP_4 {H : Hp} {w : Nat} (h : isT H w) : H.P w 4 = .ref (w + 3) := h.2.2.2.1.1
theorem TA_4 {H : Hp} {w : Nat} (h : isT H w) : H.sh[w + 3]? = some (100, 6002) := h.2.2.2.1.2
theorem TP_5 {H : Hp} {w : Nat} (h : isT H w) : H.P w 5 = .ref (w + 4) := h.2.2.2.2.1.1
theorem TA_5 {H : Hp} {w : Nat} (h : isT H w) : H.sh[w + 4]? = some (100, 6002) := h.2.2.2.2.1.2
theorem TP_6 {H : Hp} {w : Nat} (h : isT H w) : H.P w 6 = .ref (w + 5) := h.2.2.2.2.2.1.1
theorem TA_6 {H : Hp} {w : Nat} (h : isT H w) : H.sh[w + 5]? = some (100, 6002) := h.2.2.2.2.2.1.2
theorem TP_7 {H : Hp} {w : Nat} (h : isT H w) : H.P w 7 = .ref (w + 6) := h.2.2.2.2.2.2.1.1
theorem TA_7 {H : Hp} {w : Nat} (h : isT H w) : H.sh[w + 6]? = some (102, 6002) := h.2.2.2.2.2.2.1.2
theorem TP_8 {H : Hp} {w : Nat} (h : isT H w) : H.P w 8 = .ref (w + 7) := h.2.2.2.2.2.2.2.1.1
theorem TA_8 {H : Hp} {w : Nat} (h : isT H w) : H.sh[w + 7]? = some (100, 6002) := h.2.2.2.2.2.2.2.1.2
theorem TP_13 {H : Hp} {w : Nat} (h : isT H w) : H.P w 13 = .ref (w + 8) := h.2.2.2.2.2.2.2.2.1.1
theorem TA_13 {H : Hp} {w : Nat} (h : isT H w) : H.sh[w + 8]? = some (100, 56) := h.2.2.2.2.2.2.2.2.1.2
theorem TP_14 {H : Hp} {w : Nat} (h : isT H w) : H.P w 14 = .ref (w + 9) := h.2.2.2.2.2.2.2.2.2.1.1
theorem TA_14 {H : Hp} {w : Nat} (h : isT H w) : H.sh[w + 9]? = some (100, 56) := h.2.2.2.2.2.2.2.2.2.1.2
theorem TP_15 {H : Hp} {w : Nat} (h : isT H w) : H.P w 15 = .ref (w + 10) := h.2.2.2.2.2.2.2.2.2.2.1.1
theorem TA_15 {H : Hp} {w : Nat} (h : isT H w) : H.sh[w + 10]? = some (100, 56) := h.2.2.2.2.2.2.2.2.2.2.1.2
theorem TP_17 {H : Hp} {w : Nat} (h : isT H w) : H.P w 17 = .ref (w + 11) := h.2.2.2.2.2.2.2.2.2.2.2.1.1
theorem TA_17 {H : Hp} {w : Nat} (h : isT H w) : H.sh[w + 11]? = some (100, 16) := h.2.2.2.2.2.2.2.2.2.2.2.1.2
theorem TP_18 {H : Hp} {w : Nat} (h : isT H w) : H.P w 18 = .ref (w + 12) := h.2.2.2.2.2.2.2.2.2.2.2.2.1.1
theorem TA_18 {H : Hp} {w : Nat} (h : isT H w) : H.sh[w + 12]? = some (100, 17) := h.2.2.2.2.2.2.2.2.2.2.2.2.1.2
theorem TP_19 {H : Hp} {w : Nat} (h : isT H w) : H.P w 19 = .ref (w + 13) := h.2.2.2.2.2.2.2.2.2.2.2.2.2.1.1
theorem TA_19 {H : Hp} {w : Nat} (h : isT H w) : H.sh[w + 13]? = some (100, 48) := h.2.2.2.2.2.2.2.2.2.2.2.2.2.1.2
theorem TP_20 {H : Hp} {w : Nat} (h : isT H w) : H.P w 20 = .ref (w + 14) := h.2.2.2.2.2.2.2.2.2.2.2.2.2.2.1.1
theorem TA_20 {H : Hp} {w : Nat} (h : isT H w) : H.sh[w + 14]? = some (100, 48) := h.2.2.2.2.2.2.2.2.2.2.2.2.2.2.1.2
theorem TP_22 {H : Hp} {w : Nat} (h : isT H w) : H.P w 22 = .ref (w + 15) := h.2.2.2.2.2.2.2.2.2.2.2.2.2.2.2.1.1
theorem TA_22 {H : Hp} {w : Nat} (h : isT H w) : H.sh[w + 15]? = some (100, 8) := h.2.2.2.2.2.2.2.2.2.2.2.2.2.2.2.1.2
theorem TP_23 {H : Hp} {w : Nat} (h : isT H w) : H.P w 23 = .ref (w + 16) := h.2.2.2.2.2.2.2.2.2.2.2.2.2.2.2.2.1.1
theorem TA_23 {H : Hp} {w : Nat} (h : isT H w) : H.sh[w + 16]? = some (100, 8) := h.2.2.2.2.2.2.2.2.2.2.2.2.2.2.2.2.1.2
theorem TP_24 {H : Hp} {w : Nat} (h : isT H w) : H.P w 24 = .ref (w + 17) := h.2.2.2.2.2.2.2.2.2.2.2.2.2.2.2.2.2.1.1
theorem TA_24 {H : Hp} {w : Nat} (h : isT H w) : H.sh[w + 17]? = some (100, 32) := h.2.2.2.2.2.2.2.2.2.2.2.2.2.2.2.2.2.1.2
theorem TP_25 {H : Hp} {w : Nat} (h : isT H w) : H.P w 25 = .ref (w + 18) := h.2.2.2.2.2.2.2.2.2.2.2.2.2.2.2.2.2.2.1.1
theorem TA_25 {H : Hp} {w : Nat} (h : isT H w) : H.sh[w + 18]? = some (100, 32) := h.2.2.2.2.2.2.2.2.2.2.2.2.2.2.2.2.2.2.1.2
theorem TP_27 {H : Hp} {w : Nat} (h : isT H w) : H.P w 27 = .ref (w + 19) := h.2.2.2.2.2.2.2.2.2.2.2.2.2.2.2.2.2.2.2.1.1
theorem TA_27 {H : Hp} {w : Nat} (h : isT H w) : H.sh[w + 19]? = some (100, 16) := h.2.2.2.2.2.2.2.2.2.2.2.2.2.2.2.2.2.2.2.1.2
theorem TP_28 {H : Hp} {w : Nat} (h : isT H w) : H.P w 28 = .ref (w + 20) := h.2.2.2.2.2.2.2.2.2.2.2.2.2.2.2.2.2.2.2.2.1.1
theorem TA_28 {H : Hp} {w : Nat} (h : isT H w) : H.sh[w + 20]? = some (100, 768) := h.2.2.2.2.2.2.2.2.2.2.2.2.2.2.2.2.2.2.2.2.1.2
theorem TP_30 {H : Hp} {w : Nat} (h : isT H w) : H.P w 30 = .ref (w + 21) := h.2.2.2.2.2.2.2.2.2.2.2.2.2.2.2.2.2.2.2.2.2.1.1
theorem TA_30 {H : Hp} {w : Nat} (h : isT H w) : H.sh[w + 21]? = some (100, 16) := h.2.2.2.2.2.2.2.2.2.2.2.2.2.2.2.2.2.2.2.2.2.1.2
theorem TP_31 {H : Hp} {w : Nat} (h : isT H w) : H.P w 31 = .ref (w + 22) := h.2.2.2.2.2.2.2.2.2.2.2.2.2.2.2.2.2.2.2.2.2.2.1.1
theorem TA_31 {H : Hp} {w : Nat} (h : isT H w) : H.sh[w + 22]? = some (100, 16) := h.2.2.2.2.2.2.2.2.2.2.2.2.2.2.2.2.2.2.2.2.2.2.1.2
theorem TP_32 {H : Hp} {w : Nat} (h : isT H w) : H.P w 32 = .ref (w + 23) := h.2.2.2.2.2.2.2.2.2.2.2.2.2.2.2.2.2.2.2.2.2.2.2.1.1
theorem TA_32 {H : Hp} {w : Nat} (h : isT H w) : H.sh[w + 23]? = some (100, 16) := h.2.2.2.2.2.2.2.2.2.2.2.2.2.2.2.2.2.2.2.2.2.2.2.1.2
theorem TP_33 {H : Hp} {w : Nat} (h : isT H w) : H.P w 33 = .ref (w + 24) := h.2.2.2.2.2.2.2.2.2.2.2.2.2.2.2.2.2.2.2.2.2.2.2.2.1.1
theorem TA_33 {H : Hp} {w : Nat} (h : isT H w) : H.sh[w + 24]? = some (100, 16) := h.2.2.2.2.2.2.2.2.2.2.2.2.2.2.2.2.2.2.2.2.2.2.2.2.1.2
theorem TP_34 {H : Hp} {w : Nat} (h : isT H w) : H.P w 34 = .ref (w + 25) := h.2.2.2.2.2.2.2.2.2.2.2.2.2.2.2.2.2.2.2.2.2.2.2.2.2.1.1
theorem TA_34 {H : Hp} {w : Nat} (h : isT H w) : H.sh[w + 25]? = some (100, 16) := h.2.2.2.2.2.2.2.2.2.2.2.2.2.2.2.2.2.2.2.2.2.2.2.2.2.1.2
theorem TP_35 {H : Hp} {w : Nat} (h : isT H w) : H.P w 35 = .ref (w + 26) := h.2.2.2.2.2.2.2.2.2.2.2.2.2.2.2.2.2.2.2.2.2.2.2.2.2.2.1.1
theorem TA_35 {H : Hp} {w : Nat} (h : isT H w) : H.sh[w + 26]? = some (100, 16) := h.2.2.2.2.2.2.2.2.2.2.2.2.2.2.2.2.2.2.2.2.2.2.2.2.2.2.1.2
theorem TP_36 {H : Hp} {w : Nat} (h : isT H w) : H.P w 36 = .ref (w + 27) := h.2.2.2.2.2.2.2.2.2.2.2.2.2.2.2.2.2.2.2.2.2.2.2.2.2.2.2.1.1
theorem TA_36 {H : Hp} {w : Nat} (h : isT H w) : H.sh[w + 27]? = some (100, 16) := h.2.2.2.2.2.2.2.2.2.2.2.2.2.2.2.2.2.2.2.2.2.2.2.2.2.2.2.1.2
theorem TP_38 {H : Hp} {w : Nat} (h : isT H w) : H.P w 38 = .ref (w + 28) := h.2.2.2.2.2.2.2.2.2.2.2.2.2.2.2.2.2.2.2.2.2.2.2.2.2.2.2.2.1.1
theorem TA_38 {H : Hp} {w : Nat} (h : isT H w) : H.sh[w + 28]? = some (100, 12) := h.2.2.2.2.2.2.2.2.2.2.2.2.2.2.2.2.2.2.2.2.2.2.2.2.2.2.2.2.1.2
theorem TP_39 {H : Hp} {w : Nat} (h : isT H w) : H.P w 39 = .ref (w + 29) := h.2.2.2.2.2.2.2.2.2.2.2.2.2.2.2.2.2.2.2.2.2.2.2.2.2.2.2.2.2.1.1
theorem TA_39 {H : Hp} {w : Nat} (h : isT H w) : H.sh[w + 29]? = some (100, 12) := h.2.2.2.2.2.2.2.2.2.2.2.2.2.2.2.2.2.2.2.2.2.2.2.2.2.2.2.2.2.1.2
theorem TP_40 {H : Hp} {w : Nat} (h : isT H w) : H.P w 40 = .ref (w + 30) := h.2.2.2.2.2.2.2.2.2.2.2.2.2.2.2.2.2.2.2.2.2.2.2.2.2.2.2.2.2.2.1
theorem TA_40 {H : Hp} {w : Nat} (h : isT H w) : H.sh[w + 30]? = some (102, 12) := h.2.2.2.2.2.2.2.2.2.2.2.2.2.2.2.2.2.2.2.2.2.2.2.2.2.2.2.2.2.2.2
theorem TS {H : Hp} {w : Nat} (h : isT H w) : H.sh[w]? = some (14, 0) := h.1
def lT : List Nat := [519, 550]
set_option maxRecDepth 20000 in
theorem gr_T {H : Hp} (h : Gr H) : ∀ w ∈ lT, isT H w := by
  intro w hw
  simp only [lT, List.mem_cons, List.not_mem_nil, or_false] at hw
  rcases hw with rfl | rfl
  · exact ⟨h.s rfl, ⟨h.p 526 rfl, h.s rfl⟩, ⟨h.p 527 rfl, h.s rfl⟩, ⟨h.p 528 rfl, h.s rfl⟩, ⟨h.p 529 rfl, h.s rfl⟩, ⟨h.p 530 rfl, h.s rfl⟩, ⟨h.p 531 rfl, h.s rfl⟩, ⟨h.p 532 rfl, h.s rfl⟩, ⟨h.p 533 rfl, h.s rfl⟩, ⟨h.p 534 rfl, h.s rfl⟩, ⟨h.p 535 rfl, h.s rfl⟩, ⟨h.p 536 rfl, h.s rfl⟩, ⟨h.p 537 rfl, h.s rfl⟩, ⟨h.p 538 rfl, h.s rfl⟩, ⟨h.p 539 rfl, h.s rfl⟩, ⟨h.p 540 rfl, h.s rfl⟩, ⟨h.p 541 rfl, h.s rfl⟩, ⟨h.p 542 rfl, h.s rfl⟩, ⟨h.p 543 rfl, h.s rfl⟩, ⟨h.p 544 rfl, h.s rfl⟩, ⟨h.p 545 rfl, h.s rfl⟩, ⟨h.p 546 rfl, h.s rfl⟩, ⟨h.p 547 rfl, h.s rfl⟩, ⟨h.p 548 rfl, h.s rfl⟩, ⟨h.p 549 rfl, h.s rfl⟩, ⟨h.p 550 rfl, h.s rfl⟩, ⟨h.p 551 rfl, h.s rfl⟩, ⟨h.p 552 rfl, h.s rfl⟩, ⟨h.p 553 rfl, h.s rfl⟩, ⟨h.p 554 rfl, h.s rfl⟩, ⟨h.p 555 rfl, h.s rfl⟩⟩
  · exact ⟨h.s rfl, ⟨h.p 556 rfl, h.s rfl⟩, ⟨h.p 557 rfl, h.s rfl⟩, ⟨h.p 558 rfl, h.s rfl⟩, ⟨h.p 559 rfl, h.s rfl⟩, ⟨h.p 560 rfl, h.s rfl⟩, ⟨h.p 561 rfl, h.s rfl⟩, ⟨h.p 562 rfl, h.s rfl⟩, ⟨h.p 563 rfl, h.s rfl⟩, ⟨h.p 564 rfl, h.s rfl⟩, ⟨h.p 565 rfl, h.s rfl⟩, ⟨h.p 566 rfl, h.s rfl⟩, ⟨h.p 567 rfl, h.s rfl⟩, ⟨h.p 568 rfl, h.s rfl⟩, ⟨h.p 569 rfl, h.s rfl⟩, ⟨h.p 570 rfl, h.s rfl⟩, ⟨h.p 571 rfl, h.s rfl⟩, ⟨h.p 572 rfl, h.s rfl⟩, ⟨h.p 573 rfl, h.s rfl⟩, ⟨h.p 574 rfl, h.s rfl⟩, ⟨h.p 575 rfl, h.s rfl⟩, ⟨h.p 576 rfl, h.s rfl⟩, ⟨h.p 577 rfl, h.s rfl⟩, ⟨h.p 578 rfl, h.s rfl⟩, ⟨h.p 579 rfl, h.s rfl⟩, ⟨h.p 580 rfl, h.s rfl⟩, ⟨h.p 581 rfl, h.s rfl⟩, ⟨h.p 582 rfl, h.s rfl⟩, ⟨h.p 583 rfl, h.s rfl⟩, ⟨h.p 584 rfl, h.s rfl⟩, ⟨h.p 585 rfl, h.s rfl⟩⟩
