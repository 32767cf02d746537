/-! THE LAYOUT: every cell that the two constructors and the law make lies at b0 + hw_pos f i, f its family (which object or array of the source it is), i its number in the family. -/
abbrev MI : Type := Nat → Nat → Int32
abbrev MJ : Type := Nat → Nat → Int64
abbrev VF : Type := Nat → Nat → Nat → Value
def uI (I : MI) (g n : Nat) (x : Int32) : MI := fun g' n' => if g' = g ∧ n' = n then x else I g' n'
def uJ (J : MJ) (g n : Nat) (x : Int64) : MJ := fun g' n' => if g' = g ∧ n' = n then x else J g' n'

def hw_ob (f : Nat) : Bool := [true, false, true, false, false, false, true, false, false, false, true, true, false, false, false, false, true, false, false, false, false, false, false, false, false, false, true, false, true, false, false, false, true, false, false, false, true, true, false, false, false, false, true, false, false, false, false, false, false, false, false, false].getD f false
def hw_kc (f : Nat) : Nat := [5, 13, 0, 10, 12, 14, 3, 10, 10, 15, 1, 2, 16, 11, 16, 11, 4, 12, 12, 12, 10, 10, 10, 10, 10, 12, 5, 13, 0, 10, 12, 14, 3, 10, 10, 15, 1, 2, 16, 11, 16, 11, 4, 12, 12, 12, 10, 10, 10, 10, 10, 12].getD f 0
def hw_sz (f : Nat) : Nat := [14, 12, 8, 12, 12, 40, 10, 12, 12, 40, 6, 2, 12, 12, 12, 12, 11, 12, 12, 12, 12, 12, 12, 8, 8, 20, 14, 12, 8, 12, 12, 40, 10, 12, 12, 40, 6, 2, 12, 12, 12, 12, 11, 12, 12, 12, 12, 12, 12, 8, 8, 20].getD f 0
def hw_cl : List Nat := [1, 1, 12, 12, 12, 1, 40, 40, 40, 1, 40, 1, 1, 12, 1, 12, 1, 1, 1, 1, 1, 1, 1, 1, 1, 1, 1, 1, 12, 12, 12, 1, 40, 40, 40, 1, 40, 1, 1, 12, 1, 12, 1, 1, 1, 1, 1, 1, 1, 1, 1, 1]
def hw_cnt (f : Nat) : Nat := hw_cl.getD f 0
def hw_off (f : Nat) : Nat := [0, 1, 2, 3, 4, 38, 39, 40, 41, 159, 160, 200, 201, 202, 214, 215, 227, 228, 229, 230, 231, 232, 233, 234, 235, 236, 237, 238, 239, 240, 241, 275, 276, 277, 278, 396, 397, 437, 438, 439, 451, 452, 464, 465, 466, 467, 468, 469, 470, 471, 472, 473].getD f 0
def hw_st (f : Nat) : Nat := [0, 0, 3, 3, 3, 0, 3, 3, 3, 0, 1, 0, 0, 1, 0, 1, 0, 0, 0, 0, 0, 0, 0, 0, 0, 0, 0, 0, 3, 3, 3, 0, 3, 3, 3, 0, 1, 0, 0, 1, 0, 1, 0, 0, 0, 0, 0, 0, 0, 0, 0, 0].getD f 0
def hw_wd (f : Nat) : Nat := [0, 0, 0, 12, 12, 0, 0, 12, 12, 0, 0, 0, 0, 12, 0, 12, 0, 0, 0, 0, 0, 0, 0, 0, 0, 0, 0, 0, 0, 12, 12, 0, 0, 12, 12, 0, 0, 0, 0, 12, 0, 12, 0, 0, 0, 0, 0, 0, 0, 0, 0, 0].getD f 0
def hw_tb : List (List (Nat × Nat)) := [[(4, 1), (4, 5), (4, 9), (4, 11), (4, 16), (4, 23), (4, 24), (4, 25), (0, 0), (0, 1), (0, 2), (0, 3), (0, 4), (1, 3)], [(4, 2)], [(0, 5), (1, 0), (0, 6), (0, 7), (0, 8), (0, 9), (4, 3), (4, 4)], [(0, 10)], [(0, 11)], [(4, 6)], [(0, 12), (0, 13), (0, 14), (0, 15), (0, 16), (0, 17), (0, 18), (0, 19), (4, 7), (4, 8)], [(0, 20)], [(0, 21)], [(4, 10)], [(0, 22), (0, 23), (0, 24), (0, 25), (0, 26), (0, 27)], [(4, 12), (4, 14)], [(4, 13)], [(1, 1)], [(4, 15)], [(1, 2)], [(4, 1), (4, 11), (4, 17), (4, 18), (4, 19), (4, 20), (4, 21), (4, 22), (0, 37), (0, 38), (0, 39)], [(0, 31)], [(0, 32)], [(0, 33)], [(0, 34)], [(0, 35)], [(0, 36)], [(0, 28)], [(0, 29)], [(0, 30)], [(4, 27), (4, 31), (4, 35), (4, 37), (4, 42), (4, 49), (4, 50), (4, 51), (2, 0), (2, 1), (2, 2), (2, 3), (2, 4), (3, 3)], [(4, 28)], [(2, 5), (3, 0), (2, 6), (2, 7), (2, 8), (2, 9), (4, 29), (4, 30)], [(2, 10)], [(2, 11)], [(4, 32)], [(2, 12), (2, 13), (2, 14), (2, 15), (2, 16), (2, 17), (2, 18), (2, 19), (4, 33), (4, 34)], [(2, 20)], [(2, 21)], [(4, 36)], [(2, 22), (2, 23), (2, 24), (2, 25), (2, 26), (2, 27)], [(4, 38), (4, 40)], [(4, 39)], [(3, 1)], [(4, 41)], [(3, 2)], [(4, 27), (4, 37), (4, 43), (4, 44), (4, 45), (4, 46), (4, 47), (4, 48), (2, 37), (2, 38), (2, 39)], [(2, 31)], [(2, 32)], [(2, 33)], [(2, 34)], [(2, 35)], [(2, 36)], [(2, 28)], [(2, 29)], [(2, 30)]]
def hw_un : List (Nat × Nat) := [(0, 0), (1, 0), (2, 0), (3, 0), (4, 0), (2, 1), (3, 1), (4, 1), (2, 2), (3, 2), (4, 2), (2, 3), (3, 3), (4, 3), (2, 4), (3, 4), (4, 4), (2, 5), (3, 5), (4, 5), (2, 6), (3, 6), (4, 6), (2, 7), (3, 7), (4, 7), (2, 8), (3, 8), (4, 8), (2, 9), (3, 9), (4, 9), (2, 10), (3, 10), (4, 10), (2, 11), (3, 11), (4, 11), (5, 0), (6, 0), (7, 0), (8, 0), (6, 1), (7, 1), (8, 1), (6, 2), (7, 2), (8, 2), (6, 3), (7, 3), (8, 3), (6, 4), (7, 4), (8, 4), (6, 5), (7, 5), (8, 5), (6, 6), (7, 6), (8, 6), (6, 7), (7, 7), (8, 7), (6, 8), (7, 8), (8, 8), (6, 9), (7, 9), (8, 9), (6, 10), (7, 10), (8, 10), (6, 11), (7, 11), (8, 11), (6, 12), (7, 12), (8, 12), (6, 13), (7, 13), (8, 13), (6, 14), (7, 14), (8, 14), (6, 15), (7, 15), (8, 15), (6, 16), (7, 16), (8, 16), (6, 17), (7, 17), (8, 17), (6, 18), (7, 18), (8, 18), (6, 19), (7, 19), (8, 19), (6, 20), (7, 20), (8, 20), (6, 21), (7, 21), (8, 21), (6, 22), (7, 22), (8, 22), (6, 23), (7, 23), (8, 23), (6, 24), (7, 24), (8, 24), (6, 25), (7, 25), (8, 25), (6, 26), (7, 26), (8, 26), (6, 27), (7, 27), (8, 27), (6, 28), (7, 28), (8, 28), (6, 29), (7, 29), (8, 29), (6, 30), (7, 30), (8, 30), (6, 31), (7, 31), (8, 31), (6, 32), (7, 32), (8, 32), (6, 33), (7, 33), (8, 33), (6, 34), (7, 34), (8, 34), (6, 35), (7, 35), (8, 35), (6, 36), (7, 36), (8, 36), (6, 37), (7, 37), (8, 37), (6, 38), (7, 38), (8, 38), (6, 39), (7, 39), (8, 39), (9, 0), (10, 0), (10, 1), (10, 2), (10, 3), (10, 4), (10, 5), (10, 6), (10, 7), (10, 8), (10, 9), (10, 10), (10, 11), (10, 12), (10, 13), (10, 14), (10, 15), (10, 16), (10, 17), (10, 18), (10, 19), (10, 20), (10, 21), (10, 22), (10, 23), (10, 24), (10, 25), (10, 26), (10, 27), (10, 28), (10, 29), (10, 30), (10, 31), (10, 32), (10, 33), (10, 34), (10, 35), (10, 36), (10, 37), (10, 38), (10, 39), (11, 0), (12, 0), (13, 0), (13, 1), (13, 2), (13, 3), (13, 4), (13, 5), (13, 6), (13, 7), (13, 8), (13, 9), (13, 10), (13, 11), (14, 0), (15, 0), (15, 1), (15, 2), (15, 3), (15, 4), (15, 5), (15, 6), (15, 7), (15, 8), (15, 9), (15, 10), (15, 11), (16, 0), (17, 0), (18, 0), (19, 0), (20, 0), (21, 0), (22, 0), (23, 0), (24, 0), (25, 0), (26, 0), (27, 0), (28, 0), (29, 0), (30, 0), (28, 1), (29, 1), (30, 1), (28, 2), (29, 2), (30, 2), (28, 3), (29, 3), (30, 3), (28, 4), (29, 4), (30, 4), (28, 5), (29, 5), (30, 5), (28, 6), (29, 6), (30, 6), (28, 7), (29, 7), (30, 7), (28, 8), (29, 8), (30, 8), (28, 9), (29, 9), (30, 9), (28, 10), (29, 10), (30, 10), (28, 11), (29, 11), (30, 11), (31, 0), (32, 0), (33, 0), (34, 0), (32, 1), (33, 1), (34, 1), (32, 2), (33, 2), (34, 2), (32, 3), (33, 3), (34, 3), (32, 4), (33, 4), (34, 4), (32, 5), (33, 5), (34, 5), (32, 6), (33, 6), (34, 6), (32, 7), (33, 7), (34, 7), (32, 8), (33, 8), (34, 8), (32, 9), (33, 9), (34, 9), (32, 10), (33, 10), (34, 10), (32, 11), (33, 11), (34, 11), (32, 12), (33, 12), (34, 12), (32, 13), (33, 13), (34, 13), (32, 14), (33, 14), (34, 14), (32, 15), (33, 15), (34, 15), (32, 16), (33, 16), (34, 16), (32, 17), (33, 17), (34, 17), (32, 18), (33, 18), (34, 18), (32, 19), (33, 19), (34, 19), (32, 20), (33, 20), (34, 20), (32, 21), (33, 21), (34, 21), (32, 22), (33, 22), (34, 22), (32, 23), (33, 23), (34, 23), (32, 24), (33, 24), (34, 24), (32, 25), (33, 25), (34, 25), (32, 26), (33, 26), (34, 26), (32, 27), (33, 27), (34, 27), (32, 28), (33, 28), (34, 28), (32, 29), (33, 29), (34, 29), (32, 30), (33, 30), (34, 30), (32, 31), (33, 31), (34, 31), (32, 32), (33, 32), (34, 32), (32, 33), (33, 33), (34, 33), (32, 34), (33, 34), (34, 34), (32, 35), (33, 35), (34, 35), (32, 36), (33, 36), (34, 36), (32, 37), (33, 37), (34, 37), (32, 38), (33, 38), (34, 38), (32, 39), (33, 39), (34, 39), (35, 0), (36, 0), (36, 1), (36, 2), (36, 3), (36, 4), (36, 5), (36, 6), (36, 7), (36, 8), (36, 9), (36, 10), (36, 11), (36, 12), (36, 13), (36, 14), (36, 15), (36, 16), (36, 17), (36, 18), (36, 19), (36, 20), (36, 21), (36, 22), (36, 23), (36, 24), (36, 25), (36, 26), (36, 27), (36, 28), (36, 29), (36, 30), (36, 31), (36, 32), (36, 33), (36, 34), (36, 35), (36, 36), (36, 37), (36, 38), (36, 39), (37, 0), (38, 0), (39, 0), (39, 1), (39, 2), (39, 3), (39, 4), (39, 5), (39, 6), (39, 7), (39, 8), (39, 9), (39, 10), (39, 11), (40, 0), (41, 0), (41, 1), (41, 2), (41, 3), (41, 4), (41, 5), (41, 6), (41, 7), (41, 8), (41, 9), (41, 10), (41, 11), (42, 0), (43, 0), (44, 0), (45, 0), (46, 0), (47, 0), (48, 0), (49, 0), (50, 0), (51, 0)]
def hw_ow : List (Nat × Nat) := [(0, 8), (0, 9), (0, 10), (0, 11), (0, 12), (2, 0), (2, 2), (2, 3), (2, 4), (2, 5), (3, 0), (4, 0), (6, 0), (6, 1), (6, 2), (6, 3), (6, 4), (6, 5), (6, 6), (6, 7), (7, 0), (8, 0), (10, 0), (10, 1), (10, 2), (10, 3), (10, 4), (10, 5), (23, 0), (24, 0), (25, 0), (17, 0), (18, 0), (19, 0), (20, 0), (21, 0), (22, 0), (16, 8), (16, 9), (16, 10), (0, 0), (0, 0), (0, 0), (0, 0), (0, 0), (0, 0), (0, 0), (0, 0), (0, 0), (0, 0), (0, 0), (0, 0), (0, 0), (0, 0), (0, 0), (0, 0), (0, 0), (0, 0), (0, 0), (0, 0), (0, 0), (0, 0), (0, 0), (0, 0), (2, 1), (13, 0), (15, 0), (0, 13), (0, 0), (0, 0), (0, 0), (0, 0), (0, 0), (0, 0), (0, 0), (0, 0), (0, 0), (0, 0), (0, 0), (0, 0), (0, 0), (0, 0), (0, 0), (0, 0), (0, 0), (0, 0), (0, 0), (0, 0), (0, 0), (0, 0), (0, 0), (0, 0), (0, 0), (0, 0), (0, 0), (0, 0), (0, 0), (0, 0), (0, 0), (0, 0), (0, 0), (0, 0), (0, 0), (0, 0), (0, 0), (0, 0), (0, 0), (0, 0), (0, 0), (0, 0), (0, 0), (0, 0), (0, 0), (0, 0), (0, 0), (0, 0), (0, 0), (0, 0), (0, 0), (0, 0), (0, 0), (0, 0), (0, 0), (0, 0), (0, 0), (0, 0), (0, 0), (0, 0), (26, 8), (26, 9), (26, 10), (26, 11), (26, 12), (28, 0), (28, 2), (28, 3), (28, 4), (28, 5), (29, 0), (30, 0), (32, 0), (32, 1), (32, 2), (32, 3), (32, 4), (32, 5), (32, 6), (32, 7), (33, 0), (34, 0), (36, 0), (36, 1), (36, 2), (36, 3), (36, 4), (36, 5), (49, 0), (50, 0), (51, 0), (43, 0), (44, 0), (45, 0), (46, 0), (47, 0), (48, 0), (42, 8), (42, 9), (42, 10), (0, 0), (0, 0), (0, 0), (0, 0), (0, 0), (0, 0), (0, 0), (0, 0), (0, 0), (0, 0), (0, 0), (0, 0), (0, 0), (0, 0), (0, 0), (0, 0), (0, 0), (0, 0), (0, 0), (0, 0), (0, 0), (0, 0), (0, 0), (0, 0), (28, 1), (39, 0), (41, 0), (26, 13), (0, 0), (0, 0), (0, 0), (0, 0), (0, 0), (0, 0), (0, 0), (0, 0), (0, 0), (0, 0), (0, 0), (0, 0), (0, 0), (0, 0), (0, 0), (0, 0), (0, 0), (0, 0), (0, 0), (0, 0), (0, 0), (0, 0), (0, 0), (0, 0), (0, 0), (0, 0), (0, 0), (0, 0), (0, 0), (0, 0), (0, 0), (0, 0), (0, 0), (0, 0), (0, 0), (0, 0), (0, 0), (0, 0), (0, 0), (0, 0), (0, 0), (0, 0), (0, 0), (0, 0), (0, 0), (0, 0), (0, 0), (0, 0), (0, 0), (0, 0), (0, 0), (0, 0), (0, 0), (0, 0), (0, 0), (0, 0), (0, 0), (0, 0), (0, 0), (0, 0), (0, 0), (0, 0), (0, 0), (0, 0), (0, 0), (0, 0), (0, 0), (0, 0), (0, 0), (0, 0), (0, 0), (0, 0), (0, 0), (0, 0), (0, 0), (0, 0), (0, 0), (0, 0), (0, 0), (0, 0), (0, 0), (0, 0), (0, 0), (0, 0), (0, 0), (0, 0), (0, 0), (0, 0), (0, 0), (0, 0), (0, 0), (0, 0), (0, 0), (0, 0), (0, 0), (0, 0), (0, 0), (0, 0), (0, 0), (0, 0), (0, 0), (0, 0), (0, 0), (0, 0), (0, 0), (0, 0), (0, 0), (0, 0), (0, 0), (0, 0), (0, 0), (0, 0), (0, 0), (0, 0), (0, 0), (0, 0), (0, 0), (0, 0), (0, 0), (0, 0), (0, 0), (0, 0), (0, 0), (0, 0), (0, 0), (0, 0), (0, 0), (0, 0), (0, 0), (0, 0), (0, 0), (0, 0), (0, 0), (0, 0), (0, 0), (0, 0), (0, 0), (0, 0), (0, 0), (0, 0), (0, 0), (0, 0), (0, 0), (0, 0), (0, 0), (0, 0), (0, 0), (0, 0), (0, 0), (0, 0), (0, 0), (0, 0), (0, 0), (0, 0), (0, 0), (0, 0), (0, 0), (0, 0), (0, 0), (0, 0), (0, 0), (0, 0), (0, 0), (0, 0), (0, 0), (0, 0), (0, 0), (0, 0), (0, 0), (0, 0), (0, 0), (0, 0), (0, 0), (0, 0), (0, 0), (0, 0), (0, 0), (0, 0), (0, 0), (0, 0), (0, 0), (0, 0), (0, 0), (0, 0), (0, 0), (0, 0), (0, 0), (0, 0)]
def hw_ds (f j : Nat) : Nat × Nat := if hw_ob f = true then (hw_tb.getD f []).getD j (9, 0) else (hw_tb.getD f []).getD 0 (9, 0)
def hw_pos (f i : Nat) : Nat := hw_off f + hw_st f * i
def hw_ad (b0 f i : Nat) : Nat := b0 + hw_pos f i
def hw_ix (f i j : Nat) : Nat := if hw_ob f = true then i else if hw_wd f = 0 then j else hw_wd f * i + j
/-- what the cells hold: the class's numbers I, longs J, the reference's P, N, the law's own o; links by the layout -/
def hw_vl (b0 : Nat) (I : MI) (J : MJ) (P : MI) (N : MJ) (o : Int64) : VF := fun f i j => match (hw_ds f j).1 with
  | 0 => .int (I (hw_ds f j).2 (hw_ix f i j))
  | 1 => .long (J (hw_ds f j).2 (hw_ix f i j))
  | 2 => .int (P (hw_ds f j).2 (hw_ix f i j))
  | 3 => .long (N (hw_ds f j).2 (hw_ix f i j))
  | 4 => .ref (hw_ad b0 (hw_ds f j).2 (hw_ix f i j))
  | _ => .long o
theorem hw_lt {f i : Nat} (h : i < hw_cnt f) : f < 52 := by
  rcases Nat.lt_or_ge f 52 with q | q
  · exact q
  · have e : hw_cnt f = 0 := by
      unfold hw_cnt
      rw [List.getD_eq_getElem?_getD, List.getElem?_eq_none (by exact q)]
      rfl
    omega
set_option maxRecDepth 100000 in
theorem hw_un_ok : ∀ f, f < 52 → ∀ i, i < hw_cnt f → hw_un.getD (hw_pos f i) (0, 0) = (f, i) := by decide +kernel
set_option maxRecDepth 100000 in
theorem hw_nt_ok : ∀ f, f < 52 → ∀ i, i < hw_cnt f → hw_pos f i < 474 := by decide +kernel
set_option maxRecDepth 100000 in
theorem hw_ow_ob : ∀ f, f < 52 → hw_ob f = true → ∀ j, j < hw_sz f → (hw_ds f j).1 ≠ 4 → hw_ow.getD (64 * (hw_ds f j).1 + (hw_ds f j).2) (0, 0) = (f, j) := by decide +kernel
set_option maxRecDepth 100000 in
theorem hw_ow_ar : ∀ f, f < 52 → hw_ob f = false → (hw_ds f 0).1 ≠ 4 → hw_ow.getD (64 * (hw_ds f 0).1 + (hw_ds f 0).2) (0, 0) = (f, 0) := by decide +kernel
set_option maxRecDepth 100000 in
theorem hw_wd_ok : ∀ f, f < 52 → hw_ob f = false → (hw_wd f = 0 → hw_cnt f ≤ 1) ∧ (hw_wd f ≠ 0 → hw_sz f ≤ hw_wd f) := by decide +kernel
set_option maxRecDepth 100000 in
theorem hw_kd_ob : ∀ f, f < 52 → hw_ob f = true → ∀ j, j < hw_sz f → (hw_ds f j).1 ≤ 4 := by decide +kernel
set_option maxRecDepth 100000 in
theorem hw_kd_ar : ∀ f, f < 52 → hw_ob f = false → (hw_ds f 0).1 ≤ 4 := by decide +kernel
/-- the first hall's families alone -/
def hw_cn (f : Nat) : Nat := if f < 26 then hw_cnt f else 0
/-- how many cells are known: both halls' (o = 0), or the one's (else) -/
def hw_n (o : Int64) : Nat := if o = 0 then 474 else 237
theorem hw_n_ge (o : Int64) : 237 ≤ hw_n o := by unfold hw_n; split <;> omega
set_option maxRecDepth 100000 in
theorem hw_cn_ok : ∀ f, f < 26 → ∀ i, i < hw_cnt f → hw_pos f i < 237 := by decide +kernel
theorem hw_inj {f i f' i' : Nat} (h : i < hw_cnt f) (h' : i' < hw_cnt f') (e : hw_pos f i = hw_pos f' i') : f = f' ∧ i = i' := by
  have a := hw_un_ok f (hw_lt h) i h
  have b := hw_un_ok f' (hw_lt h') i' h'
  rw [e, b] at a
  cases a
  exact ⟨rfl, rfl⟩
theorem hw_dsa {f : Nat} (h : hw_ob f = false) (j : Nat) : hw_ds f j = hw_ds f 0 := by
  unfold hw_ds
  rw [if_neg (by rw [h]; decide), if_neg (by rw [h]; decide)]
/-- two places that hold the same number are one place -/
theorem hw_one {f i j f' i' j' : Nat} (h : i < hw_cnt f) (hj : j < hw_sz f) (h' : i' < hw_cnt f') (hj' : j' < hw_sz f') (hd : hw_ds f j = hw_ds f' j') (h4 : (hw_ds f j).1 ≠ 4) (hx : hw_ix f i j = hw_ix f' i' j') : f' = f ∧ i' = i ∧ j' = j := by
  have hf := hw_lt h
  have hf' := hw_lt h'
  have h4' : (hw_ds f' j').1 ≠ 4 := by rw [← hd]; exact h4
  cases ho : hw_ob f with
  | true =>
    have a := hw_ow_ob f hf ho j hj h4
    cases ho' : hw_ob f' with
    | true =>
      have b := hw_ow_ob f' hf' ho' j' hj' h4'
      rw [hd, b] at a
      cases a
      refine ⟨rfl, ?_, rfl⟩
      unfold hw_ix at hx
      rw [if_pos ho, if_pos ho'] at hx
      exact hx.symm
    | false =>
      have b := hw_ow_ar f' hf' ho' (by rw [← hw_dsa ho' j']; exact h4')
      rw [hd, hw_dsa ho' j', b] at a
      have e : f' = f := congrArg Prod.fst a
      rw [e, ho] at ho'
      cases ho'
  | false =>
    have a := hw_ow_ar f hf ho (by rw [← hw_dsa ho j]; exact h4)
    cases ho' : hw_ob f' with
    | true =>
      have b := hw_ow_ob f' hf' ho' j' hj' h4'
      rw [← hd, hw_dsa ho j, a] at b
      have e : f = f' := congrArg Prod.fst b
      rw [e, ho'] at ho
      cases ho
    | false =>
      have b := hw_ow_ar f' hf' ho' (by rw [← hw_dsa ho' j']; exact h4')
      rw [hw_dsa ho j, hw_dsa ho' j'] at hd
      rw [hd, b] at a
      have e : f' = f := congrArg Prod.fst a
      subst e
      unfold hw_ix at hx
      have hb : ¬ (hw_ob f' = true) := by rw [ho]; decide
      rw [if_neg hb, if_neg hb] at hx
      obtain ⟨w0, w1⟩ := hw_wd_ok f' hf ho
      by_cases hz : hw_wd f' = 0
      · rw [if_pos hz, if_pos hz] at hx
        have := w0 hz
        exact ⟨rfl, by omega, hx.symm⟩
      · rw [if_neg hz, if_neg hz] at hx
        have hs := w1 hz
        have p1 : 0 < hw_wd f' := Nat.pos_of_ne_zero hz
        have e1 : (hw_wd f' * i + j) / hw_wd f' = i := by
          rw [Nat.mul_add_div p1, Nat.div_eq_of_lt (by omega)]; rfl
        have e2 : (hw_wd f' * i' + j') / hw_wd f' = i' := by
          rw [Nat.mul_add_div p1, Nat.div_eq_of_lt (by omega)]; rfl
        have e3 : i' = i := by rw [← e1, ← e2, hx]
        subst e3
        exact ⟨rfl, rfl, by omega⟩
/-- v' is v, but x at one place -/
def hw_U (v : VF) (f i j : Nat) (x : Value) (v' : VF) : Prop := ∀ f' i' j', i' < hw_cnt f' → j' < hw_sz f' → v' f' i' j' = if f' = f ∧ i' = i ∧ j' = j then x else v f' i' j'

theorem hw_UI {b0 : Nat} {I : MI} {J : MJ} {P : MI} {N : MJ} {o : Int64} {f i j g n : Nat} {x : Int32} (h : i < hw_cnt f) (hj : j < hw_sz f) (hd : hw_ds f j = (0, g)) (hn : hw_ix f i j = n) : hw_U (hw_vl b0 I J P N o) f i j (.int x) (hw_vl b0 (uI I g n x) J P N o) := by
  intro f' i' j' h' hj'
  by_cases e : f' = f ∧ i' = i ∧ j' = j
  · rw [if_pos e]
    obtain ⟨rfl, rfl, rfl⟩ := e
    unfold hw_vl
    rw [hd, hn]
    show Value.int (uI I g n x g n) = _
    simp [uI, uJ]
  · rw [if_neg e]
    unfold hw_vl
    by_cases hk : hw_ds f' j' = (0, g)
    · rw [hk]
      show Value.int (uI I g n x g (hw_ix f' i' j')) = Value.int _
      congr 1
      have hne : hw_ix f' i' j' ≠ n := fun q => e (hw_one h hj h' hj' (hd.trans hk.symm) (by rw [hd]; exact (by decide : (0 : Nat) ≠ 4)) (hn.trans q.symm))
      simp [uI, uJ, hne]
    · have hne : ¬ ((hw_ds f' j').1 = 0 ∧ (hw_ds f' j').2 = g) := fun q => hk (Prod.ext q.1 q.2)
      generalize hw_ds f' j' = d at hne
      obtain ⟨d1, d2⟩ := d
      split <;> first | rfl | (rename_i q; dsimp only at q hne ⊢; subst q; congr 1; have : d2 ≠ g := fun z => hne ⟨rfl, z⟩; simp [uI, uJ, this])
theorem hw_UJ {b0 : Nat} {I : MI} {J : MJ} {P : MI} {N : MJ} {o : Int64} {f i j g n : Nat} {x : Int64} (h : i < hw_cnt f) (hj : j < hw_sz f) (hd : hw_ds f j = (1, g)) (hn : hw_ix f i j = n) : hw_U (hw_vl b0 I J P N o) f i j (.long x) (hw_vl b0 I (uJ J g n x) P N o) := by
  intro f' i' j' h' hj'
  by_cases e : f' = f ∧ i' = i ∧ j' = j
  · rw [if_pos e]
    obtain ⟨rfl, rfl, rfl⟩ := e
    unfold hw_vl
    rw [hd, hn]
    show Value.long (uJ J g n x g n) = _
    simp [uI, uJ]
  · rw [if_neg e]
    unfold hw_vl
    by_cases hk : hw_ds f' j' = (1, g)
    · rw [hk]
      show Value.long (uJ J g n x g (hw_ix f' i' j')) = Value.long _
      congr 1
      have hne : hw_ix f' i' j' ≠ n := fun q => e (hw_one h hj h' hj' (hd.trans hk.symm) (by rw [hd]; exact (by decide : (1 : Nat) ≠ 4)) (hn.trans q.symm))
      simp [uI, uJ, hne]
    · have hne : ¬ ((hw_ds f' j').1 = 1 ∧ (hw_ds f' j').2 = g) := fun q => hk (Prod.ext q.1 q.2)
      generalize hw_ds f' j' = d at hne
      obtain ⟨d1, d2⟩ := d
      split <;> first | rfl | (rename_i q; dsimp only at q hne ⊢; subst q; congr 1; have : d2 ≠ g := fun z => hne ⟨rfl, z⟩; simp [uI, uJ, this])
theorem hw_UP {b0 : Nat} {I : MI} {J : MJ} {P : MI} {N : MJ} {o : Int64} {f i j g n : Nat} {x : Int32} (h : i < hw_cnt f) (hj : j < hw_sz f) (hd : hw_ds f j = (2, g)) (hn : hw_ix f i j = n) : hw_U (hw_vl b0 I J P N o) f i j (.int x) (hw_vl b0 I J (uI P g n x) N o) := by
  intro f' i' j' h' hj'
  by_cases e : f' = f ∧ i' = i ∧ j' = j
  · rw [if_pos e]
    obtain ⟨rfl, rfl, rfl⟩ := e
    unfold hw_vl
    rw [hd, hn]
    show Value.int (uI P g n x g n) = _
    simp [uI, uJ]
  · rw [if_neg e]
    unfold hw_vl
    by_cases hk : hw_ds f' j' = (2, g)
    · rw [hk]
      show Value.int (uI P g n x g (hw_ix f' i' j')) = Value.int _
      congr 1
      have hne : hw_ix f' i' j' ≠ n := fun q => e (hw_one h hj h' hj' (hd.trans hk.symm) (by rw [hd]; exact (by decide : (2 : Nat) ≠ 4)) (hn.trans q.symm))
      simp [uI, uJ, hne]
    · have hne : ¬ ((hw_ds f' j').1 = 2 ∧ (hw_ds f' j').2 = g) := fun q => hk (Prod.ext q.1 q.2)
      generalize hw_ds f' j' = d at hne
      obtain ⟨d1, d2⟩ := d
      split <;> first | rfl | (rename_i q; dsimp only at q hne ⊢; subst q; congr 1; have : d2 ≠ g := fun z => hne ⟨rfl, z⟩; simp [uI, uJ, this])
theorem hw_UN {b0 : Nat} {I : MI} {J : MJ} {P : MI} {N : MJ} {o : Int64} {f i j g n : Nat} {x : Int64} (h : i < hw_cnt f) (hj : j < hw_sz f) (hd : hw_ds f j = (3, g)) (hn : hw_ix f i j = n) : hw_U (hw_vl b0 I J P N o) f i j (.long x) (hw_vl b0 I J P (uJ N g n x) o) := by
  intro f' i' j' h' hj'
  by_cases e : f' = f ∧ i' = i ∧ j' = j
  · rw [if_pos e]
    obtain ⟨rfl, rfl, rfl⟩ := e
    unfold hw_vl
    rw [hd, hn]
    show Value.long (uJ N g n x g n) = _
    simp [uI, uJ]
  · rw [if_neg e]
    unfold hw_vl
    by_cases hk : hw_ds f' j' = (3, g)
    · rw [hk]
      show Value.long (uJ N g n x g (hw_ix f' i' j')) = Value.long _
      congr 1
      have hne : hw_ix f' i' j' ≠ n := fun q => e (hw_one h hj h' hj' (hd.trans hk.symm) (by rw [hd]; exact (by decide : (3 : Nat) ≠ 4)) (hn.trans q.symm))
      simp [uI, uJ, hne]
    · have hne : ¬ ((hw_ds f' j').1 = 3 ∧ (hw_ds f' j').2 = g) := fun q => hk (Prod.ext q.1 q.2)
      generalize hw_ds f' j' = d at hne
      obtain ⟨d1, d2⟩ := d
      split <;> first | rfl | (rename_i q; dsimp only at q hne ⊢; subst q; congr 1; have : d2 ≠ g := fun z => hne ⟨rfl, z⟩; simp [uI, uJ, this])
