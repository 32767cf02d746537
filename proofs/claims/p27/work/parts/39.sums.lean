/-! the model: way, sum, inquiry -/
def ps_way (P : MI) (N : MJ) (x y z w : Int32) (nb : Nat) : Int32 × MI × MJ := if sx_br2 P x y = 0 then (0, uI P 40 0 1, N) else if w < 0 then (0, uI P 40 0 1, N) else if x = y then (0, uI P 40 0 2, N) else if sx_in z 1 1000000 = 0 then (0, uI P 40 0 2, N)
  else if 0 ≤ lg_cmp ((po_W (uI P 40 0 0) N y z nb).2 5 (tn x)) 1000000000000 then (-1, (po_W (uI P 40 0 0) N y z nb).1, (po_W (uI P 40 0 0) N y z nb).2)
  else if nI (po_n (uI P 40 0 0) N x y z nb + 1) ≤ w then (-1, po_K (uI P 40 0 0) N x y z nb, (po_W (uI P 40 0 0) N y z nb).2) else (po_K (uI P 40 0 0) N x y z nb 43 (tn w), po_K (uI P 40 0 0) N x y z nb, (po_W (uI P 40 0 0) N y z nb).2)
def pf_so (P : MI) (i : Nat) (s : Int64) : Int64 := if P 41 i = 0 then s + (P 24 i).toInt64 else s + 0
def pf_sc (N : MJ) (i : Nat) (s : Int64) : Int64 := s + N 0 i
def pf_sl (P : MI) (i : Nat) (s : Int64) : Int64 := if ¬ P 16 i = 5 then s + 0 else s + (P 14 i).toInt64
def pr_sum (P : MI) (N : MJ) (x : Int32) (nb no nc : Nat) : Int64 := if x = 0 then N 4 0 else if x = 1 then N 4 1 else if x = 2 then N 4 2 else if x = 3 then N 4 3 else if x = 4 then N 4 4 else if x = 5 then lp (pf_so P) nc 0 0 else if x = 6 then lp (pf_sc N) nb 0 0 else lp (pf_sl P) no 0 0
def ps_sum (P : MI) (N : MJ) (x : Int32) (nb no nc : Nat) : Int64 × MI × MJ := if sx_in x 0 7 = 0 then (0, uI P 40 0 1, N) else (pr_sum P N x nb no nc, uI P 40 0 0, N)
def pq_1 (P : MI) (i : Nat) (s : Int32) : Int32 := if P 9 i = 0 then s ||| 0 else s ||| ((1 : Int32) <<< (nI i &&& 31))
def pq_2 (N : MJ) (a b : Nat) (s : Int32) : Int32 := if ¬ (s >>> (nI a &&& 31)) &&& 1 = 1 then s ||| 0 else if lg_cmp (N 2 (12 * a + b)) 0 = 0 then s ||| 0 else s ||| ((1 : Int32) <<< (nI b &&& 31))
def pq_3 (N : MJ) (nb a : Nat) (s : Int32) : Int32 := lp (pq_2 N a) nb 0 s
def pq_4 (N : MJ) (nb _j : Nat) (s : Int32) : Int32 := lp (pq_3 N nb) nb 0 s
def ps_inq (P : MI) (N : MJ) (nb : Nat) : Int32 := lp (pq_4 N nb) nb 0 (lp (pq_1 P) nb 0 0)
