-- the class's order machine as a function of its row (own text)
def pDig (c b : Int32) : Int32 := if c < (48 : Int32) then 0 else if (48 + b) ≤ c then 0 else 1
def pWhole (r : Nat → Int32) : Int32 := if r 0 = (5 : Int32) then (if r 4 ≤ 0 then 0 else 1) else 0
def pMost (r : Nat → Int32) : Int32 := if r 1 = (100 : Int32) then 50 else if r 1 = (99 : Int32) then 50 else 500
def pSec (r : Nat → Int32) : Int32 := if r 1 = (100 : Int32) then 6 else if r 1 = (99 : Int32) then 3 else 8
def pZ (r : Nat → Int32) : Nat → Int32 := upd (upd (upd (upd (upd r 0 0) 1 0) 2 0) 3 0) 4 0
def pNum (r : Nat → Int32) (c : Int32) : Int32 × (Nat → Int32) := if c = (59 : Int32) then (pWhole r, pZ r) else if pDig c 10 = 0 then (0, r) else if (((10 * (r 4)) + c) - 48) < (1 : Int32) then (0, r) else if pMost r < (((10 * (r 4)) + c) - 48) then (0, r) else (1, upd r 4 (((10 * (r 4)) + c) - 48))
def pFits (r : Nat → Int32) (c : Int32) : Int32 := if r 0 = 0 then (if c = (100 : Int32) then 1 else if c = (115 : Int32) then 1 else if c = (114 : Int32) then 1 else if c = (98 : Int32) then 1 else if c = (99 : Int32) then 1 else 0) else if r 0 = 1 then (if r 1 = (100 : Int32) then pDig c 8 else pDig c 6) else if r 0 = 2 then (if r 1 = (100 : Int32) then (if c = (62 : Int32) then 1 else 0) else (if c = (58 : Int32) then 1 else 0)) else if r 0 = 3 then pDig c (pSec r) else (if c = (42 : Int32) then 1 else 0)
def pKeep (r : Nat → Int32) (c : Int32) : Nat → Int32 := if r 0 = 0 then upd r 1 c else if r 0 = (1 : Int32) then upd r 2 (c - 48) else if r 0 = (3 : Int32) then upd r 3 (c - 48) else r
def pk (r : Nat → Int32) (c : Int32) : Int32 × (Nat → Int32) := if r 0 = (5 : Int32) then pNum r c else if pFits r c = 0 then (0, r) else (pFits r c, upd (pKeep r c) 0 (pKeep r c 0 + 1))
theorem bs_up (u : bU) (k : Nat) (f : Nat → Int32) (i : Nat) (x : Int32) : bput (bs u k f) k i x = bs u k (upd f i x) := by
  show bs (bs u k f) k (upd ((bs u k f) k) i x) = _
  rw [bs_eq, bs_bs]
theorem bput_up (u : bU) (k i : Nat) (x : Int32) : bput u k i x = bs u k (upd (u k) i x) := rfl
theorem p_beginT (u : bU) : F0_beginT u = bs u 9 (pZ (u 9)) := by
  unfold F0_beginT pZ
  rw [bput_up u, bs_up, bs_up, bs_up, bs_up]
theorem p_beginO (u : bU) : F0_beginO u = bs u 10 (pZ (u 10)) := by
  unfold F0_beginO pZ
  rw [bput_up u, bs_up, bs_up, bs_up, bs_up]
theorem p_numT (u : bU) (c : Int32) : F0_takesNumberT u c = ((pNum (u 9) c).1, bs u 9 (pNum (u 9) c).2) := by
  unfold F0_takesNumberT pNum
  rw [show F0_isWholeT u = pWhole (u 9) from rfl, show F0_isDigitBelow c 10 = pDig c 10 from rfl, show F0_mostNumberT u = pMost (u 9) from rfl, p_beginT]
  by_cases c1 : c = 59
  · rw [if_pos c1, if_pos c1]
  rw [if_neg c1, if_neg c1]
  by_cases c2 : pDig c 10 = 0
  · rw [if_pos c2, if_pos c2, bs_self]
  rw [if_neg c2, if_neg c2]
  by_cases c3 : 10 * u 9 4 + c - 48 < 1
  · rw [if_pos c3, if_pos c3, bs_self]
  rw [if_neg c3, if_neg c3]
  by_cases c4 : pMost (u 9) < 10 * u 9 4 + c - 48
  · rw [if_pos c4, if_pos c4, bs_self]
  rw [if_neg c4, if_neg c4, bput_up]
theorem p_numO (u : bU) (c : Int32) : F0_takesNumberO u c = ((pNum (u 10) c).1, bs u 10 (pNum (u 10) c).2) := by
  unfold F0_takesNumberO pNum
  rw [show F0_isWholeO u = pWhole (u 10) from rfl, show F0_isDigitBelow c 10 = pDig c 10 from rfl, show F0_mostNumberO u = pMost (u 10) from rfl, p_beginO]
  by_cases c1 : c = 59
  · rw [if_pos c1, if_pos c1]
  rw [if_neg c1, if_neg c1]
  by_cases c2 : pDig c 10 = 0
  · rw [if_pos c2, if_pos c2, bs_self]
  rw [if_neg c2, if_neg c2]
  by_cases c3 : 10 * u 10 4 + c - 48 < 1
  · rw [if_pos c3, if_pos c3, bs_self]
  rw [if_neg c3, if_neg c3]
  by_cases c4 : pMost (u 10) < 10 * u 10 4 + c - 48
  · rw [if_pos c4, if_pos c4, bs_self]
  rw [if_neg c4, if_neg c4, bput_up]
theorem p_keepT (u : bU) (c : Int32) : F0_keepT u c = bs u 9 (pKeep (u 9) c) := by
  unfold F0_keepT pKeep
  by_cases c1 : u 9 0 = 0
  · rw [if_pos c1, if_pos c1, bput_up]
  rw [if_neg c1, if_neg c1]
  by_cases c2 : u 9 0 = 1
  · rw [if_pos c2, if_pos c2, bput_up]
  rw [if_neg c2, if_neg c2]
  by_cases c3 : u 9 0 = 3
  · rw [if_pos c3, if_pos c3, bput_up]
  rw [if_neg c3, if_neg c3, bs_self]
theorem p_keepO (u : bU) (c : Int32) : F0_keepO u c = bs u 10 (pKeep (u 10) c) := by
  unfold F0_keepO pKeep
  by_cases c1 : u 10 0 = 0
  · rw [if_pos c1, if_pos c1, bput_up]
  rw [if_neg c1, if_neg c1]
  by_cases c2 : u 10 0 = 1
  · rw [if_pos c2, if_pos c2, bput_up]
  rw [if_neg c2, if_neg c2]
  by_cases c3 : u 10 0 = 3
  · rw [if_pos c3, if_pos c3, bput_up]
  rw [if_neg c3, if_neg c3, bs_self]
theorem p_takesT (u : bU) (c : Int32) : F0_takesT u c = ((pk (u 9) c).1, bs u 9 (pk (u 9) c).2) := by
  unfold F0_takesT pk
  rw [p_numT, show F0_fitsT u c = pFits (u 9) c from rfl, p_keepT]
  by_cases c1 : u 9 0 = 5
  · rw [if_pos c1, if_pos c1]
  rw [if_neg c1, if_neg c1]
  by_cases c2 : pFits (u 9) c = 0
  · rw [if_pos c2, if_pos c2, bs_self, c2]
  rw [if_neg c2, if_neg c2, bs_up, bs_eq]
theorem p_takesO (u : bU) (c : Int32) : F0_takesO u c = ((pk (u 10) c).1, bs u 10 (pk (u 10) c).2) := by
  unfold F0_takesO pk
  rw [p_numO, show F0_fitsO u c = pFits (u 10) c from rfl, p_keepO]
  by_cases c1 : u 10 0 = 5
  · rw [if_pos c1, if_pos c1]
  rw [if_neg c1, if_neg c1]
  by_cases c2 : pFits (u 10) c = 0
  · rw [if_pos c2, if_pos c2, bs_self, c2]
  rw [if_neg c2, if_neg c2, bs_up, bs_eq]
-- one order: (0, place): an error there; (1, place): a semicolon there; (2, place): the end of the text
def tr (c : Nat → Int32) (L : Nat) : Nat → (Nat → Int32) → Nat → Nat × Nat × (Nat → Int32)
  | 0, r, i => (2, i, r)
  | n + 1, r, i => if L ≤ i then (2, i, r) else if (pk r (c i)).1 = 0 then (0, i, r) else if c i = 59 then (1, i, r) else tr c L n (pk r (c i)).2 (i + 1)
