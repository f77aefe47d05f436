/-! rows after a HOUSE goes, after two become one -/
def gs_h (g h : Int) : Int := if h < g then h else h + 1
def gs_row (N : Int → Int) (g : Int) : Int → Int := fun q => if q = 1 then N 1 - 1
  else if 10 ≤ q ∧ q < 40 then (if (q - 10) / 5 < N 1 - 1 then N (10 + 5 * gs_h g ((q - 10) / 5) + (q - 10) % 5) else if (q - 10) / 5 = N 1 - 1 then 0 else N q)
  else if 40 ≤ q ∧ q < 64 then (if (q - 40) / 4 < N 1 - 1 then N (40 + 4 * gs_h g ((q - 40) / 4) + (q - 40) % 4) else if (q - 40) / 4 = N 1 - 1 then 0 else N q)
  else if 64 ≤ q ∧ q < 100 then (if (q - 64) / 6 = N 1 - 1 then 0 else if (q - 64) % 6 = 5 then 0 else N (64 + 6 * (if (q - 64) / 6 < N 1 - 1 then gs_h g ((q - 64) / 6) else (q - 64) / 6) + gs_h g ((q - 64) % 6)))
  else N q
def gB (N : Int → Int) (g A B C : Int) : Int → Int := fun q => if 10 + 5 * g ≤ q ∧ q < A then N (q + 5) else if 40 + 4 * g ≤ q ∧ q < B then N (q + 4) else if 64 + 6 * g ≤ q ∧ q < C then N (q + 6) else N q
def gA (N : Int → Int) (g h : Int) : Int → Int := gB N g (10 + 5 * h) (40 + 4 * h) (64 + 6 * h)
def gC (N : Int → Int) (g n : Int) : Int → Int := fun q => if (q - 64) % 6 = 5 then 0 else if (q - 64) % 6 < g then gA N g n q else gA N g n (q + 1)
def mg_row (N : Int → Int) (x y : Int) : Int → Int := fun q =>
  if 10 ≤ q ∧ q < 40 then (if 10 + 5 * x ≤ q ∧ q < 10 + 5 * x + 3 then min (N q + N (q + 5 * (y - x))) 9999 else N q)
  else if 40 ≤ q ∧ q < 64 then (if 40 + 4 * x ≤ q ∧ q < 40 + 4 * x + 4 then min (N q + N (q + 4 * (y - x))) 60 else N q)
  else if 64 ≤ q ∧ q < 100 then (if (q - 64) / 6 = x then (if (q - 64) % 6 = x ∨ (q - 64) % 6 = y then 0 else min (N q + N (64 + 6 * y + (q - 64) % 6)) 999) else if (q - 64) % 6 = x then (if (q - 64) / 6 = y then 0 else min (N q + N (64 + 6 * ((q - 64) / 6) + y)) 999) else N q)
  else N q
theorem gB_c {N : Int → Int} {g A B C A2 B2 C2 q : Int} (ha : (10 + 5 * g ≤ q ∧ q < A) ↔ (10 + 5 * g ≤ q ∧ q < A2)) (hb : (40 + 4 * g ≤ q ∧ q < B) ↔ (40 + 4 * g ≤ q ∧ q < B2)) (hc : (64 + 6 * g ≤ q ∧ q < C) ↔ (64 + 6 * g ≤ q ∧ q < C2)) : gB N g A B C q = gB N g A2 B2 C2 q := by
  unfold gB
  simp only [ha, hb, hc]
theorem gs_end {N R : Int → Int} {g : Int} (hg : 0 ≤ g ∧ g < N 1 ∧ N 1 ≤ 6) (h : ∀ q, R q = if q = 1 then N 1 - 1 else cl_row (fun q => if 64 ≤ q ∧ q < 100 then gC N g (N 1 - 1) q else gA N g (N 1 - 1) q) (N 1 - 1) q) : R = gs_row N g := by
  funext q
  rw [h q]
  unfold gs_row cl_row
  by_cases z1 : q = 1
  · rw [if_pos z1, if_pos z1]
  rw [if_neg z1, if_neg z1]
  by_cases z2 : 10 ≤ q ∧ q < 40
  · rw [if_pos z2]
    by_cases y1 : (q - 10) / 5 < N 1 - 1
    · rw [if_pos y1, if_neg (by omega)]
      show (if 64 ≤ q ∧ q < 100 then _ else _) = _
      rw [if_neg (by omega)]
      unfold gA gB gs_h
      by_cases y2 : (q - 10) / 5 < g
      · rw [if_pos y2, if_neg (by omega), if_neg (by omega), if_neg (by omega)]
        congr 1
        omega
      · rw [if_neg y2, if_pos (by omega)]
        congr 1
        omega
    · rw [if_neg y1]
      by_cases y2 : (q - 10) / 5 = N 1 - 1
      · rw [if_pos y2, if_pos (by omega)]
      · rw [if_neg y2, if_neg (by omega)]
        show (if 64 ≤ q ∧ q < 100 then _ else _) = _
        rw [if_neg (by omega)]
        unfold gA gB
        rw [if_neg (by omega), if_neg (by omega), if_neg (by omega)]
  rw [if_neg z2]
  by_cases z3 : 40 ≤ q ∧ q < 64
  · rw [if_pos z3]
    by_cases y1 : (q - 40) / 4 < N 1 - 1
    · rw [if_pos y1, if_neg (by omega)]
      show (if 64 ≤ q ∧ q < 100 then _ else _) = _
      rw [if_neg (by omega)]
      unfold gA gB gs_h
      by_cases y2 : (q - 40) / 4 < g
      · rw [if_pos y2, if_neg (by omega), if_neg (by omega), if_neg (by omega)]
        congr 1
        omega
      · rw [if_neg y2, if_neg (by omega), if_pos (by omega)]
        congr 1
        omega
    · rw [if_neg y1]
      by_cases y2 : (q - 40) / 4 = N 1 - 1
      · rw [if_pos y2, if_pos (by omega)]
      · rw [if_neg y2, if_neg (by omega)]
        show (if 64 ≤ q ∧ q < 100 then _ else _) = _
        rw [if_neg (by omega)]
        unfold gA gB
        rw [if_neg (by omega), if_neg (by omega), if_neg (by omega)]
  rw [if_neg z3]
  by_cases z4 : 64 ≤ q ∧ q < 100
  · rw [if_pos z4]
    by_cases y1 : (q - 64) / 6 = N 1 - 1
    · rw [if_pos y1, if_pos (by omega)]
    · rw [if_neg y1, if_neg (by omega)]
      show (if 64 ≤ q ∧ q < 100 then _ else _) = _
      rw [if_pos z4]
      unfold gC
      by_cases y2 : (q - 64) % 6 = 5
      · rw [if_pos y2, if_pos y2]
      · rw [if_neg y2, if_neg y2]
        unfold gA gB gs_h
        by_cases y3 : (q - 64) / 6 < N 1 - 1
        · rw [if_pos y3]
          by_cases y4 : (q - 64) / 6 < g
          · rw [if_pos y4]
            by_cases y5 : (q - 64) % 6 < g
            · rw [if_pos y5, if_pos y5, if_neg (by omega), if_neg (by omega), if_neg (by omega)]
              congr 1
              omega
            · rw [if_neg y5, if_neg y5, if_neg (by omega), if_neg (by omega), if_neg (by omega)]
              congr 1
              omega
          · rw [if_neg y4]
            by_cases y5 : (q - 64) % 6 < g
            · rw [if_pos y5, if_pos y5, if_neg (by omega), if_neg (by omega), if_pos (by omega)]
              congr 1
              omega
            · rw [if_neg y5, if_neg y5, if_neg (by omega), if_neg (by omega), if_pos (by omega)]
              congr 1
              omega
        · rw [if_neg y3]
          by_cases y5 : (q - 64) % 6 < g
          · rw [if_pos y5, if_pos y5, if_neg (by omega), if_neg (by omega), if_neg (by omega)]
            congr 1
            omega
          · rw [if_neg y5, if_neg y5, if_neg (by omega), if_neg (by omega), if_neg (by omega)]
            congr 1
            omega
  rw [if_neg z4, if_neg (by omega)]
  show (if 64 ≤ q ∧ q < 100 then _ else _) = _
  rw [if_neg z4]
  unfold gA gB
  rw [if_neg (by omega), if_neg (by omega), if_neg (by omega)]
