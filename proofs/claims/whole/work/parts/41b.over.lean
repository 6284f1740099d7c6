theorem zspAt {μ : zMu} {l : Int} (h : zLB μ l) (i : Int) : -1 ≤ spAt μ l i ∧ spAt μ l i < 20 := by
  unfold spAt; split <;> (try split) <;> omega
/-- the depth that a line gives to a cell, or NO -/
noncomputable def zover (μ : zMu) (l : Int) (rd : Int → Int) (c r : Int) : Int :=
  if μ 12 l = 0 then (if zgood2 rd (spAt μ l r) (c - μ 13 l) then zls rd (spAt μ l r) (c - μ 13 l) else zNO)
  else (if zgood2 rd (spAt μ l c) (r - μ 13 l) then zls rd (spAt μ l c) (r - μ 13 l) else zNO)
