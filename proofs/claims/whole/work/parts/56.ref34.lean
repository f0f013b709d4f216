def lineC (t : Int → Int) (L : Int) (s : PSt) : Int := if tkK t L s.p = 1 then lineN t L (tkB t L s.p) (tkE t L s.p) else -4
abbrev fullC (l : Int) (s : PSt) : Prop := (l = 2 ∧ s.2 26 = 6) ∨ ((l = 3 ∨ l = 4) ∧ s.2 46 = 6)
/-- slot 3 holds the line's kind -/
def fireG (t : Int → Int) (L : Int) (s : PSt) : PSt := (fset (fset s.1 3 (lineC t L s)) 6 (if ¬ s.1 6 = 0 ∨ lineC t L s = 0 then 1 else 0), s.2)
def lineA (t : Int → Int) (L : Int) (s : PSt) : Except Int PSt := ((((chkP t L (fun s => ¬ lineC t L s = -4) s).bind (chkP t L (fun s => ¬ fullC (lineC t L s) s))).bind (chkP t L (fun s => ¬ lineC t L s = 0 ∨ s.1 6 = 0))).bind (stP (fireG t L))).bind (advP t L)
def lineP (t : Int → Int) (L : Int) (s : PSt) : Except Int PSt := ((lineA t L s).bind (fun s => lineOfP t L (s.1 3) s)).bind (fun s => (chkP t L (fun s => tkK t L s.p = 3) s).bind (advP t L))
theorem lineN_rng {t : Int → Int} {L b e : Int} : -4 ≤ lineN t L b e ∧ lineN t L b e ≤ 5 ∧ (lineN t L b e = -4 ∨ 0 ≤ lineN t L b e) := by
  unfold lineN
  (repeat' split) <;> omega
theorem lineC_rng {t : Int → Int} {L : Int} {s : PSt} : -4 ≤ lineC t L s ∧ lineC t L s ≤ 5 ∧ (lineC t L s = -4 ∨ 0 ≤ lineC t L s) := by
  unfold lineC
  split
  · exact lineN_rng
  · omega
