/-- the world behind both constructors: EmberSpuds at 0, EmberSpudsModel at 109 -/
def zG : List GK := [.inr (.inr (10, [some (some 1), some (some 17), some (some 33), some (some 66), some (some 67), some (some 87), some (some 90), some (some 95), some (some 104), some (some 107), none, none])),
  .inr (.inr (0, [some (some 2), some (some 7), none, none, none, none, some (some 8), some (some 9), some (some 10)])),
  .inr (.inr (2, [none, none, none, none, some (some 3), some (some 4), some (some 5), some (some 6)])),
  .inl (.int, 24),
  .inl (.int, 6),
  .inl (.int, 6),
  .inl (.int, 6),
  .inr (.inl ("EmberSpuds$Spud", [some 11, some 12, some 13, some 14, some 15, some 16])),
  .inl (.int, 6),
  .inl (.int, 6),
  .inl (.int, 6),
  .inr (.inr (7, [none, none, none, none, none, none, none])),
  .inr (.inr (7, [none, none, none, none, none, none, none])),
  .inr (.inr (7, [none, none, none, none, none, none, none])),
  .inr (.inr (7, [none, none, none, none, none, none, none])),
  .inr (.inr (7, [none, none, none, none, none, none, none])),
  .inr (.inr (7, [none, none, none, none, none, none, none])),
  .inr (.inr (0, [some (some 18), some (some 23), none, none, none, none, some (some 24), some (some 25), some (some 26)])),
  .inr (.inr (2, [none, none, none, none, some (some 19), some (some 20), some (some 21), some (some 22)])),
  .inl (.int, 24),
  .inl (.int, 6),
  .inl (.int, 6),
  .inl (.int, 6),
  .inr (.inl ("EmberSpuds$Spud", [some 27, some 28, some 29, some 30, some 31, some 32])),
  .inl (.int, 6),
  .inl (.int, 6),
  .inl (.int, 6),
  .inr (.inr (7, [none, none, none, none, none, none, none])),
  .inr (.inr (7, [none, none, none, none, none, none, none])),
  .inr (.inr (7, [none, none, none, none, none, none, none])),
  .inr (.inr (7, [none, none, none, none, none, none, none])),
  .inr (.inr (7, [none, none, none, none, none, none, none])),
  .inr (.inr (7, [none, none, none, none, none, none, none])),
  .inr (.inl ("EmberSpuds$Evening", [some 34, some 50])),
  .inr (.inr (0, [some (some 35), some (some 40), none, none, none, none, some (some 41), some (some 42), some (some 43)])),
  .inr (.inr (2, [none, none, none, none, some (some 36), some (some 37), some (some 38), some (some 39)])),
  .inl (.int, 24),
  .inl (.int, 6),
  .inl (.int, 6),
  .inl (.int, 6),
  .inr (.inl ("EmberSpuds$Spud", [some 44, some 45, some 46, some 47, some 48, some 49])),
  .inl (.int, 6),
  .inl (.int, 6),
  .inl (.int, 6),
  .inr (.inr (7, [none, none, none, none, none, none, none])),
  .inr (.inr (7, [none, none, none, none, none, none, none])),
  .inr (.inr (7, [none, none, none, none, none, none, none])),
  .inr (.inr (7, [none, none, none, none, none, none, none])),
  .inr (.inr (7, [none, none, none, none, none, none, none])),
  .inr (.inr (7, [none, none, none, none, none, none, none])),
  .inr (.inr (0, [some (some 51), some (some 56), none, none, none, none, some (some 57), some (some 58), some (some 59)])),
  .inr (.inr (2, [none, none, none, none, some (some 52), some (some 53), some (some 54), some (some 55)])),
  .inl (.int, 24),
  .inl (.int, 6),
  .inl (.int, 6),
  .inl (.int, 6),
  .inr (.inl ("EmberSpuds$Spud", [some 60, some 61, some 62, some 63, some 64, some 65])),
  .inl (.int, 6),
  .inl (.int, 6),
  .inl (.int, 6),
  .inr (.inr (7, [none, none, none, none, none, none, none])),
  .inr (.inr (7, [none, none, none, none, none, none, none])),
  .inr (.inr (7, [none, none, none, none, none, none, none])),
  .inr (.inr (7, [none, none, none, none, none, none, none])),
  .inr (.inr (7, [none, none, none, none, none, none, none])),
  .inr (.inr (7, [none, none, none, none, none, none, none])),
  .inl (.boolean, 2),
  .inr (.inr (5, [some (some 68), some (some 70), some (some 86), none, none, none, none, none, none])),
  .inr (.inr (8, [some (some 69), none, none, none, none, none, none])),
  .inl (.byte, 160),
  .inr (.inr (0, [some (some 71), some (some 76), none, none, none, none, some (some 77), some (some 78), some (some 79)])),
  .inr (.inr (2, [none, none, none, none, some (some 72), some (some 73), some (some 74), some (some 75)])),
  .inl (.int, 24),
  .inl (.int, 6),
  .inl (.int, 6),
  .inl (.int, 6),
  .inr (.inl ("EmberSpuds$Spud", [some 80, some 81, some 82, some 83, some 84, some 85])),
  .inl (.int, 6),
  .inl (.int, 6),
  .inl (.int, 6),
  .inr (.inr (7, [none, none, none, none, none, none, none])),
  .inr (.inr (7, [none, none, none, none, none, none, none])),
  .inr (.inr (7, [none, none, none, none, none, none, none])),
  .inr (.inr (7, [none, none, none, none, none, none, none])),
  .inr (.inr (7, [none, none, none, none, none, none, none])),
  .inr (.inr (7, [none, none, none, none, none, none, none])),
  .inl (.int, 6),
  .inr (.inr (9, [some (some 88), some (some 89)])),
  .inl (.int, 21),
  .inl (.int, 10),
  .inr (.inr (3, [some (some 91), some (some 92), some (some 93), some (some 94), none])),
  .inl (.int, 6),
  .inl (.boolean, 6),
  .inl (.int, 6),
  .inl (.int, 64),
  .inr (.inl ("EmberSpuds$Sheet", [some 96, some 98, some 100, some 102])),
  .inr (.inr (6, [some (some 97), none, none])),
  .inl (.int, 40),
  .inr (.inr (6, [some (some 99), none, none])),
  .inl (.int, 40),
  .inr (.inr (6, [some (some 101), none, none])),
  .inl (.int, 40),
  .inr (.inr (6, [some (some 103), none, none])),
  .inl (.int, 40),
  .inr (.inr (1, [some (some 105), some (some 106), none, none, none])),
  .inl (.boolean, 100),
  .inl (.boolean, 19),
  .inr (.inr (4, [some (some 108), none, none])),
  .inl (.int, 6),
  .inr (.inr (11, [some (some 110), some (some 111), some (some 112), none, some (some 113), none, none, none, none, none, none, none, some (some 114), none, none, none, none, none, none, none, some (some 115), some (some 116), some (some 117), some (some 118), some (some 119), some (some 120), none])),
  .inl (.int, 345),
  .inl (.int, 115),
  .inl (.boolean, 2),
  .inl (.int, 115),
  .inl (.int, 160),
  .inl (.int, 6),
  .inl (.boolean, 6),
  .inl (.boolean, 64),
  .inl (.int, 4),
  .inl (.int, 4),
  .inl (.int, 160)]
theorem g0 : zG[0]? = some (.inr (.inr (10, [some (some 1), some (some 17), some (some 33), some (some 66), some (some 67), some (some 87), some (some 90), some (some 95), some (some 104), some (some 107), none, none]))) := rfl
theorem g1 : zG[1]? = some (.inr (.inr (0, [some (some 2), some (some 7), none, none, none, none, some (some 8), some (some 9), some (some 10)]))) := rfl
theorem g2 : zG[2]? = some (.inr (.inr (2, [none, none, none, none, some (some 3), some (some 4), some (some 5), some (some 6)]))) := rfl
theorem g3 : zG[3]? = some (.inl (.int, 24)) := rfl
theorem g4 : zG[4]? = some (.inl (.int, 6)) := rfl
theorem g5 : zG[5]? = some (.inl (.int, 6)) := rfl
theorem g6 : zG[6]? = some (.inl (.int, 6)) := rfl
theorem g7 : zG[7]? = some (.inr (.inl ("EmberSpuds$Spud", [some 11, some 12, some 13, some 14, some 15, some 16]))) := rfl
theorem g8 : zG[8]? = some (.inl (.int, 6)) := rfl
theorem g9 : zG[9]? = some (.inl (.int, 6)) := rfl
theorem g10 : zG[10]? = some (.inl (.int, 6)) := rfl
theorem g11 : zG[11]? = some (.inr (.inr (7, [none, none, none, none, none, none, none]))) := rfl
theorem g12 : zG[12]? = some (.inr (.inr (7, [none, none, none, none, none, none, none]))) := rfl
theorem g13 : zG[13]? = some (.inr (.inr (7, [none, none, none, none, none, none, none]))) := rfl
theorem g14 : zG[14]? = some (.inr (.inr (7, [none, none, none, none, none, none, none]))) := rfl
theorem g15 : zG[15]? = some (.inr (.inr (7, [none, none, none, none, none, none, none]))) := rfl
theorem g16 : zG[16]? = some (.inr (.inr (7, [none, none, none, none, none, none, none]))) := rfl
theorem g17 : zG[17]? = some (.inr (.inr (0, [some (some 18), some (some 23), none, none, none, none, some (some 24), some (some 25), some (some 26)]))) := rfl
theorem g18 : zG[18]? = some (.inr (.inr (2, [none, none, none, none, some (some 19), some (some 20), some (some 21), some (some 22)]))) := rfl
theorem g19 : zG[19]? = some (.inl (.int, 24)) := rfl
theorem g20 : zG[20]? = some (.inl (.int, 6)) := rfl
theorem g21 : zG[21]? = some (.inl (.int, 6)) := rfl
theorem g22 : zG[22]? = some (.inl (.int, 6)) := rfl
theorem g23 : zG[23]? = some (.inr (.inl ("EmberSpuds$Spud", [some 27, some 28, some 29, some 30, some 31, some 32]))) := rfl
theorem g24 : zG[24]? = some (.inl (.int, 6)) := rfl
theorem g25 : zG[25]? = some (.inl (.int, 6)) := rfl
theorem g26 : zG[26]? = some (.inl (.int, 6)) := rfl
theorem g27 : zG[27]? = some (.inr (.inr (7, [none, none, none, none, none, none, none]))) := rfl
theorem g28 : zG[28]? = some (.inr (.inr (7, [none, none, none, none, none, none, none]))) := rfl
theorem g29 : zG[29]? = some (.inr (.inr (7, [none, none, none, none, none, none, none]))) := rfl
theorem g30 : zG[30]? = some (.inr (.inr (7, [none, none, none, none, none, none, none]))) := rfl
theorem g31 : zG[31]? = some (.inr (.inr (7, [none, none, none, none, none, none, none]))) := rfl
theorem g32 : zG[32]? = some (.inr (.inr (7, [none, none, none, none, none, none, none]))) := rfl
theorem g33 : zG[33]? = some (.inr (.inl ("EmberSpuds$Evening", [some 34, some 50]))) := rfl
theorem g34 : zG[34]? = some (.inr (.inr (0, [some (some 35), some (some 40), none, none, none, none, some (some 41), some (some 42), some (some 43)]))) := rfl
theorem g35 : zG[35]? = some (.inr (.inr (2, [none, none, none, none, some (some 36), some (some 37), some (some 38), some (some 39)]))) := rfl
theorem g36 : zG[36]? = some (.inl (.int, 24)) := rfl
theorem g37 : zG[37]? = some (.inl (.int, 6)) := rfl
theorem g38 : zG[38]? = some (.inl (.int, 6)) := rfl
theorem g39 : zG[39]? = some (.inl (.int, 6)) := rfl
theorem g40 : zG[40]? = some (.inr (.inl ("EmberSpuds$Spud", [some 44, some 45, some 46, some 47, some 48, some 49]))) := rfl
theorem g41 : zG[41]? = some (.inl (.int, 6)) := rfl
theorem g42 : zG[42]? = some (.inl (.int, 6)) := rfl
theorem g43 : zG[43]? = some (.inl (.int, 6)) := rfl
theorem g44 : zG[44]? = some (.inr (.inr (7, [none, none, none, none, none, none, none]))) := rfl
theorem g45 : zG[45]? = some (.inr (.inr (7, [none, none, none, none, none, none, none]))) := rfl
theorem g46 : zG[46]? = some (.inr (.inr (7, [none, none, none, none, none, none, none]))) := rfl
theorem g47 : zG[47]? = some (.inr (.inr (7, [none, none, none, none, none, none, none]))) := rfl
theorem g48 : zG[48]? = some (.inr (.inr (7, [none, none, none, none, none, none, none]))) := rfl
theorem g49 : zG[49]? = some (.inr (.inr (7, [none, none, none, none, none, none, none]))) := rfl
theorem g50 : zG[50]? = some (.inr (.inr (0, [some (some 51), some (some 56), none, none, none, none, some (some 57), some (some 58), some (some 59)]))) := rfl
theorem g51 : zG[51]? = some (.inr (.inr (2, [none, none, none, none, some (some 52), some (some 53), some (some 54), some (some 55)]))) := rfl
theorem g52 : zG[52]? = some (.inl (.int, 24)) := rfl
theorem g53 : zG[53]? = some (.inl (.int, 6)) := rfl
theorem g54 : zG[54]? = some (.inl (.int, 6)) := rfl
theorem g55 : zG[55]? = some (.inl (.int, 6)) := rfl
theorem g56 : zG[56]? = some (.inr (.inl ("EmberSpuds$Spud", [some 60, some 61, some 62, some 63, some 64, some 65]))) := rfl
theorem g57 : zG[57]? = some (.inl (.int, 6)) := rfl
theorem g58 : zG[58]? = some (.inl (.int, 6)) := rfl
theorem g59 : zG[59]? = some (.inl (.int, 6)) := rfl
theorem g60 : zG[60]? = some (.inr (.inr (7, [none, none, none, none, none, none, none]))) := rfl
theorem g61 : zG[61]? = some (.inr (.inr (7, [none, none, none, none, none, none, none]))) := rfl
theorem g62 : zG[62]? = some (.inr (.inr (7, [none, none, none, none, none, none, none]))) := rfl
theorem g63 : zG[63]? = some (.inr (.inr (7, [none, none, none, none, none, none, none]))) := rfl
theorem g64 : zG[64]? = some (.inr (.inr (7, [none, none, none, none, none, none, none]))) := rfl
theorem g65 : zG[65]? = some (.inr (.inr (7, [none, none, none, none, none, none, none]))) := rfl
theorem g66 : zG[66]? = some (.inl (.boolean, 2)) := rfl
theorem g67 : zG[67]? = some (.inr (.inr (5, [some (some 68), some (some 70), some (some 86), none, none, none, none, none, none]))) := rfl
theorem g68 : zG[68]? = some (.inr (.inr (8, [some (some 69), none, none, none, none, none, none]))) := rfl
theorem g69 : zG[69]? = some (.inl (.byte, 160)) := rfl
theorem g70 : zG[70]? = some (.inr (.inr (0, [some (some 71), some (some 76), none, none, none, none, some (some 77), some (some 78), some (some 79)]))) := rfl
theorem g71 : zG[71]? = some (.inr (.inr (2, [none, none, none, none, some (some 72), some (some 73), some (some 74), some (some 75)]))) := rfl
theorem g72 : zG[72]? = some (.inl (.int, 24)) := rfl
theorem g73 : zG[73]? = some (.inl (.int, 6)) := rfl
theorem g74 : zG[74]? = some (.inl (.int, 6)) := rfl
theorem g75 : zG[75]? = some (.inl (.int, 6)) := rfl
theorem g76 : zG[76]? = some (.inr (.inl ("EmberSpuds$Spud", [some 80, some 81, some 82, some 83, some 84, some 85]))) := rfl
theorem g77 : zG[77]? = some (.inl (.int, 6)) := rfl
theorem g78 : zG[78]? = some (.inl (.int, 6)) := rfl
theorem g79 : zG[79]? = some (.inl (.int, 6)) := rfl
theorem g80 : zG[80]? = some (.inr (.inr (7, [none, none, none, none, none, none, none]))) := rfl
theorem g81 : zG[81]? = some (.inr (.inr (7, [none, none, none, none, none, none, none]))) := rfl
theorem g82 : zG[82]? = some (.inr (.inr (7, [none, none, none, none, none, none, none]))) := rfl
theorem g83 : zG[83]? = some (.inr (.inr (7, [none, none, none, none, none, none, none]))) := rfl
theorem g84 : zG[84]? = some (.inr (.inr (7, [none, none, none, none, none, none, none]))) := rfl
theorem g85 : zG[85]? = some (.inr (.inr (7, [none, none, none, none, none, none, none]))) := rfl
theorem g86 : zG[86]? = some (.inl (.int, 6)) := rfl
theorem g87 : zG[87]? = some (.inr (.inr (9, [some (some 88), some (some 89)]))) := rfl
theorem g88 : zG[88]? = some (.inl (.int, 21)) := rfl
theorem g89 : zG[89]? = some (.inl (.int, 10)) := rfl
theorem g90 : zG[90]? = some (.inr (.inr (3, [some (some 91), some (some 92), some (some 93), some (some 94), none]))) := rfl
theorem g91 : zG[91]? = some (.inl (.int, 6)) := rfl
theorem g92 : zG[92]? = some (.inl (.boolean, 6)) := rfl
theorem g93 : zG[93]? = some (.inl (.int, 6)) := rfl
theorem g94 : zG[94]? = some (.inl (.int, 64)) := rfl
theorem g95 : zG[95]? = some (.inr (.inl ("EmberSpuds$Sheet", [some 96, some 98, some 100, some 102]))) := rfl
theorem g96 : zG[96]? = some (.inr (.inr (6, [some (some 97), none, none]))) := rfl
theorem g97 : zG[97]? = some (.inl (.int, 40)) := rfl
theorem g98 : zG[98]? = some (.inr (.inr (6, [some (some 99), none, none]))) := rfl
theorem g99 : zG[99]? = some (.inl (.int, 40)) := rfl
theorem g100 : zG[100]? = some (.inr (.inr (6, [some (some 101), none, none]))) := rfl
theorem g101 : zG[101]? = some (.inl (.int, 40)) := rfl
theorem g102 : zG[102]? = some (.inr (.inr (6, [some (some 103), none, none]))) := rfl
theorem g103 : zG[103]? = some (.inl (.int, 40)) := rfl
theorem g104 : zG[104]? = some (.inr (.inr (1, [some (some 105), some (some 106), none, none, none]))) := rfl
theorem g105 : zG[105]? = some (.inl (.boolean, 100)) := rfl
theorem g106 : zG[106]? = some (.inl (.boolean, 19)) := rfl
theorem g107 : zG[107]? = some (.inr (.inr (4, [some (some 108), none, none]))) := rfl
theorem g108 : zG[108]? = some (.inl (.int, 6)) := rfl
theorem g109 : zG[109]? = some (.inr (.inr (11, [some (some 110), some (some 111), some (some 112), none, some (some 113), none, none, none, none, none, none, none, some (some 114), none, none, none, none, none, none, none, some (some 115), some (some 116), some (some 117), some (some 118), some (some 119), some (some 120), none]))) := rfl
theorem g110 : zG[110]? = some (.inl (.int, 345)) := rfl
theorem g111 : zG[111]? = some (.inl (.int, 115)) := rfl
theorem g112 : zG[112]? = some (.inl (.boolean, 2)) := rfl
theorem g113 : zG[113]? = some (.inl (.int, 115)) := rfl
theorem g114 : zG[114]? = some (.inl (.int, 160)) := rfl
theorem g115 : zG[115]? = some (.inl (.int, 6)) := rfl
theorem g116 : zG[116]? = some (.inl (.boolean, 6)) := rfl
theorem g117 : zG[117]? = some (.inl (.boolean, 64)) := rfl
theorem g118 : zG[118]? = some (.inl (.int, 4)) := rfl
theorem g119 : zG[119]? = some (.inl (.int, 4)) := rfl
theorem g120 : zG[120]? = some (.inl (.int, 160)) := rfl
def FiG (G : List GK) (c : Nat) : Prop := G[c]? = some (.inr (.inr (2, [none, none, none, none, some (some (c + 1)), some (some (c + 2)), some (some (c + 3)), some (some (c + 4))]))) ∧ G[c + 1]? = some (.inl (.int, 24)) ∧ G[c + 2]? = some (.inl (.int, 6)) ∧ G[c + 3]? = some (.inl (.int, 6)) ∧ G[c + 4]? = some (.inl (.int, 6))
def SpG (G : List GK) (c : Nat) : Prop := G[c]? = some (.inr (.inr (7, [none, none, none, none, none, none, none])))
def EvG (G : List GK) (b : Nat) : Prop := G[b]? = some (.inr (.inr (0, [some (some (b + 1)), some (some (b + 6)), none, none, none, none, some (some (b + 7)), some (some (b + 8)), some (some (b + 9))]))) ∧ FiG G (b + 1) ∧ G[b + 6]? = some (.inr (.inl ("EmberSpuds$Spud", [some (b + 10), some (b + 11), some (b + 12), some (b + 13), some (b + 14), some (b + 15)]))) ∧ G[b + 7]? = some (.inl (.int, 6)) ∧ G[b + 8]? = some (.inl (.int, 6)) ∧ G[b + 9]? = some (.inl (.int, 6)) ∧ ∀ p : Nat, p < 6 → SpG G (b + 10 + p)
/-- where evenings lie -/
def EvB (b : Nat) : Prop := b = 1 ∨ b = 17 ∨ b = 34 ∨ b = 50 ∨ b = 70
theorem EvB.G {b : Nat} (h : EvB b) : EvG zG b := by
  rcases h with rfl | rfl | rfl | rfl | rfl
  all_goals
    refine ⟨rfl, ⟨rfl, rfl, rfl, rfl, rfl⟩, rfl, rfl, rfl, rfl, fun p hp => ?_⟩
    match p, hp with
    | 0, _ => rfl
    | 1, _ => rfl
    | 2, _ => rfl
    | 3, _ => rfl
    | 4, _ => rfl
    | 5, _ => rfl
    | p + 6, hp => omega
theorem six_get {b : Nat} {p : Int} (h : 0 ≤ p ∧ p < 6) : [some (b + 10), some (b + 11), some (b + 12), some (b + 13), some (b + 14), some (b + 15)][p.toNat]? = some (some (b + 10 + p.toNat)) := by
  obtain ⟨n, hn⟩ : ∃ n : Nat, p.toNat = n := ⟨_, rfl⟩
  rw [hn]
  have : n < 6 := by omega
  match n, this with
  | 0, _ => rfl
  | 1, _ => rfl
  | 2, _ => rfl
  | 3, _ => rfl
  | 4, _ => rfl
  | 5, _ => rfl
  | n + 6, h => omega
