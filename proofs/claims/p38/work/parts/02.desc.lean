/-! ===== the cells: which objects and arrays there are ===== -/
abbrev dsc : Type := (Nat × List (Option Nat)) ⊕ (Nat × Option Nat)
-- 0: M
-- 1: M.ever int[18]
-- 2: M.traced int[200]
-- 3: M.places int[24]
-- 4: M.isExit boolean[48]
-- 5: M.pointAt int[48]
-- 6: M.linkMany int[48]
-- 7: M.linkTo int[144]
-- 8: M.linkId int[144]
-- 9: M.pointEnd int[40]
-- 10: M.setTo int[40]
-- 11: M.lockedBy int[40]
-- 12: M.entries int[12]
-- 13: M.entryPoint int[96]
-- 14: M.entryLink int[96]
-- 15: M.entryRank int[96]
-- 16: M.barred boolean[100]
-- 17: M.table int[8]
-- 18: M.kind int[72]
-- 19: M.isThere boolean[72]
-- 20: M.track0 int[72]
-- 21: M.place0 int[72]
-- 22: M.looks int[72]
-- 23: M.coupled int[144]
-- 24: M.serial int[72]
-- 25: M.fault int[72]
-- 26: M.jammed int[72]
-- 27: M.dangerOf int[72]
-- 28: M.axlesOf int[72]
-- 29: M.strength int[72]
-- 30: M.left int[72]
-- 31: M.isRunning boolean[72]
-- 32: M.runSide int[72]
-- 33: M.began int[72]
-- 34: M.isTested boolean[72]
-- 35: M.loadMany int[72]
-- 36: M.loadSort int[72]
-- 37: M.pieces int[1440]
-- 38: M.roster int[8]
-- 39: M.row int[72]
-- 40: M.kept int[18576]
-- 41: M.logAct int[40]
-- 42: M.logAnswer int[40]
-- 43: M.setBefore int[8]
-- 44: M.line int[72]
-- 45: M.ahead int[72]
-- 46: M.rooms int[4]
-- 47: M.startMany int[4]
-- 48: M.startOn int[40]
-- 49: M.goalMany int[4]
-- 50: M.goalOn int[40]
-- 51: M.moveFrom int[400]
-- 52: M.moveTo int[400]
-- 53: M.moveMany int[400]
-- 54: M.planWagon int[10]
-- 55: M.potential int[25920]
-- 56: M.passed int[400]
-- 57: M.on int[40]
-- 58: M.many int[4]
-- 59: M.flat int[5]
-- 60: M.queue int[6720]
-- 61: SwitchYard
-- 62: Report
-- 63: State
-- 64: History
-- 65: Stock
-- 66: Layout
-- 67: Routes
-- 68: Trains
-- 69: Bodies
-- 70: Plans
-- 71: Potentials
-- 72: Stacks.start
-- 73: Stacks.goal
-- 74: Stacks.work
-- 75: SwitchYard.table int[8]
-- 76: SwitchYard.row int[8]
-- 77: Report.everFound int[18]
-- 78: Report.bodies int[200]
-- 79: State.cells int[946]
-- 80: History.kept int[][8]
-- 81: kept0 int[946]
-- 82: kept1 int[946]
-- 83: kept2 int[946]
-- 84: kept3 int[946]
-- 85: kept4 int[946]
-- 86: kept5 int[946]
-- 87: kept6 int[946]
-- 88: kept7 int[946]
-- 89: History.acts int[40]
-- 90: History.answers int[40]
-- 91: Stock.facts int[432]
-- 92: Stock.pieces int[1440]
-- 93: Layout.places int[24]
-- 94: Layout.pointAtEnd int[48]
-- 95: Layout.endOfPoint int[40]
-- 96: Layout.linkNumbers int[48]
-- 97: Layout.farEnds int[144]
-- 98: Layout.leadsOut boolean[48]
-- 99: Routes.entryNumbers int[12]
-- 100: Routes.entryPoints int[96]
-- 101: Routes.entryLinks int[96]
-- 102: Routes.entryRanks int[96]
-- 103: Routes.settingsBefore int[8]
-- 104: Trains.line int[72]
-- 105: Bodies.barred boolean[100]
-- 106: Plans.rooms int[4]
-- 107: Plans.moves int[128]
-- 108: Plans.ranks int[129]
-- 109: Potentials.numberOf int[10]
-- 110: Potentials.sequence int[5]
-- 111: Potentials.swapped int[5]
-- 112: Potentials.digits int[5]
-- 113: Potentials.shapeOfKey int[216]
-- 114: Potentials.ends int[None]
-- 115: Potentials.orderAfter int[None]
-- 116: Potentials.firstEntries int[None]
-- 117: Potentials.moves int[None]
-- 118: Potentials.nextShapes int[None]
-- 119: Potentials.swaps int[None]
-- 120: Potentials.least int[None]
-- 121: Potentials.queue int[None]
-- 122: Stacks.start.wagons int[40]
-- 123: Stacks.start.heights int[4]
-- 124: Stacks.goal.wagons int[40]
-- 125: Stacks.goal.heights int[4]
-- 126: Stacks.work.wagons int[40]
-- 127: Stacks.work.heights int[4]
def dsT : List dsc := [.inl (12, [none, none, none, none, some 1, none, some 2, none, some 3, some 4, some 5, some 6, some 7, some 8, none, none, some 9, some 10, some 11, none, some 12, some 13, some 14, some 15, some 16, some 17, none, none, none, none, some 18, some 19, some 20, some 21, some 22, some 23, some 24, some 25, some 26, some 27, some 28, some 29, some 30, some 31, some 32, some 33, some 34, none, none, none, some 35, some 36, some 37, some 38, none, some 39, none, none, none, some 40, none, none, none, some 41, some 42, some 43, none, none, some 44, some 45, none, some 46, some 47, some 48, some 49, some 50, none, none, some 51, some 52, some 53, none, some 54, some 55, some 56, some 57, some 58, some 59, some 60]),
  .inr (0, some 18),
  .inr (0, some 200),
  .inr (0, some 24),
  .inr (1, some 48),
  .inr (0, some 48),
  .inr (0, some 48),
  .inr (0, some 144),
  .inr (0, some 144),
  .inr (0, some 40),
  .inr (0, some 40),
  .inr (0, some 40),
  .inr (0, some 12),
  .inr (0, some 96),
  .inr (0, some 96),
  .inr (0, some 96),
  .inr (1, some 100),
  .inr (0, some 8),
  .inr (0, some 72),
  .inr (1, some 72),
  .inr (0, some 72),
  .inr (0, some 72),
  .inr (0, some 72),
  .inr (0, some 144),
  .inr (0, some 72),
  .inr (0, some 72),
  .inr (0, some 72),
  .inr (0, some 72),
  .inr (0, some 72),
  .inr (0, some 72),
  .inr (0, some 72),
  .inr (1, some 72),
  .inr (0, some 72),
  .inr (0, some 72),
  .inr (1, some 72),
  .inr (0, some 72),
  .inr (0, some 72),
  .inr (0, some 1440),
  .inr (0, some 8),
  .inr (0, some 72),
  .inr (0, some 18576),
  .inr (0, some 40),
  .inr (0, some 40),
  .inr (0, some 8),
  .inr (0, some 72),
  .inr (0, some 72),
  .inr (0, some 4),
  .inr (0, some 4),
  .inr (0, some 40),
  .inr (0, some 4),
  .inr (0, some 40),
  .inr (0, some 400),
  .inr (0, some 400),
  .inr (0, some 400),
  .inr (0, some 10),
  .inr (0, some 25920),
  .inr (0, some 400),
  .inr (0, some 40),
  .inr (0, some 4),
  .inr (0, some 5),
  .inr (0, some 6720),
  .inl (11, [some 62, some 63, some 64, some 65, some 66, some 67, some 68, some 69, some 70, some 75, some 76]),
  .inl (5, [some 77, some 78, none, none, none, none, none]),
  .inl (8, [some 79, none]),
  .inl (1, [some 80, some 89, some 90, none, none, none, none, none]),
  .inl (9, [some 91, some 92]),
  .inl (2, [some 63, some 93, some 94, some 95, some 96, some 97, some 98, none, none]),
  .inl (6, [some 63, some 66, some 62, some 99, some 100, some 101, some 102, some 103, none]),
  .inl (10, [some 63, some 66, some 62, some 104, none, none]),
  .inl (0, [some 63, some 65, some 62, some 105]),
  .inl (3, [some 72, some 73, some 74, some 106, some 71, some 107, some 108, none, none]),
  .inl (4, [some 109, some 110, some 111, some 112, some 113, none, none, none, some 114, some 115, some 116, some 117, some 118, some 119, some 120, some 121]),
  .inl (7, [some 122, some 123]),
  .inl (7, [some 124, some 125]),
  .inl (7, [some 126, some 127]),
  .inr (0, some 8),
  .inr (0, some 8),
  .inr (0, some 18),
  .inr (0, some 200),
  .inr (0, some 946),
  .inr (2, some 8),
  .inr (0, some 946),
  .inr (0, some 946),
  .inr (0, some 946),
  .inr (0, some 946),
  .inr (0, some 946),
  .inr (0, some 946),
  .inr (0, some 946),
  .inr (0, some 946),
  .inr (0, some 40),
  .inr (0, some 40),
  .inr (0, some 432),
  .inr (0, some 1440),
  .inr (0, some 24),
  .inr (0, some 48),
  .inr (0, some 40),
  .inr (0, some 48),
  .inr (0, some 144),
  .inr (1, some 48),
  .inr (0, some 12),
  .inr (0, some 96),
  .inr (0, some 96),
  .inr (0, some 96),
  .inr (0, some 8),
  .inr (0, some 72),
  .inr (1, some 100),
  .inr (0, some 4),
  .inr (0, some 128),
  .inr (0, some 129),
  .inr (0, some 10),
  .inr (0, some 5),
  .inr (0, some 5),
  .inr (0, some 5),
  .inr (0, some 216),
  .inr (0, none),
  .inr (0, none),
  .inr (0, none),
  .inr (0, none),
  .inr (0, none),
  .inr (0, none),
  .inr (0, none),
  .inr (0, none),
  .inr (0, some 40),
  .inr (0, some 4),
  .inr (0, some 40),
  .inr (0, some 4),
  .inr (0, some 40),
  .inr (0, some 4)]
def kb : Nat := 81
def nwL : List (String × Nat × MethodName × String) := [(RX0, 78, yX11_isNot, "SwitchYard")]
theorem ds_0 : dsT[0]? = some (.inl (12, [none, none, none, none, some 1, none, some 2, none, some 3, some 4, some 5, some 6, some 7, some 8, none, none, some 9, some 10, some 11, none, some 12, some 13, some 14, some 15, some 16, some 17, none, none, none, none, some 18, some 19, some 20, some 21, some 22, some 23, some 24, some 25, some 26, some 27, some 28, some 29, some 30, some 31, some 32, some 33, some 34, none, none, none, some 35, some 36, some 37, some 38, none, some 39, none, none, none, some 40, none, none, none, some 41, some 42, some 43, none, none, some 44, some 45, none, some 46, some 47, some 48, some 49, some 50, none, none, some 51, some 52, some 53, none, some 54, some 55, some 56, some 57, some 58, some 59, some 60])) := rfl
theorem ds_1 : dsT[1]? = some (.inr (0, some 18)) := rfl
theorem ds_2 : dsT[2]? = some (.inr (0, some 200)) := rfl
theorem ds_3 : dsT[3]? = some (.inr (0, some 24)) := rfl
theorem ds_4 : dsT[4]? = some (.inr (1, some 48)) := rfl
theorem ds_5 : dsT[5]? = some (.inr (0, some 48)) := rfl
theorem ds_6 : dsT[6]? = some (.inr (0, some 48)) := rfl
theorem ds_7 : dsT[7]? = some (.inr (0, some 144)) := rfl
theorem ds_8 : dsT[8]? = some (.inr (0, some 144)) := rfl
theorem ds_9 : dsT[9]? = some (.inr (0, some 40)) := rfl
theorem ds_10 : dsT[10]? = some (.inr (0, some 40)) := rfl
theorem ds_11 : dsT[11]? = some (.inr (0, some 40)) := rfl
theorem ds_12 : dsT[12]? = some (.inr (0, some 12)) := rfl
theorem ds_13 : dsT[13]? = some (.inr (0, some 96)) := rfl
theorem ds_14 : dsT[14]? = some (.inr (0, some 96)) := rfl
theorem ds_15 : dsT[15]? = some (.inr (0, some 96)) := rfl
theorem ds_16 : dsT[16]? = some (.inr (1, some 100)) := rfl
theorem ds_17 : dsT[17]? = some (.inr (0, some 8)) := rfl
theorem ds_18 : dsT[18]? = some (.inr (0, some 72)) := rfl
theorem ds_19 : dsT[19]? = some (.inr (1, some 72)) := rfl
theorem ds_20 : dsT[20]? = some (.inr (0, some 72)) := rfl
theorem ds_21 : dsT[21]? = some (.inr (0, some 72)) := rfl
theorem ds_22 : dsT[22]? = some (.inr (0, some 72)) := rfl
theorem ds_23 : dsT[23]? = some (.inr (0, some 144)) := rfl
theorem ds_24 : dsT[24]? = some (.inr (0, some 72)) := rfl
theorem ds_25 : dsT[25]? = some (.inr (0, some 72)) := rfl
theorem ds_26 : dsT[26]? = some (.inr (0, some 72)) := rfl
theorem ds_27 : dsT[27]? = some (.inr (0, some 72)) := rfl
theorem ds_28 : dsT[28]? = some (.inr (0, some 72)) := rfl
theorem ds_29 : dsT[29]? = some (.inr (0, some 72)) := rfl
theorem ds_30 : dsT[30]? = some (.inr (0, some 72)) := rfl
theorem ds_31 : dsT[31]? = some (.inr (1, some 72)) := rfl
theorem ds_32 : dsT[32]? = some (.inr (0, some 72)) := rfl
theorem ds_33 : dsT[33]? = some (.inr (0, some 72)) := rfl
theorem ds_34 : dsT[34]? = some (.inr (1, some 72)) := rfl
theorem ds_35 : dsT[35]? = some (.inr (0, some 72)) := rfl
theorem ds_36 : dsT[36]? = some (.inr (0, some 72)) := rfl
theorem ds_37 : dsT[37]? = some (.inr (0, some 1440)) := rfl
theorem ds_38 : dsT[38]? = some (.inr (0, some 8)) := rfl
theorem ds_39 : dsT[39]? = some (.inr (0, some 72)) := rfl
theorem ds_40 : dsT[40]? = some (.inr (0, some 18576)) := rfl
theorem ds_41 : dsT[41]? = some (.inr (0, some 40)) := rfl
theorem ds_42 : dsT[42]? = some (.inr (0, some 40)) := rfl
theorem ds_43 : dsT[43]? = some (.inr (0, some 8)) := rfl
theorem ds_44 : dsT[44]? = some (.inr (0, some 72)) := rfl
theorem ds_45 : dsT[45]? = some (.inr (0, some 72)) := rfl
theorem ds_46 : dsT[46]? = some (.inr (0, some 4)) := rfl
theorem ds_47 : dsT[47]? = some (.inr (0, some 4)) := rfl
theorem ds_48 : dsT[48]? = some (.inr (0, some 40)) := rfl
theorem ds_49 : dsT[49]? = some (.inr (0, some 4)) := rfl
theorem ds_50 : dsT[50]? = some (.inr (0, some 40)) := rfl
theorem ds_51 : dsT[51]? = some (.inr (0, some 400)) := rfl
theorem ds_52 : dsT[52]? = some (.inr (0, some 400)) := rfl
theorem ds_53 : dsT[53]? = some (.inr (0, some 400)) := rfl
theorem ds_54 : dsT[54]? = some (.inr (0, some 10)) := rfl
theorem ds_55 : dsT[55]? = some (.inr (0, some 25920)) := rfl
theorem ds_56 : dsT[56]? = some (.inr (0, some 400)) := rfl
theorem ds_57 : dsT[57]? = some (.inr (0, some 40)) := rfl
theorem ds_58 : dsT[58]? = some (.inr (0, some 4)) := rfl
theorem ds_59 : dsT[59]? = some (.inr (0, some 5)) := rfl
theorem ds_60 : dsT[60]? = some (.inr (0, some 6720)) := rfl
theorem ds_61 : dsT[61]? = some (.inl (11, [some 62, some 63, some 64, some 65, some 66, some 67, some 68, some 69, some 70, some 75, some 76])) := rfl
theorem ds_62 : dsT[62]? = some (.inl (5, [some 77, some 78, none, none, none, none, none])) := rfl
theorem ds_63 : dsT[63]? = some (.inl (8, [some 79, none])) := rfl
theorem ds_64 : dsT[64]? = some (.inl (1, [some 80, some 89, some 90, none, none, none, none, none])) := rfl
theorem ds_65 : dsT[65]? = some (.inl (9, [some 91, some 92])) := rfl
theorem ds_66 : dsT[66]? = some (.inl (2, [some 63, some 93, some 94, some 95, some 96, some 97, some 98, none, none])) := rfl
theorem ds_67 : dsT[67]? = some (.inl (6, [some 63, some 66, some 62, some 99, some 100, some 101, some 102, some 103, none])) := rfl
theorem ds_68 : dsT[68]? = some (.inl (10, [some 63, some 66, some 62, some 104, none, none])) := rfl
theorem ds_69 : dsT[69]? = some (.inl (0, [some 63, some 65, some 62, some 105])) := rfl
theorem ds_70 : dsT[70]? = some (.inl (3, [some 72, some 73, some 74, some 106, some 71, some 107, some 108, none, none])) := rfl
theorem ds_71 : dsT[71]? = some (.inl (4, [some 109, some 110, some 111, some 112, some 113, none, none, none, some 114, some 115, some 116, some 117, some 118, some 119, some 120, some 121])) := rfl
theorem ds_72 : dsT[72]? = some (.inl (7, [some 122, some 123])) := rfl
theorem ds_73 : dsT[73]? = some (.inl (7, [some 124, some 125])) := rfl
theorem ds_74 : dsT[74]? = some (.inl (7, [some 126, some 127])) := rfl
theorem ds_75 : dsT[75]? = some (.inr (0, some 8)) := rfl
theorem ds_76 : dsT[76]? = some (.inr (0, some 8)) := rfl
theorem ds_77 : dsT[77]? = some (.inr (0, some 18)) := rfl
theorem ds_78 : dsT[78]? = some (.inr (0, some 200)) := rfl
theorem ds_79 : dsT[79]? = some (.inr (0, some 946)) := rfl
theorem ds_80 : dsT[80]? = some (.inr (2, some 8)) := rfl
theorem ds_81 : dsT[81]? = some (.inr (0, some 946)) := rfl
theorem ds_82 : dsT[82]? = some (.inr (0, some 946)) := rfl
theorem ds_83 : dsT[83]? = some (.inr (0, some 946)) := rfl
theorem ds_84 : dsT[84]? = some (.inr (0, some 946)) := rfl
theorem ds_85 : dsT[85]? = some (.inr (0, some 946)) := rfl
theorem ds_86 : dsT[86]? = some (.inr (0, some 946)) := rfl
theorem ds_87 : dsT[87]? = some (.inr (0, some 946)) := rfl
theorem ds_88 : dsT[88]? = some (.inr (0, some 946)) := rfl
theorem ds_89 : dsT[89]? = some (.inr (0, some 40)) := rfl
theorem ds_90 : dsT[90]? = some (.inr (0, some 40)) := rfl
theorem ds_91 : dsT[91]? = some (.inr (0, some 432)) := rfl
theorem ds_92 : dsT[92]? = some (.inr (0, some 1440)) := rfl
theorem ds_93 : dsT[93]? = some (.inr (0, some 24)) := rfl
theorem ds_94 : dsT[94]? = some (.inr (0, some 48)) := rfl
theorem ds_95 : dsT[95]? = some (.inr (0, some 40)) := rfl
theorem ds_96 : dsT[96]? = some (.inr (0, some 48)) := rfl
theorem ds_97 : dsT[97]? = some (.inr (0, some 144)) := rfl
theorem ds_98 : dsT[98]? = some (.inr (1, some 48)) := rfl
theorem ds_99 : dsT[99]? = some (.inr (0, some 12)) := rfl
theorem ds_100 : dsT[100]? = some (.inr (0, some 96)) := rfl
theorem ds_101 : dsT[101]? = some (.inr (0, some 96)) := rfl
theorem ds_102 : dsT[102]? = some (.inr (0, some 96)) := rfl
theorem ds_103 : dsT[103]? = some (.inr (0, some 8)) := rfl
theorem ds_104 : dsT[104]? = some (.inr (0, some 72)) := rfl
theorem ds_105 : dsT[105]? = some (.inr (1, some 100)) := rfl
theorem ds_106 : dsT[106]? = some (.inr (0, some 4)) := rfl
theorem ds_107 : dsT[107]? = some (.inr (0, some 128)) := rfl
theorem ds_108 : dsT[108]? = some (.inr (0, some 129)) := rfl
theorem ds_109 : dsT[109]? = some (.inr (0, some 10)) := rfl
theorem ds_110 : dsT[110]? = some (.inr (0, some 5)) := rfl
theorem ds_111 : dsT[111]? = some (.inr (0, some 5)) := rfl
theorem ds_112 : dsT[112]? = some (.inr (0, some 5)) := rfl
theorem ds_113 : dsT[113]? = some (.inr (0, some 216)) := rfl
theorem ds_114 : dsT[114]? = some (.inr (0, none)) := rfl
theorem ds_115 : dsT[115]? = some (.inr (0, none)) := rfl
theorem ds_116 : dsT[116]? = some (.inr (0, none)) := rfl
theorem ds_117 : dsT[117]? = some (.inr (0, none)) := rfl
theorem ds_118 : dsT[118]? = some (.inr (0, none)) := rfl
theorem ds_119 : dsT[119]? = some (.inr (0, none)) := rfl
theorem ds_120 : dsT[120]? = some (.inr (0, none)) := rfl
theorem ds_121 : dsT[121]? = some (.inr (0, none)) := rfl
theorem ds_122 : dsT[122]? = some (.inr (0, some 40)) := rfl
theorem ds_123 : dsT[123]? = some (.inr (0, some 4)) := rfl
theorem ds_124 : dsT[124]? = some (.inr (0, some 40)) := rfl
theorem ds_125 : dsT[125]? = some (.inr (0, some 4)) := rfl
theorem ds_126 : dsT[126]? = some (.inr (0, some 40)) := rfl
theorem ds_127 : dsT[127]? = some (.inr (0, some 4)) := rfl
theorem ds_kept {i : Nat} (h : i < 8) : dsT[kb + i]? = some (.inr (0, some 946)) := by
  rcases (show i = 0 ∨ i = 1 ∨ i = 2 ∨ i = 3 ∨ i = 4 ∨ i = 5 ∨ i = 6 ∨ i = 7 by omega) with rfl | rfl | rfl | rfl | rfl | rfl | rfl | rfl <;> rfl
