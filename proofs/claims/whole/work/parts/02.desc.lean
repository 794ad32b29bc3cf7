/-! ===== the cells: which objects and arrays there are ===== -/
abbrev dsc : Type := (Nat × List (Option Nat)) ⊕ (Nat × Option Nat)
-- 0: SwitchYard
-- 1: Report
-- 2: State
-- 3: History
-- 4: Stock
-- 5: Layout
-- 6: Routes
-- 7: Trains
-- 8: Bodies
-- 9: Plans
-- 10: Potentials
-- 11: Stacks.start
-- 12: Stacks.goal
-- 13: Stacks.work
-- 14: Model
-- 15: SwitchYard.table int[8]
-- 16: SwitchYard.row int[8]
-- 17: Report.everFound int[18]
-- 18: Report.bodies int[200]
-- 19: State.cells int[946]
-- 20: History.kept int[][8]
-- 21: kept0 int[946]
-- 22: kept1 int[946]
-- 23: kept2 int[946]
-- 24: kept3 int[946]
-- 25: kept4 int[946]
-- 26: kept5 int[946]
-- 27: kept6 int[946]
-- 28: kept7 int[946]
-- 29: History.acts int[40]
-- 30: History.answers int[40]
-- 31: Stock.facts int[432]
-- 32: Stock.pieces int[1440]
-- 33: Layout.places int[24]
-- 34: Layout.pointAtEnd int[48]
-- 35: Layout.endOfPoint int[40]
-- 36: Layout.linkNumbers int[48]
-- 37: Layout.farEnds int[144]
-- 38: Layout.leadsOut boolean[48]
-- 39: Routes.entryNumbers int[12]
-- 40: Routes.entryPoints int[96]
-- 41: Routes.entryLinks int[96]
-- 42: Routes.entryRanks int[96]
-- 43: Routes.settingsBefore int[8]
-- 44: Trains.line int[72]
-- 45: Bodies.barred boolean[100]
-- 46: Plans.rooms int[4]
-- 47: Plans.moves int[128]
-- 48: Plans.ranks int[129]
-- 49: Potentials.numberOf int[10]
-- 50: Potentials.sequence int[5]
-- 51: Potentials.swapped int[5]
-- 52: Potentials.digits int[5]
-- 53: Potentials.shapeOfKey int[216]
-- 54: Potentials.ends int[None]
-- 55: Potentials.orderAfter int[None]
-- 56: Potentials.firstEntries int[None]
-- 57: Potentials.moves int[None]
-- 58: Potentials.nextShapes int[None]
-- 59: Potentials.swaps int[None]
-- 60: Potentials.least int[None]
-- 61: Potentials.queue int[None]
-- 62: Stacks.start.wagons int[40]
-- 63: Stacks.start.heights int[4]
-- 64: Stacks.goal.wagons int[40]
-- 65: Stacks.goal.heights int[4]
-- 66: Stacks.work.wagons int[40]
-- 67: Stacks.work.heights int[4]
-- 68: Model.ever int[18]
-- 69: Model.traced int[200]
-- 70: Model.places int[24]
-- 71: Model.isExit boolean[48]
-- 72: Model.pointAt int[48]
-- 73: Model.linkMany int[48]
-- 74: Model.linkTo int[144]
-- 75: Model.linkId int[144]
-- 76: Model.pointEnd int[40]
-- 77: Model.setTo int[40]
-- 78: Model.lockedBy int[40]
-- 79: Model.entries int[12]
-- 80: Model.entryPoint int[96]
-- 81: Model.entryLink int[96]
-- 82: Model.entryRank int[96]
-- 83: Model.barred boolean[100]
-- 84: Model.table int[8]
-- 85: Model.kind int[72]
-- 86: Model.isThere boolean[72]
-- 87: Model.track0 int[72]
-- 88: Model.place0 int[72]
-- 89: Model.looks int[72]
-- 90: Model.coupled int[144]
-- 91: Model.serial int[72]
-- 92: Model.fault int[72]
-- 93: Model.jammed int[72]
-- 94: Model.dangerOf int[72]
-- 95: Model.axlesOf int[72]
-- 96: Model.strength int[72]
-- 97: Model.left int[72]
-- 98: Model.isRunning boolean[72]
-- 99: Model.runSide int[72]
-- 100: Model.began int[72]
-- 101: Model.isTested boolean[72]
-- 102: Model.loadMany int[72]
-- 103: Model.loadSort int[72]
-- 104: Model.pieces int[1440]
-- 105: Model.roster int[8]
-- 106: Model.row int[72]
-- 107: Model.kept int[18576]
-- 108: Model.logAct int[40]
-- 109: Model.logAnswer int[40]
-- 110: Model.setBefore int[8]
-- 111: Model.line int[72]
-- 112: Model.ahead int[72]
-- 113: Model.rooms int[4]
-- 114: Model.startMany int[4]
-- 115: Model.startOn int[40]
-- 116: Model.goalMany int[4]
-- 117: Model.goalOn int[40]
-- 118: Model.moveFrom int[400]
-- 119: Model.moveTo int[400]
-- 120: Model.moveMany int[400]
-- 121: Model.planWagon int[10]
-- 122: Model.potential int[25920]
-- 123: Model.passed int[400]
-- 124: Model.on int[40]
-- 125: Model.many int[4]
-- 126: Model.flat int[5]
-- 127: Model.queue int[6720]
def dsT : List dsc := [.inl (11, [some 1, some 2, some 3, some 4, some 5, some 6, some 7, some 8, some 9, some 15, some 16]),
  .inl (5, [some 17, some 18, none, none, none, none, none]),
  .inl (8, [some 19, none]),
  .inl (1, [some 20, some 29, some 30, none, none, none, none, none]),
  .inl (9, [some 31, some 32]),
  .inl (2, [some 2, some 33, some 34, some 35, some 36, some 37, some 38, none, none]),
  .inl (6, [some 2, some 5, some 1, some 39, some 40, some 41, some 42, some 43, none]),
  .inl (10, [some 2, some 5, some 1, some 44, none, none]),
  .inl (0, [some 2, some 4, some 1, some 45]),
  .inl (3, [some 11, some 12, some 13, some 46, some 10, some 47, some 48, none, none]),
  .inl (4, [some 49, some 50, some 51, some 52, some 53, none, none, none, some 54, some 55, some 56, some 57, some 58, some 59, some 60, some 61]),
  .inl (7, [some 62, some 63]),
  .inl (7, [some 64, some 65]),
  .inl (7, [some 66, some 67]),
  .inl (12, [none, none, none, none, some 68, none, some 69, none, some 70, some 71, some 72, some 73, some 74, some 75, none, none, some 76, some 77, some 78, none, some 79, some 80, some 81, some 82, some 83, some 84, none, none, none, none, some 85, some 86, some 87, some 88, some 89, some 90, some 91, some 92, some 93, some 94, some 95, some 96, some 97, some 98, some 99, some 100, some 101, none, none, none, some 102, some 103, some 104, some 105, none, some 106, none, none, none, some 107, none, none, none, some 108, some 109, some 110, none, none, some 111, some 112, none, some 113, some 114, some 115, some 116, some 117, none, none, some 118, some 119, some 120, none, some 121, some 122, some 123, some 124, some 125, some 126, some 127]),
  .inr (0, some 8),
  .inr (0, some 8),
  .inr (0, some 18),
  .inr (0, some 200),
  .inr (0, some 946),
  .inr (2, some 8),
  .inr (0, some 946),
  .inr (0, some 946),
  .inr (0, some 946),
  .inr (0, some 946),
  .inr (0, some 946),
  .inr (0, some 946),
  .inr (0, some 946),
  .inr (0, some 946),
  .inr (0, some 40),
  .inr (0, some 40),
  .inr (0, some 432),
  .inr (0, some 1440),
  .inr (0, some 24),
  .inr (0, some 48),
  .inr (0, some 40),
  .inr (0, some 48),
  .inr (0, some 144),
  .inr (1, some 48),
  .inr (0, some 12),
  .inr (0, some 96),
  .inr (0, some 96),
  .inr (0, some 96),
  .inr (0, some 8),
  .inr (0, some 72),
  .inr (1, some 100),
  .inr (0, some 4),
  .inr (0, some 128),
  .inr (0, some 129),
  .inr (0, some 10),
  .inr (0, some 5),
  .inr (0, some 5),
  .inr (0, some 5),
  .inr (0, some 216),
  .inr (0, none),
  .inr (0, none),
  .inr (0, none),
  .inr (0, none),
  .inr (0, none),
  .inr (0, none),
  .inr (0, none),
  .inr (0, none),
  .inr (0, some 40),
  .inr (0, some 4),
  .inr (0, some 40),
  .inr (0, some 4),
  .inr (0, some 40),
  .inr (0, some 4),
  .inr (0, some 18),
  .inr (0, some 200),
  .inr (0, some 24),
  .inr (1, some 48),
  .inr (0, some 48),
  .inr (0, some 48),
  .inr (0, some 144),
  .inr (0, some 144),
  .inr (0, some 40),
  .inr (0, some 40),
  .inr (0, some 40),
  .inr (0, some 12),
  .inr (0, some 96),
  .inr (0, some 96),
  .inr (0, some 96),
  .inr (1, some 100),
  .inr (0, some 8),
  .inr (0, some 72),
  .inr (1, some 72),
  .inr (0, some 72),
  .inr (0, some 72),
  .inr (0, some 72),
  .inr (0, some 144),
  .inr (0, some 72),
  .inr (0, some 72),
  .inr (0, some 72),
  .inr (0, some 72),
  .inr (0, some 72),
  .inr (0, some 72),
  .inr (0, some 72),
  .inr (1, some 72),
  .inr (0, some 72),
  .inr (0, some 72),
  .inr (1, some 72),
  .inr (0, some 72),
  .inr (0, some 72),
  .inr (0, some 1440),
  .inr (0, some 8),
  .inr (0, some 72),
  .inr (0, some 18576),
  .inr (0, some 40),
  .inr (0, some 40),
  .inr (0, some 8),
  .inr (0, some 72),
  .inr (0, some 72),
  .inr (0, some 4),
  .inr (0, some 4),
  .inr (0, some 40),
  .inr (0, some 4),
  .inr (0, some 40),
  .inr (0, some 400),
  .inr (0, some 400),
  .inr (0, some 400),
  .inr (0, some 10),
  .inr (0, some 25920),
  .inr (0, some 400),
  .inr (0, some 40),
  .inr (0, some 4),
  .inr (0, some 5),
  .inr (0, some 6720)]
def kb : Nat := 21
def nwL : List (String × Nat × MethodName × String) := [(RX0, 78, yX11_isNot, "SwitchYard")]
theorem ds_0 : dsT[0]? = some (.inl (11, [some 1, some 2, some 3, some 4, some 5, some 6, some 7, some 8, some 9, some 15, some 16])) := rfl
theorem ds_1 : dsT[1]? = some (.inl (5, [some 17, some 18, none, none, none, none, none])) := rfl
theorem ds_2 : dsT[2]? = some (.inl (8, [some 19, none])) := rfl
theorem ds_3 : dsT[3]? = some (.inl (1, [some 20, some 29, some 30, none, none, none, none, none])) := rfl
theorem ds_4 : dsT[4]? = some (.inl (9, [some 31, some 32])) := rfl
theorem ds_5 : dsT[5]? = some (.inl (2, [some 2, some 33, some 34, some 35, some 36, some 37, some 38, none, none])) := rfl
theorem ds_6 : dsT[6]? = some (.inl (6, [some 2, some 5, some 1, some 39, some 40, some 41, some 42, some 43, none])) := rfl
theorem ds_7 : dsT[7]? = some (.inl (10, [some 2, some 5, some 1, some 44, none, none])) := rfl
theorem ds_8 : dsT[8]? = some (.inl (0, [some 2, some 4, some 1, some 45])) := rfl
theorem ds_9 : dsT[9]? = some (.inl (3, [some 11, some 12, some 13, some 46, some 10, some 47, some 48, none, none])) := rfl
theorem ds_10 : dsT[10]? = some (.inl (4, [some 49, some 50, some 51, some 52, some 53, none, none, none, some 54, some 55, some 56, some 57, some 58, some 59, some 60, some 61])) := rfl
theorem ds_11 : dsT[11]? = some (.inl (7, [some 62, some 63])) := rfl
theorem ds_12 : dsT[12]? = some (.inl (7, [some 64, some 65])) := rfl
theorem ds_13 : dsT[13]? = some (.inl (7, [some 66, some 67])) := rfl
theorem ds_14 : dsT[14]? = some (.inl (12, [none, none, none, none, some 68, none, some 69, none, some 70, some 71, some 72, some 73, some 74, some 75, none, none, some 76, some 77, some 78, none, some 79, some 80, some 81, some 82, some 83, some 84, none, none, none, none, some 85, some 86, some 87, some 88, some 89, some 90, some 91, some 92, some 93, some 94, some 95, some 96, some 97, some 98, some 99, some 100, some 101, none, none, none, some 102, some 103, some 104, some 105, none, some 106, none, none, none, some 107, none, none, none, some 108, some 109, some 110, none, none, some 111, some 112, none, some 113, some 114, some 115, some 116, some 117, none, none, some 118, some 119, some 120, none, some 121, some 122, some 123, some 124, some 125, some 126, some 127])) := rfl
theorem ds_15 : dsT[15]? = some (.inr (0, some 8)) := rfl
theorem ds_16 : dsT[16]? = some (.inr (0, some 8)) := rfl
theorem ds_17 : dsT[17]? = some (.inr (0, some 18)) := rfl
theorem ds_18 : dsT[18]? = some (.inr (0, some 200)) := rfl
theorem ds_19 : dsT[19]? = some (.inr (0, some 946)) := rfl
theorem ds_20 : dsT[20]? = some (.inr (2, some 8)) := rfl
theorem ds_21 : dsT[21]? = some (.inr (0, some 946)) := rfl
theorem ds_22 : dsT[22]? = some (.inr (0, some 946)) := rfl
theorem ds_23 : dsT[23]? = some (.inr (0, some 946)) := rfl
theorem ds_24 : dsT[24]? = some (.inr (0, some 946)) := rfl
theorem ds_25 : dsT[25]? = some (.inr (0, some 946)) := rfl
theorem ds_26 : dsT[26]? = some (.inr (0, some 946)) := rfl
theorem ds_27 : dsT[27]? = some (.inr (0, some 946)) := rfl
theorem ds_28 : dsT[28]? = some (.inr (0, some 946)) := rfl
theorem ds_29 : dsT[29]? = some (.inr (0, some 40)) := rfl
theorem ds_30 : dsT[30]? = some (.inr (0, some 40)) := rfl
theorem ds_31 : dsT[31]? = some (.inr (0, some 432)) := rfl
theorem ds_32 : dsT[32]? = some (.inr (0, some 1440)) := rfl
theorem ds_33 : dsT[33]? = some (.inr (0, some 24)) := rfl
theorem ds_34 : dsT[34]? = some (.inr (0, some 48)) := rfl
theorem ds_35 : dsT[35]? = some (.inr (0, some 40)) := rfl
theorem ds_36 : dsT[36]? = some (.inr (0, some 48)) := rfl
theorem ds_37 : dsT[37]? = some (.inr (0, some 144)) := rfl
theorem ds_38 : dsT[38]? = some (.inr (1, some 48)) := rfl
theorem ds_39 : dsT[39]? = some (.inr (0, some 12)) := rfl
theorem ds_40 : dsT[40]? = some (.inr (0, some 96)) := rfl
theorem ds_41 : dsT[41]? = some (.inr (0, some 96)) := rfl
theorem ds_42 : dsT[42]? = some (.inr (0, some 96)) := rfl
theorem ds_43 : dsT[43]? = some (.inr (0, some 8)) := rfl
theorem ds_44 : dsT[44]? = some (.inr (0, some 72)) := rfl
theorem ds_45 : dsT[45]? = some (.inr (1, some 100)) := rfl
theorem ds_46 : dsT[46]? = some (.inr (0, some 4)) := rfl
theorem ds_47 : dsT[47]? = some (.inr (0, some 128)) := rfl
theorem ds_48 : dsT[48]? = some (.inr (0, some 129)) := rfl
theorem ds_49 : dsT[49]? = some (.inr (0, some 10)) := rfl
theorem ds_50 : dsT[50]? = some (.inr (0, some 5)) := rfl
theorem ds_51 : dsT[51]? = some (.inr (0, some 5)) := rfl
theorem ds_52 : dsT[52]? = some (.inr (0, some 5)) := rfl
theorem ds_53 : dsT[53]? = some (.inr (0, some 216)) := rfl
theorem ds_54 : dsT[54]? = some (.inr (0, none)) := rfl
theorem ds_55 : dsT[55]? = some (.inr (0, none)) := rfl
theorem ds_56 : dsT[56]? = some (.inr (0, none)) := rfl
theorem ds_57 : dsT[57]? = some (.inr (0, none)) := rfl
theorem ds_58 : dsT[58]? = some (.inr (0, none)) := rfl
theorem ds_59 : dsT[59]? = some (.inr (0, none)) := rfl
theorem ds_60 : dsT[60]? = some (.inr (0, none)) := rfl
theorem ds_61 : dsT[61]? = some (.inr (0, none)) := rfl
theorem ds_62 : dsT[62]? = some (.inr (0, some 40)) := rfl
theorem ds_63 : dsT[63]? = some (.inr (0, some 4)) := rfl
theorem ds_64 : dsT[64]? = some (.inr (0, some 40)) := rfl
theorem ds_65 : dsT[65]? = some (.inr (0, some 4)) := rfl
theorem ds_66 : dsT[66]? = some (.inr (0, some 40)) := rfl
theorem ds_67 : dsT[67]? = some (.inr (0, some 4)) := rfl
theorem ds_68 : dsT[68]? = some (.inr (0, some 18)) := rfl
theorem ds_69 : dsT[69]? = some (.inr (0, some 200)) := rfl
theorem ds_70 : dsT[70]? = some (.inr (0, some 24)) := rfl
theorem ds_71 : dsT[71]? = some (.inr (1, some 48)) := rfl
theorem ds_72 : dsT[72]? = some (.inr (0, some 48)) := rfl
theorem ds_73 : dsT[73]? = some (.inr (0, some 48)) := rfl
theorem ds_74 : dsT[74]? = some (.inr (0, some 144)) := rfl
theorem ds_75 : dsT[75]? = some (.inr (0, some 144)) := rfl
theorem ds_76 : dsT[76]? = some (.inr (0, some 40)) := rfl
theorem ds_77 : dsT[77]? = some (.inr (0, some 40)) := rfl
theorem ds_78 : dsT[78]? = some (.inr (0, some 40)) := rfl
theorem ds_79 : dsT[79]? = some (.inr (0, some 12)) := rfl
theorem ds_80 : dsT[80]? = some (.inr (0, some 96)) := rfl
theorem ds_81 : dsT[81]? = some (.inr (0, some 96)) := rfl
theorem ds_82 : dsT[82]? = some (.inr (0, some 96)) := rfl
theorem ds_83 : dsT[83]? = some (.inr (1, some 100)) := rfl
theorem ds_84 : dsT[84]? = some (.inr (0, some 8)) := rfl
theorem ds_85 : dsT[85]? = some (.inr (0, some 72)) := rfl
theorem ds_86 : dsT[86]? = some (.inr (1, some 72)) := rfl
theorem ds_87 : dsT[87]? = some (.inr (0, some 72)) := rfl
theorem ds_88 : dsT[88]? = some (.inr (0, some 72)) := rfl
theorem ds_89 : dsT[89]? = some (.inr (0, some 72)) := rfl
theorem ds_90 : dsT[90]? = some (.inr (0, some 144)) := rfl
theorem ds_91 : dsT[91]? = some (.inr (0, some 72)) := rfl
theorem ds_92 : dsT[92]? = some (.inr (0, some 72)) := rfl
theorem ds_93 : dsT[93]? = some (.inr (0, some 72)) := rfl
theorem ds_94 : dsT[94]? = some (.inr (0, some 72)) := rfl
theorem ds_95 : dsT[95]? = some (.inr (0, some 72)) := rfl
theorem ds_96 : dsT[96]? = some (.inr (0, some 72)) := rfl
theorem ds_97 : dsT[97]? = some (.inr (0, some 72)) := rfl
theorem ds_98 : dsT[98]? = some (.inr (1, some 72)) := rfl
theorem ds_99 : dsT[99]? = some (.inr (0, some 72)) := rfl
theorem ds_100 : dsT[100]? = some (.inr (0, some 72)) := rfl
theorem ds_101 : dsT[101]? = some (.inr (1, some 72)) := rfl
theorem ds_102 : dsT[102]? = some (.inr (0, some 72)) := rfl
theorem ds_103 : dsT[103]? = some (.inr (0, some 72)) := rfl
theorem ds_104 : dsT[104]? = some (.inr (0, some 1440)) := rfl
theorem ds_105 : dsT[105]? = some (.inr (0, some 8)) := rfl
theorem ds_106 : dsT[106]? = some (.inr (0, some 72)) := rfl
theorem ds_107 : dsT[107]? = some (.inr (0, some 18576)) := rfl
theorem ds_108 : dsT[108]? = some (.inr (0, some 40)) := rfl
theorem ds_109 : dsT[109]? = some (.inr (0, some 40)) := rfl
theorem ds_110 : dsT[110]? = some (.inr (0, some 8)) := rfl
theorem ds_111 : dsT[111]? = some (.inr (0, some 72)) := rfl
theorem ds_112 : dsT[112]? = some (.inr (0, some 72)) := rfl
theorem ds_113 : dsT[113]? = some (.inr (0, some 4)) := rfl
theorem ds_114 : dsT[114]? = some (.inr (0, some 4)) := rfl
theorem ds_115 : dsT[115]? = some (.inr (0, some 40)) := rfl
theorem ds_116 : dsT[116]? = some (.inr (0, some 4)) := rfl
theorem ds_117 : dsT[117]? = some (.inr (0, some 40)) := rfl
theorem ds_118 : dsT[118]? = some (.inr (0, some 400)) := rfl
theorem ds_119 : dsT[119]? = some (.inr (0, some 400)) := rfl
theorem ds_120 : dsT[120]? = some (.inr (0, some 400)) := rfl
theorem ds_121 : dsT[121]? = some (.inr (0, some 10)) := rfl
theorem ds_122 : dsT[122]? = some (.inr (0, some 25920)) := rfl
theorem ds_123 : dsT[123]? = some (.inr (0, some 400)) := rfl
theorem ds_124 : dsT[124]? = some (.inr (0, some 40)) := rfl
theorem ds_125 : dsT[125]? = some (.inr (0, some 4)) := rfl
theorem ds_126 : dsT[126]? = some (.inr (0, some 5)) := rfl
theorem ds_127 : dsT[127]? = some (.inr (0, some 6720)) := rfl
theorem ds_kept {i : Nat} (h : i < 8) : dsT[kb + i]? = some (.inr (0, some 946)) := by
  rcases (show i = 0 ∨ i = 1 ∨ i = 2 ∨ i = 3 ∨ i = 4 ∨ i = 5 ∨ i = 6 ∨ i = 7 by omega) with rfl | rfl | rfl | rfl | rfl | rfl | rfl | rfl <;> rfl
