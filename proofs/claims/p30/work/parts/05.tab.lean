/-! THE PURE MACHINE'S TABLES, laid by program out of the claim's own tables: methods, links, fields -/
abbrev hf_M : Type := MethodName × ByteArray × Nat × Option FieldType × List (Nat × Nat × Nat × Nat) × Nat × Nat × Nat
def hf_mt0 : List hf_M := [
  (yX0_init, cX0_init, 2, (Option.none : Option Jvm.ClassFile.FieldType), [], 0, 5, 102),
  (yX0_clear, cX0_clear, 1, (Option.none : Option Jvm.ClassFile.FieldType), [], 0, 0, 0),
  (yX0_has, cX0_has, 2, (Option.some ClassFile.FieldType.boolean), [], 0, 0, 0),
  (yX0_at, cX0_at, 3, (Option.some (ClassFile.FieldType.object "Halofinder$Picture")), [], 0, 1, 21),
  (yX0_add, cX0_add, 7, (Option.some ClassFile.FieldType.int), [], 0, 6, 159),
  (yX0_codeOf, cX0_codeOf, 2, (Option.some ClassFile.FieldType.int), [], 0, 0, 0),
  (yX0_letGoOn, cX0_letGoOn, 6, (Option.none : Option Jvm.ClassFile.FieldType), [], 0, 3, 68),
  (yX0_comesMainlyFrom, cX0_comesMainlyFrom, 11, (Option.some ClassFile.FieldType.int), [], 0, 2, 43),
  (yX0_branchLength, cX0_branchLength, 6, (Option.some ClassFile.FieldType.int), [], 0, 3, 73),
  (yX0_howManyGoOnIn, cX0_howManyGoOnIn, 7, (Option.some ClassFile.FieldType.int), [], 0, 2, 43),
  (yX0_treeSize, cX0_treeSize, 5, (Option.some ClassFile.FieldType.int), [], 0, 3, 67),
  (yX0_leadingToReached, cX0_leadingToReached, 6, (Option.some ClassFile.FieldType.long), [], 0, 2, 42),
  (yX0_tellRecipes, cX0_tellRecipes, 4, (Option.none : Option Jvm.ClassFile.FieldType), [], 0, 5, 126),
  (yX0_growGalaxies, cX0_growGalaxies, 6, (Option.none : Option Jvm.ClassFile.FieldType), [], 0, 4, 101),
  (yX0_handOn, cX0_handOn, 6, (Option.none : Option Jvm.ClassFile.FieldType), [], 0, 2, 47),
  (yX0_allThatDoesNotGoOn, cX0_allThatDoesNotGoOn, 7, (Option.some ClassFile.FieldType.long), [], 0, 2, 43)]
def hf_mt1 : List hf_M := [
  (yX1_init, cX1_init, 1, (Option.none : Option Jvm.ClassFile.FieldType), [], 1, 2, 42),
  (yX1_layOut, cX1_layOut, 3, (Option.none : Option Jvm.ClassFile.FieldType), [], 1, 3, 66),
  (yX1_copy, cX1_copy, 2, (Option.none : Option Jvm.ClassFile.FieldType), [], 1, 2, 43),
  (yX1_latticeX, cX1_latticeX, 2, (Option.some ClassFile.FieldType.long), [], 1, 2, 45),
  (yX1_latticeY, cX1_latticeY, 2, (Option.some ClassFile.FieldType.long), [], 1, 2, 45),
  (yX1_latticePlace, cX1_latticePlace, 3, (Option.some ClassFile.FieldType.long), [], 1, 1, 23),
  (yX1_letRippleThrough, cX1_letRippleThrough, 14, (Option.none : Option Jvm.ClassFile.FieldType), [], 1, 4, 96),
  (yX1_waveAt, cX1_waveAt, 3, (Option.some ClassFile.FieldType.long), [], 1, 1, 25),
  (yX1_displace, cX1_displace, 6, (Option.none : Option Jvm.ClassFile.FieldType), [], 1, 3, 71),
  (yX1_shift, cX1_shift, 6, (Option.none : Option Jvm.ClassFile.FieldType), [], 1, 2, 46),
  (yX1_hasten, cX1_hasten, 4, (Option.none : Option Jvm.ClassFile.FieldType), [], 1, 1, 23),
  (yX1_moveAtAge, cX1_moveAtAge, 5, (Option.none : Option Jvm.ClassFile.FieldType), [], 1, 3, 71),
  (yX1_places, cX1_places, 2, (Option.some (ClassFile.FieldType.object "Halofinder$Row")), [], 1, 0, 0),
  (yX1_speeds, cX1_speeds, 2, (Option.some (ClassFile.FieldType.object "Halofinder$Row")), [], 1, 0, 0),
  (yX1_way, cX1_way, 5, (Option.some ClassFile.FieldType.long), [], 1, 2, 48),
  (yX1_within, cX1_within, 7, (Option.some ClassFile.FieldType.long), [], 1, 3, 76)]
def hf_mt2 : List hf_M := [
  (yX1_areWithin, cX1_areWithin, 9, (Option.some ClassFile.FieldType.boolean), [], 1, 2, 48),
  (yX1_farBetween, cX1_farBetween, 3, (Option.some ClassFile.FieldType.long), [], 1, 3, 72),
  (yX1_sumOfSpeeds, cX1_sumOfSpeeds, 6, (Option.some ClassFile.FieldType.long), [], 1, 1, 21),
  (yX1_commonSpeed, cX1_commonSpeed, 8, (Option.some ClassFile.FieldType.long), [], 1, 2, 48),
  (yX1_countPairs, cX1_countPairs, 10, (Option.some ClassFile.FieldType.int), [], 1, 4, 94),
  (yX2_init, cX2_init, 1, (Option.none : Option Jvm.ClassFile.FieldType), [], 2, 2, 42),
  (yX2_countHalos, cX2_countHalos, 5, (Option.some ClassFile.FieldType.int), [], 2, 4, 98),
  (yX2_rename, cX2_rename, 7, (Option.none : Option Jvm.ClassFile.FieldType), [], 2, 1, 23),
  (yX2_countNames, cX2_countNames, 5, (Option.some ClassFile.FieldType.int), [], 2, 1, 23),
  (yX3_init, cX3_init, 1, (Option.none : Option Jvm.ClassFile.FieldType), [], 3, 4, 82),
  (yX3_begin, cX3_begin, 2, (Option.none : Option Jvm.ClassFile.FieldType), [], 3, 3, 64),
  (yX3_goesOnIn, cX3_goesOnIn, 2, (Option.some ClassFile.FieldType.int), [], 3, 1, 21),
  (yX3_gasOf, cX3_gasOf, 3, (Option.some ClassFile.FieldType.long), [], 3, 1, 21),
  (yX3_addGas, cX3_addGas, 5, (Option.none : Option Jvm.ClassFile.FieldType), [], 3, 1, 23),
  (yX3_beginGalaxies, cX3_beginGalaxies, 4, (Option.none : Option Jvm.ClassFile.FieldType), [], 3, 2, 47),
  (yX3_useRecipes, cX3_useRecipes, 10, (Option.none : Option Jvm.ClassFile.FieldType), [], 3, 3, 72)]
def hf_mt3 : List hf_M := [
  (yX3_turn, cX3_turn, 6, (Option.none : Option Jvm.ClassFile.FieldType), [], 3, 2, 47),
  (yX4_init, cX4_init, 1, (Option.none : Option Jvm.ClassFile.FieldType), [], 4, 2, 42),
  (yX4_tell, cX4_tell, 3, (Option.none : Option Jvm.ClassFile.FieldType), [], 4, 0, 0),
  (yX4_found, cX4_found, 2, (Option.some (ClassFile.FieldType.object "Halofinder$Row")), [], 4, 0, 0),
  (yX4_findAll, cX4_findAll, 3, (Option.none : Option Jvm.ClassFile.FieldType), [], 4, 3, 85),
  (yX4_pullWithAllAbove, cX4_pullWithAllAbove, 18, (Option.none : Option Jvm.ClassFile.FieldType), [], 4, 2, 48),
  (yX4_weaknessOver, cX4_weaknessOver, 5, (Option.some ClassFile.FieldType.long), [], 4, 0, 0),
  (yX4_pullFrom, cX4_pullFrom, 6, (Option.some ClassFile.FieldType.long), [], 4, 1, 24),
  (yX4_byCells, cX4_byCells, 7, (Option.some ClassFile.FieldType.long), [], 4, 3, 83),
  (yX4_areNear, cX4_areNear, 3, (Option.some ClassFile.FieldType.boolean), [], 4, 2, 48),
  (yX4_linesAreNear, cX4_linesAreNear, 4, (Option.some ClassFile.FieldType.boolean), [], 4, 1, 25),
  (yX4_putInCell, cX4_putInCell, 8, (Option.none : Option Jvm.ClassFile.FieldType), [], 4, 1, 23),
  (yX4_pullOfCell, cX4_pullOfCell, 15, (Option.some ClassFile.FieldType.long), [], 4, 2, 49),
  (yX5_place, cX5_place, 2, (Option.some ClassFile.FieldType.long), [], 5, 1, 25),
  (yX5_way, cX5_way, 4, (Option.some ClassFile.FieldType.long), [], 5, 1, 25),
  (yX5_far, cX5_far, 12, (Option.some ClassFile.FieldType.long), [], 5, 0, 0)]
def hf_mt4 : List hf_M := [
  (yX5_by, cX5_by, 4, (Option.some ClassFile.FieldType.long), [], 5, 0, 0),
  (yX5_byRoundedDown, cX5_byRoundedDown, 4, (Option.some ClassFile.FieldType.long), [], 5, 1, 25),
  (yX5_bit, cX5_bit, 1, (Option.some ClassFile.FieldType.long), [], 5, 0, 0),
  (yX5_has, cX5_has, 3, (Option.some ClassFile.FieldType.boolean), [], 5, 1, 20),
  (yX5_lowest, cX5_lowest, 3, (Option.some ClassFile.FieldType.int), [], 5, 2, 42),
  (yX6_init, cX6_init, 2, (Option.none : Option Jvm.ClassFile.FieldType), [], 6, 1, 21),
  (yX6_get, cX6_get, 2, (Option.some ClassFile.FieldType.long), [], 6, 0, 0),
  (yX6_set, cX6_set, 4, (Option.none : Option Jvm.ClassFile.FieldType), [], 6, 0, 0),
  (yX6_add, cX6_add, 4, (Option.none : Option Jvm.ClassFile.FieldType), [], 6, 0, 0),
  (yX6_fill, cX6_fill, 4, (Option.none : Option Jvm.ClassFile.FieldType), [], 6, 0, 0),
  (yX6_copy, cX6_copy, 3, (Option.none : Option Jvm.ClassFile.FieldType), [], 6, 1, 21),
  (yX7_init, cX7_init, 1, (Option.none : Option Jvm.ClassFile.FieldType), [], 7, 3, 62),
  (yX7_findHalos, cX7_findHalos, 9, (Option.none : Option Jvm.ClassFile.FieldType), [], 7, 5, 131),
  (yX7_areLinked, cX7_areLinked, 3, (Option.some ClassFile.FieldType.boolean), [], 7, 3, 76),
  (yX7_groupOf, cX7_groupOf, 10, (Option.some ClassFile.FieldType.long), [], 7, 4, 102),
  (yX7_insert, cX7_insert, 5, (Option.none : Option Jvm.ClassFile.FieldType), [], 7, 2, 42)]
def hf_mt5 : List hf_M := [
  (yX7_members, cX7_members, 2, (Option.some ClassFile.FieldType.long), [], 7, 1, 21),
  (yX7_howMany, cX7_howMany, 2, (Option.some ClassFile.FieldType.int), [], 7, 1, 21),
  (yX7_allMembers, cX7_allMembers, 4, (Option.some ClassFile.FieldType.long), [], 7, 2, 42),
  (yX7_haloWithMostOf, cX7_haloWithMostOf, 7, (Option.some ClassFile.FieldType.int), [], 7, 2, 42),
  (yX7_valueOf, cX7_valueOf, 3, (Option.some ClassFile.FieldType.long), [], 7, 4, 100),
  (yX7_middle, cX7_middle, 9, (Option.some ClassFile.FieldType.long), [], 7, 3, 72),
  (yX7_speed, cX7_speed, 3, (Option.some ClassFile.FieldType.long), [], 7, 3, 75),
  (yX7_spin, cX7_spin, 8, (Option.some ClassFile.FieldType.long), [], 7, 3, 72),
  (yX8_init, cX8_init, 1, (Option.none : Option Jvm.ClassFile.FieldType), [], 8, 2, 42),
  (yX8_tellObserver, cX8_tellObserver, 4, (Option.none : Option Jvm.ClassFile.FieldType), [], 8, 0, 0),
  (yX8_tellSurvey, cX8_tellSurvey, 3, (Option.none : Option Jvm.ClassFile.FieldType), [], 8, 0, 0),
  (yX8_look, cX8_look, 6, (Option.none : Option Jvm.ClassFile.FieldType), [], 8, 5, 133),
  (yX8_lookAt, cX8_lookAt, 14, (Option.none : Option Jvm.ClassFile.FieldType), [], 8, 4, 100),
  (yX8_partOf, cX8_partOf, 5, (Option.some ClassFile.FieldType.int), [], 8, 1, 21),
  (yX8_valueOf, cX8_valueOf, 3, (Option.some ClassFile.FieldType.long), [], 8, 3, 67),
  (yX8_giveSpectra, cX8_giveSpectra, 3, (Option.none : Option Jvm.ClassFile.FieldType), [], 8, 2, 45)]
def hf_mt6 : List hf_M := [
  (yX8_brightestNotAsked, cX8_brightestNotAsked, 5, (Option.some ClassFile.FieldType.int), [], 8, 1, 21),
  (yX8_isFree, cX8_isFree, 3, (Option.some ClassFile.FieldType.boolean), [], 8, 1, 21),
  (yX9_init, cX9_init, 1, (Option.none : Option Jvm.ClassFile.FieldType), [], 9, 2, 42),
  (yX9_boundAmong, cX9_boundAmong, 10, (Option.some ClassFile.FieldType.long), [], 9, 6, 147),
  (yX9_holdBetween, cX9_holdBetween, 5, (Option.some ClassFile.FieldType.long), [], 9, 4, 94),
  (yX9_sumHolds, cX9_sumHolds, 10, (Option.none : Option Jvm.ClassFile.FieldType), [], 9, 5, 118),
  (yX9_takeHoldsOf, cX9_takeHoldsOf, 8, (Option.none : Option Jvm.ClassFile.FieldType), [], 9, 5, 118),
  (yX9_loosestOf, cX9_loosestOf, 18, (Option.some ClassFile.FieldType.int), [], 9, 3, 75),
  (yX10_greatestAmong, cX10_greatestAmong, 7, (Option.some ClassFile.FieldType.int), [], 10, 2, 55),
  (yX10_cellsWithout, cX10_cellsWithout, 6, (Option.some ClassFile.FieldType.long), [], 10, 1, 21),
  (yX10_spread, cX10_spread, 7, (Option.some ClassFile.FieldType.long), [], 10, 1, 29),
  (yX10_besides, cX10_besides, 10, (Option.some ClassFile.FieldType.long), [], 10, 0, 0),
  (yX11_init, cX11_init, 1, (Option.none : Option Jvm.ClassFile.FieldType), [], 11, 6, 149),
  (yX11_universe, cX11_universe, 2, (Option.some ClassFile.FieldType.int), [], 11, 7, 112),
  (yX11_ripple, cX11_ripple, 5, (Option.none : Option Jvm.ClassFile.FieldType), [], 11, 7, 129),
  (yX11_draw, cX11_draw, 3, (Option.some ClassFile.FieldType.int), [], 11, 7, 159)]
def hf_mt7 : List hf_M := [
  (yX11_pull, cX11_pull, 3, (Option.none : Option Jvm.ClassFile.FieldType), [], 11, 7, 112),
  (yX11_force, cX11_force, 4, (Option.some ClassFile.FieldType.long), [], 11, 6, 109),
  (yX11_step, cX11_step, 3, (Option.some ClassFile.FieldType.int), [], 11, 7, 127),
  (yX11_momentum, cX11_momentum, 2, (Option.some ClassFile.FieldType.long), [], 11, 2, 46),
  (yX11_link, cX11_link, 3, (Option.none : Option Jvm.ClassFile.FieldType), [], 11, 7, 112),
  (yX11_halos, cX11_halos, 2, (Option.some ClassFile.FieldType.int), [], 11, 8, 181),
  (yX11_halosAnew, cX11_halosAnew, 2, (Option.some ClassFile.FieldType.int), [], 11, 8, 181),
  (yX11_grains, cX11_grains, 4, (Option.some ClassFile.FieldType.long), [], 11, 8, 181),
  (yX11_ofHalo, cX11_ofHalo, 5, (Option.some ClassFile.FieldType.long), [], 11, 8, 181),
  (yX11_bound, cX11_bound, 4, (Option.some ClassFile.FieldType.long), [], 11, 8, 181),
  (yX11_keep, cX11_keep, 1, (Option.some ClassFile.FieldType.int), [], 11, 7, 185),
  (yX11_next, cX11_next, 3, (Option.some ClassFile.FieldType.int), [], 11, 8, 133),
  (yX11_from, cX11_from, 3, (Option.some ClassFile.FieldType.int), [], 11, 8, 133),
  (yX11_tree, cX11_tree, 4, (Option.some ClassFile.FieldType.int), [], 11, 8, 133),
  (yX11_recipes, cX11_recipes, 4, (Option.none : Option Jvm.ClassFile.FieldType), [], 11, 7, 149),
  (yX11_galaxy, cX11_galaxy, 4, (Option.some ClassFile.FieldType.int), [], 11, 8, 133)]
def hf_mt8 : List hf_M := [
  (yX11_kept, cX11_kept, 1, (Option.some ClassFile.FieldType.int), [], 11, 3, 69),
  (yX11_observe, cX11_observe, 4, (Option.none : Option Jvm.ClassFile.FieldType), [], 11, 7, 112),
  (yX11_survey, cX11_survey, 3, (Option.none : Option Jvm.ClassFile.FieldType), [], 11, 7, 112),
  (yX11_seen, cX11_seen, 1, (Option.some ClassFile.FieldType.int), [], 11, 6, 158),
  (yX11_sky, cX11_sky, 3, (Option.some ClassFile.FieldType.int), [], 11, 7, 158),
  (yX11_pairs, cX11_pairs, 3, (Option.some ClassFile.FieldType.int), [], 11, 7, 123),
  (yX11_voidCells, cX11_voidCells, 1, (Option.some ClassFile.FieldType.int), [], 11, 3, 81),
  (yX11_begin, cX11_begin, 2, (Option.none : Option Jvm.ClassFile.FieldType), [], 11, 4, 88),
  (yX11_drawRipples, cX11_drawRipples, 11, (Option.some ClassFile.FieldType.int), [], 11, 5, 129),
  (yX11_passOneStep, cX11_passOneStep, 1, (Option.none : Option Jvm.ClassFile.FieldType), [], 11, 4, 107),
  (yX11_sceneAt, cX11_sceneAt, 2, (Option.some (ClassFile.FieldType.object "Halofinder$Scene")), [], 11, 6, 90),
  (yX11_sceneWithHalos, cX11_sceneWithHalos, 3, (Option.some (ClassFile.FieldType.object "Halofinder$Scene")), [], 11, 7, 159),
  (yX11_needHalo, cX11_needHalo, 2, (Option.none : Option Jvm.ClassFile.FieldType), [], 11, 6, 90),
  (yX11_needKeptHalo, cX11_needKeptHalo, 3, (Option.none : Option Jvm.ClassFile.FieldType), [], 11, 7, 111),
  (yX11_needFirstAge, cX11_needFirstAge, 1, (Option.none : Option Jvm.ClassFile.FieldType), [], 11, 6, 90),
  (yX11_needRange, cX11_needRange, 3, (Option.none : Option Jvm.ClassFile.FieldType), [], 11, 6, 90)]
def hf_mt9 : List hf_M := [
  (yX11_needNotBelow0, cX11_needNotBelow0, 1, (Option.none : Option Jvm.ClassFile.FieldType), [], 11, 6, 90),
  (yJ13_bitCount_95d88, cJ13_bitCount_95d88, 2, (Option.some ClassFile.FieldType.int), [], 15, 0, 0),
  (yJ9_floorDiv_f86c9, cJ9_floorDiv_f86c9, 6, (Option.some ClassFile.FieldType.long), [], 14, 0, 0),
  (yJ9_floorMod_f86c9, cJ9_floorMod_f86c9, 6, (Option.some ClassFile.FieldType.long), [], 14, 0, 0),
  (yJ9_abs_067f4, cJ9_abs_067f4, 2, (Option.some ClassFile.FieldType.long), [], 14, 0, 0),
  (yJ9_max_7cf53, cJ9_max_7cf53, 2, (Option.some ClassFile.FieldType.int), [], 14, 0, 0),
  (yJ9_min_7cf53, cJ9_min_7cf53, 2, (Option.some ClassFile.FieldType.int), [], 14, 0, 0),
  (yJ9_min_f86c9, cJ9_min_f86c9, 4, (Option.some ClassFile.FieldType.long), [], 14, 0, 0),
  (yL_at, cL_at, 2, (Option.some ClassFile.FieldType.int), [], 13, 0, 0),
  (yL_low, cL_low, 2, (Option.some ClassFile.FieldType.int), [], 13, 0, 0),
  (yL_universe, cL_universe, 3, (Option.some ClassFile.FieldType.int), [(0, 5, 6, 16)], 13, 8, 133),
  (yL_ripple, cL_ripple, 6, (Option.some ClassFile.FieldType.int), [(0, 10, 11, 16), (0, 10, 16, 23)], 13, 8, 153),
  (yL_draw, cL_draw, 4, (Option.some ClassFile.FieldType.int), [(0, 6, 7, 16), (0, 6, 11, 23)], 13, 8, 181),
  (yL_pull, cL_pull, 4, (Option.some ClassFile.FieldType.int), [(0, 7, 8, 16)], 13, 8, 134),
  (yL_force, cL_force, 5, (Option.some ClassFile.FieldType.long), [(0, 7, 8, 34)], 13, 7, 132),
  (yL_step, cL_step, 3, (Option.some ClassFile.FieldType.int), [(0, 5, 6, 16), (0, 5, 10, 23)], 13, 8, 149)]
def hf_mt10 : List hf_M := [
  (yL_link, cL_link, 4, (Option.some ClassFile.FieldType.int), [(0, 7, 8, 16)], 13, 8, 134),
  (yL_halos, cL_halos, 3, (Option.some ClassFile.FieldType.int), [(0, 5, 6, 34)], 13, 9, 202),
  (yL_halosAnew, cL_halosAnew, 3, (Option.some ClassFile.FieldType.int), [(0, 5, 6, 34)], 13, 9, 202),
  (yL_grains, cL_grains, 4, (Option.some ClassFile.FieldType.long), [(0, 6, 7, 34)], 13, 9, 204),
  (yL_ofHalo, cL_ofHalo, 5, (Option.some ClassFile.FieldType.long), [(0, 7, 8, 34), (0, 7, 14, 16)], 13, 9, 205),
  (yL_bound, cL_bound, 4, (Option.some ClassFile.FieldType.long), [(0, 6, 7, 34)], 13, 9, 204),
  (yL_keep, cL_keep, 2, (Option.some ClassFile.FieldType.int), [(0, 4, 5, 23)], 13, 8, 205),
  (yL_next, cL_next, 4, (Option.some ClassFile.FieldType.int), [(0, 6, 7, 34)], 13, 9, 155),
  (yL_from, cL_from, 4, (Option.some ClassFile.FieldType.int), [(0, 6, 7, 34)], 13, 9, 155),
  (yL_tree, cL_tree, 5, (Option.some ClassFile.FieldType.int), [(0, 7, 8, 34), (0, 7, 13, 16)], 13, 9, 156),
  (yL_recipes, cL_recipes, 5, (Option.some ClassFile.FieldType.int), [(0, 8, 9, 16)], 13, 8, 172),
  (yL_galaxy, cL_galaxy, 5, (Option.some ClassFile.FieldType.int), [(0, 7, 8, 34), (0, 7, 13, 16)], 13, 9, 156),
  (yL_observe, cL_observe, 5, (Option.some ClassFile.FieldType.int), [(0, 8, 9, 16)], 13, 8, 135),
  (yL_survey, cL_survey, 4, (Option.some ClassFile.FieldType.int), [(0, 7, 8, 16)], 13, 8, 134),
  (yL_sky, cL_sky, 4, (Option.some ClassFile.FieldType.int), [(0, 6, 7, 34), (0, 6, 11, 16)], 13, 8, 180),
  (yL_pairs, cL_pairs, 4, (Option.some ClassFile.FieldType.int), [(0, 6, 7, 16)], 13, 8, 145)]
def hf_mt11 : List hf_M := [
  (yL_areHalos, cL_areHalos, 14, (Option.some ClassFile.FieldType.boolean), [], 13, 10, 229),
  (yL_areTrees, cL_areTrees, 14, (Option.some ClassFile.FieldType.boolean), [], 13, 10, 224),
  (yL_isSky, cL_isSky, 15, (Option.some ClassFile.FieldType.boolean), [], 13, 10, 203),
  (yL_areForces, cL_areForces, 7, (Option.some ClassFile.FieldType.boolean), [], 13, 8, 156),
  (yL_areCounts, cL_areCounts, 6, (Option.some ClassFile.FieldType.boolean), [], 13, 9, 168),
  (yL_waves, cL_waves, 7, (Option.some ClassFile.FieldType.boolean), [], 13, 9, 204),
  (yL_acts, cL_acts, 8, (Option.some ClassFile.FieldType.boolean), [], 13, 11, 262),
  (yL_law, cL_law, 7, (Option.some ClassFile.FieldType.boolean), [], 13, 12, 289)]
def hf_m0 : hf_M := (⟨"", "", ""⟩, ⟨#[]⟩, 0, none, [], 99, 0, 0)
def hf_mt : Nat → List hf_M := fun k => match k with
  | 0 => hf_mt0
  | 1 => hf_mt1
  | 2 => hf_mt2
  | 3 => hf_mt3
  | 4 => hf_mt4
  | 5 => hf_mt5
  | 6 => hf_mt6
  | 7 => hf_mt7
  | 8 => hf_mt8
  | 9 => hf_mt9
  | 10 => hf_mt10
  | 11 => hf_mt11
  | _ => []
def hf_m (i : Nat) : hf_M := (hf_mt (i / 16)).getD (i % 16) hf_m0
def hf_y (i : Nat) : MethodName := (hf_m i).1
def hf_cd (i : Nat) : ByteArray := (hf_m i).2.1
def hf_nL (i : Nat) : Nat := (hf_m i).2.2.1
def hf_rt (i : Nat) : Option FieldType := (hf_m i).2.2.2.1
def hf_hh (i : Nat) : List (Nat × Nat × Nat × Nat) := (hf_m i).2.2.2.2.1
def hf_oc (i : Nat) : Nat := (hf_m i).2.2.2.2.2.1
def hf_fr (i : Nat) : Nat := (hf_m i).2.2.2.2.2.2.1
def hf_lo (i : Nat) : Nat := (hf_m i).2.2.2.2.2.2.2
def hf_on (o : Nat) : String := match o with
  | 0 => RX0
  | 1 => RX1
  | 2 => RX2
  | 3 => RX3
  | 4 => RX4
  | 5 => RX5
  | 6 => RX6
  | 7 => RX7
  | 8 => RX8
  | 9 => RX9
  | 10 => RX10
  | 11 => RX11
  | 12 => RX12
  | 13 => RL
  | 14 => RJ9
  | 15 => RJ13
  | _ => ""
def hf_nf (c : Nat) : Nat := match c with
  | 0 => 7
  | 1 => 6
  | 2 => 2
  | 3 => 3
  | 4 => 7
  | 5 => 1
  | 6 => 5
  | 7 => 12
  | 8 => 1
  | 9 => 9
  | _ => 0
def hf_ftl (c : Nat) : List Nat := match c with
  | 0 => [2, 2, 2, 0, 1, 1, 1]
  | 1 => [2, 2, 2, 2, 0, 0]
  | 2 => [2, 2]
  | 3 => [2, 2, 2]
  | 4 => [1, 1, 2, 2, 2, 2, 2]
  | 5 => [2]
  | 6 => [2, 2, 0, 1, 0]
  | 7 => [2, 2, 2, 2, 2, 2, 0, 1, 1, 1, 0, 1]
  | 8 => [2]
  | 9 => [2, 2, 2, 2, 2, 2, 0, 1, 0]
  | _ => []
/-- the type of a field: 0 int or boolean, 1 long, 2 a reference -/
def hf_ft (c k : Nat) : Nat := (hf_ftl c).getD k 9
def hf_cn (c : Nat) : String := match c with
  | 0 => RX0
  | 1 => RX1
  | 2 => RX2
  | 3 => RX3
  | 4 => RX4
  | 5 => RX6
  | 6 => RX7
  | 7 => RX8
  | 8 => RX9
  | 9 => RX11
  | _ => ""
def hf_ct (c : Nat) : u_T := match c with
  | 0 => TX0
  | 1 => TX1
  | 2 => TX2
  | 3 => TX3
  | 4 => TX4
  | 5 => TX6
  | 6 => TX7
  | 7 => TX8
  | 8 => TX9
  | 9 => TX11
  | _ => TX0
def hf_en (x : Nat) : String := match x with
  | 1 => "java/lang/IllegalArgumentException"
  | 2 => "java/lang/IllegalStateException"
  | 3 => "java/lang/IndexOutOfBoundsException"
  | _ => ""
def hf_mlT (o : Nat) : List (Nat × Nat × Nat × Nat) := match o with
  | 0 => [(3, 999, 0, 9), (17, 41, 0, 5), (24, 69, 1, 2), (35, 2, 1, 1), (39, 3, 1, 1), (43, 42, 1, 1), (51, 76, 2, 1), (57, 6, 2, 1), (61, 13, 0, 1), (65, 43, 1, 1), (69, 80, 1, 1), (73, 83, 1, 1), (82, 5, 2, 0), (86, 71, 2, 1), (90, 145, 1, 0), (95, 7, 2, 1), (98, 73, 1, 1), (102, 66, 1, 0), (107, 11, 1, 1), (111, 70, 1, 1), (114, 67, 2, 0), (127, 46, 1, 1), (130, 82, 0, 1), (134, 47, 4, 1), (138, 14, 2, 1), (142, 44, 2, 1), (146, 45, 3, 1)]
  | 1 => [(3, 999, 0, 9), (11, 69, 1, 2), (33, 150, 2, 0), (42, 19, 1, 1), (46, 71, 2, 1), (50, 20, 1, 1), (53, 73, 1, 1), (57, 74, 1, 1), (61, 64, 2, 0), (67, 21, 1, 1), (79, 146, 2, 0), (82, 23, 1, 0), (87, 24, 3, 1), (91, 147, 2, 0), (98, 25, 3, 1), (101, 72, 2, 1), (104, 70, 1, 1), (107, 61, 1, 0), (110, 28, 1, 1), (114, 29, 1, 1), (117, 62, 2, 0), (120, 32, 3, 1), (124, 66, 1, 0), (127, 30, 3, 1), (130, 63, 2, 0), (133, 67, 2, 0), (137, 145, 1, 0), (143, 65, 2, 0), (146, 33, 2, 1)]
  | 2 => [(3, 999, 0, 9), (11, 69, 1, 2), (35, 71, 2, 1), (39, 77, 2, 1), (43, 70, 1, 1), (47, 39, 3, 1), (54, 40, 2, 1), (58, 73, 1, 1), (62, 72, 2, 1)]
  | 3 => [(3, 999, 0, 9), (11, 75, 0, 5), (20, 69, 1, 2), (34, 18, 1, 1), (42, 73, 1, 1), (46, 70, 1, 1), (50, 72, 2, 1), (60, 80, 1, 1), (63, 145, 1, 0), (69, 45, 3, 1), (73, 44, 2, 1), (79, 48, 4, 1), (83, 151, 2, 0)]
  | 4 => [(3, 999, 0, 9), (11, 69, 1, 2), (39, 73, 1, 1), (49, 53, 2, 1), (56, 70, 1, 1), (63, 62, 2, 0), (69, 54, 2, 1), (72, 64, 2, 0), (75, 72, 2, 1), (79, 57, 3, 0), (83, 30, 3, 1), (86, 55, 3, 1), (90, 59, 2, 1), (93, 60, 4, 1), (97, 58, 2, 0), (105, 147, 2, 0)]
  | 5 => [(13, 147, 2, 0), (23, 146, 2, 0), (26, 66, 1, 0), (30, 67, 2, 0)]
  | 6 => [(1, 999, 0, 9), (7, 149, 2, 0), (19, 70, 1, 1)]
  | 7 => [(3, 999, 0, 9), (11, 16, 0, 5), (20, 69, 1, 2), (39, 67, 2, 0), (45, 78, 1, 1), (49, 145, 1, 0), (55, 79, 1, 1), (59, 32, 3, 1), (63, 66, 1, 0), (66, 68, 1, 0), (69, 31, 2, 1), (75, 81, 1, 1), (79, 70, 1, 1), (82, 71, 2, 1), (86, 80, 1, 1), (89, 85, 2, 1), (93, 86, 2, 1), (96, 87, 1, 1), (99, 30, 3, 1), (103, 28, 1, 1), (107, 65, 2, 0), (111, 61, 1, 0), (115, 35, 2, 1)]
  | 8 => [(3, 999, 0, 9), (13, 69, 1, 2), (58, 3, 1, 1), (71, 44, 2, 1), (75, 5, 2, 3), (79, 92, 4, 1), (83, 85, 2, 1), (87, 62, 2, 0), (93, 63, 2, 0), (96, 93, 2, 0), (100, 67, 2, 0), (104, 86, 2, 1), (107, 71, 2, 1), (113, 65, 2, 0), (116, 148, 1, 0), (122, 70, 1, 1), (126, 95, 0, 1), (131, 73, 1, 1), (135, 96, 0, 1), (139, 97, 1, 1)]
  | 9 => [(3, 999, 0, 9), (11, 69, 1, 2), (20, 101, 3, 1), (24, 103, 2, 1), (28, 66, 1, 0), (36, 102, 4, 1), (42, 33, 2, 1), (48, 64, 2, 0), (52, 73, 1, 1), (60, 67, 2, 0), (64, 100, 4, 0), (68, 72, 2, 1), (72, 35, 2, 1), (79, 70, 1, 1)]
  | 10 => [(7, 105, 1, 0), (13, 67, 2, 0), (19, 66, 1, 0), (23, 106, 2, 0), (29, 145, 1, 0), (35, 149, 2, 0), (51, 70, 1, 1), (63, 107, 1, 0)]
  | 11 => [(1, 999, 0, 9), (9, 75, 0, 5), (18, 0, 0, 2), (25, 49, 0, 5), (32, 37, 0, 5), (39, 98, 0, 5), (46, 88, 0, 5), (51, 135, 1, 1), (55, 50, 2, 1), (69, 12, 3, 1), (73, 89, 3, 1), (76, 90, 2, 1), (79, 143, 3, 0), (98, 142, 0, 1), (101, 22, 4, 1), (105, 144, 1, 0), (108, 136, 2, 1), (112, 138, 1, 1), (125, 56, 3, 1), (129, 52, 1, 1), (133, 51, 1, 1), (137, 70, 1, 1), (151, 137, 0, 1), (154, 34, 1, 1), (158, 139, 1, 1), (162, 38, 1, 1), (166, 140, 2, 0), (170, 80, 1, 1), (173, 84, 2, 1), (177, 99, 3, 1), (184, 4, 3, 1), (188, 141, 2, 1), (191, 3, 1, 1), (195, 43, 1, 1), (201, 7, 2, 1), (204, 8, 2, 1), (207, 9, 2, 1), (210, 10, 2, 1), (213, 44, 2, 1), (216, 15, 0, 1), (220, 91, 1, 1), (227, 94, 2, 1), (228, 36, 2, 1), (232, 104, 1, 0), (238, 17, 1, 1), (241, 1, 0, 1), (252, 64, 2, 0), (262, 26, 2, 1), (266, 27, 1, 1), (269, 2, 1, 1), (278, 76, 2, 1)]
  | 13 => [(10, 109, 1, 1), (19, 110, 4, 1), (26, 111, 2, 1), (40, 112, 2, 1), (44, 113, 3, 1), (48, 114, 1, 1), (51, 116, 2, 1), (54, 117, 1, 1), (58, 118, 1, 1), (61, 119, 2, 1), (65, 120, 3, 1), (68, 121, 2, 1), (71, 122, 0, 1), (75, 123, 2, 1), (78, 124, 2, 1), (81, 125, 3, 1), (85, 126, 3, 1), (89, 127, 3, 1), (92, 129, 3, 1), (95, 130, 2, 1), (98, 132, 2, 1), (101, 133, 2, 1), (104, 161, 2, 6), (109, 162, 2, 6), (111, 163, 3, 6), (114, 164, 4, 6), (117, 165, 3, 6), (123, 167, 3, 6), (126, 169, 4, 6), (129, 168, 3, 6), (131, 171, 4, 6), (133, 128, 0, 1), (136, 131, 0, 1), (139, 174, 3, 6), (141, 158, 4, 6), (144, 153, 2, 0), (147, 134, 0, 1), (150, 175, 3, 6), (152, 156, 3, 6), (154, 115, 1, 1), (158, 155, 5, 6), (161, 181, 5, 0), (165, 157, 3, 6), (167, 179, 2, 0), (171, 160, 3, 6), (173, 170, 4, 6), (175, 173, 3, 6), (177, 172, 4, 6), (179, 154, 2, 6), (181, 166, 1, 6), (184, 176, 3, 0), (188, 180, 3, 0), (191, 177, 2, 0), (194, 178, 5, 0), (198, 159, 2, 6), (200, 108, 0, 2), (201, 152, 2, 0), (205, 182, 6, 0)]
  | _ => []
def hf_ml (o ix : Nat) : Option (Nat × Nat × Nat) := (hf_mlT o).lookup ix
def hf_flT (o : Nat) : List (Nat × Nat × Nat × Nat) := match o with
  | 0 => [(11, 0, 0, 0), (18, 0, 1, 0), (27, 0, 2, 0), (31, 0, 3, 0), (47, 3, 0, 1), (64, 6, 2, 1), (77, 3, 1, 1), (117, 0, 4, 0), (121, 0, 5, 0), (124, 0, 6, 0)]
  | 1 => [(14, 1, 0, 0), (20, 1, 1, 0), (23, 1, 2, 0), (26, 1, 3, 0), (29, 1, 4, 0), (39, 1, 5, 0)]
  | 2 => [(14, 2, 0, 0), (20, 2, 1, 0), (23, 6, 0, 1), (29, 1, 5, 1), (51, 6, 4, 1)]
  | 3 => [(12, 3, 0, 0), (23, 3, 1, 0), (27, 3, 2, 0), (30, 6, 0, 1), (54, 6, 2, 1)]
  | 4 => [(14, 4, 2, 0), (20, 4, 3, 0), (23, 4, 4, 0), (26, 4, 5, 0), (29, 4, 6, 0), (32, 4, 0, 0), (36, 4, 1, 0), (43, 1, 5, 1), (53, 1, 0, 1), (60, 1, 1, 1)]
  | 6 => [(13, 5, 0, 0)]
  | 7 => [(12, 6, 0, 0), (23, 6, 1, 0), (27, 6, 3, 0), (31, 6, 4, 0), (35, 6, 2, 0), (38, 1, 5, 1), (119, 1, 3, 1), (122, 1, 2, 1)]
  | 8 => [(16, 7, 0, 0), (20, 7, 1, 0), (23, 7, 2, 0), (26, 7, 3, 0), (29, 7, 4, 0), (32, 7, 5, 0), (35, 7, 7, 0), (39, 7, 8, 0), (42, 7, 9, 0), (45, 7, 10, 0), (49, 7, 11, 0), (52, 7, 6, 0), (55, 0, 3, 1), (62, 3, 0, 1), (68, 6, 2, 1)]
  | 9 => [(14, 8, 0, 0), (56, 1, 5, 1), (76, 1, 2, 1), (82, 1, 3, 1)]
  | 10 => [(41, 1, 5, 1), (47, 1, 0, 1), (60, 1, 1, 1)]
  | 11 => [(10, 9, 0, 0), (19, 9, 1, 0), (26, 9, 2, 0), (33, 9, 3, 0), (40, 9, 4, 0), (47, 9, 5, 0), (61, 9, 7, 0), (65, 9, 8, 0), (82, 6, 0, 1), (86, 1, 5, 1), (143, 9, 6, 0), (161, 6, 2, 1), (174, 4, 0, 1), (181, 0, 3, 1), (224, 7, 6, 1), (275, 3, 0, 1)]
  | _ => []
def hf_fl (o ix : Nat) : Option (Nat × Nat × Nat) := (hf_flT o).lookup ix
def hf_clT (o : Nat) : List (Nat × Nat) := match o with
  | 0 => [(9, 3), (22, 5)]
  | 1 => [(9, 5)]
  | 2 => [(9, 5)]
  | 3 => [(9, 6), (18, 5)]
  | 4 => [(9, 5)]
  | 7 => [(9, 1), (18, 5)]
  | 8 => [(9, 5)]
  | 9 => [(9, 5)]
  | 11 => [(7, 6), (16, 0), (23, 4), (30, 2), (37, 8), (44, 7), (91, 101), (116, 103), (146, 102)]
  | 13 => [(11, 9), (16, 101), (23, 102), (34, 103)]
  | _ => []
def hf_cl (o ix : Nat) : Option (Nat) := (hf_clT o).lookup ix
def hf_llT (o : Nat) : List (Nat × Int64) := match o with
  | 0 => [(80, -1)]
  | 1 => [(71, 2048), (73, 2), (75, 16), (77, 4096), (85, 64)]
  | 3 => [(40, -1), (58, 100), (77, 1000)]
  | 4 => [(101, 1024), (103, 4), (110, 2)]
  | 5 => [(11, 4096), (19, 2048), (21, 2)]
  | 7 => [(73, -1)]
  | 8 => [(111, 16), (129, 2)]
  | 9 => [(34, -1), (40, 64), (85, 2)]
  | 10 => [(27, -1), (56, 512), (58, 8), (67, -72340172838076674), (69, 72340172838076673), (71, 9187201950435737471), (73, -9187201950435737472)]
  | 11 => [(59, 200), (244, 1103515245), (246, 12345), (248, 2147483648), (250, 65536), (258, 2), (260, 16)]
  | 13 => [(36, -1000001), (38, -1000002), (119, -1), (121, 4096)]
  | 15 => [(314, 6148914691236517205), (316, 3689348814741910323), (318, 1085102592571150095)]
  | _ => []
def hf_ll (o ix : Nat) : Option (Int64) := (hf_llT o).lookup ix
def hf_ilT (o : Nat) : List (Nat × Int32) := match o with
  | 13 => [(7, 1877071813), (8, 968082913), (9, 2147483647), (18, -1000002), (25, -1000003), (57, -1000001)]
  | _ => []
def hf_il (o ix : Nat) : Option (Int32) := (hf_ilT o).lookup ix
/-- what is thrown: class's entry, text's entry, constructor's entry; which exception, whether the text's index is wide, the text -/
def hf_tt : List ((Nat × Nat × Nat × Nat) × Nat × Bool × String) := [
  ((11, 91, 93, 95), 1, false, "a ripple needs a k"),
  ((11, 91, 286, 95), 1, true, "an argument is out of range"),
  ((11, 91, 288, 95), 1, true, "an argument is below 0"),
  ((11, 116, 118, 120), 3, false, "no such grain"),
  ((11, 116, 225, 120), 3, false, "not so many are seen"),
  ((11, 116, 273, 120), 3, true, "no such picture"),
  ((11, 116, 282, 120), 3, true, "no such halo"),
  ((11, 146, 148, 150), 2, false, "the age would be too high"),
  ((11, 146, 182, 150), 2, false, "there are as many pictures as can be kept"),
  ((11, 146, 284, 150), 2, true, "steps have passed")]
