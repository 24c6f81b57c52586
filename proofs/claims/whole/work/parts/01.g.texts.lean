/-! The class's texts: first those that the sheet writes, then those of its exceptions. -/
def lw_strs : List (Nat × String) := [(298, ". "), (303, " "), (308, " ("), (310, ")"), (320, " ["), (334, ""), (336, "SCP"), (338, "DNS"), (340, "OCS"), (342, "RET"), (344, "DSQ"), (346, "DNE"), (348, "RDA"), (350, "RDB"), (352, "RDG"), (354, "DNC"), (332, "]"), (318, "\n"), (87, "the split was made"), (98, "there are 40 boats"), (107, "no such kind or fleet"), (114, "no such race on this side of the split"), (117, "there are 16 races"), (144, "no such code"), (153, "no place is put in"), (155, "no such percentage"), (168, "there are 40 decisions"), (175, "no such decision"), (181, "it was reopened before"), (183, "no such step"), (188, "not above the latest step"), (191, "there are 6 steps"), (198, "no such lot"), (210, "the split was made, or no race is sailed"), (212, "no such split"), (242, "no such rank"), (244, "it is one boat"), (262, "nothing is told of this"), (273, "no such byte"), (279, "no such race"), (281, "no such boat"), (287, "the race is not of the boat"), (292, "no such place, code or argument")]
theorem k_str_298 : lw_strs[0]? = some (298, ". ") := rfl
theorem k_str_303 : lw_strs[1]? = some (303, " ") := rfl
theorem k_str_308 : lw_strs[2]? = some (308, " (") := rfl
theorem k_str_310 : lw_strs[3]? = some (310, ")") := rfl
theorem k_str_320 : lw_strs[4]? = some (320, " [") := rfl
theorem k_str_334 : lw_strs[5]? = some (334, "") := rfl
theorem k_str_336 : lw_strs[6]? = some (336, "SCP") := rfl
theorem k_str_338 : lw_strs[7]? = some (338, "DNS") := rfl
theorem k_str_340 : lw_strs[8]? = some (340, "OCS") := rfl
theorem k_str_342 : lw_strs[9]? = some (342, "RET") := rfl
theorem k_str_344 : lw_strs[10]? = some (344, "DSQ") := rfl
theorem k_str_346 : lw_strs[11]? = some (346, "DNE") := rfl
theorem k_str_348 : lw_strs[12]? = some (348, "RDA") := rfl
theorem k_str_350 : lw_strs[13]? = some (350, "RDB") := rfl
theorem k_str_352 : lw_strs[14]? = some (352, "RDG") := rfl
theorem k_str_354 : lw_strs[15]? = some (354, "DNC") := rfl
theorem k_str_332 : lw_strs[16]? = some (332, "]") := rfl
theorem k_str_318 : lw_strs[17]? = some (318, "\n") := rfl
theorem k_str_87 : lw_strs[18]? = some (87, "the split was made") := rfl
theorem k_str_98 : lw_strs[19]? = some (98, "there are 40 boats") := rfl
theorem k_str_107 : lw_strs[20]? = some (107, "no such kind or fleet") := rfl
theorem k_str_114 : lw_strs[21]? = some (114, "no such race on this side of the split") := rfl
theorem k_str_117 : lw_strs[22]? = some (117, "there are 16 races") := rfl
theorem k_str_144 : lw_strs[23]? = some (144, "no such code") := rfl
theorem k_str_153 : lw_strs[24]? = some (153, "no place is put in") := rfl
theorem k_str_155 : lw_strs[25]? = some (155, "no such percentage") := rfl
theorem k_str_168 : lw_strs[26]? = some (168, "there are 40 decisions") := rfl
theorem k_str_175 : lw_strs[27]? = some (175, "no such decision") := rfl
theorem k_str_181 : lw_strs[28]? = some (181, "it was reopened before") := rfl
theorem k_str_183 : lw_strs[29]? = some (183, "no such step") := rfl
theorem k_str_188 : lw_strs[30]? = some (188, "not above the latest step") := rfl
theorem k_str_191 : lw_strs[31]? = some (191, "there are 6 steps") := rfl
theorem k_str_198 : lw_strs[32]? = some (198, "no such lot") := rfl
theorem k_str_210 : lw_strs[33]? = some (210, "the split was made, or no race is sailed") := rfl
theorem k_str_212 : lw_strs[34]? = some (212, "no such split") := rfl
theorem k_str_242 : lw_strs[35]? = some (242, "no such rank") := rfl
theorem k_str_244 : lw_strs[36]? = some (244, "it is one boat") := rfl
theorem k_str_262 : lw_strs[37]? = some (262, "nothing is told of this") := rfl
theorem k_str_273 : lw_strs[38]? = some (273, "no such byte") := rfl
theorem k_str_279 : lw_strs[39]? = some (279, "no such race") := rfl
theorem k_str_281 : lw_strs[40]? = some (281, "no such boat") := rfl
theorem k_str_287 : lw_strs[41]? = some (287, "the race is not of the boat") := rfl
theorem k_str_292 : lw_strs[42]? = some (292, "no such place, code or argument") := rfl
def lw_sl : List Nat := [2, 1, 2, 1, 2, 0, 3, 3, 3, 3, 3, 3, 3, 3, 3, 3, 1, 1]
def lw_sb : List (List Int32) := [[46, 32], [32], [32, 40], [41], [32, 91], [], [83, 67, 80], [68, 78, 83], [79, 67, 83], [82, 69, 84], [68, 83, 81], [68, 78, 69], [82, 68, 65], [82, 68, 66], [82, 68, 71], [68, 78, 67], [93], [10]]
