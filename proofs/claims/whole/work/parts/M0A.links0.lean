/-! the methods, and the words that link them -/
def mX0_init : QM := (yX0_init, cX0_init, 1, none)
set_option maxRecDepth 100000 in
theorem okX0_init : q_mok mX0_init := ⟨rfl, q_at 72 rfl rfl, q_at 4 (by decide +kernel) rfl, by decide, by decide, rfl⟩
theorem inX0_init : Cond.instanceMethod yX0_init ∈ q_T := q_at 71 (by decide +kernel) rfl
def mX0_begin : QM := (yX0_begin, cX0_begin, 2, none)
set_option maxRecDepth 100000 in
theorem okX0_begin : q_mok mX0_begin := ⟨rfl, q_at 746 rfl rfl, q_at 4 (by decide +kernel) rfl, by decide, by decide, rfl⟩
theorem inX0_begin : Cond.instanceMethod yX0_begin ∈ q_T := q_at 744 (by decide +kernel) rfl
theorem seX0_begin : Cond.selects RX0 yX0_begin yX0_begin ∈ q_T := q_at 745 (by decide +kernel) rfl
def mX0_addClass : QM := (yX0_addClass, cX0_addClass, 3, none)
set_option maxRecDepth 100000 in
theorem okX0_addClass : q_mok mX0_addClass := ⟨rfl, q_at 750 rfl rfl, q_at 4 (by decide +kernel) rfl, by decide, by decide, rfl⟩
theorem inX0_addClass : Cond.instanceMethod yX0_addClass ∈ q_T := q_at 748 (by decide +kernel) rfl
theorem seX0_addClass : Cond.selects RX0 yX0_addClass yX0_addClass ∈ q_T := q_at 749 (by decide +kernel) rfl
def mX0_addField : QM := (yX0_addField, cX0_addField, 4, none)
set_option maxRecDepth 100000 in
theorem okX0_addField : q_mok mX0_addField := ⟨rfl, q_at 815 rfl rfl, q_at 4 (by decide +kernel) rfl, by decide, by decide, rfl⟩
theorem inX0_addField : Cond.instanceMethod yX0_addField ∈ q_T := q_at 813 (by decide +kernel) rfl
theorem seX0_addField : Cond.selects RX0 yX0_addField yX0_addField ∈ q_T := q_at 814 (by decide +kernel) rfl
def mX0_isClass : QM := (yX0_isClass, cX0_isClass, 2, some (.boolean))
set_option maxRecDepth 100000 in
theorem okX0_isClass : q_mok mX0_isClass := ⟨rfl, q_at 819 rfl rfl, q_at 4 (by decide +kernel) rfl, by decide, by decide, rfl⟩
theorem inX0_isClass : Cond.instanceMethod yX0_isClass ∈ q_T := q_at 817 (by decide +kernel) rfl
theorem seX0_isClass : Cond.selects RX0 yX0_isClass yX0_isClass ∈ q_T := q_at 818 (by decide +kernel) rfl
def mX0_isArray : QM := (yX0_isArray, cX0_isArray, 1, some (.boolean))
set_option maxRecDepth 100000 in
theorem okX0_isArray : q_mok mX0_isArray := ⟨rfl, q_at 1005 rfl rfl, q_at 4 (by decide +kernel) rfl, by decide, by decide, rfl⟩
theorem inX0_isArray : Cond.static yX0_isArray ∈ q_T := q_at 1004 (by decide +kernel) rfl
def mX0_isAbove : QM := (yX0_isAbove, cX0_isAbove, 3, some (.boolean))
set_option maxRecDepth 100000 in
theorem okX0_isAbove : q_mok mX0_isAbove := ⟨rfl, q_at 801 rfl rfl, q_at 4 (by decide +kernel) rfl, by decide, by decide, rfl⟩
theorem inX0_isAbove : Cond.instanceMethod yX0_isAbove ∈ q_T := q_at 799 (by decide +kernel) rfl
theorem seX0_isAbove : Cond.selects RX0 yX0_isAbove yX0_isAbove ∈ q_T := q_at 800 (by decide +kernel) rfl
def mX0_isBelow : QM := (yX0_isBelow, cX0_isBelow, 3, some (.boolean))
set_option maxRecDepth 100000 in
theorem okX0_isBelow : q_mok mX0_isBelow := ⟨rfl, q_at 1002 rfl rfl, q_at 4 (by decide +kernel) rfl, by decide, by decide, rfl⟩
theorem inX0_isBelow : Cond.instanceMethod yX0_isBelow ∈ q_T := q_at 1000 (by decide +kernel) rfl
theorem seX0_isBelow : Cond.selects RX0 yX0_isBelow yX0_isBelow ∈ q_T := q_at 1001 (by decide +kernel) rfl
def mX0_join : QM := (yX0_join, cX0_join, 4, some (.int))
set_option maxRecDepth 100000 in
theorem okX0_join : q_mok mX0_join := ⟨rfl, q_at 998 rfl rfl, q_at 4 (by decide +kernel) rfl, by decide, by decide, rfl⟩
theorem inX0_join : Cond.instanceMethod yX0_join ∈ q_T := q_at 996 (by decide +kernel) rfl
theorem seX0_join : Cond.selects RX0 yX0_join yX0_join ∈ q_T := q_at 997 (by decide +kernel) rfl
def mX0_nearestAbove : QM := (yX0_nearestAbove, cX0_nearestAbove, 3, some (.int))
set_option maxRecDepth 100000 in
theorem okX0_nearestAbove : q_mok mX0_nearestAbove := ⟨rfl, q_at 1010 rfl rfl, q_at 4 (by decide +kernel) rfl, by decide, by decide, rfl⟩
theorem inX0_nearestAbove : Cond.instanceMethod yX0_nearestAbove ∈ q_T := q_at 1009 (by decide +kernel) rfl
theorem seX0_nearestAbove : Cond.selects RX0 yX0_nearestAbove yX0_nearestAbove ∈ q_T := q_inT (List.mem_append_left _ (List.mem_map.mpr ⟨(yX0_nearestAbove, 10), List.mem_of_getElem? (i := 33) (by decide +kernel), rfl⟩)) rfl
def mX0_elementOf : QM := (yX0_elementOf, cX0_elementOf, 2, some (.int))
set_option maxRecDepth 100000 in
theorem okX0_elementOf : q_mok mX0_elementOf := ⟨rfl, q_at 1031 rfl rfl, q_at 4 (by decide +kernel) rfl, by decide, by decide, rfl⟩
theorem inX0_elementOf : Cond.instanceMethod yX0_elementOf ∈ q_T := q_at 1029 (by decide +kernel) rfl
theorem seX0_elementOf : Cond.selects RX0 yX0_elementOf yX0_elementOf ∈ q_T := q_at 1030 (by decide +kernel) rfl
def mX0_isElement : QM := (yX0_isElement, cX0_isElement, 3, some (.boolean))
set_option maxRecDepth 100000 in
theorem okX0_isElement : q_mok mX0_isElement := ⟨rfl, q_at 1057 rfl rfl, q_at 4 (by decide +kernel) rfl, by decide, by decide, rfl⟩
theorem inX0_isElement : Cond.instanceMethod yX0_isElement ∈ q_T := q_at 1055 (by decide +kernel) rfl
theorem seX0_isElement : Cond.selects RX0 yX0_isElement yX0_isElement ∈ q_T := q_at 1056 (by decide +kernel) rfl
def mX1_init : QM := (yX1_init, cX1_init, 1, none)
set_option maxRecDepth 100000 in
theorem okX1_init : q_mok mX1_init := ⟨rfl, q_at 123 rfl rfl, q_at 5 (by decide +kernel) rfl, by decide, by decide, rfl⟩
theorem inX1_init : Cond.instanceMethod yX1_init ∈ q_T := q_at 122 (by decide +kernel) rfl
def mX1_begin : QM := (yX1_begin, cX1_begin, 1, none)
set_option maxRecDepth 100000 in
theorem okX1_begin : q_mok mX1_begin := ⟨rfl, q_at 754 rfl rfl, q_at 5 (by decide +kernel) rfl, by decide, by decide, rfl⟩
theorem inX1_begin : Cond.instanceMethod yX1_begin ∈ q_T := q_at 752 (by decide +kernel) rfl
theorem seX1_begin : Cond.selects RX1 yX1_begin yX1_begin ∈ q_T := q_at 753 (by decide +kernel) rfl
def mX1_addInstruction : QM := (yX1_addInstruction, cX1_addInstruction, 4, none)
set_option maxRecDepth 100000 in
theorem okX1_addInstruction : q_mok mX1_addInstruction := ⟨rfl, q_at 903 rfl rfl, q_at 5 (by decide +kernel) rfl, by decide, by decide, rfl⟩
theorem inX1_addInstruction : Cond.instanceMethod yX1_addInstruction ∈ q_T := q_at 901 (by decide +kernel) rfl
theorem seX1_addInstruction : Cond.selects RX1 yX1_addInstruction yX1_addInstruction ∈ q_T := q_at 902 (by decide +kernel) rfl
def mX1_addCatch : QM := (yX1_addCatch, cX1_addCatch, 5, none)
set_option maxRecDepth 100000 in
theorem okX1_addCatch : q_mok mX1_addCatch := ⟨rfl, q_at 881 rfl rfl, q_at 5 (by decide +kernel) rfl, by decide, by decide, rfl⟩
theorem inX1_addCatch : Cond.instanceMethod yX1_addCatch ∈ q_T := q_at 879 (by decide +kernel) rfl
theorem seX1_addCatch : Cond.selects RX1 yX1_addCatch yX1_addCatch ∈ q_T := q_at 880 (by decide +kernel) rfl
def mX1_isMaking : QM := (yX1_isMaking, cX1_isMaking, 1, some (.boolean))
set_option maxRecDepth 100000 in
theorem okX1_isMaking : q_mok mX1_isMaking := ⟨rfl, q_at 895 rfl rfl, q_at 5 (by decide +kernel) rfl, by decide, by decide, rfl⟩
theorem inX1_isMaking : Cond.static yX1_isMaking ∈ q_T := q_at 894 (by decide +kernel) rfl
def mX1_goesOn : QM := (yX1_goesOn, cX1_goesOn, 1, some (.boolean))
set_option maxRecDepth 100000 in
theorem okX1_goesOn : q_mok mX1_goesOn := ⟨rfl, q_at 888 rfl rfl, q_at 5 (by decide +kernel) rfl, by decide, by decide, rfl⟩
theorem inX1_goesOn : Cond.static yX1_goesOn ∈ q_T := q_at 887 (by decide +kernel) rfl
def mX1_goesToLabel : QM := (yX1_goesToLabel, cX1_goesToLabel, 1, some (.boolean))
set_option maxRecDepth 100000 in
theorem okX1_goesToLabel : q_mok mX1_goesToLabel := ⟨rfl, q_at 912 rfl rfl, q_at 5 (by decide +kernel) rfl, by decide, by decide, rfl⟩
theorem inX1_goesToLabel : Cond.static yX1_goesToLabel ∈ q_T := q_at 911 (by decide +kernel) rfl
def mX1_isCaught : QM := (yX1_isCaught, cX1_isCaught, 3, some (.boolean))
set_option maxRecDepth 100000 in
theorem okX1_isCaught : q_mok mX1_isCaught := ⟨rfl, q_at 971 rfl rfl, q_at 5 (by decide +kernel) rfl, by decide, by decide, rfl⟩
theorem inX1_isCaught : Cond.instanceMethod yX1_isCaught ∈ q_T := q_at 969 (by decide +kernel) rfl
theorem seX1_isCaught : Cond.selects RX1 yX1_isCaught yX1_isCaught ∈ q_T := q_at 970 (by decide +kernel) rfl
def mX2_init : QM := (yX2_init, cX2_init, 1, none)
set_option maxRecDepth 100000 in
theorem okX2_init : q_mok mX2_init := ⟨rfl, q_at 409 rfl rfl, q_at 11 (by decide +kernel) rfl, by decide, by decide, rfl⟩
theorem inX2_init : Cond.instanceMethod yX2_init ∈ q_T := q_at 408 (by decide +kernel) rfl
def mX2_begin : QM := (yX2_begin, cX2_begin, 1, none)
set_option maxRecDepth 100000 in
theorem okX2_begin : q_mok mX2_begin := ⟨rfl, q_at 1098 rfl rfl, q_at 11 (by decide +kernel) rfl, by decide, by decide, rfl⟩
theorem inX2_begin : Cond.instanceMethod yX2_begin ∈ q_T := q_at 1096 (by decide +kernel) rfl
theorem seX2_begin : Cond.selects RX2 yX2_begin yX2_begin ∈ q_T := q_at 1097 (by decide +kernel) rfl
def mX2_make : QM := (yX2_make, cX2_make, 4, some (.int))
set_option maxRecDepth 100000 in
theorem okX2_make : q_mok mX2_make := ⟨rfl, q_at 1152 rfl rfl, q_at 11 (by decide +kernel) rfl, by decide, by decide, rfl⟩
theorem inX2_make : Cond.instanceMethod yX2_make ∈ q_T := q_at 1150 (by decide +kernel) rfl
theorem seX2_make : Cond.selects RX2 yX2_make yX2_make ∈ q_T := q_at 1151 (by decide +kernel) rfl
def mX2_hasCell : QM := (yX2_hasCell, cX2_hasCell, 3, some (.boolean))
set_option maxRecDepth 100000 in
theorem okX2_hasCell : q_mok mX2_hasCell := ⟨rfl, q_at 1169 rfl rfl, q_at 11 (by decide +kernel) rfl, by decide, by decide, rfl⟩
theorem inX2_hasCell : Cond.instanceMethod yX2_hasCell ∈ q_T := q_at 1167 (by decide +kernel) rfl
theorem seX2_hasCell : Cond.selects RX2 yX2_hasCell yX2_hasCell ∈ q_T := q_at 1168 (by decide +kernel) rfl
def mX2_cell : QM := (yX2_cell, cX2_cell, 3, some (.int))
set_option maxRecDepth 100000 in
theorem okX2_cell : q_mok mX2_cell := ⟨rfl, q_at 1177 rfl rfl, q_at 11 (by decide +kernel) rfl, by decide, by decide, rfl⟩
theorem inX2_cell : Cond.instanceMethod yX2_cell ∈ q_T := q_at 1175 (by decide +kernel) rfl
theorem seX2_cell : Cond.selects RX2 yX2_cell yX2_cell ∈ q_T := q_at 1176 (by decide +kernel) rfl
def mX2_setCell : QM := (yX2_setCell, cX2_setCell, 4, none)
set_option maxRecDepth 100000 in
theorem okX2_setCell : q_mok mX2_setCell := ⟨rfl, q_at 1188 rfl rfl, q_at 11 (by decide +kernel) rfl, by decide, by decide, rfl⟩
theorem inX2_setCell : Cond.instanceMethod yX2_setCell ∈ q_T := q_at 1186 (by decide +kernel) rfl
theorem seX2_setCell : Cond.selects RX2 yX2_setCell yX2_setCell ∈ q_T := q_at 1187 (by decide +kernel) rfl
def mX3_init : QM := (yX3_init, cX3_init, 2, none)
set_option maxRecDepth 100000 in
theorem okX3_init : q_mok mX3_init := ⟨rfl, q_at 350 rfl rfl, q_at 8 (by decide +kernel) rfl, by decide, by decide, rfl⟩
theorem inX3_init : Cond.instanceMethod yX3_init ∈ q_T := q_at 349 (by decide +kernel) rfl
def mX3_begin : QM := (yX3_begin, cX3_begin, 2, none)
set_option maxRecDepth 100000 in
theorem okX3_begin : q_mok mX3_begin := ⟨rfl, q_at 926 rfl rfl, q_at 8 (by decide +kernel) rfl, by decide, by decide, rfl⟩
theorem inX3_begin : Cond.instanceMethod yX3_begin ∈ q_T := q_at 924 (by decide +kernel) rfl
theorem seX3_begin : Cond.selects RX3 yX3_begin yX3_begin ∈ q_T := q_at 925 (by decide +kernel) rfl
def mX3_firstFault : QM := (yX3_firstFault, cX3_firstFault, 6, some (.int))
set_option maxRecDepth 100000 in
theorem okX3_firstFault : q_mok mX3_firstFault := ⟨rfl, q_at 934 rfl rfl, q_at 8 (by decide +kernel) rfl, by decide, by decide, rfl⟩
theorem inX3_firstFault : Cond.instanceMethod yX3_firstFault ∈ q_T := q_at 932 (by decide +kernel) rfl
theorem seX3_firstFault : Cond.selects RX3 yX3_firstFault yX3_firstFault ∈ q_T := q_at 933 (by decide +kernel) rfl
def mX3_goodOf : QM := (yX3_goodOf, cX3_goodOf, 6, some (.int))
set_option maxRecDepth 100000 in
theorem okX3_goodOf : q_mok mX3_goodOf := ⟨rfl, q_at 953 rfl rfl, q_at 8 (by decide +kernel) rfl, by decide, by decide, rfl⟩
theorem inX3_goodOf : Cond.instanceMethod yX3_goodOf ∈ q_T := q_at 952 (by decide +kernel) rfl
theorem seX3_goodOf : Cond.selects RX3 yX3_goodOf yX3_goodOf ∈ q_T := q_inT (List.mem_append_left _ (List.mem_map.mpr ⟨(yX3_goodOf, 5), List.mem_of_getElem? (i := 30) (by decide +kernel), rfl⟩)) rfl
def mX3_spread : QM := (yX3_spread, cX3_spread, 6, none)
set_option maxRecDepth 100000 in
theorem okX3_spread : q_mok mX3_spread := ⟨rfl, q_at 949 rfl rfl, q_at 8 (by decide +kernel) rfl, by decide, by decide, rfl⟩
theorem inX3_spread : Cond.instanceMethod yX3_spread ∈ q_T := q_at 948 (by decide +kernel) rfl
theorem seX3_spread : Cond.selects RX3 yX3_spread yX3_spread ∈ q_T := q_inT (List.mem_append_left _ (List.mem_map.mpr ⟨(yX3_spread, 5), List.mem_of_getElem? (i := 29) (by decide +kernel), rfl⟩)) rfl
def mX3_arrive : QM := (yX3_arrive, cX3_arrive, 3, none)
set_option maxRecDepth 100000 in
theorem okX3_arrive : q_mok mX3_arrive := ⟨rfl, q_at 944 rfl rfl, q_at 8 (by decide +kernel) rfl, by decide, by decide, rfl⟩
theorem inX3_arrive : Cond.instanceMethod yX3_arrive ∈ q_T := q_at 943 (by decide +kernel) rfl
theorem seX3_arrive : Cond.selects RX3 yX3_arrive yX3_arrive ∈ q_T := q_inT (List.mem_append_left _ (List.mem_map.mpr ⟨(yX3_arrive, 5), List.mem_of_getElem? (i := 28) (by decide +kernel), rfl⟩)) rfl
def mX4_init : QM := (yX4_init, cX4_init, 3, none)
set_option maxRecDepth 100000 in
theorem okX4_init : q_mok mX4_init := ⟨rfl, q_at 316 rfl rfl, q_at 7 (by decide +kernel) rfl, by decide, by decide, rfl⟩
theorem inX4_init : Cond.instanceMethod yX4_init ∈ q_T := q_at 315 (by decide +kernel) rfl
def mX4_begin : QM := (yX4_begin, cX4_begin, 2, none)
set_option maxRecDepth 100000 in
theorem okX4_begin : q_mok mX4_begin := ⟨rfl, q_at 738 rfl rfl, q_at 7 (by decide +kernel) rfl, by decide, by decide, rfl⟩
theorem inX4_begin : Cond.instanceMethod yX4_begin ∈ q_T := q_at 736 (by decide +kernel) rfl
theorem seX4_begin : Cond.selects RX4 yX4_begin yX4_begin ∈ q_T := q_at 737 (by decide +kernel) rfl
def mX4_classFault : QM := (yX4_classFault, cX4_classFault, 3, some (.int))
set_option maxRecDepth 100000 in
theorem okX4_classFault : q_mok mX4_classFault := ⟨rfl, q_at 761 rfl rfl, q_at 7 (by decide +kernel) rfl, by decide, by decide, rfl⟩
theorem inX4_classFault : Cond.instanceMethod yX4_classFault ∈ q_T := q_at 759 (by decide +kernel) rfl
theorem seX4_classFault : Cond.selects RX4 yX4_classFault yX4_classFault ∈ q_T := q_at 760 (by decide +kernel) rfl
def mX4_memberFault : QM := (yX4_memberFault, cX4_memberFault, 4, some (.int))
set_option maxRecDepth 100000 in
theorem okX4_memberFault : q_mok mX4_memberFault := ⟨rfl, q_at 782 rfl rfl, q_at 7 (by decide +kernel) rfl, by decide, by decide, rfl⟩
theorem inX4_memberFault : Cond.instanceMethod yX4_memberFault ∈ q_T := q_at 780 (by decide +kernel) rfl
theorem seX4_memberFault : Cond.selects RX4 yX4_memberFault yX4_memberFault ∈ q_T := q_at 781 (by decide +kernel) rfl
def mX4_fieldFault : QM := (yX4_fieldFault, cX4_fieldFault, 5, some (.int))
set_option maxRecDepth 100000 in
theorem okX4_fieldFault : q_mok mX4_fieldFault := ⟨rfl, q_at 793 rfl rfl, q_at 7 (by decide +kernel) rfl, by decide, by decide, rfl⟩
theorem inX4_fieldFault : Cond.instanceMethod yX4_fieldFault ∈ q_T := q_at 792 (by decide +kernel) rfl
theorem seX4_fieldFault : Cond.selects RX4 yX4_fieldFault yX4_fieldFault ∈ q_T := q_inT (List.mem_append_left _ (List.mem_map.mpr ⟨(yX4_fieldFault, 9), List.mem_of_getElem? (i := 11) (by decide +kernel), rfl⟩)) rfl
def mX4_headFault : QM := (yX4_headFault, cX4_headFault, 8, some (.int))
set_option maxRecDepth 100000 in
theorem okX4_headFault : q_mok mX4_headFault := ⟨rfl, q_at 823 rfl rfl, q_at 7 (by decide +kernel) rfl, by decide, by decide, rfl⟩
theorem inX4_headFault : Cond.instanceMethod yX4_headFault ∈ q_T := q_at 822 (by decide +kernel) rfl
theorem seX4_headFault : Cond.selects RX4 yX4_headFault yX4_headFault ∈ q_T := q_inT (List.mem_append_left _ (List.mem_map.mpr ⟨(yX4_headFault, 9), List.mem_of_getElem? (i := 14) (by decide +kernel), rfl⟩)) rfl
def mX4_mayReplace : QM := (yX4_mayReplace, cX4_mayReplace, 4, some (.boolean))
set_option maxRecDepth 100000 in
theorem okX4_mayReplace : q_mok mX4_mayReplace := ⟨rfl, q_at 831 rfl rfl, q_at 7 (by decide +kernel) rfl, by decide, by decide, rfl⟩
theorem inX4_mayReplace : Cond.instanceMethod yX4_mayReplace ∈ q_T := q_at 830 (by decide +kernel) rfl
theorem seX4_mayReplace : Cond.selects RX4 yX4_mayReplace yX4_mayReplace ∈ q_T := q_inT (List.mem_append_left _ (List.mem_map.mpr ⟨(yX4_mayReplace, 9), List.mem_of_getElem? (i := 16) (by decide +kernel), rfl⟩)) rfl
def mX4_hasSameHead : QM := (yX4_hasSameHead, cX4_hasSameHead, 5, some (.boolean))
set_option maxRecDepth 100000 in
theorem okX4_hasSameHead : q_mok mX4_hasSameHead := ⟨rfl, q_at 835 rfl rfl, q_at 7 (by decide +kernel) rfl, by decide, by decide, rfl⟩
theorem inX4_hasSameHead : Cond.instanceMethod yX4_hasSameHead ∈ q_T := q_at 834 (by decide +kernel) rfl
theorem seX4_hasSameHead : Cond.selects RX4 yX4_hasSameHead yX4_hasSameHead ∈ q_T := q_inT (List.mem_append_left _ (List.mem_map.mpr ⟨(yX4_hasSameHead, 9), List.mem_of_getElem? (i := 17) (by decide +kernel), rfl⟩)) rfl
def mX4_lineFault : QM := (yX4_lineFault, cX4_lineFault, 3, some (.int))
set_option maxRecDepth 100000 in
theorem okX4_lineFault : q_mok mX4_lineFault := ⟨rfl, q_at 857 rfl rfl, q_at 7 (by decide +kernel) rfl, by decide, by decide, rfl⟩
theorem inX4_lineFault : Cond.instanceMethod yX4_lineFault ∈ q_T := q_at 855 (by decide +kernel) rfl
theorem seX4_lineFault : Cond.selects RX4 yX4_lineFault yX4_lineFault ∈ q_T := q_at 856 (by decide +kernel) rfl
def mX4_beginBody : QM := (yX4_beginBody, cX4_beginBody, 3, none)
set_option maxRecDepth 100000 in
theorem okX4_beginBody : q_mok mX4_beginBody := ⟨rfl, q_at 861 rfl rfl, q_at 7 (by decide +kernel) rfl, by decide, by decide, rfl⟩
theorem inX4_beginBody : Cond.instanceMethod yX4_beginBody ∈ q_T := q_at 860 (by decide +kernel) rfl
theorem seX4_beginBody : Cond.selects RX4 yX4_beginBody yX4_beginBody ∈ q_T := q_inT (List.mem_append_left _ (List.mem_map.mpr ⟨(yX4_beginBody, 9), List.mem_of_getElem? (i := 18) (by decide +kernel), rfl⟩)) rfl
def mX4_isFirstLabel : QM := (yX4_isFirstLabel, cX4_isFirstLabel, 3, some (.boolean))
set_option maxRecDepth 100000 in
theorem okX4_isFirstLabel : q_mok mX4_isFirstLabel := ⟨rfl, q_at 865 rfl rfl, q_at 7 (by decide +kernel) rfl, by decide, by decide, rfl⟩
theorem inX4_isFirstLabel : Cond.instanceMethod yX4_isFirstLabel ∈ q_T := q_at 864 (by decide +kernel) rfl
theorem seX4_isFirstLabel : Cond.selects RX4 yX4_isFirstLabel yX4_isFirstLabel ∈ q_T := q_inT (List.mem_append_left _ (List.mem_map.mpr ⟨(yX4_isFirstLabel, 9), List.mem_of_getElem? (i := 19) (by decide +kernel), rfl⟩)) rfl
def mX4_catchFault : QM := (yX4_catchFault, cX4_catchFault, 6, some (.int))
set_option maxRecDepth 100000 in
theorem okX4_catchFault : q_mok mX4_catchFault := ⟨rfl, q_at 873 rfl rfl, q_at 7 (by decide +kernel) rfl, by decide, by decide, rfl⟩
theorem inX4_catchFault : Cond.instanceMethod yX4_catchFault ∈ q_T := q_at 872 (by decide +kernel) rfl
theorem seX4_catchFault : Cond.selects RX4 yX4_catchFault yX4_catchFault ∈ q_T := q_inT (List.mem_append_left _ (List.mem_map.mpr ⟨(yX4_catchFault, 9), List.mem_of_getElem? (i := 21) (by decide +kernel), rfl⟩)) rfl
def mX4_endFault : QM := (yX4_endFault, cX4_endFault, 3, some (.int))
set_option maxRecDepth 100000 in
theorem okX4_endFault : q_mok mX4_endFault := ⟨rfl, q_at 885 rfl rfl, q_at 7 (by decide +kernel) rfl, by decide, by decide, rfl⟩
theorem inX4_endFault : Cond.instanceMethod yX4_endFault ∈ q_T := q_at 884 (by decide +kernel) rfl
theorem seX4_endFault : Cond.selects RX4 yX4_endFault yX4_endFault ∈ q_T := q_inT (List.mem_append_left _ (List.mem_map.mpr ⟨(yX4_endFault, 9), List.mem_of_getElem? (i := 23) (by decide +kernel), rfl⟩)) rfl
def mX4_hasRoomFor : QM := (yX4_hasRoomFor, cX4_hasRoomFor, 2, some (.boolean))
set_option maxRecDepth 100000 in
theorem okX4_hasRoomFor : q_mok mX4_hasRoomFor := ⟨rfl, q_at 892 rfl rfl, q_at 7 (by decide +kernel) rfl, by decide, by decide, rfl⟩
theorem inX4_hasRoomFor : Cond.instanceMethod yX4_hasRoomFor ∈ q_T := q_at 891 (by decide +kernel) rfl
theorem seX4_hasRoomFor : Cond.selects RX4 yX4_hasRoomFor yX4_hasRoomFor ∈ q_T := q_inT (List.mem_append_left _ (List.mem_map.mpr ⟨(yX4_hasRoomFor, 9), List.mem_of_getElem? (i := 24) (by decide +kernel), rfl⟩)) rfl
def mX4_addsInstruction : QM := (yX4_addsInstruction, cX4_addsInstruction, 5, some (.boolean))
set_option maxRecDepth 100000 in
theorem okX4_addsInstruction : q_mok mX4_addsInstruction := ⟨rfl, q_at 899 rfl rfl, q_at 7 (by decide +kernel) rfl, by decide, by decide, rfl⟩
theorem inX4_addsInstruction : Cond.instanceMethod yX4_addsInstruction ∈ q_T := q_at 898 (by decide +kernel) rfl
theorem seX4_addsInstruction : Cond.selects RX4 yX4_addsInstruction yX4_addsInstruction ∈ q_T := q_inT (List.mem_append_left _ (List.mem_map.mpr ⟨(yX4_addsInstruction, 9), List.mem_of_getElem? (i := 25) (by decide +kernel), rfl⟩)) rfl
def mX4_setsReference : QM := (yX4_setsReference, cX4_setsReference, 7, some (.boolean))
set_option maxRecDepth 100000 in
theorem okX4_setsReference : q_mok mX4_setsReference := ⟨rfl, q_at 908 rfl rfl, q_at 7 (by decide +kernel) rfl, by decide, by decide, rfl⟩
theorem inX4_setsReference : Cond.instanceMethod yX4_setsReference ∈ q_T := q_at 907 (by decide +kernel) rfl
theorem seX4_setsReference : Cond.selects RX4 yX4_setsReference yX4_setsReference ∈ q_T := q_inT (List.mem_append_left _ (List.mem_map.mpr ⟨(yX4_setsReference, 9), List.mem_of_getElem? (i := 26) (by decide +kernel), rfl⟩)) rfl
def mX4_mainFault : QM := (yX4_mainFault, cX4_mainFault, 4, some (.int))
set_option maxRecDepth 100000 in
theorem okX4_mainFault : q_mok mX4_mainFault := ⟨rfl, q_at 916 rfl rfl, q_at 7 (by decide +kernel) rfl, by decide, by decide, rfl⟩
theorem inX4_mainFault : Cond.instanceMethod yX4_mainFault ∈ q_T := q_at 914 (by decide +kernel) rfl
theorem seX4_mainFault : Cond.selects RX4 yX4_mainFault yX4_mainFault ∈ q_T := q_at 915 (by decide +kernel) rfl
def mX4_classAt : QM := (yX4_classAt, cX4_classAt, 2, some (.int))
set_option maxRecDepth 100000 in
theorem okX4_classAt : q_mok mX4_classAt := ⟨rfl, q_at 765 rfl rfl, q_at 7 (by decide +kernel) rfl, by decide, by decide, rfl⟩
theorem inX4_classAt : Cond.instanceMethod yX4_classAt ∈ q_T := q_at 764 (by decide +kernel) rfl
theorem seX4_classAt : Cond.selects RX4 yX4_classAt yX4_classAt ∈ q_T := q_inT (List.mem_append_left _ (List.mem_map.mpr ⟨(yX4_classAt, 9), List.mem_of_getElem? (i := 9) (by decide +kernel), rfl⟩)) rfl
def mX4_classIn : QM := (yX4_classIn, cX4_classIn, 4, some (.int))
set_option maxRecDepth 100000 in
theorem okX4_classIn : q_mok mX4_classIn := ⟨rfl, q_at 771 rfl rfl, q_at 7 (by decide +kernel) rfl, by decide, by decide, rfl⟩
theorem inX4_classIn : Cond.instanceMethod yX4_classIn ∈ q_T := q_at 770 (by decide +kernel) rfl
theorem seX4_classIn : Cond.selects RX4 yX4_classIn yX4_classIn ∈ q_T := q_inT (List.mem_append_left _ (List.mem_map.mpr ⟨(yX4_classIn, 9), List.mem_of_getElem? (i := 10) (by decide +kernel), rfl⟩)) rfl
def mX4_typeAt : QM := (yX4_typeAt, cX4_typeAt, 6, some (.int))
set_option maxRecDepth 100000 in
theorem okX4_typeAt : q_mok mX4_typeAt := ⟨rfl, q_at 805 rfl rfl, q_at 7 (by decide +kernel) rfl, by decide, by decide, rfl⟩
theorem inX4_typeAt : Cond.instanceMethod yX4_typeAt ∈ q_T := q_at 804 (by decide +kernel) rfl
theorem seX4_typeAt : Cond.selects RX4 yX4_typeAt yX4_typeAt ∈ q_T := q_inT (List.mem_append_left _ (List.mem_map.mpr ⟨(yX4_typeAt, 9), List.mem_of_getElem? (i := 13) (by decide +kernel), rfl⟩)) rfl
def mX4_arrayOf : QM := (yX4_arrayOf, cX4_arrayOf, 1, some (.int))
set_option maxRecDepth 100000 in
theorem okX4_arrayOf : q_mok mX4_arrayOf := ⟨rfl, q_at 811 rfl rfl, q_at 7 (by decide +kernel) rfl, by decide, by decide, rfl⟩
theorem inX4_arrayOf : Cond.static yX4_arrayOf ∈ q_T := q_at 810 (by decide +kernel) rfl
def mX4_fieldNamed : QM := (yX4_fieldNamed, cX4_fieldNamed, 5, some (.int))
set_option maxRecDepth 100000 in
theorem okX4_fieldNamed : q_mok mX4_fieldNamed := ⟨rfl, q_at 797 rfl rfl, q_at 7 (by decide +kernel) rfl, by decide, by decide, rfl⟩
theorem inX4_fieldNamed : Cond.instanceMethod yX4_fieldNamed ∈ q_T := q_at 796 (by decide +kernel) rfl
theorem seX4_fieldNamed : Cond.selects RX4 yX4_fieldNamed yX4_fieldNamed ∈ q_T := q_inT (List.mem_append_left _ (List.mem_map.mpr ⟨(yX4_fieldNamed, 9), List.mem_of_getElem? (i := 12) (by decide +kernel), rfl⟩)) rfl
def mX4_bodyNamed : QM := (yX4_bodyNamed, cX4_bodyNamed, 6, some (.int))
set_option maxRecDepth 100000 in
theorem okX4_bodyNamed : q_mok mX4_bodyNamed := ⟨rfl, q_at 827 rfl rfl, q_at 7 (by decide +kernel) rfl, by decide, by decide, rfl⟩
theorem inX4_bodyNamed : Cond.instanceMethod yX4_bodyNamed ∈ q_T := q_at 826 (by decide +kernel) rfl
theorem seX4_bodyNamed : Cond.selects RX4 yX4_bodyNamed yX4_bodyNamed ∈ q_T := q_inT (List.mem_append_left _ (List.mem_map.mpr ⟨(yX4_bodyNamed, 9), List.mem_of_getElem? (i := 15) (by decide +kernel), rfl⟩)) rfl
def mX4_labelNamed : QM := (yX4_labelNamed, cX4_labelNamed, 5, some (.int))
set_option maxRecDepth 100000 in
theorem okX4_labelNamed : q_mok mX4_labelNamed := ⟨rfl, q_at 869 rfl rfl, q_at 7 (by decide +kernel) rfl, by decide, by decide, rfl⟩
theorem inX4_labelNamed : Cond.instanceMethod yX4_labelNamed ∈ q_T := q_at 868 (by decide +kernel) rfl
theorem seX4_labelNamed : Cond.selects RX4 yX4_labelNamed yX4_labelNamed ∈ q_T := q_inT (List.mem_append_left _ (List.mem_map.mpr ⟨(yX4_labelNamed, 9), List.mem_of_getElem? (i := 20) (by decide +kernel), rfl⟩)) rfl
def mX4_placeNamed : QM := (yX4_placeNamed, cX4_placeNamed, 3, some (.int))
set_option maxRecDepth 100000 in
theorem okX4_placeNamed : q_mok mX4_placeNamed := ⟨rfl, q_at 877 rfl rfl, q_at 7 (by decide +kernel) rfl, by decide, by decide, rfl⟩
theorem inX4_placeNamed : Cond.instanceMethod yX4_placeNamed ∈ q_T := q_at 876 (by decide +kernel) rfl
theorem seX4_placeNamed : Cond.selects RX4 yX4_placeNamed yX4_placeNamed ∈ q_T := q_inT (List.mem_append_left _ (List.mem_map.mpr ⟨(yX4_placeNamed, 9), List.mem_of_getElem? (i := 22) (by decide +kernel), rfl⟩)) rfl
def mX5_init : QM := (yX5_init, cX5_init, 1, none)
set_option maxRecDepth 100000 in
theorem okX5_init : q_mok mX5_init := ⟨rfl, q_at 66 rfl rfl, q_at 3 (by decide +kernel) rfl, by decide, by decide, rfl⟩
theorem inX5_init : Cond.instanceMethod yX5_init ∈ q_T := q_at 65 (by decide +kernel) rfl
def mX5_begin : QM := (yX5_begin, cX5_begin, 1, none)
set_option maxRecDepth 100000 in
theorem okX5_begin : q_mok mX5_begin := ⟨rfl, q_at 742 rfl rfl, q_at 3 (by decide +kernel) rfl, by decide, by decide, rfl⟩
theorem inX5_begin : Cond.instanceMethod yX5_begin ∈ q_T := q_at 740 (by decide +kernel) rfl
theorem seX5_begin : Cond.selects RX5 yX5_begin yX5_begin ∈ q_T := q_at 741 (by decide +kernel) rfl
def mX5_inherit : QM := (yX5_inherit, cX5_inherit, 3, none)
set_option maxRecDepth 100000 in
theorem okX5_inherit : q_mok mX5_inherit := ⟨rfl, q_at 786 rfl rfl, q_at 3 (by decide +kernel) rfl, by decide, by decide, rfl⟩
theorem inX5_inherit : Cond.instanceMethod yX5_inherit ∈ q_T := q_at 784 (by decide +kernel) rfl
theorem seX5_inherit : Cond.selects RX5 yX5_inherit yX5_inherit ∈ q_T := q_at 785 (by decide +kernel) rfl
def mX5_addBody : QM := (yX5_addBody, cX5_addBody, 6, none)
set_option maxRecDepth 100000 in
theorem okX5_addBody : q_mok mX5_addBody := ⟨rfl, q_at 840 rfl rfl, q_at 3 (by decide +kernel) rfl, by decide, by decide, rfl⟩
theorem inX5_addBody : Cond.instanceMethod yX5_addBody ∈ q_T := q_at 838 (by decide +kernel) rfl
theorem seX5_addBody : Cond.selects RX5 yX5_addBody yX5_addBody ∈ q_T := q_at 839 (by decide +kernel) rfl
def mX5_addParameter : QM := (yX5_addParameter, cX5_addParameter, 3, none)
set_option maxRecDepth 100000 in
theorem okX5_addParameter : q_mok mX5_addParameter := ⟨rfl, q_at 845 rfl rfl, q_at 3 (by decide +kernel) rfl, by decide, by decide, rfl⟩
theorem inX5_addParameter : Cond.instanceMethod yX5_addParameter ∈ q_T := q_at 843 (by decide +kernel) rfl
theorem seX5_addParameter : Cond.selects RX5 yX5_addParameter yX5_addParameter ∈ q_T := q_at 844 (by decide +kernel) rfl
def mX5_bodyOf : QM := (yX5_bodyOf, cX5_bodyOf, 4, some (.int))
set_option maxRecDepth 100000 in
theorem okX5_bodyOf : q_mok mX5_bodyOf := ⟨rfl, q_at 1209 rfl rfl, q_at 3 (by decide +kernel) rfl, by decide, by decide, rfl⟩
theorem inX5_bodyOf : Cond.instanceMethod yX5_bodyOf ∈ q_T := q_at 1207 (by decide +kernel) rfl
theorem seX5_bodyOf : Cond.selects RX5 yX5_bodyOf yX5_bodyOf ∈ q_T := q_at 1208 (by decide +kernel) rfl
def mX5_takes : QM := (yX5_takes, cX5_takes, 3, some (.int))
set_option maxRecDepth 100000 in
theorem okX5_takes : q_mok mX5_takes := ⟨rfl, q_at 957 rfl rfl, q_at 3 (by decide +kernel) rfl, by decide, by decide, rfl⟩
theorem inX5_takes : Cond.instanceMethod yX5_takes ∈ q_T := q_at 955 (by decide +kernel) rfl
theorem seX5_takes : Cond.selects RX5 yX5_takes yX5_takes ∈ q_T := q_at 956 (by decide +kernel) rfl
def mX5_leaves : QM := (yX5_leaves, cX5_leaves, 3, some (.int))
set_option maxRecDepth 100000 in
theorem okX5_leaves : q_mok mX5_leaves := ⟨rfl, q_at 963 rfl rfl, q_at 3 (by decide +kernel) rfl, by decide, by decide, rfl⟩
theorem inX5_leaves : Cond.instanceMethod yX5_leaves ∈ q_T := q_at 961 (by decide +kernel) rfl
theorem seX5_leaves : Cond.selects RX5 yX5_leaves yX5_leaves ∈ q_T := q_at 962 (by decide +kernel) rfl
