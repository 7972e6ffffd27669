theorem seX9_firstFault : Cond.selects RX9 yX9_firstFault yX9_firstFault ∈ q_T := q_at 984 (by decide +kernel) rfl
def mX9_enter : QM := (yX9_enter, cX9_enter, 3, none)
set_option maxRecDepth 100000 in
theorem okX9_enter : q_mok mX9_enter := ⟨rfl, q_at 989 rfl rfl, q_at 9 (by decide +kernel) rfl, by decide, by decide, rfl⟩
theorem inX9_enter : Cond.instanceMethod yX9_enter ∈ q_T := q_at 988 (by decide +kernel) rfl
theorem seX9_enter : Cond.selects RX9 yX9_enter yX9_enter ∈ q_T := q_inT (List.mem_append_left _ (List.mem_map.mpr ⟨(yX9_enter, 8), List.mem_of_getElem? (i := 31) (by decide +kernel), rfl⟩)) rfl
def mX9_isRight : QM := (yX9_isRight, cX9_isRight, 4, some (.boolean))
set_option maxRecDepth 100000 in
theorem okX9_isRight : q_mok mX9_isRight := ⟨rfl, q_at 1043 rfl rfl, q_at 9 (by decide +kernel) rfl, by decide, by decide, rfl⟩
theorem inX9_isRight : Cond.instanceMethod yX9_isRight ∈ q_T := q_at 1042 (by decide +kernel) rfl
theorem seX9_isRight : Cond.selects RX9 yX9_isRight yX9_isRight ∈ q_T := q_inT (List.mem_append_left _ (List.mem_map.mpr ⟨(yX9_isRight, 8), List.mem_of_getElem? (i := 37) (by decide +kernel), rfl⟩)) rfl
def mX9_spread : QM := (yX9_spread, cX9_spread, 4, none)
set_option maxRecDepth 100000 in
theorem okX9_spread : q_mok mX9_spread := ⟨rfl, q_at 1018 rfl rfl, q_at 9 (by decide +kernel) rfl, by decide, by decide, rfl⟩
theorem inX9_spread : Cond.instanceMethod yX9_spread ∈ q_T := q_at 1017 (by decide +kernel) rfl
theorem seX9_spread : Cond.selects RX9 yX9_spread yX9_spread ∈ q_T := q_inT (List.mem_append_left _ (List.mem_map.mpr ⟨(yX9_spread, 8), List.mem_of_getElem? (i := 34) (by decide +kernel), rfl⟩)) rfl
def mX9_perform : QM := (yX9_perform, cX9_perform, 5, some (.boolean))
set_option maxRecDepth 100000 in
theorem okX9_perform : q_mok mX9_perform := ⟨rfl, q_at 1022 rfl rfl, q_at 9 (by decide +kernel) rfl, by decide, by decide, rfl⟩
theorem inX9_perform : Cond.instanceMethod yX9_perform ∈ q_T := q_at 1021 (by decide +kernel) rfl
theorem seX9_perform : Cond.selects RX9 yX9_perform yX9_perform ∈ q_T := q_inT (List.mem_append_left _ (List.mem_map.mpr ⟨(yX9_perform, 8), List.mem_of_getElem? (i := 35) (by decide +kernel), rfl⟩)) rfl
def mX9_swap : QM := (yX9_swap, cX9_swap, 4, none)
set_option maxRecDepth 100000 in
theorem okX9_swap : q_mok mX9_swap := ⟨rfl, q_at 1027 rfl rfl, q_at 9 (by decide +kernel) rfl, by decide, by decide, rfl⟩
theorem inX9_swap : Cond.instanceMethod yX9_swap ∈ q_T := q_at 1026 (by decide +kernel) rfl
theorem seX9_swap : Cond.selects RX9 yX9_swap yX9_swap ∈ q_T := q_inT (List.mem_append_left _ (List.mem_map.mpr ⟨(yX9_swap, 8), List.mem_of_getElem? (i := 36) (by decide +kernel), rfl⟩)) rfl
def mX9_arrive : QM := (yX9_arrive, cX9_arrive, 7, none)
set_option maxRecDepth 100000 in
theorem okX9_arrive : q_mok mX9_arrive := ⟨rfl, q_at 993 rfl rfl, q_at 9 (by decide +kernel) rfl, by decide, by decide, rfl⟩
theorem inX9_arrive : Cond.instanceMethod yX9_arrive ∈ q_T := q_at 992 (by decide +kernel) rfl
theorem seX9_arrive : Cond.selects RX9 yX9_arrive yX9_arrive ∈ q_T := q_inT (List.mem_append_left _ (List.mem_map.mpr ⟨(yX9_arrive, 8), List.mem_of_getElem? (i := 32) (by decide +kernel), rfl⟩)) rfl
def mX10_init : QM := (yX10_init, cX10_init, 4, none)
set_option maxRecDepth 100000 in
theorem okX10_init : q_mok mX10_init := ⟨rfl, q_at 26 rfl rfl, q_at 1 (by decide +kernel) rfl, by decide, by decide, rfl⟩
theorem inX10_init : Cond.instanceMethod yX10_init ∈ q_T := q_at 25 (by decide +kernel) rfl
def mX10_feed : QM := (yX10_feed, cX10_feed, 7, some (.int))
set_option maxRecDepth 100000 in
theorem okX10_feed : q_mok mX10_feed := ⟨rfl, q_at 546 rfl rfl, q_at 1 (by decide +kernel) rfl, by decide, by decide, rfl⟩
theorem inX10_feed : Cond.instanceMethod yX10_feed ∈ q_T := q_at 544 (by decide +kernel) rfl
theorem seX10_feed : Cond.selects RX10 yX10_feed yX10_feed ∈ q_T := q_at 545 (by decide +kernel) rfl
def mX10_end : QM := (yX10_end, cX10_end, 2, some (.boolean))
set_option maxRecDepth 100000 in
theorem okX10_end : q_mok mX10_end := ⟨rfl, q_at 551 rfl rfl, q_at 1 (by decide +kernel) rfl, by decide, by decide, rfl⟩
theorem inX10_end : Cond.instanceMethod yX10_end ∈ q_T := q_at 549 (by decide +kernel) rfl
theorem seX10_end : Cond.selects RX10 yX10_end yX10_end ∈ q_T := q_at 550 (by decide +kernel) rfl
def mX10_load : QM := (yX10_load, cX10_load, 2, some (.int))
set_option maxRecDepth 100000 in
theorem okX10_load : q_mok mX10_load := ⟨rfl, q_at 559 rfl rfl, q_at 1 (by decide +kernel) rfl, by decide, by decide, rfl⟩
theorem inX10_load : Cond.instanceMethod yX10_load ∈ q_T := q_at 557 (by decide +kernel) rfl
theorem seX10_load : Cond.selects RX10 yX10_load yX10_load ∈ q_T := q_at 558 (by decide +kernel) rfl
def mX10_nameFault : QM := (yX10_nameFault, cX10_nameFault, 2, some (.int))
set_option maxRecDepth 100000 in
theorem okX10_nameFault : q_mok mX10_nameFault := ⟨rfl, q_at 734 rfl rfl, q_at 1 (by decide +kernel) rfl, by decide, by decide, rfl⟩
theorem inX10_nameFault : Cond.instanceMethod yX10_nameFault ∈ q_T := q_at 733 (by decide +kernel) rfl
theorem seX10_nameFault : Cond.selects RX10 yX10_nameFault yX10_nameFault ∈ q_T := q_inT (List.mem_append_left _ (List.mem_map.mpr ⟨(yX10_nameFault, 13), List.mem_of_getElem? (i := 8) (by decide +kernel), rfl⟩)) rfl
def mX10_typeFault : QM := (yX10_typeFault, cX10_typeFault, 3, some (.int))
set_option maxRecDepth 100000 in
theorem okX10_typeFault : q_mok mX10_typeFault := ⟨rfl, q_at 922 rfl rfl, q_at 1 (by decide +kernel) rfl, by decide, by decide, rfl⟩
theorem inX10_typeFault : Cond.instanceMethod yX10_typeFault ∈ q_T := q_at 921 (by decide +kernel) rfl
theorem seX10_typeFault : Cond.selects RX10 yX10_typeFault yX10_typeFault ∈ q_T := q_inT (List.mem_append_left _ (List.mem_map.mpr ⟨(yX10_typeFault, 13), List.mem_of_getElem? (i := 27) (by decide +kernel), rfl⟩)) rfl
def mX10_takeSpare : QM := (yX10_takeSpare, cX10_takeSpare, 2, none)
set_option maxRecDepth 100000 in
theorem okX10_takeSpare : q_mok mX10_takeSpare := ⟨rfl, q_at 1066 rfl rfl, q_at 1 (by decide +kernel) rfl, by decide, by decide, rfl⟩
theorem inX10_takeSpare : Cond.instanceMethod yX10_takeSpare ∈ q_T := q_at 1065 (by decide +kernel) rfl
theorem seX10_takeSpare : Cond.selects RX10 yX10_takeSpare yX10_takeSpare ∈ q_T := q_inT (List.mem_append_left _ (List.mem_map.mpr ⟨(yX10_takeSpare, 13), List.mem_of_getElem? (i := 38) (by decide +kernel), rfl⟩)) rfl
def mX10_faultAt : QM := (yX10_faultAt, cX10_faultAt, 1, some (.int))
set_option maxRecDepth 100000 in
theorem okX10_faultAt : q_mok mX10_faultAt := ⟨rfl, q_at 1070 rfl rfl, q_at 1 (by decide +kernel) rfl, by decide, by decide, rfl⟩
theorem inX10_faultAt : Cond.instanceMethod yX10_faultAt ∈ q_T := q_at 1068 (by decide +kernel) rfl
theorem seX10_faultAt : Cond.selects RX10 yX10_faultAt yX10_faultAt ∈ q_T := q_at 1069 (by decide +kernel) rfl
def mX10_size : QM := (yX10_size, cX10_size, 2, some (.int))
set_option maxRecDepth 100000 in
theorem okX10_size : q_mok mX10_size := ⟨rfl, q_at 1074 rfl rfl, q_at 1 (by decide +kernel) rfl, by decide, by decide, rfl⟩
theorem inX10_size : Cond.instanceMethod yX10_size ∈ q_T := q_at 1072 (by decide +kernel) rfl
theorem seX10_size : Cond.selects RX10 yX10_size yX10_size ∈ q_T := q_at 1073 (by decide +kernel) rfl
def mX10_height : QM := (yX10_height, cX10_height, 2, some (.int))
set_option maxRecDepth 100000 in
theorem okX10_height : q_mok mX10_height := ⟨rfl, q_at 1078 rfl rfl, q_at 1 (by decide +kernel) rfl, by decide, by decide, rfl⟩
theorem inX10_height : Cond.instanceMethod yX10_height ∈ q_T := q_at 1076 (by decide +kernel) rfl
theorem seX10_height : Cond.selects RX10 yX10_height yX10_height ∈ q_T := q_at 1077 (by decide +kernel) rfl
def mX10_input : QM := (yX10_input, cX10_input, 2, some (.boolean))
set_option maxRecDepth 100000 in
theorem okX10_input : q_mok mX10_input := ⟨rfl, q_at 1082 rfl rfl, q_at 1 (by decide +kernel) rfl, by decide, by decide, rfl⟩
theorem inX10_input : Cond.instanceMethod yX10_input ∈ q_T := q_at 1080 (by decide +kernel) rfl
theorem seX10_input : Cond.selects RX10 yX10_input yX10_input ∈ q_T := q_at 1081 (by decide +kernel) rfl
def mX10_run : QM := (yX10_run, cX10_run, 2, some (.int))
set_option maxRecDepth 100000 in
theorem okX10_run : q_mok mX10_run := ⟨rfl, q_at 1090 rfl rfl, q_at 1 (by decide +kernel) rfl, by decide, by decide, rfl⟩
theorem inX10_run : Cond.instanceMethod yX10_run ∈ q_T := q_at 1088 (by decide +kernel) rfl
theorem seX10_run : Cond.selects RX10 yX10_run yX10_run ∈ q_T := q_at 1089 (by decide +kernel) rfl
def mX10_steps : QM := (yX10_steps, cX10_steps, 1, some (.int))
set_option maxRecDepth 100000 in
theorem okX10_steps : q_mok mX10_steps := ⟨rfl, q_at 1234 rfl rfl, q_at 1 (by decide +kernel) rfl, by decide, by decide, rfl⟩
theorem inX10_steps : Cond.instanceMethod yX10_steps ∈ q_T := q_at 1232 (by decide +kernel) rfl
theorem seX10_steps : Cond.selects RX10 yX10_steps yX10_steps ∈ q_T := q_at 1233 (by decide +kernel) rfl
def mX10_place : QM := (yX10_place, cX10_place, 1, some (.int))
set_option maxRecDepth 100000 in
theorem okX10_place : q_mok mX10_place := ⟨rfl, q_at 1238 rfl rfl, q_at 1 (by decide +kernel) rfl, by decide, by decide, rfl⟩
theorem inX10_place : Cond.instanceMethod yX10_place ∈ q_T := q_at 1236 (by decide +kernel) rfl
theorem seX10_place : Cond.selects RX10 yX10_place yX10_place ∈ q_T := q_at 1237 (by decide +kernel) rfl
def mX10_thrown : QM := (yX10_thrown, cX10_thrown, 1, some (.int))
set_option maxRecDepth 100000 in
theorem okX10_thrown : q_mok mX10_thrown := ⟨rfl, q_at 1242 rfl rfl, q_at 1 (by decide +kernel) rfl, by decide, by decide, rfl⟩
theorem inX10_thrown : Cond.instanceMethod yX10_thrown ∈ q_T := q_at 1240 (by decide +kernel) rfl
theorem seX10_thrown : Cond.selects RX10 yX10_thrown yX10_thrown ∈ q_T := q_at 1241 (by decide +kernel) rfl
def mX10_made : QM := (yX10_made, cX10_made, 2, some (.int))
set_option maxRecDepth 100000 in
theorem okX10_made : q_mok mX10_made := ⟨rfl, q_at 1246 rfl rfl, q_at 1 (by decide +kernel) rfl, by decide, by decide, rfl⟩
theorem inX10_made : Cond.instanceMethod yX10_made ∈ q_T := q_at 1244 (by decide +kernel) rfl
theorem seX10_made : Cond.selects RX10 yX10_made yX10_made ∈ q_T := q_at 1245 (by decide +kernel) rfl
def mX10_written : QM := (yX10_written, cX10_written, 1, some (.int))
set_option maxRecDepth 100000 in
theorem okX10_written : q_mok mX10_written := ⟨rfl, q_at 1250 rfl rfl, q_at 1 (by decide +kernel) rfl, by decide, by decide, rfl⟩
theorem inX10_written : Cond.instanceMethod yX10_written ∈ q_T := q_at 1248 (by decide +kernel) rfl
theorem seX10_written : Cond.selects RX10 yX10_written yX10_written ∈ q_T := q_at 1249 (by decide +kernel) rfl
def mX10_out : QM := (yX10_out, cX10_out, 2, some (.int))
set_option maxRecDepth 100000 in
theorem okX10_out : q_mok mX10_out := ⟨rfl, q_at 1254 rfl rfl, q_at 1 (by decide +kernel) rfl, by decide, by decide, rfl⟩
theorem inX10_out : Cond.instanceMethod yX10_out ∈ q_T := q_at 1252 (by decide +kernel) rfl
theorem seX10_out : Cond.selects RX10 yX10_out yX10_out ∈ q_T := q_at 1253 (by decide +kernel) rfl
def mX10_strays : QM := (yX10_strays, cX10_strays, 1, some (.int))
set_option maxRecDepth 100000 in
theorem okX10_strays : q_mok mX10_strays := ⟨rfl, q_at 1258 rfl rfl, q_at 1 (by decide +kernel) rfl, by decide, by decide, rfl⟩
theorem inX10_strays : Cond.instanceMethod yX10_strays ∈ q_T := q_at 1256 (by decide +kernel) rfl
theorem seX10_strays : Cond.selects RX10 yX10_strays yX10_strays ∈ q_T := q_at 1257 (by decide +kernel) rfl
def mX11_init : QM := (yX11_init, cX11_init, 1, none)
set_option maxRecDepth 100000 in
theorem okX11_init : q_mok mX11_init := ⟨rfl, q_at 1269 rfl rfl, q_at 13 (by decide +kernel) rfl, by decide, by decide, rfl⟩
theorem inX11_init : Cond.instanceMethod yX11_init ∈ q_T := q_at 1268 (by decide +kernel) rfl
def mX12_init : QM := (yX12_init, cX12_init, 1, none)
set_option maxRecDepth 100000 in
theorem okX12_init : q_mok mX12_init := ⟨rfl, q_at 1263 rfl rfl, q_at 12 (by decide +kernel) rfl, by decide, by decide, rfl⟩
theorem inX12_init : Cond.instanceMethod yX12_init ∈ q_T := q_at 1262 (by decide +kernel) rfl
def mX12_word : QM := (yX12_word, cX12_word, 3, none)
set_option maxRecDepth 100000 in
theorem okX12_word : q_mok mX12_word := ⟨rfl, q_at 1549 rfl rfl, q_at 12 (by decide +kernel) rfl, by decide, by decide, rfl⟩
theorem inX12_word : Cond.instanceMethod yX12_word ∈ q_T := q_at 1548 (by decide +kernel) rfl
theorem seX12_word : Cond.selects RX12 yX12_word yX12_word ∈ q_T := q_inT (List.mem_append_left _ (List.mem_map.mpr ⟨(yX12_word, 46), List.mem_of_getElem? (i := 64) (by decide +kernel), rfl⟩)) rfl
def mX12_feed : QM := (yX12_feed, cX12_feed, 6, some (.int))
set_option maxRecDepth 100000 in
theorem okX12_feed : q_mok mX12_feed := ⟨rfl, q_at 1544 rfl rfl, q_at 12 (by decide +kernel) rfl, by decide, by decide, rfl⟩
theorem inX12_feed : Cond.instanceMethod yX12_feed ∈ q_T := q_at 1542 (by decide +kernel) rfl
theorem seX12_feed : Cond.selects RX12 yX12_feed yX12_feed ∈ q_T := q_at 1543 (by decide +kernel) rfl
def mX12_end : QM := (yX12_end, cX12_end, 3, some (.boolean))
set_option maxRecDepth 100000 in
theorem okX12_end : q_mok mX12_end := ⟨rfl, q_at 1553 rfl rfl, q_at 12 (by decide +kernel) rfl, by decide, by decide, rfl⟩
theorem inX12_end : Cond.instanceMethod yX12_end ∈ q_T := q_at 1551 (by decide +kernel) rfl
theorem seX12_end : Cond.selects RX12 yX12_end yX12_end ∈ q_T := q_at 1552 (by decide +kernel) rfl
def mX12_cut : QM := (yX12_cut, cX12_cut, 7, some (.boolean))
set_option maxRecDepth 100000 in
theorem okX12_cut : q_mok mX12_cut := ⟨rfl, q_at 1565 rfl rfl, q_at 12 (by decide +kernel) rfl, by decide, by decide, rfl⟩
theorem inX12_cut : Cond.instanceMethod yX12_cut ∈ q_T := q_at 1564 (by decide +kernel) rfl
theorem seX12_cut : Cond.selects RX12 yX12_cut yX12_cut ∈ q_T := q_inT (List.mem_append_left _ (List.mem_map.mpr ⟨(yX12_cut, 46), List.mem_of_getElem? (i := 66) (by decide +kernel), rfl⟩)) rfl
def mX12_is : QM := (yX12_is, cX12_is, 4, some (.boolean))
set_option maxRecDepth 100000 in
theorem okX12_is : q_mok mX12_is := ⟨rfl, q_at 1574 rfl rfl, q_at 12 (by decide +kernel) rfl, by decide, by decide, rfl⟩
theorem inX12_is : Cond.instanceMethod yX12_is ∈ q_T := q_at 1573 (by decide +kernel) rfl
theorem seX12_is : Cond.selects RX12 yX12_is yX12_is ∈ q_T := q_inT (List.mem_append_left _ (List.mem_map.mpr ⟨(yX12_is, 46), List.mem_of_getElem? (i := 68) (by decide +kernel), rfl⟩)) rfl
def mX12_isSame : QM := (yX12_isSame, cX12_isSame, 6, some (.boolean))
set_option maxRecDepth 100000 in
theorem okX12_isSame : q_mok mX12_isSame := ⟨rfl, q_at 1675 rfl rfl, q_at 12 (by decide +kernel) rfl, by decide, by decide, rfl⟩
theorem inX12_isSame : Cond.instanceMethod yX12_isSame ∈ q_T := q_at 1674 (by decide +kernel) rfl
theorem seX12_isSame : Cond.selects RX12 yX12_isSame yX12_isSame ∈ q_T := q_inT (List.mem_append_left _ (List.mem_map.mpr ⟨(yX12_isSame, 46), List.mem_of_getElem? (i := 88) (by decide +kernel), rfl⟩)) rfl
def mX12_isSameToken : QM := (yX12_isSameToken, cX12_isSameToken, 3, some (.boolean))
set_option maxRecDepth 100000 in
theorem okX12_isSameToken : q_mok mX12_isSameToken := ⟨rfl, q_at 1718 rfl rfl, q_at 12 (by decide +kernel) rfl, by decide, by decide, rfl⟩
theorem inX12_isSameToken : Cond.instanceMethod yX12_isSameToken ∈ q_T := q_at 1717 (by decide +kernel) rfl
theorem seX12_isSameToken : Cond.selects RX12 yX12_isSameToken yX12_isSameToken ∈ q_T := q_inT (List.mem_append_left _ (List.mem_map.mpr ⟨(yX12_isSameToken, 46), List.mem_of_getElem? (i := 98) (by decide +kernel), rfl⟩)) rfl
def mX12_among : QM := (yX12_among, cX12_among, 9, some (.int))
set_option maxRecDepth 100000 in
theorem okX12_among : q_mok mX12_among := ⟨rfl, q_at 1644 rfl rfl, q_at 12 (by decide +kernel) rfl, by decide, by decide, rfl⟩
theorem inX12_among : Cond.instanceMethod yX12_among ∈ q_T := q_at 1643 (by decide +kernel) rfl
theorem seX12_among : Cond.selects RX12 yX12_among yX12_among ∈ q_T := q_inT (List.mem_append_left _ (List.mem_map.mpr ⟨(yX12_among, 46), List.mem_of_getElem? (i := 81) (by decide +kernel), rfl⟩)) rfl
def mX12_isName : QM := (yX12_isName, cX12_isName, 7, some (.boolean))
set_option maxRecDepth 100000 in
theorem okX12_isName : q_mok mX12_isName := ⟨rfl, q_at 1588 rfl rfl, q_at 12 (by decide +kernel) rfl, by decide, by decide, rfl⟩
theorem inX12_isName : Cond.instanceMethod yX12_isName ∈ q_T := q_at 1587 (by decide +kernel) rfl
theorem seX12_isName : Cond.selects RX12 yX12_isName yX12_isName ∈ q_T := q_inT (List.mem_append_left _ (List.mem_map.mpr ⟨(yX12_isName, 46), List.mem_of_getElem? (i := 71) (by decide +kernel), rfl⟩)) rfl
def mX12_isSmallName : QM := (yX12_isSmallName, cX12_isSmallName, 2, some (.boolean))
set_option maxRecDepth 100000 in
theorem okX12_isSmallName : q_mok mX12_isSmallName := ⟨rfl, q_at 1600 rfl rfl, q_at 12 (by decide +kernel) rfl, by decide, by decide, rfl⟩
theorem inX12_isSmallName : Cond.instanceMethod yX12_isSmallName ∈ q_T := q_at 1599 (by decide +kernel) rfl
theorem seX12_isSmallName : Cond.selects RX12 yX12_isSmallName yX12_isSmallName ∈ q_T := q_inT (List.mem_append_left _ (List.mem_map.mpr ⟨(yX12_isSmallName, 46), List.mem_of_getElem? (i := 73) (by decide +kernel), rfl⟩)) rfl
def mX12_isClassName : QM := (yX12_isClassName, cX12_isClassName, 2, some (.boolean))
set_option maxRecDepth 100000 in
theorem okX12_isClassName : q_mok mX12_isClassName := ⟨rfl, q_at 1584 rfl rfl, q_at 12 (by decide +kernel) rfl, by decide, by decide, rfl⟩
theorem inX12_isClassName : Cond.instanceMethod yX12_isClassName ∈ q_T := q_at 1583 (by decide +kernel) rfl
theorem seX12_isClassName : Cond.selects RX12 yX12_isClassName yX12_isClassName ∈ q_T := q_inT (List.mem_append_left _ (List.mem_map.mpr ⟨(yX12_isClassName, 46), List.mem_of_getElem? (i := 70) (by decide +kernel), rfl⟩)) rfl
def mX12_isArray : QM := (yX12_isArray, cX12_isArray, 2, some (.boolean))
set_option maxRecDepth 100000 in
theorem okX12_isArray : q_mok mX12_isArray := ⟨rfl, q_at 1608 rfl rfl, q_at 12 (by decide +kernel) rfl, by decide, by decide, rfl⟩
theorem inX12_isArray : Cond.instanceMethod yX12_isArray ∈ q_T := q_at 1607 (by decide +kernel) rfl
theorem seX12_isArray : Cond.selects RX12 yX12_isArray yX12_isArray ∈ q_T := q_inT (List.mem_append_left _ (List.mem_map.mpr ⟨(yX12_isArray, 46), List.mem_of_getElem? (i := 75) (by decide +kernel), rfl⟩)) rfl
def mX12_isType : QM := (yX12_isType, cX12_isType, 4, some (.boolean))
set_option maxRecDepth 100000 in
theorem okX12_isType : q_mok mX12_isType := ⟨rfl, q_at 1604 rfl rfl, q_at 12 (by decide +kernel) rfl, by decide, by decide, rfl⟩
theorem inX12_isType : Cond.instanceMethod yX12_isType ∈ q_T := q_at 1603 (by decide +kernel) rfl
theorem seX12_isType : Cond.selects RX12 yX12_isType yX12_isType ∈ q_T := q_inT (List.mem_append_left _ (List.mem_map.mpr ⟨(yX12_isType, 46), List.mem_of_getElem? (i := 74) (by decide +kernel), rfl⟩)) rfl
def mX12_point : QM := (yX12_point, cX12_point, 3, some (.int))
set_option maxRecDepth 100000 in
theorem okX12_point : q_mok mX12_point := ⟨rfl, q_at 1654 rfl rfl, q_at 12 (by decide +kernel) rfl, by decide, by decide, rfl⟩
theorem inX12_point : Cond.instanceMethod yX12_point ∈ q_T := q_at 1653 (by decide +kernel) rfl
theorem seX12_point : Cond.selects RX12 yX12_point yX12_point ∈ q_T := q_inT (List.mem_append_left _ (List.mem_map.mpr ⟨(yX12_point, 46), List.mem_of_getElem? (i := 83) (by decide +kernel), rfl⟩)) rfl
def mX12_isReference : QM := (yX12_isReference, cX12_isReference, 3, some (.boolean))
set_option maxRecDepth 100000 in
theorem okX12_isReference : q_mok mX12_isReference := ⟨rfl, q_at 1650 rfl rfl, q_at 12 (by decide +kernel) rfl, by decide, by decide, rfl⟩
theorem inX12_isReference : Cond.instanceMethod yX12_isReference ∈ q_T := q_at 1649 (by decide +kernel) rfl
theorem seX12_isReference : Cond.selects RX12 yX12_isReference yX12_isReference ∈ q_T := q_inT (List.mem_append_left _ (List.mem_map.mpr ⟨(yX12_isReference, 46), List.mem_of_getElem? (i := 82) (by decide +kernel), rfl⟩)) rfl
def mX12_isNumber : QM := (yX12_isNumber, cX12_isNumber, 5, some (.boolean))
set_option maxRecDepth 100000 in
theorem okX12_isNumber : q_mok mX12_isNumber := ⟨rfl, q_at 1617 rfl rfl, q_at 12 (by decide +kernel) rfl, by decide, by decide, rfl⟩
theorem inX12_isNumber : Cond.instanceMethod yX12_isNumber ∈ q_T := q_at 1616 (by decide +kernel) rfl
theorem seX12_isNumber : Cond.selects RX12 yX12_isNumber yX12_isNumber ∈ q_T := q_inT (List.mem_append_left _ (List.mem_map.mpr ⟨(yX12_isNumber, 46), List.mem_of_getElem? (i := 76) (by decide +kernel), rfl⟩)) rfl
def mX12_number : QM := (yX12_number, cX12_number, 6, some (.long))
set_option maxRecDepth 100000 in
theorem okX12_number : q_mok mX12_number := ⟨rfl, q_at 1621 rfl rfl, q_at 12 (by decide +kernel) rfl, by decide, by decide, rfl⟩
theorem inX12_number : Cond.instanceMethod yX12_number ∈ q_T := q_at 1620 (by decide +kernel) rfl
theorem seX12_number : Cond.selects RX12 yX12_number yX12_number ∈ q_T := q_inT (List.mem_append_left _ (List.mem_map.mpr ⟨(yX12_number, 46), List.mem_of_getElem? (i := 77) (by decide +kernel), rfl⟩)) rfl
def mX12_takes : QM := (yX12_takes, cX12_takes, 2, some (.boolean))
set_option maxRecDepth 100000 in
theorem okX12_takes : q_mok mX12_takes := ⟨rfl, q_at 1580 rfl rfl, q_at 12 (by decide +kernel) rfl, by decide, by decide, rfl⟩
theorem inX12_takes : Cond.instanceMethod yX12_takes ∈ q_T := q_at 1579 (by decide +kernel) rfl
theorem seX12_takes : Cond.selects RX12 yX12_takes yX12_takes ∈ q_T := q_inT (List.mem_append_left _ (List.mem_map.mpr ⟨(yX12_takes, 46), List.mem_of_getElem? (i := 69) (by decide +kernel), rfl⟩)) rfl
def mX12_isProgram : QM := (yX12_isProgram, cX12_isProgram, 1, some (.boolean))
set_option maxRecDepth 100000 in
theorem okX12_isProgram : q_mok mX12_isProgram := ⟨rfl, q_at 1569 rfl rfl, q_at 12 (by decide +kernel) rfl, by decide, by decide, rfl⟩
theorem inX12_isProgram : Cond.instanceMethod yX12_isProgram ∈ q_T := q_at 1568 (by decide +kernel) rfl
theorem seX12_isProgram : Cond.selects RX12 yX12_isProgram yX12_isProgram ∈ q_T := q_inT (List.mem_append_left _ (List.mem_map.mpr ⟨(yX12_isProgram, 46), List.mem_of_getElem? (i := 67) (by decide +kernel), rfl⟩)) rfl
def mX12_isMember : QM := (yX12_isMember, cX12_isMember, 1, some (.boolean))
set_option maxRecDepth 100000 in
theorem okX12_isMember : q_mok mX12_isMember := ⟨rfl, q_at 1595 rfl rfl, q_at 12 (by decide +kernel) rfl, by decide, by decide, rfl⟩
theorem inX12_isMember : Cond.instanceMethod yX12_isMember ∈ q_T := q_at 1594 (by decide +kernel) rfl
theorem seX12_isMember : Cond.selects RX12 yX12_isMember yX12_isMember ∈ q_T := q_inT (List.mem_append_left _ (List.mem_map.mpr ⟨(yX12_isMember, 46), List.mem_of_getElem? (i := 72) (by decide +kernel), rfl⟩)) rfl
def mX12_isLabel : QM := (yX12_isLabel, cX12_isLabel, 2, some (.boolean))
set_option maxRecDepth 100000 in
theorem okX12_isLabel : q_mok mX12_isLabel := ⟨rfl, q_at 1633 rfl rfl, q_at 12 (by decide +kernel) rfl, by decide, by decide, rfl⟩
theorem inX12_isLabel : Cond.instanceMethod yX12_isLabel ∈ q_T := q_at 1632 (by decide +kernel) rfl
theorem seX12_isLabel : Cond.selects RX12 yX12_isLabel yX12_isLabel ∈ q_T := q_inT (List.mem_append_left _ (List.mem_map.mpr ⟨(yX12_isLabel, 46), List.mem_of_getElem? (i := 79) (by decide +kernel), rfl⟩)) rfl
def mX12_opOf : QM := (yX12_opOf, cX12_opOf, 2, some (.int))
set_option maxRecDepth 100000 in
theorem okX12_opOf : q_mok mX12_opOf := ⟨rfl, q_at 1639 rfl rfl, q_at 12 (by decide +kernel) rfl, by decide, by decide, rfl⟩
theorem inX12_opOf : Cond.instanceMethod yX12_opOf ∈ q_T := q_at 1638 (by decide +kernel) rfl
theorem seX12_opOf : Cond.selects RX12 yX12_opOf yX12_opOf ∈ q_T := q_inT (List.mem_append_left _ (List.mem_map.mpr ⟨(yX12_opOf, 46), List.mem_of_getElem? (i := 80) (by decide +kernel), rfl⟩)) rfl
def mX12_isLine : QM := (yX12_isLine, cX12_isLine, 2, some (.boolean))
set_option maxRecDepth 100000 in
theorem okX12_isLine : q_mok mX12_isLine := ⟨rfl, q_at 1629 rfl rfl, q_at 12 (by decide +kernel) rfl, by decide, by decide, rfl⟩
theorem inX12_isLine : Cond.instanceMethod yX12_isLine ∈ q_T := q_at 1628 (by decide +kernel) rfl
theorem seX12_isLine : Cond.selects RX12 yX12_isLine yX12_isLine ∈ q_T := q_inT (List.mem_append_left _ (List.mem_map.mpr ⟨(yX12_isLine, 46), List.mem_of_getElem? (i := 78) (by decide +kernel), rfl⟩)) rfl
def mX12_classCount : QM := (yX12_classCount, cX12_classCount, 2, some (.int))
set_option maxRecDepth 100000 in
theorem okX12_classCount : q_mok mX12_classCount := ⟨rfl, q_at 1671 rfl rfl, q_at 12 (by decide +kernel) rfl, by decide, by decide, rfl⟩
theorem inX12_classCount : Cond.instanceMethod yX12_classCount ∈ q_T := q_at 1670 (by decide +kernel) rfl
theorem seX12_classCount : Cond.selects RX12 yX12_classCount yX12_classCount ∈ q_T := q_inT (List.mem_append_left _ (List.mem_map.mpr ⟨(yX12_classCount, 46), List.mem_of_getElem? (i := 87) (by decide +kernel), rfl⟩)) rfl
def mX12_classOf : QM := (yX12_classOf, cX12_classOf, 6, some (.int))
set_option maxRecDepth 100000 in
theorem okX12_classOf : q_mok mX12_classOf := ⟨rfl, q_at 1666 rfl rfl, q_at 12 (by decide +kernel) rfl, by decide, by decide, rfl⟩
theorem inX12_classOf : Cond.instanceMethod yX12_classOf ∈ q_T := q_at 1665 (by decide +kernel) rfl
theorem seX12_classOf : Cond.selects RX12 yX12_classOf yX12_classOf ∈ q_T := q_inT (List.mem_append_left _ (List.mem_map.mpr ⟨(yX12_classOf, 46), List.mem_of_getElem? (i := 86) (by decide +kernel), rfl⟩)) rfl
def mX12_classOfToken : QM := (yX12_classOfToken, cX12_classOfToken, 3, some (.int))
set_option maxRecDepth 100000 in
theorem okX12_classOfToken : q_mok mX12_classOfToken := ⟨rfl, q_at 1662 rfl rfl, q_at 12 (by decide +kernel) rfl, by decide, by decide, rfl⟩
theorem inX12_classOfToken : Cond.instanceMethod yX12_classOfToken ∈ q_T := q_at 1661 (by decide +kernel) rfl
theorem seX12_classOfToken : Cond.selects RX12 yX12_classOfToken yX12_classOfToken ∈ q_T := q_inT (List.mem_append_left _ (List.mem_map.mpr ⟨(yX12_classOfToken, 46), List.mem_of_getElem? (i := 85) (by decide +kernel), rfl⟩)) rfl
def mX12_isAtOrBelow : QM := (yX12_isAtOrBelow, cX12_isAtOrBelow, 4, some (.boolean))
set_option maxRecDepth 100000 in
theorem okX12_isAtOrBelow : q_mok mX12_isAtOrBelow := ⟨rfl, q_at 1698 rfl rfl, q_at 12 (by decide +kernel) rfl, by decide, by decide, rfl⟩
theorem inX12_isAtOrBelow : Cond.static yX12_isAtOrBelow ∈ q_T := q_at 1697 (by decide +kernel) rfl
def mX12_typeOf : QM := (yX12_typeOf, cX12_typeOf, 6, some (.int))
set_option maxRecDepth 100000 in
theorem okX12_typeOf : q_mok mX12_typeOf := ⟨rfl, q_at 1702 rfl rfl, q_at 12 (by decide +kernel) rfl, by decide, by decide, rfl⟩
theorem inX12_typeOf : Cond.instanceMethod yX12_typeOf ∈ q_T := q_at 1701 (by decide +kernel) rfl
theorem seX12_typeOf : Cond.selects RX12 yX12_typeOf yX12_typeOf ∈ q_T := q_inT (List.mem_append_left _ (List.mem_map.mpr ⟨(yX12_typeOf, 46), List.mem_of_getElem? (i := 94) (by decide +kernel), rfl⟩)) rfl
def mX12_behind : QM := (yX12_behind, cX12_behind, 4, some (.int))
set_option maxRecDepth 100000 in
theorem okX12_behind : q_mok mX12_behind := ⟨rfl, q_at 1683 rfl rfl, q_at 12 (by decide +kernel) rfl, by decide, by decide, rfl⟩
theorem inX12_behind : Cond.instanceMethod yX12_behind ∈ q_T := q_at 1682 (by decide +kernel) rfl
theorem seX12_behind : Cond.selects RX12 yX12_behind yX12_behind ∈ q_T := q_inT (List.mem_append_left _ (List.mem_map.mpr ⟨(yX12_behind, 46), List.mem_of_getElem? (i := 90) (by decide +kernel), rfl⟩)) rfl
def mX12_behindMember : QM := (yX12_behindMember, cX12_behindMember, 2, some (.int))
set_option maxRecDepth 100000 in
theorem okX12_behindMember : q_mok mX12_behindMember := ⟨rfl, q_at 1723 rfl rfl, q_at 12 (by decide +kernel) rfl, by decide, by decide, rfl⟩
theorem inX12_behindMember : Cond.instanceMethod yX12_behindMember ∈ q_T := q_at 1722 (by decide +kernel) rfl
theorem seX12_behindMember : Cond.selects RX12 yX12_behindMember yX12_behindMember ∈ q_T := q_inT (List.mem_append_left _ (List.mem_map.mpr ⟨(yX12_behindMember, 46), List.mem_of_getElem? (i := 99) (by decide +kernel), rfl⟩)) rfl
def mX12_wrong : QM := (yX12_wrong, cX12_wrong, 2, some (.boolean))
set_option maxRecDepth 100000 in
theorem okX12_wrong : q_mok mX12_wrong := ⟨rfl, q_at 1679 rfl rfl, q_at 12 (by decide +kernel) rfl, by decide, by decide, rfl⟩
theorem inX12_wrong : Cond.instanceMethod yX12_wrong ∈ q_T := q_at 1678 (by decide +kernel) rfl
theorem seX12_wrong : Cond.selects RX12 yX12_wrong yX12_wrong ∈ q_T := q_inT (List.mem_append_left _ (List.mem_map.mpr ⟨(yX12_wrong, 46), List.mem_of_getElem? (i := 89) (by decide +kernel), rfl⟩)) rfl
def mX12_classNames : QM := (yX12_classNames, cX12_classNames, 4, some (.boolean))
set_option maxRecDepth 100000 in
theorem okX12_classNames : q_mok mX12_classNames := ⟨rfl, q_at 1658 rfl rfl, q_at 12 (by decide +kernel) rfl, by decide, by decide, rfl⟩
theorem inX12_classNames : Cond.instanceMethod yX12_classNames ∈ q_T := q_at 1657 (by decide +kernel) rfl
theorem seX12_classNames : Cond.selects RX12 yX12_classNames yX12_classNames ∈ q_T := q_inT (List.mem_append_left _ (List.mem_map.mpr ⟨(yX12_classNames, 46), List.mem_of_getElem? (i := 84) (by decide +kernel), rfl⟩)) rfl
def mX12_fieldOf : QM := (yX12_fieldOf, cX12_fieldOf, 6, some (.int))
set_option maxRecDepth 100000 in
theorem okX12_fieldOf : q_mok mX12_fieldOf := ⟨rfl, q_at 1695 rfl rfl, q_at 12 (by decide +kernel) rfl, by decide, by decide, rfl⟩
theorem inX12_fieldOf : Cond.instanceMethod yX12_fieldOf ∈ q_T := q_at 1694 (by decide +kernel) rfl
theorem seX12_fieldOf : Cond.selects RX12 yX12_fieldOf yX12_fieldOf ∈ q_T := q_inT (List.mem_append_left _ (List.mem_map.mpr ⟨(yX12_fieldOf, 46), List.mem_of_getElem? (i := 93) (by decide +kernel), rfl⟩)) rfl
def mX12_bodyOf : QM := (yX12_bodyOf, cX12_bodyOf, 7, some (.int))
set_option maxRecDepth 100000 in
theorem okX12_bodyOf : q_mok mX12_bodyOf := ⟨rfl, q_at 1710 rfl rfl, q_at 12 (by decide +kernel) rfl, by decide, by decide, rfl⟩
theorem inX12_bodyOf : Cond.instanceMethod yX12_bodyOf ∈ q_T := q_at 1709 (by decide +kernel) rfl
theorem seX12_bodyOf : Cond.selects RX12 yX12_bodyOf yX12_bodyOf ∈ q_T := q_inT (List.mem_append_left _ (List.mem_map.mpr ⟨(yX12_bodyOf, 46), List.mem_of_getElem? (i := 96) (by decide +kernel), rfl⟩)) rfl
def mX12_members : QM := (yX12_members, cX12_members, 4, some (.boolean))
set_option maxRecDepth 100000 in
theorem okX12_members : q_mok mX12_members := ⟨rfl, q_at 1687 rfl rfl, q_at 12 (by decide +kernel) rfl, by decide, by decide, rfl⟩
theorem inX12_members : Cond.instanceMethod yX12_members ∈ q_T := q_at 1686 (by decide +kernel) rfl
theorem seX12_members : Cond.selects RX12 yX12_members yX12_members ∈ q_T := q_inT (List.mem_append_left _ (List.mem_map.mpr ⟨(yX12_members, 46), List.mem_of_getElem? (i := 91) (by decide +kernel), rfl⟩)) rfl
def mX12_field : QM := (yX12_field, cX12_field, 5, some (.boolean))
set_option maxRecDepth 100000 in
theorem okX12_field : q_mok mX12_field := ⟨rfl, q_at 1691 rfl rfl, q_at 12 (by decide +kernel) rfl, by decide, by decide, rfl⟩
theorem inX12_field : Cond.instanceMethod yX12_field ∈ q_T := q_at 1690 (by decide +kernel) rfl
theorem seX12_field : Cond.selects RX12 yX12_field yX12_field ∈ q_T := q_inT (List.mem_append_left _ (List.mem_map.mpr ⟨(yX12_field, 46), List.mem_of_getElem? (i := 92) (by decide +kernel), rfl⟩)) rfl
def mX12_isSameRow : QM := (yX12_isSameRow, cX12_isSameRow, 4, some (.boolean))
