def mX5_told : QM := (yX5_told, cX5_told, 5, some (.int))
set_option maxRecDepth 100000 in
theorem okX5_told : q_mok mX5_told := ⟨rfl, q_at 1052 rfl rfl, q_at 3 (by decide +kernel) rfl, by decide, by decide, rfl⟩
theorem inX5_told : Cond.instanceMethod yX5_told ∈ q_T := q_at 1050 (by decide +kernel) rfl
theorem seX5_told : Cond.selects RX5 yX5_told yX5_told ∈ q_T := q_at 1051 (by decide +kernel) rfl
def mX5_leftBy : QM := (yX5_leftBy, cX5_leftBy, 2, some (.int))
set_option maxRecDepth 100000 in
theorem okX5_leftBy : q_mok mX5_leftBy := ⟨rfl, q_at 1036 rfl rfl, q_at 3 (by decide +kernel) rfl, by decide, by decide, rfl⟩
theorem inX5_leftBy : Cond.instanceMethod yX5_leftBy ∈ q_T := q_at 1034 (by decide +kernel) rfl
theorem seX5_leftBy : Cond.selects RX5 yX5_leftBy yX5_leftBy ∈ q_T := q_at 1035 (by decide +kernel) rfl
def mX5_suits : QM := (yX5_suits, cX5_suits, 7, some (.boolean))
set_option maxRecDepth 100000 in
theorem okX5_suits : q_mok mX5_suits := ⟨rfl, q_at 1047 rfl rfl, q_at 3 (by decide +kernel) rfl, by decide, by decide, rfl⟩
theorem inX5_suits : Cond.instanceMethod yX5_suits ∈ q_T := q_at 1045 (by decide +kernel) rfl
theorem seX5_suits : Cond.selects RX5 yX5_suits yX5_suits ∈ q_T := q_at 1046 (by decide +kernel) rfl
def mX6_init : QM := (yX6_init, cX6_init, 2, none)
set_option maxRecDepth 100000 in
theorem okX6_init : q_mok mX6_init := ⟨rfl, q_at 403 rfl rfl, q_at 10 (by decide +kernel) rfl, by decide, by decide, rfl⟩
theorem inX6_init : Cond.instanceMethod yX6_init ∈ q_T := q_at 402 (by decide +kernel) rfl
def mX6_addInput : QM := (yX6_addInput, cX6_addInput, 2, some (.boolean))
set_option maxRecDepth 100000 in
theorem okX6_addInput : q_mok mX6_addInput := ⟨rfl, q_at 1086 rfl rfl, q_at 10 (by decide +kernel) rfl, by decide, by decide, rfl⟩
theorem inX6_addInput : Cond.instanceMethod yX6_addInput ∈ q_T := q_at 1084 (by decide +kernel) rfl
theorem seX6_addInput : Cond.selects RX6 yX6_addInput yX6_addInput ∈ q_T := q_at 1085 (by decide +kernel) rfl
def mX6_outcomeOf : QM := (yX6_outcomeOf, cX6_outcomeOf, 4, some (.int))
set_option maxRecDepth 100000 in
theorem okX6_outcomeOf : q_mok mX6_outcomeOf := ⟨rfl, q_at 1094 rfl rfl, q_at 10 (by decide +kernel) rfl, by decide, by decide, rfl⟩
theorem inX6_outcomeOf : Cond.instanceMethod yX6_outcomeOf ∈ q_T := q_at 1092 (by decide +kernel) rfl
theorem seX6_outcomeOf : Cond.selects RX6 yX6_outcomeOf yX6_outcomeOf ∈ q_T := q_at 1093 (by decide +kernel) rfl
def mX6_step : QM := (yX6_step, cX6_step, 3, none)
set_option maxRecDepth 100000 in
theorem okX6_step : q_mok mX6_step := ⟨rfl, q_at 1105 rfl rfl, q_at 10 (by decide +kernel) rfl, by decide, by decide, rfl⟩
theorem inX6_step : Cond.instanceMethod yX6_step ∈ q_T := q_at 1104 (by decide +kernel) rfl
theorem seX6_step : Cond.selects RX6 yX6_step yX6_step ∈ q_T := q_inT (List.mem_append_left _ (List.mem_map.mpr ⟨(yX6_step, 19), List.mem_of_getElem? (i := 39) (by decide +kernel), rfl⟩)) rfl
def mX6_isStray : QM := (yX6_isStray, cX6_isStray, 4, some (.boolean))
set_option maxRecDepth 100000 in
theorem okX6_isStray : q_mok mX6_isStray := ⟨rfl, q_at 1109 rfl rfl, q_at 10 (by decide +kernel) rfl, by decide, by decide, rfl⟩
theorem inX6_isStray : Cond.instanceMethod yX6_isStray ∈ q_T := q_at 1108 (by decide +kernel) rfl
theorem seX6_isStray : Cond.selects RX6 yX6_isStray yX6_isStray ∈ q_T := q_inT (List.mem_append_left _ (List.mem_map.mpr ⟨(yX6_isStray, 19), List.mem_of_getElem? (i := 40) (by decide +kernel), rfl⟩)) rfl
def mX6_top : QM := (yX6_top, cX6_top, 1, some (.int))
set_option maxRecDepth 100000 in
theorem okX6_top : q_mok mX6_top := ⟨rfl, q_at 1113 rfl rfl, q_at 10 (by decide +kernel) rfl, by decide, by decide, rfl⟩
theorem inX6_top : Cond.instanceMethod yX6_top ∈ q_T := q_at 1112 (by decide +kernel) rfl
theorem seX6_top : Cond.selects RX6 yX6_top yX6_top ∈ q_T := q_inT (List.mem_append_left _ (List.mem_map.mpr ⟨(yX6_top, 19), List.mem_of_getElem? (i := 41) (by decide +kernel), rfl⟩)) rfl
def mX6_push : QM := (yX6_push, cX6_push, 4, none)
set_option maxRecDepth 100000 in
theorem okX6_push : q_mok mX6_push := ⟨rfl, q_at 1128 rfl rfl, q_at 10 (by decide +kernel) rfl, by decide, by decide, rfl⟩
theorem inX6_push : Cond.instanceMethod yX6_push ∈ q_T := q_at 1127 (by decide +kernel) rfl
theorem seX6_push : Cond.selects RX6 yX6_push yX6_push ∈ q_T := q_inT (List.mem_append_left _ (List.mem_map.mpr ⟨(yX6_push, 19), List.mem_of_getElem? (i := 44) (by decide +kernel), rfl⟩)) rfl
def mX6_pushInt : QM := (yX6_pushInt, cX6_pushInt, 2, none)
set_option maxRecDepth 100000 in
theorem okX6_pushInt : q_mok mX6_pushInt := ⟨rfl, q_at 1124 rfl rfl, q_at 10 (by decide +kernel) rfl, by decide, by decide, rfl⟩
theorem inX6_pushInt : Cond.instanceMethod yX6_pushInt ∈ q_T := q_at 1123 (by decide +kernel) rfl
theorem seX6_pushInt : Cond.selects RX6 yX6_pushInt yX6_pushInt ∈ q_T := q_inT (List.mem_append_left _ (List.mem_map.mpr ⟨(yX6_pushInt, 19), List.mem_of_getElem? (i := 43) (by decide +kernel), rfl⟩)) rfl
def mX6_pushObject : QM := (yX6_pushObject, cX6_pushObject, 2, none)
set_option maxRecDepth 100000 in
theorem okX6_pushObject : q_mok mX6_pushObject := ⟨rfl, q_at 1132 rfl rfl, q_at 10 (by decide +kernel) rfl, by decide, by decide, rfl⟩
theorem inX6_pushObject : Cond.instanceMethod yX6_pushObject ∈ q_T := q_at 1131 (by decide +kernel) rfl
theorem seX6_pushObject : Cond.selects RX6 yX6_pushObject yX6_pushObject ∈ q_T := q_inT (List.mem_append_left _ (List.mem_map.mpr ⟨(yX6_pushObject, 19), List.mem_of_getElem? (i := 45) (by decide +kernel), rfl⟩)) rfl
def mX6_pop : QM := (yX6_pop, cX6_pop, 1, some (.int))
set_option maxRecDepth 100000 in
theorem okX6_pop : q_mok mX6_pop := ⟨rfl, q_at 1136 rfl rfl, q_at 10 (by decide +kernel) rfl, by decide, by decide, rfl⟩
theorem inX6_pop : Cond.instanceMethod yX6_pop ∈ q_T := q_at 1135 (by decide +kernel) rfl
theorem seX6_pop : Cond.selects RX6 yX6_pop yX6_pop ∈ q_T := q_inT (List.mem_append_left _ (List.mem_map.mpr ⟨(yX6_pop, 19), List.mem_of_getElem? (i := 46) (by decide +kernel), rfl⟩)) rfl
def mX6_move : QM := (yX6_move, cX6_move, 6, none)
set_option maxRecDepth 100000 in
theorem okX6_move : q_mok mX6_move := ⟨rfl, q_at 1120 rfl rfl, q_at 10 (by decide +kernel) rfl, by decide, by decide, rfl⟩
theorem inX6_move : Cond.instanceMethod yX6_move ∈ q_T := q_at 1119 (by decide +kernel) rfl
theorem seX6_move : Cond.selects RX6 yX6_move yX6_move ∈ q_T := q_inT (List.mem_append_left _ (List.mem_map.mpr ⟨(yX6_move, 19), List.mem_of_getElem? (i := 42) (by decide +kernel), rfl⟩)) rfl
def mX6_swap : QM := (yX6_swap, cX6_swap, 5, none)
set_option maxRecDepth 100000 in
theorem okX6_swap : q_mok mX6_swap := ⟨rfl, q_at 1140 rfl rfl, q_at 10 (by decide +kernel) rfl, by decide, by decide, rfl⟩
theorem inX6_swap : Cond.instanceMethod yX6_swap ∈ q_T := q_at 1139 (by decide +kernel) rfl
theorem seX6_swap : Cond.selects RX6 yX6_swap yX6_swap ∈ q_T := q_inT (List.mem_append_left _ (List.mem_map.mpr ⟨(yX6_swap, 19), List.mem_of_getElem? (i := 47) (by decide +kernel), rfl⟩)) rfl
def mX6_calculate : QM := (yX6_calculate, cX6_calculate, 4, none)
set_option maxRecDepth 100000 in
theorem okX6_calculate : q_mok mX6_calculate := ⟨rfl, q_at 1144 rfl rfl, q_at 10 (by decide +kernel) rfl, by decide, by decide, rfl⟩
theorem inX6_calculate : Cond.instanceMethod yX6_calculate ∈ q_T := q_at 1143 (by decide +kernel) rfl
theorem seX6_calculate : Cond.selects RX6 yX6_calculate yX6_calculate ∈ q_T := q_inT (List.mem_append_left _ (List.mem_map.mpr ⟨(yX6_calculate, 19), List.mem_of_getElem? (i := 48) (by decide +kernel), rfl⟩)) rfl
def mX6_decide : QM := (yX6_decide, cX6_decide, 6, none)
set_option maxRecDepth 100000 in
theorem okX6_decide : q_mok mX6_decide := ⟨rfl, q_at 1157 rfl rfl, q_at 10 (by decide +kernel) rfl, by decide, by decide, rfl⟩
theorem inX6_decide : Cond.instanceMethod yX6_decide ∈ q_T := q_at 1156 (by decide +kernel) rfl
theorem seX6_decide : Cond.selects RX6 yX6_decide yX6_decide ∈ q_T := q_inT (List.mem_append_left _ (List.mem_map.mpr ⟨(yX6_decide, 19), List.mem_of_getElem? (i := 50) (by decide +kernel), rfl⟩)) rfl
def mX6_useArray : QM := (yX6_useArray, cX6_useArray, 6, none)
set_option maxRecDepth 100000 in
theorem okX6_useArray : q_mok mX6_useArray := ⟨rfl, q_at 1161 rfl rfl, q_at 10 (by decide +kernel) rfl, by decide, by decide, rfl⟩
theorem inX6_useArray : Cond.instanceMethod yX6_useArray ∈ q_T := q_at 1160 (by decide +kernel) rfl
theorem seX6_useArray : Cond.selects RX6 yX6_useArray yX6_useArray ∈ q_T := q_inT (List.mem_append_left _ (List.mem_map.mpr ⟨(yX6_useArray, 19), List.mem_of_getElem? (i := 51) (by decide +kernel), rfl⟩)) rfl
def mX6_mayHold : QM := (yX6_mayHold, cX6_mayHold, 4, some (.boolean))
set_option maxRecDepth 100000 in
theorem okX6_mayHold : q_mok mX6_mayHold := ⟨rfl, q_at 1182 rfl rfl, q_at 10 (by decide +kernel) rfl, by decide, by decide, rfl⟩
theorem inX6_mayHold : Cond.instanceMethod yX6_mayHold ∈ q_T := q_at 1181 (by decide +kernel) rfl
theorem seX6_mayHold : Cond.selects RX6 yX6_mayHold yX6_mayHold ∈ q_T := q_inT (List.mem_append_left _ (List.mem_map.mpr ⟨(yX6_mayHold, 19), List.mem_of_getElem? (i := 54) (by decide +kernel), rfl⟩)) rfl
def mX6_pushMade : QM := (yX6_pushMade, cX6_pushMade, 5, none)
set_option maxRecDepth 100000 in
theorem okX6_pushMade : q_mok mX6_pushMade := ⟨rfl, q_at 1165 rfl rfl, q_at 10 (by decide +kernel) rfl, by decide, by decide, rfl⟩
theorem inX6_pushMade : Cond.instanceMethod yX6_pushMade ∈ q_T := q_at 1164 (by decide +kernel) rfl
theorem seX6_pushMade : Cond.selects RX6 yX6_pushMade yX6_pushMade ∈ q_T := q_inT (List.mem_append_left _ (List.mem_map.mpr ⟨(yX6_pushMade, 19), List.mem_of_getElem? (i := 52) (by decide +kernel), rfl⟩)) rfl
def mX6_pushCell : QM := (yX6_pushCell, cX6_pushCell, 5, none)
set_option maxRecDepth 100000 in
theorem okX6_pushCell : q_mok mX6_pushCell := ⟨rfl, q_at 1173 rfl rfl, q_at 10 (by decide +kernel) rfl, by decide, by decide, rfl⟩
theorem inX6_pushCell : Cond.instanceMethod yX6_pushCell ∈ q_T := q_at 1172 (by decide +kernel) rfl
theorem seX6_pushCell : Cond.selects RX6 yX6_pushCell yX6_pushCell ∈ q_T := q_inT (List.mem_append_left _ (List.mem_map.mpr ⟨(yX6_pushCell, 19), List.mem_of_getElem? (i := 53) (by decide +kernel), rfl⟩)) rfl
def mX6_useObject : QM := (yX6_useObject, cX6_useObject, 8, none)
set_option maxRecDepth 100000 in
theorem okX6_useObject : q_mok mX6_useObject := ⟨rfl, q_at 1192 rfl rfl, q_at 10 (by decide +kernel) rfl, by decide, by decide, rfl⟩
theorem inX6_useObject : Cond.instanceMethod yX6_useObject ∈ q_T := q_at 1191 (by decide +kernel) rfl
theorem seX6_useObject : Cond.selects RX6 yX6_useObject yX6_useObject ∈ q_T := q_inT (List.mem_append_left _ (List.mem_map.mpr ⟨(yX6_useObject, 19), List.mem_of_getElem? (i := 55) (by decide +kernel), rfl⟩)) rfl
def mX6_transfer : QM := (yX6_transfer, cX6_transfer, 3, none)
set_option maxRecDepth 100000 in
theorem okX6_transfer : q_mok mX6_transfer := ⟨rfl, q_at 1196 rfl rfl, q_at 10 (by decide +kernel) rfl, by decide, by decide, rfl⟩
theorem inX6_transfer : Cond.instanceMethod yX6_transfer ∈ q_T := q_at 1195 (by decide +kernel) rfl
theorem seX6_transfer : Cond.selects RX6 yX6_transfer yX6_transfer ∈ q_T := q_inT (List.mem_append_left _ (List.mem_map.mpr ⟨(yX6_transfer, 19), List.mem_of_getElem? (i := 56) (by decide +kernel), rfl⟩)) rfl
def mX6_send : QM := (yX6_send, cX6_send, 3, none)
set_option maxRecDepth 100000 in
theorem okX6_send : q_mok mX6_send := ⟨rfl, q_at 1205 rfl rfl, q_at 10 (by decide +kernel) rfl, by decide, by decide, rfl⟩
theorem inX6_send : Cond.instanceMethod yX6_send ∈ q_T := q_at 1204 (by decide +kernel) rfl
theorem seX6_send : Cond.selects RX6 yX6_send yX6_send ∈ q_T := q_inT (List.mem_append_left _ (List.mem_map.mpr ⟨(yX6_send, 19), List.mem_of_getElem? (i := 58) (by decide +kernel), rfl⟩)) rfl
def mX6_enter : QM := (yX6_enter, cX6_enter, 5, none)
set_option maxRecDepth 100000 in
theorem okX6_enter : q_mok mX6_enter := ⟨rfl, q_at 1200 rfl rfl, q_at 10 (by decide +kernel) rfl, by decide, by decide, rfl⟩
theorem inX6_enter : Cond.instanceMethod yX6_enter ∈ q_T := q_at 1199 (by decide +kernel) rfl
theorem seX6_enter : Cond.selects RX6 yX6_enter yX6_enter ∈ q_T := q_inT (List.mem_append_left _ (List.mem_map.mpr ⟨(yX6_enter, 19), List.mem_of_getElem? (i := 57) (by decide +kernel), rfl⟩)) rfl
def mX6_leave : QM := (yX6_leave, cX6_leave, 3, none)
set_option maxRecDepth 100000 in
theorem okX6_leave : q_mok mX6_leave := ⟨rfl, q_at 1221 rfl rfl, q_at 10 (by decide +kernel) rfl, by decide, by decide, rfl⟩
theorem inX6_leave : Cond.instanceMethod yX6_leave ∈ q_T := q_at 1220 (by decide +kernel) rfl
theorem seX6_leave : Cond.selects RX6 yX6_leave yX6_leave ∈ q_T := q_inT (List.mem_append_left _ (List.mem_map.mpr ⟨(yX6_leave, 19), List.mem_of_getElem? (i := 61) (by decide +kernel), rfl⟩)) rfl
def mX6_write : QM := (yX6_write, cX6_write, 2, none)
set_option maxRecDepth 100000 in
theorem okX6_write : q_mok mX6_write := ⟨rfl, q_at 1217 rfl rfl, q_at 10 (by decide +kernel) rfl, by decide, by decide, rfl⟩
theorem inX6_write : Cond.instanceMethod yX6_write ∈ q_T := q_at 1216 (by decide +kernel) rfl
theorem seX6_write : Cond.selects RX6 yX6_write yX6_write ∈ q_T := q_inT (List.mem_append_left _ (List.mem_map.mpr ⟨(yX6_write, 19), List.mem_of_getElem? (i := 60) (by decide +kernel), rfl⟩)) rfl
def mX6_raise : QM := (yX6_raise, cX6_raise, 2, none)
set_option maxRecDepth 100000 in
theorem okX6_raise : q_mok mX6_raise := ⟨rfl, q_at 1148 rfl rfl, q_at 10 (by decide +kernel) rfl, by decide, by decide, rfl⟩
theorem inX6_raise : Cond.instanceMethod yX6_raise ∈ q_T := q_at 1147 (by decide +kernel) rfl
theorem seX6_raise : Cond.selects RX6 yX6_raise yX6_raise ∈ q_T := q_inT (List.mem_append_left _ (List.mem_map.mpr ⟨(yX6_raise, 19), List.mem_of_getElem? (i := 49) (by decide +kernel), rfl⟩)) rfl
def mX6_raiseObject : QM := (yX6_raiseObject, cX6_raiseObject, 2, none)
set_option maxRecDepth 100000 in
theorem okX6_raiseObject : q_mok mX6_raiseObject := ⟨rfl, q_at 1213 rfl rfl, q_at 10 (by decide +kernel) rfl, by decide, by decide, rfl⟩
theorem inX6_raiseObject : Cond.instanceMethod yX6_raiseObject ∈ q_T := q_at 1212 (by decide +kernel) rfl
theorem seX6_raiseObject : Cond.selects RX6 yX6_raiseObject yX6_raiseObject ∈ q_T := q_inT (List.mem_append_left _ (List.mem_map.mpr ⟨(yX6_raiseObject, 19), List.mem_of_getElem? (i := 59) (by decide +kernel), rfl⟩)) rfl
def mX6_passUp : QM := (yX6_passUp, cX6_passUp, 5, none)
set_option maxRecDepth 100000 in
theorem okX6_passUp : q_mok mX6_passUp := ⟨rfl, q_at 1225 rfl rfl, q_at 10 (by decide +kernel) rfl, by decide, by decide, rfl⟩
theorem inX6_passUp : Cond.instanceMethod yX6_passUp ∈ q_T := q_at 1224 (by decide +kernel) rfl
theorem seX6_passUp : Cond.selects RX6 yX6_passUp yX6_passUp ∈ q_T := q_inT (List.mem_append_left _ (List.mem_map.mpr ⟨(yX6_passUp, 19), List.mem_of_getElem? (i := 62) (by decide +kernel), rfl⟩)) rfl
def mX6_handlerOf : QM := (yX6_handlerOf, cX6_handlerOf, 5, some (.int))
set_option maxRecDepth 100000 in
theorem okX6_handlerOf : q_mok mX6_handlerOf := ⟨rfl, q_at 1229 rfl rfl, q_at 10 (by decide +kernel) rfl, by decide, by decide, rfl⟩
theorem inX6_handlerOf : Cond.instanceMethod yX6_handlerOf ∈ q_T := q_at 1228 (by decide +kernel) rfl
theorem seX6_handlerOf : Cond.selects RX6 yX6_handlerOf yX6_handlerOf ∈ q_T := q_inT (List.mem_append_left _ (List.mem_map.mpr ⟨(yX6_handlerOf, 19), List.mem_of_getElem? (i := 63) (by decide +kernel), rfl⟩)) rfl
def mX7_init : QM := (yX7_init, cX7_init, 2, none)
set_option maxRecDepth 100000 in
theorem okX7_init : q_mok mX7_init := ⟨rfl, q_at 296 rfl rfl, q_at 6 (by decide +kernel) rfl, by decide, by decide, rfl⟩
theorem inX7_init : Cond.instanceMethod yX7_init ∈ q_T := q_at 295 (by decide +kernel) rfl
def mX7_firstFault : QM := (yX7_firstFault, cX7_firstFault, 3, some (.int))
set_option maxRecDepth 100000 in
theorem okX7_firstFault : q_mok mX7_firstFault := ⟨rfl, q_at 567 rfl rfl, q_at 6 (by decide +kernel) rfl, by decide, by decide, rfl⟩
theorem inX7_firstFault : Cond.instanceMethod yX7_firstFault ∈ q_T := q_at 565 (by decide +kernel) rfl
theorem seX7_firstFault : Cond.selects RX7 yX7_firstFault yX7_firstFault ∈ q_T := q_at 566 (by decide +kernel) rfl
def mX7_takesPart : QM := (yX7_takesPart, cX7_takesPart, 3, some (.boolean))
set_option maxRecDepth 100000 in
theorem okX7_takesPart : q_mok mX7_takesPart := ⟨rfl, q_at 619 rfl rfl, q_at 6 (by decide +kernel) rfl, by decide, by decide, rfl⟩
theorem inX7_takesPart : Cond.instanceMethod yX7_takesPart ∈ q_T := q_at 618 (by decide +kernel) rfl
theorem seX7_takesPart : Cond.selects RX7 yX7_takesPart yX7_takesPart ∈ q_T := q_inT (List.mem_append_left _ (List.mem_map.mpr ⟨(yX7_takesPart, 4), List.mem_of_getElem? (i := 0) (by decide +kernel), rfl⟩)) rfl
def mX7_begins : QM := (yX7_begins, cX7_begins, 2, some (.boolean))
set_option maxRecDepth 100000 in
theorem okX7_begins : q_mok mX7_begins := ⟨rfl, q_at 687 rfl rfl, q_at 6 (by decide +kernel) rfl, by decide, by decide, rfl⟩
theorem inX7_begins : Cond.instanceMethod yX7_begins ∈ q_T := q_at 686 (by decide +kernel) rfl
theorem seX7_begins : Cond.selects RX7 yX7_begins yX7_begins ∈ q_T := q_inT (List.mem_append_left _ (List.mem_map.mpr ⟨(yX7_begins, 4), List.mem_of_getElem? (i := 3) (by decide +kernel), rfl⟩)) rfl
def mX7_beginsClass : QM := (yX7_beginsClass, cX7_beginsClass, 2, some (.boolean))
set_option maxRecDepth 100000 in
theorem okX7_beginsClass : q_mok mX7_beginsClass := ⟨rfl, q_at 691 rfl rfl, q_at 6 (by decide +kernel) rfl, by decide, by decide, rfl⟩
theorem inX7_beginsClass : Cond.instanceMethod yX7_beginsClass ∈ q_T := q_at 690 (by decide +kernel) rfl
theorem seX7_beginsClass : Cond.selects RX7 yX7_beginsClass yX7_beginsClass ∈ q_T := q_inT (List.mem_append_left _ (List.mem_map.mpr ⟨(yX7_beginsClass, 4), List.mem_of_getElem? (i := 4) (by decide +kernel), rfl⟩)) rfl
def mX7_beginsMember : QM := (yX7_beginsMember, cX7_beginsMember, 3, some (.boolean))
set_option maxRecDepth 100000 in
theorem okX7_beginsMember : q_mok mX7_beginsMember := ⟨rfl, q_at 701 rfl rfl, q_at 6 (by decide +kernel) rfl, by decide, by decide, rfl⟩
theorem inX7_beginsMember : Cond.instanceMethod yX7_beginsMember ∈ q_T := q_at 700 (by decide +kernel) rfl
theorem seX7_beginsMember : Cond.selects RX7 yX7_beginsMember yX7_beginsMember ∈ q_T := q_inT (List.mem_append_left _ (List.mem_map.mpr ⟨(yX7_beginsMember, 4), List.mem_of_getElem? (i := 6) (by decide +kernel), rfl⟩)) rfl
def mX7_beginsLine : QM := (yX7_beginsLine, cX7_beginsLine, 5, some (.boolean))
set_option maxRecDepth 100000 in
theorem okX7_beginsLine : q_mok mX7_beginsLine := ⟨rfl, q_at 710 rfl rfl, q_at 6 (by decide +kernel) rfl, by decide, by decide, rfl⟩
theorem inX7_beginsLine : Cond.instanceMethod yX7_beginsLine ∈ q_T := q_at 709 (by decide +kernel) rfl
theorem seX7_beginsLine : Cond.selects RX7 yX7_beginsLine yX7_beginsLine ∈ q_T := q_inT (List.mem_append_left _ (List.mem_map.mpr ⟨(yX7_beginsLine, 4), List.mem_of_getElem? (i := 7) (by decide +kernel), rfl⟩)) rfl
def mX7_expect : QM := (yX7_expect, cX7_expect, 4, none)
set_option maxRecDepth 100000 in
theorem okX7_expect : q_mok mX7_expect := ⟨rfl, q_at 696 rfl rfl, q_at 6 (by decide +kernel) rfl, by decide, by decide, rfl⟩
theorem inX7_expect : Cond.instanceMethod yX7_expect ∈ q_T := q_at 695 (by decide +kernel) rfl
theorem seX7_expect : Cond.selects RX7 yX7_expect yX7_expect ∈ q_T := q_inT (List.mem_append_left _ (List.mem_map.mpr ⟨(yX7_expect, 4), List.mem_of_getElem? (i := 5) (by decide +kernel), rfl⟩)) rfl
def mX7_operandsOf : QM := (yX7_operandsOf, cX7_operandsOf, 1, some (.object "java/lang/String"))
set_option maxRecDepth 100000 in
theorem okX7_operandsOf : q_mok mX7_operandsOf := ⟨rfl, q_at 723 rfl rfl, q_at 6 (by decide +kernel) rfl, by decide, by decide, rfl⟩
theorem inX7_operandsOf : Cond.static yX7_operandsOf ∈ q_T := q_at 722 (by decide +kernel) rfl
def mX8_init : QM := (yX8_init, cX8_init, 1, none)
set_option maxRecDepth 100000 in
theorem okX8_init : q_mok mX8_init := ⟨rfl, q_at 34 rfl rfl, q_at 2 (by decide +kernel) rfl, by decide, by decide, rfl⟩
theorem inX8_init : Cond.instanceMethod yX8_init ∈ q_T := q_at 33 (by decide +kernel) rfl
def mX8_take : QM := (yX8_take, cX8_take, 4, none)
set_option maxRecDepth 100000 in
theorem okX8_take : q_mok mX8_take := ⟨rfl, q_at 555 rfl rfl, q_at 2 (by decide +kernel) rfl, by decide, by decide, rfl⟩
theorem inX8_take : Cond.instanceMethod yX8_take ∈ q_T := q_at 553 (by decide +kernel) rfl
theorem seX8_take : Cond.selects RX8 yX8_take yX8_take ∈ q_T := q_at 554 (by decide +kernel) rfl
def mX8_useUp : QM := (yX8_useUp, cX8_useUp, 1, none)
set_option maxRecDepth 100000 in
theorem okX8_useUp : q_mok mX8_useUp := ⟨rfl, q_at 1062 rfl rfl, q_at 2 (by decide +kernel) rfl, by decide, by decide, rfl⟩
theorem inX8_useUp : Cond.instanceMethod yX8_useUp ∈ q_T := q_at 1060 (by decide +kernel) rfl
theorem seX8_useUp : Cond.selects RX8 yX8_useUp yX8_useUp ∈ q_T := q_at 1061 (by decide +kernel) rfl
def mX8_split : QM := (yX8_split, cX8_split, 7, some (.boolean))
set_option maxRecDepth 100000 in
theorem okX8_split : q_mok mX8_split := ⟨rfl, q_at 563 rfl rfl, q_at 2 (by decide +kernel) rfl, by decide, by decide, rfl⟩
theorem inX8_split : Cond.instanceMethod yX8_split ∈ q_T := q_at 561 (by decide +kernel) rfl
theorem seX8_split : Cond.selects RX8 yX8_split yX8_split ∈ q_T := q_at 562 (by decide +kernel) rfl
def mX8_start : QM := (yX8_start, cX8_start, 2, some (.int))
set_option maxRecDepth 100000 in
theorem okX8_start : q_mok mX8_start := ⟨rfl, q_at 631 rfl rfl, q_at 2 (by decide +kernel) rfl, by decide, by decide, rfl⟩
theorem inX8_start : Cond.instanceMethod yX8_start ∈ q_T := q_at 629 (by decide +kernel) rfl
theorem seX8_start : Cond.selects RX8 yX8_start yX8_start ∈ q_T := q_at 630 (by decide +kernel) rfl
def mX8_stop : QM := (yX8_stop, cX8_stop, 2, some (.int))
set_option maxRecDepth 100000 in
theorem okX8_stop : q_mok mX8_stop := ⟨rfl, q_at 639 rfl rfl, q_at 2 (by decide +kernel) rfl, by decide, by decide, rfl⟩
theorem inX8_stop : Cond.instanceMethod yX8_stop ∈ q_T := q_at 637 (by decide +kernel) rfl
theorem seX8_stop : Cond.selects RX8 yX8_stop yX8_stop ∈ q_T := q_at 638 (by decide +kernel) rfl
def mX8_isMark : QM := (yX8_isMark, cX8_isMark, 3, some (.boolean))
set_option maxRecDepth 100000 in
theorem okX8_isMark : q_mok mX8_isMark := ⟨rfl, q_at 623 rfl rfl, q_at 2 (by decide +kernel) rfl, by decide, by decide, rfl⟩
theorem inX8_isMark : Cond.instanceMethod yX8_isMark ∈ q_T := q_at 621 (by decide +kernel) rfl
theorem seX8_isMark : Cond.selects RX8 yX8_isMark yX8_isMark ∈ q_T := q_at 622 (by decide +kernel) rfl
def mX8_isWord : QM := (yX8_isWord, cX8_isWord, 3, some (.boolean))
set_option maxRecDepth 100000 in
theorem okX8_isWord : q_mok mX8_isWord := ⟨rfl, q_at 664 rfl rfl, q_at 2 (by decide +kernel) rfl, by decide, by decide, rfl⟩
theorem inX8_isWord : Cond.instanceMethod yX8_isWord ∈ q_T := q_at 662 (by decide +kernel) rfl
theorem seX8_isWord : Cond.selects RX8 yX8_isWord yX8_isWord ∈ q_T := q_at 663 (by decide +kernel) rfl
def mX8_isText : QM := (yX8_isText, cX8_isText, 5, some (.boolean))
set_option maxRecDepth 100000 in
theorem okX8_isText : q_mok mX8_isText := ⟨rfl, q_at 644 rfl rfl, q_at 2 (by decide +kernel) rfl, by decide, by decide, rfl⟩
theorem inX8_isText : Cond.instanceMethod yX8_isText ∈ q_T := q_at 642 (by decide +kernel) rfl
theorem seX8_isText : Cond.selects RX8 yX8_isText yX8_isText ∈ q_T := q_at 643 (by decide +kernel) rfl
def mX8_same : QM := (yX8_same, cX8_same, 6, some (.boolean))
set_option maxRecDepth 100000 in
theorem okX8_same : q_mok mX8_same := ⟨rfl, q_at 775 rfl rfl, q_at 2 (by decide +kernel) rfl, by decide, by decide, rfl⟩
theorem inX8_same : Cond.instanceMethod yX8_same ∈ q_T := q_at 773 (by decide +kernel) rfl
theorem seX8_same : Cond.selects RX8 yX8_same yX8_same ∈ q_T := q_at 774 (by decide +kernel) rfl
def mX8_numberIn : QM := (yX8_numberIn, cX8_numberIn, 9, some (.int))
set_option maxRecDepth 100000 in
theorem okX8_numberIn : q_mok mX8_numberIn := ⟨rfl, q_at 717 rfl rfl, q_at 2 (by decide +kernel) rfl, by decide, by decide, rfl⟩
theorem inX8_numberIn : Cond.instanceMethod yX8_numberIn ∈ q_T := q_at 715 (by decide +kernel) rfl
theorem seX8_numberIn : Cond.selects RX8 yX8_numberIn yX8_numberIn ∈ q_T := q_at 716 (by decide +kernel) rfl
def mX8_isName : QM := (yX8_isName, cX8_isName, 2, some (.boolean))
set_option maxRecDepth 100000 in
theorem okX8_isName : q_mok mX8_isName := ⟨rfl, q_at 655 rfl rfl, q_at 2 (by decide +kernel) rfl, by decide, by decide, rfl⟩
theorem inX8_isName : Cond.instanceMethod yX8_isName ∈ q_T := q_at 653 (by decide +kernel) rfl
theorem seX8_isName : Cond.selects RX8 yX8_isName yX8_isName ∈ q_T := q_at 654 (by decide +kernel) rfl
def mX8_isClassName : QM := (yX8_isClassName, cX8_isClassName, 2, some (.boolean))
set_option maxRecDepth 100000 in
theorem okX8_isClassName : q_mok mX8_isClassName := ⟨rfl, q_at 659 rfl rfl, q_at 2 (by decide +kernel) rfl, by decide, by decide, rfl⟩
theorem inX8_isClassName : Cond.instanceMethod yX8_isClassName ∈ q_T := q_at 657 (by decide +kernel) rfl
theorem seX8_isClassName : Cond.selects RX8 yX8_isClassName yX8_isClassName ∈ q_T := q_at 658 (by decide +kernel) rfl
def mX8_isNamed : QM := (yX8_isNamed, cX8_isNamed, 7, some (.boolean))
set_option maxRecDepth 100000 in
theorem okX8_isNamed : q_mok mX8_isNamed := ⟨rfl, q_at 651 rfl rfl, q_at 2 (by decide +kernel) rfl, by decide, by decide, rfl⟩
theorem inX8_isNamed : Cond.instanceMethod yX8_isNamed ∈ q_T := q_at 650 (by decide +kernel) rfl
theorem seX8_isNamed : Cond.selects RX8 yX8_isNamed yX8_isNamed ∈ q_T := q_inT (List.mem_append_left _ (List.mem_map.mpr ⟨(yX8_isNamed, 6), List.mem_of_getElem? (i := 1) (by decide +kernel), rfl⟩)) rfl
def mX8_isReference : QM := (yX8_isReference, cX8_isReference, 3, some (.boolean))
set_option maxRecDepth 100000 in
theorem okX8_isReference : q_mok mX8_isReference := ⟨rfl, q_at 679 rfl rfl, q_at 2 (by decide +kernel) rfl, by decide, by decide, rfl⟩
theorem inX8_isReference : Cond.instanceMethod yX8_isReference ∈ q_T := q_at 677 (by decide +kernel) rfl
theorem seX8_isReference : Cond.selects RX8 yX8_isReference yX8_isReference ∈ q_T := q_at 678 (by decide +kernel) rfl
def mX8_dotOf : QM := (yX8_dotOf, cX8_dotOf, 3, some (.int))
set_option maxRecDepth 100000 in
theorem okX8_dotOf : q_mok mX8_dotOf := ⟨rfl, q_at 683 rfl rfl, q_at 2 (by decide +kernel) rfl, by decide, by decide, rfl⟩
theorem inX8_dotOf : Cond.instanceMethod yX8_dotOf ∈ q_T := q_at 681 (by decide +kernel) rfl
theorem seX8_dotOf : Cond.selects RX8 yX8_dotOf yX8_dotOf ∈ q_T := q_at 682 (by decide +kernel) rfl
def mX8_isType : QM := (yX8_isType, cX8_isType, 4, some (.boolean))
set_option maxRecDepth 100000 in
theorem okX8_isType : q_mok mX8_isType := ⟨rfl, q_at 627 rfl rfl, q_at 2 (by decide +kernel) rfl, by decide, by decide, rfl⟩
theorem inX8_isType : Cond.instanceMethod yX8_isType ∈ q_T := q_at 625 (by decide +kernel) rfl
theorem seX8_isType : Cond.selects RX8 yX8_isType yX8_isType ∈ q_T := q_at 626 (by decide +kernel) rfl
def mX8_elementStop : QM := (yX8_elementStop, cX8_elementStop, 3, some (.int))
set_option maxRecDepth 100000 in
theorem okX8_elementStop : q_mok mX8_elementStop := ⟨rfl, q_at 635 rfl rfl, q_at 2 (by decide +kernel) rfl, by decide, by decide, rfl⟩
theorem inX8_elementStop : Cond.instanceMethod yX8_elementStop ∈ q_T := q_at 633 (by decide +kernel) rfl
theorem seX8_elementStop : Cond.selects RX8 yX8_elementStop yX8_elementStop ∈ q_T := q_at 634 (by decide +kernel) rfl
def mX8_isNumber : QM := (yX8_isNumber, cX8_isNumber, 6, some (.boolean))
set_option maxRecDepth 100000 in
theorem okX8_isNumber : q_mok mX8_isNumber := ⟨rfl, q_at 669 rfl rfl, q_at 2 (by decide +kernel) rfl, by decide, by decide, rfl⟩
theorem inX8_isNumber : Cond.instanceMethod yX8_isNumber ∈ q_T := q_at 667 (by decide +kernel) rfl
theorem seX8_isNumber : Cond.selects RX8 yX8_isNumber yX8_isNumber ∈ q_T := q_at 668 (by decide +kernel) rfl
def mX8_number : QM := (yX8_number, cX8_number, 2, some (.int))
set_option maxRecDepth 100000 in
theorem okX8_number : q_mok mX8_number := ⟨rfl, q_at 852 rfl rfl, q_at 2 (by decide +kernel) rfl, by decide, by decide, rfl⟩
theorem inX8_number : Cond.instanceMethod yX8_number ∈ q_T := q_at 850 (by decide +kernel) rfl
theorem seX8_number : Cond.selects RX8 yX8_number yX8_number ∈ q_T := q_at 851 (by decide +kernel) rfl
def mX8_longOf : QM := (yX8_longOf, cX8_longOf, 6, some (.long))
set_option maxRecDepth 100000 in
theorem okX8_longOf : q_mok mX8_longOf := ⟨rfl, q_at 673 rfl rfl, q_at 2 (by decide +kernel) rfl, by decide, by decide, rfl⟩
theorem inX8_longOf : Cond.instanceMethod yX8_longOf ∈ q_T := q_at 672 (by decide +kernel) rfl
theorem seX8_longOf : Cond.selects RX8 yX8_longOf yX8_longOf ∈ q_T := q_inT (List.mem_append_left _ (List.mem_map.mpr ⟨(yX8_longOf, 6), List.mem_of_getElem? (i := 2) (by decide +kernel), rfl⟩)) rfl
def mX9_init : QM := (yX9_init, cX9_init, 2, none)
set_option maxRecDepth 100000 in
theorem okX9_init : q_mok mX9_init := ⟨rfl, q_at 372 rfl rfl, q_at 9 (by decide +kernel) rfl, by decide, by decide, rfl⟩
theorem inX9_init : Cond.instanceMethod yX9_init ∈ q_T := q_at 371 (by decide +kernel) rfl
def mX9_begin : QM := (yX9_begin, cX9_begin, 2, none)
set_option maxRecDepth 100000 in
theorem okX9_begin : q_mok mX9_begin := ⟨rfl, q_at 930 rfl rfl, q_at 9 (by decide +kernel) rfl, by decide, by decide, rfl⟩
theorem inX9_begin : Cond.instanceMethod yX9_begin ∈ q_T := q_at 928 (by decide +kernel) rfl
theorem seX9_begin : Cond.selects RX9 yX9_begin yX9_begin ∈ q_T := q_at 929 (by decide +kernel) rfl
def mX9_firstFault : QM := (yX9_firstFault, cX9_firstFault, 6, some (.int))
set_option maxRecDepth 100000 in
theorem okX9_firstFault : q_mok mX9_firstFault := ⟨rfl, q_at 985 rfl rfl, q_at 9 (by decide +kernel) rfl, by decide, by decide, rfl⟩
theorem inX9_firstFault : Cond.instanceMethod yX9_firstFault ∈ q_T := q_at 983 (by decide +kernel) rfl
