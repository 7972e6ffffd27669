set_option maxRecDepth 100000 in
theorem okX12_isSameRow : q_mok mX12_isSameRow := ⟨rfl, q_at 1714 rfl rfl, q_at 12 (by decide +kernel) rfl, by decide, by decide, rfl⟩
theorem inX12_isSameRow : Cond.instanceMethod yX12_isSameRow ∈ q_T := q_at 1713 (by decide +kernel) rfl
theorem seX12_isSameRow : Cond.selects RX12 yX12_isSameRow yX12_isSameRow ∈ q_T := q_inT (List.mem_append_left _ (List.mem_map.mpr ⟨(yX12_isSameRow, 46), List.mem_of_getElem? (i := 97) (by decide +kernel), rfl⟩)) rfl
def mX12_body : QM := (yX12_body, cX12_body, 12, some (.boolean))
set_option maxRecDepth 100000 in
theorem okX12_body : q_mok mX12_body := ⟨rfl, q_at 1706 rfl rfl, q_at 12 (by decide +kernel) rfl, by decide, by decide, rfl⟩
theorem inX12_body : Cond.instanceMethod yX12_body ∈ q_T := q_at 1705 (by decide +kernel) rfl
theorem seX12_body : Cond.selects RX12 yX12_body yX12_body ∈ q_T := q_inT (List.mem_append_left _ (List.mem_map.mpr ⟨(yX12_body, 46), List.mem_of_getElem? (i := 95) (by decide +kernel), rfl⟩)) rfl
def mX12_lines : QM := (yX12_lines, cX12_lines, 3, some (.boolean))
set_option maxRecDepth 100000 in
theorem okX12_lines : q_mok mX12_lines := ⟨rfl, q_at 1727 rfl rfl, q_at 12 (by decide +kernel) rfl, by decide, by decide, rfl⟩
theorem inX12_lines : Cond.instanceMethod yX12_lines ∈ q_T := q_at 1726 (by decide +kernel) rfl
theorem seX12_lines : Cond.selects RX12 yX12_lines yX12_lines ∈ q_T := q_inT (List.mem_append_left _ (List.mem_map.mpr ⟨(yX12_lines, 46), List.mem_of_getElem? (i := 100) (by decide +kernel), rfl⟩)) rfl
def mX12_lineLength : QM := (yX12_lineLength, cX12_lineLength, 3, some (.int))
set_option maxRecDepth 100000 in
theorem okX12_lineLength : q_mok mX12_lineLength := ⟨rfl, q_at 1735 rfl rfl, q_at 12 (by decide +kernel) rfl, by decide, by decide, rfl⟩
theorem inX12_lineLength : Cond.instanceMethod yX12_lineLength ∈ q_T := q_at 1734 (by decide +kernel) rfl
theorem seX12_lineLength : Cond.selects RX12 yX12_lineLength yX12_lineLength ∈ q_T := q_inT (List.mem_append_left _ (List.mem_map.mpr ⟨(yX12_lineLength, 46), List.mem_of_getElem? (i := 102) (by decide +kernel), rfl⟩)) rfl
def mX12_linesOf : QM := (yX12_linesOf, cX12_linesOf, 9, some (.boolean))
set_option maxRecDepth 100000 in
theorem okX12_linesOf : q_mok mX12_linesOf := ⟨rfl, q_at 1731 rfl rfl, q_at 12 (by decide +kernel) rfl, by decide, by decide, rfl⟩
theorem inX12_linesOf : Cond.instanceMethod yX12_linesOf ∈ q_T := q_at 1730 (by decide +kernel) rfl
theorem seX12_linesOf : Cond.selects RX12 yX12_linesOf yX12_linesOf ∈ q_T := q_inT (List.mem_append_left _ (List.mem_map.mpr ⟨(yX12_linesOf, 46), List.mem_of_getElem? (i := 101) (by decide +kernel), rfl⟩)) rfl
def mX12_label : QM := (yX12_label, cX12_label, 3, some (.int))
set_option maxRecDepth 100000 in
theorem okX12_label : q_mok mX12_label := ⟨rfl, q_at 1739 rfl rfl, q_at 12 (by decide +kernel) rfl, by decide, by decide, rfl⟩
theorem inX12_label : Cond.instanceMethod yX12_label ∈ q_T := q_at 1738 (by decide +kernel) rfl
theorem seX12_label : Cond.selects RX12 yX12_label yX12_label ∈ q_T := q_inT (List.mem_append_left _ (List.mem_map.mpr ⟨(yX12_label, 46), List.mem_of_getElem? (i := 103) (by decide +kernel), rfl⟩)) rfl
def mX12_labelAt : QM := (yX12_labelAt, cX12_labelAt, 3, some (.int))
set_option maxRecDepth 100000 in
theorem okX12_labelAt : q_mok mX12_labelAt := ⟨rfl, q_at 1747 rfl rfl, q_at 12 (by decide +kernel) rfl, by decide, by decide, rfl⟩
theorem inX12_labelAt : Cond.instanceMethod yX12_labelAt ∈ q_T := q_at 1746 (by decide +kernel) rfl
theorem seX12_labelAt : Cond.selects RX12 yX12_labelAt yX12_labelAt ∈ q_T := q_inT (List.mem_append_left _ (List.mem_map.mpr ⟨(yX12_labelAt, 46), List.mem_of_getElem? (i := 105) (by decide +kernel), rfl⟩)) rfl
def mX12_catchLine : QM := (yX12_catchLine, cX12_catchLine, 9, some (.boolean))
set_option maxRecDepth 100000 in
theorem okX12_catchLine : q_mok mX12_catchLine := ⟨rfl, q_at 1743 rfl rfl, q_at 12 (by decide +kernel) rfl, by decide, by decide, rfl⟩
theorem inX12_catchLine : Cond.instanceMethod yX12_catchLine ∈ q_T := q_at 1742 (by decide +kernel) rfl
theorem seX12_catchLine : Cond.selects RX12 yX12_catchLine yX12_catchLine ∈ q_T := q_inT (List.mem_append_left _ (List.mem_map.mpr ⟨(yX12_catchLine, 46), List.mem_of_getElem? (i := 104) (by decide +kernel), rfl⟩)) rfl
def mX12_code : QM := (yX12_code, cX12_code, 7, some (.boolean))
set_option maxRecDepth 100000 in
theorem okX12_code : q_mok mX12_code := ⟨rfl, q_at 1751 rfl rfl, q_at 12 (by decide +kernel) rfl, by decide, by decide, rfl⟩
theorem inX12_code : Cond.instanceMethod yX12_code ∈ q_T := q_at 1750 (by decide +kernel) rfl
theorem seX12_code : Cond.selects RX12 yX12_code yX12_code ∈ q_T := q_inT (List.mem_append_left _ (List.mem_map.mpr ⟨(yX12_code, 46), List.mem_of_getElem? (i := 106) (by decide +kernel), rfl⟩)) rfl
def mX12_localStep : QM := (yX12_localStep, cX12_localStep, 7, some (.boolean))
set_option maxRecDepth 100000 in
theorem okX12_localStep : q_mok mX12_localStep := ⟨rfl, q_at 1755 rfl rfl, q_at 12 (by decide +kernel) rfl, by decide, by decide, rfl⟩
theorem inX12_localStep : Cond.instanceMethod yX12_localStep ∈ q_T := q_at 1754 (by decide +kernel) rfl
theorem seX12_localStep : Cond.selects RX12 yX12_localStep yX12_localStep ∈ q_T := q_inT (List.mem_append_left _ (List.mem_map.mpr ⟨(yX12_localStep, 46), List.mem_of_getElem? (i := 107) (by decide +kernel), rfl⟩)) rfl
def mX12_makes : QM := (yX12_makes, cX12_makes, 6, some (.boolean))
set_option maxRecDepth 100000 in
theorem okX12_makes : q_mok mX12_makes := ⟨rfl, q_at 1759 rfl rfl, q_at 12 (by decide +kernel) rfl, by decide, by decide, rfl⟩
theorem inX12_makes : Cond.instanceMethod yX12_makes ∈ q_T := q_at 1758 (by decide +kernel) rfl
theorem seX12_makes : Cond.selects RX12 yX12_makes yX12_makes ∈ q_T := q_inT (List.mem_append_left _ (List.mem_map.mpr ⟨(yX12_makes, 46), List.mem_of_getElem? (i := 108) (by decide +kernel), rfl⟩)) rfl
def mX12_reference : QM := (yX12_reference, cX12_reference, 8, some (.boolean))
set_option maxRecDepth 100000 in
theorem okX12_reference : q_mok mX12_reference := ⟨rfl, q_at 1763 rfl rfl, q_at 12 (by decide +kernel) rfl, by decide, by decide, rfl⟩
theorem inX12_reference : Cond.instanceMethod yX12_reference ∈ q_T := q_at 1762 (by decide +kernel) rfl
theorem seX12_reference : Cond.selects RX12 yX12_reference yX12_reference ∈ q_T := q_inT (List.mem_append_left _ (List.mem_map.mpr ⟨(yX12_reference, 46), List.mem_of_getElem? (i := 109) (by decide +kernel), rfl⟩)) rfl
def mX12_settled : QM := (yX12_settled, cX12_settled, 5, some (.boolean))
set_option maxRecDepth 100000 in
theorem okX12_settled : q_mok mX12_settled := ⟨rfl, q_at 1767 rfl rfl, q_at 12 (by decide +kernel) rfl, by decide, by decide, rfl⟩
theorem inX12_settled : Cond.instanceMethod yX12_settled ∈ q_T := q_at 1766 (by decide +kernel) rfl
theorem seX12_settled : Cond.selects RX12 yX12_settled yX12_settled ∈ q_T := q_inT (List.mem_append_left _ (List.mem_map.mpr ⟨(yX12_settled, 46), List.mem_of_getElem? (i := 110) (by decide +kernel), rfl⟩)) rfl
def mX12_howMany : QM := (yX12_howMany, cX12_howMany, 3, some (.int))
set_option maxRecDepth 100000 in
theorem okX12_howMany : q_mok mX12_howMany := ⟨rfl, q_at 1780 rfl rfl, q_at 12 (by decide +kernel) rfl, by decide, by decide, rfl⟩
theorem inX12_howMany : Cond.static yX12_howMany ∈ q_T := q_at 1779 (by decide +kernel) rfl
def mX12_leaves : QM := (yX12_leaves, cX12_leaves, 3, some (.int))
set_option maxRecDepth 100000 in
theorem okX12_leaves : q_mok mX12_leaves := ⟨rfl, q_at 1783 rfl rfl, q_at 12 (by decide +kernel) rfl, by decide, by decide, rfl⟩
theorem inX12_leaves : Cond.static yX12_leaves ∈ q_T := q_at 1782 (by decide +kernel) rfl
def mX12_hasNext : QM := (yX12_hasNext, cX12_hasNext, 1, some (.boolean))
set_option maxRecDepth 100000 in
theorem okX12_hasNext : q_mok mX12_hasNext := ⟨rfl, q_at 1786 rfl rfl, q_at 12 (by decide +kernel) rfl, by decide, by decide, rfl⟩
theorem inX12_hasNext : Cond.static yX12_hasNext ∈ q_T := q_at 1785 (by decide +kernel) rfl
def mX12_hasLabel : QM := (yX12_hasLabel, cX12_hasLabel, 1, some (.boolean))
set_option maxRecDepth 100000 in
theorem okX12_hasLabel : q_mok mX12_hasLabel := ⟨rfl, q_at 1793 rfl rfl, q_at 12 (by decide +kernel) rfl, by decide, by decide, rfl⟩
theorem inX12_hasLabel : Cond.static yX12_hasLabel ∈ q_T := q_at 1792 (by decide +kernel) rfl
def mX12_covers : QM := (yX12_covers, cX12_covers, 3, some (.boolean))
set_option maxRecDepth 100000 in
theorem okX12_covers : q_mok mX12_covers := ⟨rfl, q_at 1796 rfl rfl, q_at 12 (by decide +kernel) rfl, by decide, by decide, rfl⟩
theorem inX12_covers : Cond.static yX12_covers ∈ q_T := q_at 1795 (by decide +kernel) rfl
def mX12_heights : QM := (yX12_heights, cX12_heights, 7, some (.boolean))
set_option maxRecDepth 100000 in
theorem okX12_heights : q_mok mX12_heights := ⟨rfl, q_at 1773 rfl rfl, q_at 12 (by decide +kernel) rfl, by decide, by decide, rfl⟩
theorem inX12_heights : Cond.instanceMethod yX12_heights ∈ q_T := q_at 1772 (by decide +kernel) rfl
theorem seX12_heights : Cond.selects RX12 yX12_heights yX12_heights ∈ q_T := q_inT (List.mem_append_left _ (List.mem_map.mpr ⟨(yX12_heights, 46), List.mem_of_getElem? (i := 111) (by decide +kernel), rfl⟩)) rfl
def mX12_added : QM := (yX12_added, cX12_added, 4, some (.boolean))
set_option maxRecDepth 100000 in
theorem okX12_added : q_mok mX12_added := ⟨rfl, q_at 1790 rfl rfl, q_at 12 (by decide +kernel) rfl, by decide, by decide, rfl⟩
theorem inX12_added : Cond.instanceMethod yX12_added ∈ q_T := q_at 1789 (by decide +kernel) rfl
theorem seX12_added : Cond.selects RX12 yX12_added yX12_added ∈ q_T := q_inT (List.mem_append_left _ (List.mem_map.mpr ⟨(yX12_added, 46), List.mem_of_getElem? (i := 113) (by decide +kernel), rfl⟩)) rfl
def mX12_goodHeights : QM := (yX12_goodHeights, cX12_goodHeights, 6, some (.int))
set_option maxRecDepth 100000 in
theorem okX12_goodHeights : q_mok mX12_goodHeights := ⟨rfl, q_at 1777 rfl rfl, q_at 12 (by decide +kernel) rfl, by decide, by decide, rfl⟩
theorem inX12_goodHeights : Cond.instanceMethod yX12_goodHeights ∈ q_T := q_at 1776 (by decide +kernel) rfl
theorem seX12_goodHeights : Cond.selects RX12 yX12_goodHeights yX12_goodHeights ∈ q_T := q_inT (List.mem_append_left _ (List.mem_map.mpr ⟨(yX12_goodHeights, 46), List.mem_of_getElem? (i := 112) (by decide +kernel), rfl⟩)) rfl
def mX12_isClass : QM := (yX12_isClass, cX12_isClass, 1, some (.boolean))
set_option maxRecDepth 100000 in
theorem okX12_isClass : q_mok mX12_isClass := ⟨rfl, q_at 1821 rfl rfl, q_at 12 (by decide +kernel) rfl, by decide, by decide, rfl⟩
theorem inX12_isClass : Cond.static yX12_isClass ∈ q_T := q_at 1820 (by decide +kernel) rfl
def mX12_isArrayType : QM := (yX12_isArrayType, cX12_isArrayType, 1, some (.boolean))
set_option maxRecDepth 100000 in
theorem okX12_isArrayType : q_mok mX12_isArrayType := ⟨rfl, q_at 1842 rfl rfl, q_at 12 (by decide +kernel) rfl, by decide, by decide, rfl⟩
theorem inX12_isArrayType : Cond.static yX12_isArrayType ∈ q_T := q_at 1841 (by decide +kernel) rfl
def mX12_isReferenceType : QM := (yX12_isReferenceType, cX12_isReferenceType, 1, some (.boolean))
set_option maxRecDepth 100000 in
theorem okX12_isReferenceType : q_mok mX12_isReferenceType := ⟨rfl, q_at 1839 rfl rfl, q_at 12 (by decide +kernel) rfl, by decide, by decide, rfl⟩
theorem inX12_isReferenceType : Cond.static yX12_isReferenceType ∈ q_T := q_at 1838 (by decide +kernel) rfl
def mX12_isBelow : QM := (yX12_isBelow, cX12_isBelow, 3, some (.boolean))
set_option maxRecDepth 100000 in
theorem okX12_isBelow : q_mok mX12_isBelow := ⟨rfl, q_at 1818 rfl rfl, q_at 12 (by decide +kernel) rfl, by decide, by decide, rfl⟩
theorem inX12_isBelow : Cond.static yX12_isBelow ∈ q_T := q_at 1817 (by decide +kernel) rfl
def mX12_joined : QM := (yX12_joined, cX12_joined, 7, some (.int))
set_option maxRecDepth 100000 in
theorem okX12_joined : q_mok mX12_joined := ⟨rfl, q_at 1815 rfl rfl, q_at 12 (by decide +kernel) rfl, by decide, by decide, rfl⟩
theorem inX12_joined : Cond.static yX12_joined ∈ q_T := q_at 1814 (by decide +kernel) rfl
def mX12_types : QM := (yX12_types, cX12_types, 6, some (.boolean))
set_option maxRecDepth 100000 in
theorem okX12_types : q_mok mX12_types := ⟨rfl, q_at 1800 rfl rfl, q_at 12 (by decide +kernel) rfl, by decide, by decide, rfl⟩
theorem inX12_types : Cond.instanceMethod yX12_types ∈ q_T := q_at 1799 (by decide +kernel) rfl
theorem seX12_types : Cond.selects RX12 yX12_types yX12_types ∈ q_T := q_inT (List.mem_append_left _ (List.mem_map.mpr ⟨(yX12_types, 46), List.mem_of_getElem? (i := 114) (by decide +kernel), rfl⟩)) rfl
def mX12_typesAt : QM := (yX12_typesAt, cX12_typesAt, 4, none)
set_option maxRecDepth 100000 in
theorem okX12_typesAt : q_mok mX12_typesAt := ⟨rfl, q_at 1808 rfl rfl, q_at 12 (by decide +kernel) rfl, by decide, by decide, rfl⟩
theorem inX12_typesAt : Cond.instanceMethod yX12_typesAt ∈ q_T := q_at 1807 (by decide +kernel) rfl
theorem seX12_typesAt : Cond.selects RX12 yX12_typesAt yX12_typesAt ∈ q_T := q_inT (List.mem_append_left _ (List.mem_map.mpr ⟨(yX12_typesAt, 46), List.mem_of_getElem? (i := 116) (by decide +kernel), rfl⟩)) rfl
def mX12_typesOn : QM := (yX12_typesOn, cX12_typesOn, 5, some (.boolean))
set_option maxRecDepth 100000 in
theorem okX12_typesOn : q_mok mX12_typesOn := ⟨rfl, q_at 1804 rfl rfl, q_at 12 (by decide +kernel) rfl, by decide, by decide, rfl⟩
theorem inX12_typesOn : Cond.instanceMethod yX12_typesOn ∈ q_T := q_at 1803 (by decide +kernel) rfl
theorem seX12_typesOn : Cond.selects RX12 yX12_typesOn yX12_typesOn ∈ q_T := q_inT (List.mem_append_left _ (List.mem_map.mpr ⟨(yX12_typesOn, 46), List.mem_of_getElem? (i := 115) (by decide +kernel), rfl⟩)) rfl
def mX12_typesTo : QM := (yX12_typesTo, cX12_typesTo, 7, some (.boolean))
set_option maxRecDepth 100000 in
theorem okX12_typesTo : q_mok mX12_typesTo := ⟨rfl, q_at 1812 rfl rfl, q_at 12 (by decide +kernel) rfl, by decide, by decide, rfl⟩
theorem inX12_typesTo : Cond.instanceMethod yX12_typesTo ∈ q_T := q_at 1811 (by decide +kernel) rfl
theorem seX12_typesTo : Cond.selects RX12 yX12_typesTo yX12_typesTo ∈ q_T := q_inT (List.mem_append_left _ (List.mem_map.mpr ⟨(yX12_typesTo, 46), List.mem_of_getElem? (i := 117) (by decide +kernel), rfl⟩)) rfl
def mX12_leave : QM := (yX12_leave, cX12_leave, 2, none)
set_option maxRecDepth 100000 in
theorem okX12_leave : q_mok mX12_leave := ⟨rfl, q_at 1829 rfl rfl, q_at 12 (by decide +kernel) rfl, by decide, by decide, rfl⟩
theorem inX12_leave : Cond.instanceMethod yX12_leave ∈ q_T := q_at 1828 (by decide +kernel) rfl
theorem seX12_leave : Cond.selects RX12 yX12_leave yX12_leave ∈ q_T := q_inT (List.mem_append_left _ (List.mem_map.mpr ⟨(yX12_leave, 46), List.mem_of_getElem? (i := 119) (by decide +kernel), rfl⟩)) rfl
def mX12_typesBehind : QM := (yX12_typesBehind, cX12_typesBehind, 7, none)
set_option maxRecDepth 100000 in
theorem okX12_typesBehind : q_mok mX12_typesBehind := ⟨rfl, q_at 1825 rfl rfl, q_at 12 (by decide +kernel) rfl, by decide, by decide, rfl⟩
theorem inX12_typesBehind : Cond.instanceMethod yX12_typesBehind ∈ q_T := q_at 1824 (by decide +kernel) rfl
theorem seX12_typesBehind : Cond.selects RX12 yX12_typesBehind yX12_typesBehind ∈ q_T := q_inT (List.mem_append_left _ (List.mem_map.mpr ⟨(yX12_typesBehind, 46), List.mem_of_getElem? (i := 118) (by decide +kernel), rfl⟩)) rfl
def mX12_elementOf : QM := (yX12_elementOf, cX12_elementOf, 1, some (.int))
set_option maxRecDepth 100000 in
theorem okX12_elementOf : q_mok mX12_elementOf := ⟨rfl, q_at 1832 rfl rfl, q_at 12 (by decide +kernel) rfl, by decide, by decide, rfl⟩
theorem inX12_elementOf : Cond.static yX12_elementOf ∈ q_T := q_at 1831 (by decide +kernel) rfl
def mX12_fits : QM := (yX12_fits, cX12_fits, 8, some (.boolean))
set_option maxRecDepth 100000 in
theorem okX12_fits : q_mok mX12_fits := ⟨rfl, q_at 1836 rfl rfl, q_at 12 (by decide +kernel) rfl, by decide, by decide, rfl⟩
theorem inX12_fits : Cond.instanceMethod yX12_fits ∈ q_T := q_at 1835 (by decide +kernel) rfl
theorem seX12_fits : Cond.selects RX12 yX12_fits yX12_fits ∈ q_T := q_inT (List.mem_append_left _ (List.mem_map.mpr ⟨(yX12_fits, 46), List.mem_of_getElem? (i := 120) (by decide +kernel), rfl⟩)) rfl
def mX12_isElement : QM := (yX12_isElement, cX12_isElement, 3, some (.boolean))
set_option maxRecDepth 100000 in
theorem okX12_isElement : q_mok mX12_isElement := ⟨rfl, q_at 1845 rfl rfl, q_at 12 (by decide +kernel) rfl, by decide, by decide, rfl⟩
theorem inX12_isElement : Cond.static yX12_isElement ∈ q_T := q_at 1844 (by decide +kernel) rfl
def mX12_areArguments : QM := (yX12_areArguments, cX12_areArguments, 7, some (.boolean))
set_option maxRecDepth 100000 in
theorem okX12_areArguments : q_mok mX12_areArguments := ⟨rfl, q_at 1849 rfl rfl, q_at 12 (by decide +kernel) rfl, by decide, by decide, rfl⟩
theorem inX12_areArguments : Cond.instanceMethod yX12_areArguments ∈ q_T := q_at 1848 (by decide +kernel) rfl
theorem seX12_areArguments : Cond.selects RX12 yX12_areArguments yX12_areArguments ∈ q_T := q_inT (List.mem_append_left _ (List.mem_map.mpr ⟨(yX12_areArguments, 46), List.mem_of_getElem? (i := 121) (by decide +kernel), rfl⟩)) rfl
def mX12_fault : QM := (yX12_fault, cX12_fault, 3, some (.int))
set_option maxRecDepth 100000 in
theorem okX12_fault : q_mok mX12_fault := ⟨rfl, q_at 1561 rfl rfl, q_at 12 (by decide +kernel) rfl, by decide, by decide, rfl⟩
theorem inX12_fault : Cond.instanceMethod yX12_fault ∈ q_T := q_at 1560 (by decide +kernel) rfl
theorem seX12_fault : Cond.selects RX12 yX12_fault yX12_fault ∈ q_T := q_inT (List.mem_append_left _ (List.mem_map.mpr ⟨(yX12_fault, 46), List.mem_of_getElem? (i := 65) (by decide +kernel), rfl⟩)) rfl
def mX12_load : QM := (yX12_load, cX12_load, 3, some (.int))
set_option maxRecDepth 100000 in
theorem okX12_load : q_mok mX12_load := ⟨rfl, q_at 1557 rfl rfl, q_at 12 (by decide +kernel) rfl, by decide, by decide, rfl⟩
theorem inX12_load : Cond.instanceMethod yX12_load ∈ q_T := q_at 1555 (by decide +kernel) rfl
theorem seX12_load : Cond.selects RX12 yX12_load yX12_load ∈ q_T := q_at 1556 (by decide +kernel) rfl
def mX12_faultAt : QM := (yX12_faultAt, cX12_faultAt, 1, some (.int))
set_option maxRecDepth 100000 in
theorem okX12_faultAt : q_mok mX12_faultAt := ⟨rfl, q_at 1853 rfl rfl, q_at 12 (by decide +kernel) rfl, by decide, by decide, rfl⟩
theorem inX12_faultAt : Cond.instanceMethod yX12_faultAt ∈ q_T := q_at 1851 (by decide +kernel) rfl
theorem seX12_faultAt : Cond.selects RX12 yX12_faultAt yX12_faultAt ∈ q_T := q_at 1852 (by decide +kernel) rfl
def mX12_size : QM := (yX12_size, cX12_size, 2, some (.int))
set_option maxRecDepth 100000 in
theorem okX12_size : q_mok mX12_size := ⟨rfl, q_at 1857 rfl rfl, q_at 12 (by decide +kernel) rfl, by decide, by decide, rfl⟩
theorem inX12_size : Cond.instanceMethod yX12_size ∈ q_T := q_at 1855 (by decide +kernel) rfl
theorem seX12_size : Cond.selects RX12 yX12_size yX12_size ∈ q_T := q_at 1856 (by decide +kernel) rfl
def mX12_height : QM := (yX12_height, cX12_height, 2, some (.int))
set_option maxRecDepth 100000 in
theorem okX12_height : q_mok mX12_height := ⟨rfl, q_at 1861 rfl rfl, q_at 12 (by decide +kernel) rfl, by decide, by decide, rfl⟩
theorem inX12_height : Cond.instanceMethod yX12_height ∈ q_T := q_at 1859 (by decide +kernel) rfl
theorem seX12_height : Cond.selects RX12 yX12_height yX12_height ∈ q_T := q_at 1860 (by decide +kernel) rfl
def mX12_input : QM := (yX12_input, cX12_input, 2, some (.boolean))
set_option maxRecDepth 100000 in
theorem okX12_input : q_mok mX12_input := ⟨rfl, q_at 1865 rfl rfl, q_at 12 (by decide +kernel) rfl, by decide, by decide, rfl⟩
theorem inX12_input : Cond.instanceMethod yX12_input ∈ q_T := q_at 1863 (by decide +kernel) rfl
theorem seX12_input : Cond.selects RX12 yX12_input yX12_input ∈ q_T := q_at 1864 (by decide +kernel) rfl
def mX12_run : QM := (yX12_run, cX12_run, 3, some (.int))
set_option maxRecDepth 100000 in
theorem okX12_run : q_mok mX12_run := ⟨rfl, q_at 1869 rfl rfl, q_at 12 (by decide +kernel) rfl, by decide, by decide, rfl⟩
theorem inX12_run : Cond.instanceMethod yX12_run ∈ q_T := q_at 1867 (by decide +kernel) rfl
theorem seX12_run : Cond.selects RX12 yX12_run yX12_run ∈ q_T := q_at 1868 (by decide +kernel) rfl
def mX12_enter : QM := (yX12_enter, cX12_enter, 3, none)
set_option maxRecDepth 100000 in
theorem okX12_enter : q_mok mX12_enter := ⟨rfl, q_at 1873 rfl rfl, q_at 12 (by decide +kernel) rfl, by decide, by decide, rfl⟩
theorem inX12_enter : Cond.instanceMethod yX12_enter ∈ q_T := q_at 1872 (by decide +kernel) rfl
theorem seX12_enter : Cond.selects RX12 yX12_enter yX12_enter ∈ q_T := q_inT (List.mem_append_left _ (List.mem_map.mpr ⟨(yX12_enter, 46), List.mem_of_getElem? (i := 122) (by decide +kernel), rfl⟩)) rfl
def mX12_local : QM := (yX12_local, cX12_local, 2, some (.long))
set_option maxRecDepth 100000 in
theorem okX12_local : q_mok mX12_local := ⟨rfl, q_at 1882 rfl rfl, q_at 12 (by decide +kernel) rfl, by decide, by decide, rfl⟩
theorem inX12_local : Cond.instanceMethod yX12_local ∈ q_T := q_at 1881 (by decide +kernel) rfl
theorem seX12_local : Cond.selects RX12 yX12_local yX12_local ∈ q_T := q_inT (List.mem_append_left _ (List.mem_map.mpr ⟨(yX12_local, 46), List.mem_of_getElem? (i := 124) (by decide +kernel), rfl⟩)) rfl
def mX12_pop : QM := (yX12_pop, cX12_pop, 1, some (.long))
set_option maxRecDepth 100000 in
theorem okX12_pop : q_mok mX12_pop := ⟨rfl, q_at 1905 rfl rfl, q_at 12 (by decide +kernel) rfl, by decide, by decide, rfl⟩
theorem inX12_pop : Cond.instanceMethod yX12_pop ∈ q_T := q_at 1904 (by decide +kernel) rfl
theorem seX12_pop : Cond.selects RX12 yX12_pop yX12_pop ∈ q_T := q_inT (List.mem_append_left _ (List.mem_map.mpr ⟨(yX12_pop, 46), List.mem_of_getElem? (i := 128) (by decide +kernel), rfl⟩)) rfl
def mX12_push : QM := (yX12_push, cX12_push, 3, none)
set_option maxRecDepth 100000 in
theorem okX12_push : q_mok mX12_push := ⟨rfl, q_at 1901 rfl rfl, q_at 12 (by decide +kernel) rfl, by decide, by decide, rfl⟩
theorem inX12_push : Cond.instanceMethod yX12_push ∈ q_T := q_at 1900 (by decide +kernel) rfl
theorem seX12_push : Cond.selects RX12 yX12_push yX12_push ∈ q_T := q_inT (List.mem_append_left _ (List.mem_map.mpr ⟨(yX12_push, 46), List.mem_of_getElem? (i := 127) (by decide +kernel), rfl⟩)) rfl
def mX12_isInt : QM := (yX12_isInt, cX12_isInt, 2, some (.boolean))
set_option maxRecDepth 100000 in
theorem okX12_isInt : q_mok mX12_isInt := ⟨rfl, q_at 1889 rfl rfl, q_at 12 (by decide +kernel) rfl, by decide, by decide, rfl⟩
theorem inX12_isInt : Cond.static yX12_isInt ∈ q_T := q_at 1888 (by decide +kernel) rfl
def mX12_isObject : QM := (yX12_isObject, cX12_isObject, 2, some (.boolean))
set_option maxRecDepth 100000 in
theorem okX12_isObject : q_mok mX12_isObject := ⟨rfl, q_at 1951 rfl rfl, q_at 12 (by decide +kernel) rfl, by decide, by decide, rfl⟩
theorem inX12_isObject : Cond.static yX12_isObject ∈ q_T := q_at 1950 (by decide +kernel) rfl
def mX12_objectOf : QM := (yX12_objectOf, cX12_objectOf, 2, some (.int))
set_option maxRecDepth 100000 in
theorem okX12_objectOf : q_mok mX12_objectOf := ⟨rfl, q_at 1893 rfl rfl, q_at 12 (by decide +kernel) rfl, by decide, by decide, rfl⟩
theorem inX12_objectOf : Cond.static yX12_objectOf ∈ q_T := q_at 1892 (by decide +kernel) rfl
def mX12_holds : QM := (yX12_holds, cX12_holds, 6, some (.boolean))
set_option maxRecDepth 100000 in
theorem okX12_holds : q_mok mX12_holds := ⟨rfl, q_at 1878 rfl rfl, q_at 12 (by decide +kernel) rfl, by decide, by decide, rfl⟩
theorem inX12_holds : Cond.instanceMethod yX12_holds ∈ q_T := q_at 1877 (by decide +kernel) rfl
theorem seX12_holds : Cond.selects RX12 yX12_holds yX12_holds ∈ q_T := q_inT (List.mem_append_left _ (List.mem_map.mpr ⟨(yX12_holds, 46), List.mem_of_getElem? (i := 123) (by decide +kernel), rfl⟩)) rfl
def mX12_isOf : QM := (yX12_isOf, cX12_isOf, 4, some (.boolean))
set_option maxRecDepth 100000 in
theorem okX12_isOf : q_mok mX12_isOf := ⟨rfl, q_at 1886 rfl rfl, q_at 12 (by decide +kernel) rfl, by decide, by decide, rfl⟩
theorem inX12_isOf : Cond.instanceMethod yX12_isOf ∈ q_T := q_at 1885 (by decide +kernel) rfl
theorem seX12_isOf : Cond.selects RX12 yX12_isOf yX12_isOf ∈ q_T := q_inT (List.mem_append_left _ (List.mem_map.mpr ⟨(yX12_isOf, 46), List.mem_of_getElem? (i := 125) (by decide +kernel), rfl⟩)) rfl
def mX12_ended : QM := (yX12_ended, cX12_ended, 3, none)
set_option maxRecDepth 100000 in
theorem okX12_ended : q_mok mX12_ended := ⟨rfl, q_at 1921 rfl rfl, q_at 12 (by decide +kernel) rfl, by decide, by decide, rfl⟩
theorem inX12_ended : Cond.instanceMethod yX12_ended ∈ q_T := q_at 1920 (by decide +kernel) rfl
theorem seX12_ended : Cond.selects RX12 yX12_ended yX12_ended ∈ q_T := q_inT (List.mem_append_left _ (List.mem_map.mpr ⟨(yX12_ended, 46), List.mem_of_getElem? (i := 132) (by decide +kernel), rfl⟩)) rfl
def mX12_object : QM := (yX12_object, cX12_object, 5, some (.long))
set_option maxRecDepth 100000 in
theorem okX12_object : q_mok mX12_object := ⟨rfl, q_at 1917 rfl rfl, q_at 12 (by decide +kernel) rfl, by decide, by decide, rfl⟩
theorem inX12_object : Cond.instanceMethod yX12_object ∈ q_T := q_at 1916 (by decide +kernel) rfl
theorem seX12_object : Cond.selects RX12 yX12_object yX12_object ∈ q_T := q_inT (List.mem_append_left _ (List.mem_map.mpr ⟨(yX12_object, 46), List.mem_of_getElem? (i := 131) (by decide +kernel), rfl⟩)) rfl
def mX12_raise : QM := (yX12_raise, cX12_raise, 5, none)
set_option maxRecDepth 100000 in
theorem okX12_raise : q_mok mX12_raise := ⟨rfl, q_at 1913 rfl rfl, q_at 12 (by decide +kernel) rfl, by decide, by decide, rfl⟩
theorem inX12_raise : Cond.instanceMethod yX12_raise ∈ q_T := q_at 1912 (by decide +kernel) rfl
theorem seX12_raise : Cond.selects RX12 yX12_raise yX12_raise ∈ q_T := q_inT (List.mem_append_left _ (List.mem_map.mpr ⟨(yX12_raise, 46), List.mem_of_getElem? (i := 130) (by decide +kernel), rfl⟩)) rfl
def mX12_toss : QM := (yX12_toss, cX12_toss, 7, none)
set_option maxRecDepth 100000 in
theorem okX12_toss : q_mok mX12_toss := ⟨rfl, q_at 1925 rfl rfl, q_at 12 (by decide +kernel) rfl, by decide, by decide, rfl⟩
theorem inX12_toss : Cond.instanceMethod yX12_toss ∈ q_T := q_at 1924 (by decide +kernel) rfl
theorem seX12_toss : Cond.selects RX12 yX12_toss yX12_toss ∈ q_T := q_inT (List.mem_append_left _ (List.mem_map.mpr ⟨(yX12_toss, 46), List.mem_of_getElem? (i := 133) (by decide +kernel), rfl⟩)) rfl
def mX12_next : QM := (yX12_next, cX12_next, 1, none)
set_option maxRecDepth 100000 in
theorem okX12_next : q_mok mX12_next := ⟨rfl, q_at 1929 rfl rfl, q_at 12 (by decide +kernel) rfl, by decide, by decide, rfl⟩
theorem inX12_next : Cond.instanceMethod yX12_next ∈ q_T := q_at 1928 (by decide +kernel) rfl
theorem seX12_next : Cond.selects RX12 yX12_next yX12_next ∈ q_T := q_inT (List.mem_append_left _ (List.mem_map.mpr ⟨(yX12_next, 46), List.mem_of_getElem? (i := 134) (by decide +kernel), rfl⟩)) rfl
def mX12_step : QM := (yX12_step, cX12_step, 13, none)
set_option maxRecDepth 100000 in
theorem okX12_step : q_mok mX12_step := ⟨rfl, q_at 1897 rfl rfl, q_at 12 (by decide +kernel) rfl, by decide, by decide, rfl⟩
theorem inX12_step : Cond.instanceMethod yX12_step ∈ q_T := q_at 1896 (by decide +kernel) rfl
theorem seX12_step : Cond.selects RX12 yX12_step yX12_step ∈ q_T := q_inT (List.mem_append_left _ (List.mem_map.mpr ⟨(yX12_step, 46), List.mem_of_getElem? (i := 126) (by decide +kernel), rfl⟩)) rfl
def mX12_reckon : QM := (yX12_reckon, cX12_reckon, 5, none)
set_option maxRecDepth 100000 in
theorem okX12_reckon : q_mok mX12_reckon := ⟨rfl, q_at 1909 rfl rfl, q_at 12 (by decide +kernel) rfl, by decide, by decide, rfl⟩
theorem inX12_reckon : Cond.instanceMethod yX12_reckon ∈ q_T := q_at 1908 (by decide +kernel) rfl
theorem seX12_reckon : Cond.selects RX12 yX12_reckon yX12_reckon ∈ q_T := q_inT (List.mem_append_left _ (List.mem_map.mpr ⟨(yX12_reckon, 46), List.mem_of_getElem? (i := 129) (by decide +kernel), rfl⟩)) rfl
def mX12_branch : QM := (yX12_branch, cX12_branch, 8, none)
set_option maxRecDepth 100000 in
theorem okX12_branch : q_mok mX12_branch := ⟨rfl, q_at 1933 rfl rfl, q_at 12 (by decide +kernel) rfl, by decide, by decide, rfl⟩
theorem inX12_branch : Cond.instanceMethod yX12_branch ∈ q_T := q_at 1932 (by decide +kernel) rfl
theorem seX12_branch : Cond.selects RX12 yX12_branch yX12_branch ∈ q_T := q_inT (List.mem_append_left _ (List.mem_map.mpr ⟨(yX12_branch, 46), List.mem_of_getElem? (i := 135) (by decide +kernel), rfl⟩)) rfl
def mX12_objectStep : QM := (yX12_objectStep, cX12_objectStep, 18, none)
set_option maxRecDepth 100000 in
theorem okX12_objectStep : q_mok mX12_objectStep := ⟨rfl, q_at 1937 rfl rfl, q_at 12 (by decide +kernel) rfl, by decide, by decide, rfl⟩
theorem inX12_objectStep : Cond.instanceMethod yX12_objectStep ∈ q_T := q_at 1936 (by decide +kernel) rfl
theorem seX12_objectStep : Cond.selects RX12 yX12_objectStep yX12_objectStep ∈ q_T := q_inT (List.mem_append_left _ (List.mem_map.mpr ⟨(yX12_objectStep, 46), List.mem_of_getElem? (i := 136) (by decide +kernel), rfl⟩)) rfl
def mX12_make : QM := (yX12_make, cX12_make, 10, none)
set_option maxRecDepth 100000 in
theorem okX12_make : q_mok mX12_make := ⟨rfl, q_at 1941 rfl rfl, q_at 12 (by decide +kernel) rfl, by decide, by decide, rfl⟩
theorem inX12_make : Cond.instanceMethod yX12_make ∈ q_T := q_at 1940 (by decide +kernel) rfl
theorem seX12_make : Cond.selects RX12 yX12_make yX12_make ∈ q_T := q_inT (List.mem_append_left _ (List.mem_map.mpr ⟨(yX12_make, 46), List.mem_of_getElem? (i := 137) (by decide +kernel), rfl⟩)) rfl
def mX12_elementStep : QM := (yX12_elementStep, cX12_elementStep, 11, none)
set_option maxRecDepth 100000 in
theorem okX12_elementStep : q_mok mX12_elementStep := ⟨rfl, q_at 1948 rfl rfl, q_at 12 (by decide +kernel) rfl, by decide, by decide, rfl⟩
theorem inX12_elementStep : Cond.instanceMethod yX12_elementStep ∈ q_T := q_at 1947 (by decide +kernel) rfl
theorem seX12_elementStep : Cond.selects RX12 yX12_elementStep yX12_elementStep ∈ q_T := q_inT (List.mem_append_left _ (List.mem_map.mpr ⟨(yX12_elementStep, 46), List.mem_of_getElem? (i := 138) (by decide +kernel), rfl⟩)) rfl
def mX12_callStep : QM := (yX12_callStep, cX12_callStep, 8, none)
set_option maxRecDepth 100000 in
theorem okX12_callStep : q_mok mX12_callStep := ⟨rfl, q_at 1955 rfl rfl, q_at 12 (by decide +kernel) rfl, by decide, by decide, rfl⟩
theorem inX12_callStep : Cond.instanceMethod yX12_callStep ∈ q_T := q_at 1954 (by decide +kernel) rfl
theorem seX12_callStep : Cond.selects RX12 yX12_callStep yX12_callStep ∈ q_T := q_inT (List.mem_append_left _ (List.mem_map.mpr ⟨(yX12_callStep, 46), List.mem_of_getElem? (i := 139) (by decide +kernel), rfl⟩)) rfl
def mX12_steps : QM := (yX12_steps, cX12_steps, 1, some (.int))
set_option maxRecDepth 100000 in
theorem okX12_steps : q_mok mX12_steps := ⟨rfl, q_at 1959 rfl rfl, q_at 12 (by decide +kernel) rfl, by decide, by decide, rfl⟩
theorem inX12_steps : Cond.instanceMethod yX12_steps ∈ q_T := q_at 1957 (by decide +kernel) rfl
theorem seX12_steps : Cond.selects RX12 yX12_steps yX12_steps ∈ q_T := q_at 1958 (by decide +kernel) rfl
def mX12_place : QM := (yX12_place, cX12_place, 1, some (.int))
set_option maxRecDepth 100000 in
theorem okX12_place : q_mok mX12_place := ⟨rfl, q_at 1963 rfl rfl, q_at 12 (by decide +kernel) rfl, by decide, by decide, rfl⟩
theorem inX12_place : Cond.instanceMethod yX12_place ∈ q_T := q_at 1961 (by decide +kernel) rfl
theorem seX12_place : Cond.selects RX12 yX12_place yX12_place ∈ q_T := q_at 1962 (by decide +kernel) rfl
def mX12_thrown : QM := (yX12_thrown, cX12_thrown, 1, some (.int))
set_option maxRecDepth 100000 in
theorem okX12_thrown : q_mok mX12_thrown := ⟨rfl, q_at 1967 rfl rfl, q_at 12 (by decide +kernel) rfl, by decide, by decide, rfl⟩
