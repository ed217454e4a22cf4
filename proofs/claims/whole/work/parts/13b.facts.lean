theorem V_m_isRider : Cond.instanceMethod M_m_isRider.1 ∈ ab_good ∧ Cond.selects M_m_isRider.1.cls M_m_isRider.1 M_m_isRider.1 ∈ ab_good := ⟨ab_gm 1560 (by decide +kernel) rfl, ab_gs 126 (by decide +kernel) rfl⟩
def M_m_seat : ab_M := (⟨"SeasonSeatModel", "seat", "(I)I"⟩, prog_14_method_51_code, 2, (some .int))
theorem K_m_seat : ab_MK M_m_seat 1 := ⟨ab_gm 1567 (by decide +kernel) rfl, ab_gm 10 (by decide +kernel) rfl, ⟨by decide +kernel, by decide +kernel, by decide +kernel⟩, by decide⟩
theorem V_m_seat : Cond.instanceMethod M_m_seat.1 ∈ ab_good ∧ Cond.selects M_m_seat.1.cls M_m_seat.1 M_m_seat.1 ∈ ab_good := ⟨ab_gm 1565 (by decide +kernel) rfl, ab_gm 1566 (by decide +kernel) rfl⟩
def M_m_standNow : ab_M := (⟨"SeasonSeatModel", "standNow", "()I"⟩, prog_14_method_39_code, 3, (some .int))
theorem K_m_standNow : ab_MK M_m_standNow 0 := ⟨ab_gm 1571 (by decide +kernel) rfl, ab_gm 10 (by decide +kernel) rfl, ⟨by decide +kernel, by decide +kernel, by decide +kernel⟩, by decide⟩
theorem V_m_standNow : Cond.instanceMethod M_m_standNow.1 ∈ ab_good ∧ Cond.selects M_m_standNow.1.cls M_m_standNow.1 M_m_standNow.1 ∈ ab_good := ⟨ab_gm 1570 (by decide +kernel) rfl, ab_gs 127 (by decide +kernel) rfl⟩
def M_m_placeOf : ab_M := (⟨"SeasonSeatModel", "placeOf", "(I)I"⟩, prog_14_method_35_code, 1, (some .int))
theorem K_m_placeOf : ab_MK M_m_placeOf 1 := ⟨ab_gm 1574 (by decide +kernel) rfl, ab_gm 10 (by decide +kernel) rfl, ⟨by decide +kernel, by decide +kernel, by decide +kernel⟩, by decide⟩
theorem T_m_placeOf : Cond.static M_m_placeOf.1 ∈ ab_good := ab_gm 1573 (by decide +kernel) rfl
def M_m_sitting : ab_M := (⟨"SeasonSeatModel", "sitting", "(II)I"⟩, prog_14_method_41_code, 4, (some .int))
theorem K_m_sitting : ab_MK M_m_sitting 2 := ⟨ab_gm 1578 (by decide +kernel) rfl, ab_gm 10 (by decide +kernel) rfl, ⟨by decide +kernel, by decide +kernel, by decide +kernel⟩, by decide⟩
theorem V_m_sitting : Cond.instanceMethod M_m_sitting.1 ∈ ab_good ∧ Cond.selects M_m_sitting.1.cls M_m_sitting.1 M_m_sitting.1 ∈ ab_good := ⟨ab_gm 1577 (by decide +kernel) rfl, ab_gs 128 (by decide +kernel) rfl⟩
def M_m_seatIn : ab_M := (⟨"SeasonSeatModel", "seatIn", "(II)I"⟩, prog_14_method_36_code, 2, (some .int))
theorem K_m_seatIn : ab_MK M_m_seatIn 2 := ⟨ab_gm 1581 (by decide +kernel) rfl, ab_gm 10 (by decide +kernel) rfl, ⟨by decide +kernel, by decide +kernel, by decide +kernel⟩, by decide⟩
theorem T_m_seatIn : Cond.static M_m_seatIn.1 ∈ ab_good := ab_gm 1580 (by decide +kernel) rfl
def M_m_why : ab_M := (⟨"SeasonSeatModel", "why", "(I)I"⟩, prog_14_method_52_code, 2, (some .int))
theorem K_m_why : ab_MK M_m_why 1 := ⟨ab_gm 1585 (by decide +kernel) rfl, ab_gm 10 (by decide +kernel) rfl, ⟨by decide +kernel, by decide +kernel, by decide +kernel⟩, by decide⟩
theorem V_m_why : Cond.instanceMethod M_m_why.1 ∈ ab_good ∧ Cond.selects M_m_why.1.cls M_m_why.1 M_m_why.1 ∈ ab_good := ⟨ab_gm 1583 (by decide +kernel) rfl, ab_gm 1584 (by decide +kernel) rfl⟩
def M_m_whyStop : ab_M := (⟨"SeasonSeatModel", "whyStop", "(IJI)I"⟩, prog_14_method_48_code, 6, (some .int))
theorem K_m_whyStop : ab_MK M_m_whyStop 3 := ⟨ab_gm 1589 (by decide +kernel) rfl, ab_gm 10 (by decide +kernel) rfl, ⟨by decide +kernel, by decide +kernel, by decide +kernel⟩, by decide⟩
theorem V_m_whyStop : Cond.instanceMethod M_m_whyStop.1 ∈ ab_good ∧ Cond.selects M_m_whyStop.1.cls M_m_whyStop.1 M_m_whyStop.1 ∈ ab_good := ⟨ab_gm 1588 (by decide +kernel) rfl, ab_gs 129 (by decide +kernel) rfl⟩
def M_m_mayGo : ab_M := (⟨"SeasonSeatModel", "mayGo", "(IIII)Z"⟩, prog_14_method_47_code, 5, (some .boolean))
theorem K_m_mayGo : ab_MK M_m_mayGo 4 := ⟨ab_gm 1593 (by decide +kernel) rfl, ab_gm 10 (by decide +kernel) rfl, ⟨by decide +kernel, by decide +kernel, by decide +kernel⟩, by decide⟩
theorem V_m_mayGo : Cond.instanceMethod M_m_mayGo.1 ∈ ab_good ∧ Cond.selects M_m_mayGo.1.cls M_m_mayGo.1 M_m_mayGo.1 ∈ ab_good := ⟨ab_gm 1592 (by decide +kernel) rfl, ab_gs 130 (by decide +kernel) rfl⟩
def M_m_reckons : ab_M := (⟨"SeasonSeatModel", "reckons", "(IIIII)I"⟩, prog_14_method_45_code, 9, (some .int))
theorem K_m_reckons : ab_MK M_m_reckons 5 := ⟨ab_gm 1597 (by decide +kernel) rfl, ab_gm 10 (by decide +kernel) rfl, ⟨by decide +kernel, by decide +kernel, by decide +kernel⟩, by decide⟩
theorem V_m_reckons : Cond.instanceMethod M_m_reckons.1 ∈ ab_good ∧ Cond.selects M_m_reckons.1.cls M_m_reckons.1 M_m_reckons.1 ∈ ab_good := ⟨ab_gm 1596 (by decide +kernel) rfl, ab_gs 131 (by decide +kernel) rfl⟩
def M_m_warmthIn : ab_M := (⟨"SeasonSeatModel", "warmthIn", "(II)I"⟩, prog_14_method_37_code, 2, (some .int))
theorem K_m_warmthIn : ab_MK M_m_warmthIn 2 := ⟨ab_gm 1600 (by decide +kernel) rfl, ab_gm 10 (by decide +kernel) rfl, ⟨by decide +kernel, by decide +kernel, by decide +kernel⟩, by decide⟩
theorem T_m_warmthIn : Cond.static M_m_warmthIn.1 ∈ ab_good := ab_gm 1599 (by decide +kernel) rfl
def M_m_between : ab_M := (⟨"SeasonSeatModel", "between", "(III)I"⟩, prog_14_method_44_code, 5, (some .int))
theorem K_m_between : ab_MK M_m_between 3 := ⟨ab_gm 1603 (by decide +kernel) rfl, ab_gm 10 (by decide +kernel) rfl, ⟨by decide +kernel, by decide +kernel, by decide +kernel⟩, by decide⟩
theorem T_m_between : Cond.static M_m_between.1 ∈ ab_good := ab_gm 1602 (by decide +kernel) rfl
def M_m_by : ab_M := (⟨"SeasonSeatModel", "by", "(II)I"⟩, prog_14_method_53_code, 3, (some .int))
theorem K_m_by : ab_MK M_m_by 2 := ⟨ab_gm 1609 (by decide +kernel) rfl, ab_gm 10 (by decide +kernel) rfl, ⟨by decide +kernel, by decide +kernel, by decide +kernel⟩, by decide⟩
theorem V_m_by : Cond.instanceMethod M_m_by.1 ∈ ab_good ∧ Cond.selects M_m_by.1.cls M_m_by.1 M_m_by.1 ∈ ab_good := ⟨ab_gm 1607 (by decide +kernel) rfl, ab_gm 1608 (by decide +kernel) rfl⟩
def M_m_stopTo : ab_M := (⟨"SeasonSeatModel", "stopTo", "(III)I"⟩, prog_14_method_49_code, 7, (some .int))
theorem K_m_stopTo : ab_MK M_m_stopTo 3 := ⟨ab_gm 1613 (by decide +kernel) rfl, ab_gm 10 (by decide +kernel) rfl, ⟨by decide +kernel, by decide +kernel, by decide +kernel⟩, by decide⟩
theorem V_m_stopTo : Cond.instanceMethod M_m_stopTo.1 ∈ ab_good ∧ Cond.selects M_m_stopTo.1.cls M_m_stopTo.1 M_m_stopTo.1 ∈ ab_good := ⟨ab_gm 1612 (by decide +kernel) rfl, ab_gs 132 (by decide +kernel) rfl⟩
def M_m_warmsTo : ab_M := (⟨"SeasonSeatModel", "warmsTo", "(III)I"⟩, prog_14_method_46_code, 9, (some .int))
theorem K_m_warmsTo : ab_MK M_m_warmsTo 3 := ⟨ab_gm 1617 (by decide +kernel) rfl, ab_gm 10 (by decide +kernel) rfl, ⟨by decide +kernel, by decide +kernel, by decide +kernel⟩, by decide⟩
theorem V_m_warmsTo : Cond.instanceMethod M_m_warmsTo.1 ∈ ab_good ∧ Cond.selects M_m_warmsTo.1.cls M_m_warmsTo.1 M_m_warmsTo.1 ∈ ab_good := ⟨ab_gm 1616 (by decide +kernel) rfl, ab_gs 133 (by decide +kernel) rfl⟩
def M_m_withWarmth : ab_M := (⟨"SeasonSeatModel", "withWarmth", "(III)I"⟩, prog_14_method_38_code, 3, (some .int))
theorem K_m_withWarmth : ab_MK M_m_withWarmth 3 := ⟨ab_gm 1620 (by decide +kernel) rfl, ab_gm 10 (by decide +kernel) rfl, ⟨by decide +kernel, by decide +kernel, by decide +kernel⟩, by decide⟩
theorem T_m_withWarmth : Cond.static M_m_withWarmth.1 ∈ ab_good := ab_gm 1619 (by decide +kernel) rfl
def M_m_stop : ab_M := (⟨"SeasonSeatModel", "stop", "(I)I"⟩, prog_14_method_58_code, 3, (some .int))
theorem K_m_stop : ab_MK M_m_stop 1 := ⟨ab_gm 1624 (by decide +kernel) rfl, ab_gm 10 (by decide +kernel) rfl, ⟨by decide +kernel, by decide +kernel, by decide +kernel⟩, by decide⟩
theorem V_m_stop : Cond.instanceMethod M_m_stop.1 ∈ ab_good ∧ Cond.selects M_m_stop.1.cls M_m_stop.1 M_m_stop.1 ∈ ab_good := ⟨ab_gm 1622 (by decide +kernel) rfl, ab_gm 1623 (by decide +kernel) rfl⟩
def M_m_stores : ab_M := (⟨"SeasonSeatModel", "stores", "()V"⟩, prog_14_method_54_code, 2, none)
theorem K_m_stores : ab_MK M_m_stores 0 := ⟨ab_gm 1628 (by decide +kernel) rfl, ab_gm 10 (by decide +kernel) rfl, ⟨by decide +kernel, by decide +kernel, by decide +kernel⟩, by decide⟩
theorem V_m_stores : Cond.instanceMethod M_m_stores.1 ∈ ab_good ∧ Cond.selects M_m_stores.1.cls M_m_stores.1 M_m_stores.1 ∈ ab_good := ⟨ab_gm 1627 (by decide +kernel) rfl, ab_gs 134 (by decide +kernel) rfl⟩
def M_m_goesStop : ab_M := (⟨"SeasonSeatModel", "goesStop", "(I)V"⟩, prog_14_method_57_code, 2, none)
theorem K_m_goesStop : ab_MK M_m_goesStop 1 := ⟨ab_gm 1632 (by decide +kernel) rfl, ab_gm 10 (by decide +kernel) rfl, ⟨by decide +kernel, by decide +kernel, by decide +kernel⟩, by decide⟩
theorem V_m_goesStop : Cond.instanceMethod M_m_goesStop.1 ∈ ab_good ∧ Cond.selects M_m_goesStop.1.cls M_m_goesStop.1 M_m_goesStop.1 ∈ ab_good := ⟨ab_gm 1631 (by decide +kernel) rfl, ab_gs 135 (by decide +kernel) rfl⟩
def M_m_isStand : ab_M := (⟨"SeasonSeatModel", "isStand", "(I)V"⟩, prog_14_method_40_code, 3, none)
theorem K_m_isStand : ab_MK M_m_isStand 1 := ⟨ab_gm 1636 (by decide +kernel) rfl, ab_gm 10 (by decide +kernel) rfl, ⟨by decide +kernel, by decide +kernel, by decide +kernel⟩, by decide⟩
theorem V_m_isStand : Cond.instanceMethod M_m_isStand.1 ∈ ab_good ∧ Cond.selects M_m_isStand.1.cls M_m_isStand.1 M_m_isStand.1 ∈ ab_good := ⟨ab_gm 1635 (by decide +kernel) rfl, ab_gs 136 (by decide +kernel) rfl⟩
def M_m_notes : ab_M := (⟨"SeasonSeatModel", "notes", "()V"⟩, prog_14_method_56_code, 2, none)
theorem K_m_notes : ab_MK M_m_notes 0 := ⟨ab_gm 1640 (by decide +kernel) rfl, ab_gm 10 (by decide +kernel) rfl, ⟨by decide +kernel, by decide +kernel, by decide +kernel⟩, by decide⟩
theorem V_m_notes : Cond.instanceMethod M_m_notes.1 ∈ ab_good ∧ Cond.selects M_m_notes.1.cls M_m_notes.1 M_m_notes.1 ∈ ab_good := ⟨ab_gm 1639 (by decide +kernel) rfl, ab_gs 137 (by decide +kernel) rfl⟩
def M_m_leastIn : ab_M := (⟨"SeasonSeatModel", "leastIn", "(I)I"⟩, prog_14_method_42_code, 4, (some .int))
theorem K_m_leastIn : ab_MK M_m_leastIn 1 := ⟨ab_gm 1644 (by decide +kernel) rfl, ab_gm 10 (by decide +kernel) rfl, ⟨by decide +kernel, by decide +kernel, by decide +kernel⟩, by decide⟩
theorem V_m_leastIn : Cond.instanceMethod M_m_leastIn.1 ∈ ab_good ∧ Cond.selects M_m_leastIn.1.cls M_m_leastIn.1 M_m_leastIn.1 ∈ ab_good := ⟨ab_gm 1643 (by decide +kernel) rfl, ab_gs 138 (by decide +kernel) rfl⟩
def M_m_stops : ab_M := (⟨"SeasonSeatModel", "stops", "(I)I"⟩, prog_14_method_59_code, 3, (some .int))
theorem K_m_stops : ab_MK M_m_stops 1 := ⟨ab_gm 1648 (by decide +kernel) rfl, ab_gm 10 (by decide +kernel) rfl, ⟨by decide +kernel, by decide +kernel, by decide +kernel⟩, by decide⟩
theorem V_m_stops : Cond.instanceMethod M_m_stops.1 ∈ ab_good ∧ Cond.selects M_m_stops.1.cls M_m_stops.1 M_m_stops.1 ∈ ab_good := ⟨ab_gm 1646 (by decide +kernel) rfl, ab_gm 1647 (by decide +kernel) rfl⟩
def M_m_give : ab_M := (⟨"SeasonSeatModel", "give", "(II)I"⟩, prog_14_method_62_code, 3, (some .int))
theorem K_m_give : ab_MK M_m_give 2 := ⟨ab_gm 1653 (by decide +kernel) rfl, ab_gm 10 (by decide +kernel) rfl, ⟨by decide +kernel, by decide +kernel, by decide +kernel⟩, by decide⟩
theorem V_m_give : Cond.instanceMethod M_m_give.1 ∈ ab_good ∧ Cond.selects M_m_give.1.cls M_m_give.1 M_m_give.1 ∈ ab_good := ⟨ab_gm 1651 (by decide +kernel) rfl, ab_gm 1652 (by decide +kernel) rfl⟩
def M_m_areTwo : ab_M := (⟨"SeasonSeatModel", "areTwo", "(JJ)Z"⟩, prog_14_method_60_code, 5, (some .boolean))
theorem K_m_areTwo : ab_MK M_m_areTwo 2 := ⟨ab_gm 1657 (by decide +kernel) rfl, ab_gm 10 (by decide +kernel) rfl, ⟨by decide +kernel, by decide +kernel, by decide +kernel⟩, by decide⟩
theorem V_m_areTwo : Cond.instanceMethod M_m_areTwo.1 ∈ ab_good ∧ Cond.selects M_m_areTwo.1.cls M_m_areTwo.1 M_m_areTwo.1 ∈ ab_good := ⟨ab_gm 1656 (by decide +kernel) rfl, ab_gs 139 (by decide +kernel) rfl⟩
def M_m_givesOn : ab_M := (⟨"SeasonSeatModel", "givesOn", "(II)V"⟩, prog_14_method_61_code, 4, none)
theorem K_m_givesOn : ab_MK M_m_givesOn 2 := ⟨ab_gm 1661 (by decide +kernel) rfl, ab_gm 10 (by decide +kernel) rfl, ⟨by decide +kernel, by decide +kernel, by decide +kernel⟩, by decide⟩
theorem V_m_givesOn : Cond.instanceMethod M_m_givesOn.1 ∈ ab_good ∧ Cond.selects M_m_givesOn.1.cls M_m_givesOn.1 M_m_givesOn.1 ∈ ab_good := ⟨ab_gm 1660 (by decide +kernel) rfl, ab_gs 140 (by decide +kernel) rfl⟩
def M_m_rug : ab_M := (⟨"SeasonSeatModel", "rug", "(I)I"⟩, prog_14_method_63_code, 2, (some .int))
theorem K_m_rug : ab_MK M_m_rug 1 := ⟨ab_gm 1665 (by decide +kernel) rfl, ab_gm 10 (by decide +kernel) rfl, ⟨by decide +kernel, by decide +kernel, by decide +kernel⟩, by decide⟩
theorem V_m_rug : Cond.instanceMethod M_m_rug.1 ∈ ab_good ∧ Cond.selects M_m_rug.1.cls M_m_rug.1 M_m_rug.1 ∈ ab_good := ⟨ab_gm 1663 (by decide +kernel) rfl, ab_gm 1664 (by decide +kernel) rfl⟩
def M_m_month : ab_M := (⟨"SeasonSeatModel", "month", "(I)I"⟩, prog_14_method_64_code, 2, (some .int))
theorem K_m_month : ab_MK M_m_month 1 := ⟨ab_gm 1669 (by decide +kernel) rfl, ab_gm 10 (by decide +kernel) rfl, ⟨by decide +kernel, by decide +kernel, by decide +kernel⟩, by decide⟩
theorem V_m_month : Cond.instanceMethod M_m_month.1 ∈ ab_good ∧ Cond.selects M_m_month.1.cls M_m_month.1 M_m_month.1 ∈ ab_good := ⟨ab_gm 1667 (by decide +kernel) rfl, ab_gm 1668 (by decide +kernel) rfl⟩
def M_m_undo : ab_M := (⟨"SeasonSeatModel", "undo", "(I)I"⟩, prog_14_method_65_code, 3, (some .int))
theorem K_m_undo : ab_MK M_m_undo 1 := ⟨ab_gm 1674 (by decide +kernel) rfl, ab_gm 10 (by decide +kernel) rfl, ⟨by decide +kernel, by decide +kernel, by decide +kernel⟩, by decide⟩
theorem V_m_undo : Cond.instanceMethod M_m_undo.1 ∈ ab_good ∧ Cond.selects M_m_undo.1.cls M_m_undo.1 M_m_undo.1 ∈ ab_good := ⟨ab_gm 1672 (by decide +kernel) rfl, ab_gm 1673 (by decide +kernel) rfl⟩
def M_m_judge : ab_M := (⟨"SeasonSeatModel", "judge", "(II)I"⟩, prog_14_method_70_code, 6, (some .int))
theorem K_m_judge : ab_MK M_m_judge 2 := ⟨ab_gm 1678 (by decide +kernel) rfl, ab_gm 10 (by decide +kernel) rfl, ⟨by decide +kernel, by decide +kernel, by decide +kernel⟩, by decide⟩
theorem V_m_judge : Cond.instanceMethod M_m_judge.1 ∈ ab_good ∧ Cond.selects M_m_judge.1.cls M_m_judge.1 M_m_judge.1 ∈ ab_good := ⟨ab_gm 1676 (by decide +kernel) rfl, ab_gm 1677 (by decide +kernel) rfl⟩
def M_m_noTray : ab_M := (⟨"SeasonSeatModel", "noTray", "(I)I"⟩, prog_14_method_69_code, 2, (some .int))
theorem K_m_noTray : ab_MK M_m_noTray 1 := ⟨ab_gm 1683 (by decide +kernel) rfl, ab_gm 10 (by decide +kernel) rfl, ⟨by decide +kernel, by decide +kernel, by decide +kernel⟩, by decide⟩
theorem V_m_noTray : Cond.instanceMethod M_m_noTray.1 ∈ ab_good ∧ Cond.selects M_m_noTray.1.cls M_m_noTray.1 M_m_noTray.1 ∈ ab_good := ⟨ab_gm 1682 (by decide +kernel) rfl, ab_gs 141 (by decide +kernel) rfl⟩
def M_m_tells : ab_M := (⟨"SeasonSeatModel", "tells", "(I)I"⟩, prog_14_method_68_code, 3, (some .int))
theorem K_m_tells : ab_MK M_m_tells 1 := ⟨ab_gm 1687 (by decide +kernel) rfl, ab_gm 10 (by decide +kernel) rfl, ⟨by decide +kernel, by decide +kernel, by decide +kernel⟩, by decide⟩
theorem V_m_tells : Cond.instanceMethod M_m_tells.1 ∈ ab_good ∧ Cond.selects M_m_tells.1.cls M_m_tells.1 M_m_tells.1 ∈ ab_good := ⟨ab_gm 1686 (by decide +kernel) rfl, ab_gs 142 (by decide +kernel) rfl⟩
def M_m_whyNot : ab_M := (⟨"SeasonSeatModel", "whyNot", "(J)I"⟩, prog_14_method_66_code, 3, (some .int))
theorem K_m_whyNot : ab_MK M_m_whyNot 1 := ⟨ab_gm 1691 (by decide +kernel) rfl, ab_gm 10 (by decide +kernel) rfl, ⟨by decide +kernel, by decide +kernel, by decide +kernel⟩, by decide⟩
theorem V_m_whyNot : Cond.instanceMethod M_m_whyNot.1 ∈ ab_good ∧ Cond.selects M_m_whyNot.1.cls M_m_whyNot.1 M_m_whyNot.1 ∈ ab_good := ⟨ab_gm 1690 (by decide +kernel) rfl, ab_gs 143 (by decide +kernel) rfl⟩
def M_m_does : ab_M := (⟨"SeasonSeatModel", "does", "(I)V"⟩, prog_14_method_67_code, 2, none)
theorem K_m_does : ab_MK M_m_does 1 := ⟨ab_gm 1700 (by decide +kernel) rfl, ab_gm 10 (by decide +kernel) rfl, ⟨by decide +kernel, by decide +kernel, by decide +kernel⟩, by decide⟩
theorem V_m_does : Cond.instanceMethod M_m_does.1 ∈ ab_good ∧ Cond.selects M_m_does.1.cls M_m_does.1 M_m_does.1 ∈ ab_good := ⟨ab_gm 1699 (by decide +kernel) rfl, ab_gs 144 (by decide +kernel) rfl⟩
def M_m_isAgain : ab_M := (⟨"SeasonSeatModel", "isAgain", "()V"⟩, prog_14_method_55_code, 2, none)
theorem K_m_isAgain : ab_MK M_m_isAgain 0 := ⟨ab_gm 1704 (by decide +kernel) rfl, ab_gm 10 (by decide +kernel) rfl, ⟨by decide +kernel, by decide +kernel, by decide +kernel⟩, by decide⟩
theorem V_m_isAgain : Cond.instanceMethod M_m_isAgain.1 ∈ ab_good ∧ Cond.selects M_m_isAgain.1.cls M_m_isAgain.1 M_m_isAgain.1 ∈ ab_good := ⟨ab_gm 1703 (by decide +kernel) rfl, ab_gs 145 (by decide +kernel) rfl⟩
def M_m_sumIn : ab_M := (⟨"SeasonSeatModel", "sumIn", "(I)I"⟩, prog_14_method_43_code, 4, (some .int))
theorem K_m_sumIn : ab_MK M_m_sumIn 1 := ⟨ab_gm 1708 (by decide +kernel) rfl, ab_gm 10 (by decide +kernel) rfl, ⟨by decide +kernel, by decide +kernel, by decide +kernel⟩, by decide⟩
theorem V_m_sumIn : Cond.instanceMethod M_m_sumIn.1 ∈ ab_good ∧ Cond.selects M_m_sumIn.1.cls M_m_sumIn.1 M_m_sumIn.1 ∈ ab_good := ⟨ab_gm 1707 (by decide +kernel) rfl, ab_gs 146 (by decide +kernel) rfl⟩
def M_m_perform : ab_M := (⟨"SeasonSeatModel", "perform", "(I)I"⟩, prog_14_method_71_code, 4, (some .int))
theorem K_m_perform : ab_MK M_m_perform 1 := ⟨ab_gm 1712 (by decide +kernel) rfl, ab_gm 10 (by decide +kernel) rfl, ⟨by decide +kernel, by decide +kernel, by decide +kernel⟩, by decide⟩
theorem V_m_perform : Cond.instanceMethod M_m_perform.1 ∈ ab_good ∧ Cond.selects M_m_perform.1.cls M_m_perform.1 M_m_perform.1 ∈ ab_good := ⟨ab_gm 1710 (by decide +kernel) rfl, ab_gm 1711 (by decide +kernel) rfl⟩
def M_m_journey : ab_M := (⟨"SeasonSeatModel", "journey", "(II)I"⟩, prog_14_method_74_code, 6, (some .int))
theorem K_m_journey : ab_MK M_m_journey 2 := ⟨ab_gm 1716 (by decide +kernel) rfl, ab_gm 10 (by decide +kernel) rfl, ⟨by decide +kernel, by decide +kernel, by decide +kernel⟩, by decide⟩
theorem V_m_journey : Cond.instanceMethod M_m_journey.1 ∈ ab_good ∧ Cond.selects M_m_journey.1.cls M_m_journey.1 M_m_journey.1 ∈ ab_good := ⟨ab_gm 1714 (by decide +kernel) rfl, ab_gm 1715 (by decide +kernel) rfl⟩
def M_m_drawn : ab_M := (⟨"SeasonSeatModel", "drawn", "()I"⟩, prog_14_method_73_code, 3, (some .int))
theorem K_m_drawn : ab_MK M_m_drawn 0 := ⟨ab_gm 1721 (by decide +kernel) rfl, ab_gm 10 (by decide +kernel) rfl, ⟨by decide +kernel, by decide +kernel, by decide +kernel⟩, by decide⟩
theorem V_m_drawn : Cond.instanceMethod M_m_drawn.1 ∈ ab_good ∧ Cond.selects M_m_drawn.1.cls M_m_drawn.1 M_m_drawn.1 ∈ ab_good := ⟨ab_gm 1720 (by decide +kernel) rfl, ab_gs 147 (by decide +kernel) rfl⟩
def M_m_draw : ab_M := (⟨"SeasonSeatModel", "draw", "(I)I"⟩, prog_14_method_72_code, 2, (some .int))
theorem K_m_draw : ab_MK M_m_draw 1 := ⟨ab_gm 1725 (by decide +kernel) rfl, ab_gm 10 (by decide +kernel) rfl, ⟨by decide +kernel, by decide +kernel, by decide +kernel⟩, by decide⟩
theorem V_m_draw : Cond.instanceMethod M_m_draw.1 ∈ ab_good ∧ Cond.selects M_m_draw.1.cls M_m_draw.1 M_m_draw.1 ∈ ab_good := ⟨ab_gm 1724 (by decide +kernel) rfl, ab_gs 148 (by decide +kernel) rfl⟩
def M_m_lies : ab_M := (⟨"SeasonSeatModel", "lies", "(II)I"⟩, prog_14_method_77_code, 3, (some .int))
theorem K_m_lies : ab_MK M_m_lies 2 := ⟨ab_gm 1730 (by decide +kernel) rfl, ab_gm 10 (by decide +kernel) rfl, ⟨by decide +kernel, by decide +kernel, by decide +kernel⟩, by decide⟩
theorem V_m_lies : Cond.instanceMethod M_m_lies.1 ∈ ab_good ∧ Cond.selects M_m_lies.1.cls M_m_lies.1 M_m_lies.1 ∈ ab_good := ⟨ab_gm 1728 (by decide +kernel) rfl, ab_gm 1729 (by decide +kernel) rfl⟩
def M_m_laysRow : ab_M := (⟨"SeasonSeatModel", "laysRow", "()V"⟩, prog_14_method_75_code, 3, none)
theorem K_m_laysRow : ab_MK M_m_laysRow 0 := ⟨ab_gm 1735 (by decide +kernel) rfl, ab_gm 10 (by decide +kernel) rfl, ⟨by decide +kernel, by decide +kernel, by decide +kernel⟩, by decide⟩
theorem V_m_laysRow : Cond.instanceMethod M_m_laysRow.1 ∈ ab_good ∧ Cond.selects M_m_laysRow.1.cls M_m_laysRow.1 M_m_laysRow.1 ∈ ab_good := ⟨ab_gm 1734 (by decide +kernel) rfl, ab_gs 149 (by decide +kernel) rfl⟩
def M_m_standAt : ab_M := (⟨"SeasonSeatModel", "standAt", "(I)I"⟩, prog_14_method_76_code, 2, (some .int))
theorem K_m_standAt : ab_MK M_m_standAt 1 := ⟨ab_gm 1739 (by decide +kernel) rfl, ab_gm 10 (by decide +kernel) rfl, ⟨by decide +kernel, by decide +kernel, by decide +kernel⟩, by decide⟩
theorem V_m_standAt : Cond.instanceMethod M_m_standAt.1 ∈ ab_good ∧ Cond.selects M_m_standAt.1.cls M_m_standAt.1 M_m_standAt.1 ∈ ab_good := ⟨ab_gm 1738 (by decide +kernel) rfl, ab_gs 150 (by decide +kernel) rfl⟩
def M_m_round : ab_M := (⟨"SeasonSeatModel", "round", "(I)I"⟩, prog_14_method_78_code, 2, (some .int))
theorem K_m_round : ab_MK M_m_round 1 := ⟨ab_gm 1743 (by decide +kernel) rfl, ab_gm 10 (by decide +kernel) rfl, ⟨by decide +kernel, by decide +kernel, by decide +kernel⟩, by decide⟩
theorem V_m_round : Cond.instanceMethod M_m_round.1 ∈ ab_good ∧ Cond.selects M_m_round.1.cls M_m_round.1 M_m_round.1 ∈ ab_good := ⟨ab_gm 1741 (by decide +kernel) rfl, ab_gm 1742 (by decide +kernel) rfl⟩
def M_m_when : ab_M := (⟨"SeasonSeatModel", "when", "(I)I"⟩, prog_14_method_80_code, 3, (some .int))
theorem K_m_when : ab_MK M_m_when 1 := ⟨ab_gm 1747 (by decide +kernel) rfl, ab_gm 10 (by decide +kernel) rfl, ⟨by decide +kernel, by decide +kernel, by decide +kernel⟩, by decide⟩
theorem V_m_when : Cond.instanceMethod M_m_when.1 ∈ ab_good ∧ Cond.selects M_m_when.1.cls M_m_when.1 M_m_when.1 ∈ ab_good := ⟨ab_gm 1745 (by decide +kernel) rfl, ab_gm 1746 (by decide +kernel) rfl⟩
def M_m_isWarm : ab_M := (⟨"SeasonSeatModel", "isWarm", "(I)Z"⟩, prog_14_method_79_code, 1, (some .boolean))
theorem K_m_isWarm : ab_MK M_m_isWarm 1 := ⟨ab_gm 1750 (by decide +kernel) rfl, ab_gm 10 (by decide +kernel) rfl, ⟨by decide +kernel, by decide +kernel, by decide +kernel⟩, by decide⟩
theorem T_m_isWarm : Cond.static M_m_isWarm.1 ∈ ab_good := ab_gm 1749 (by decide +kernel) rfl
def M_m_soonest : ab_M := (⟨"SeasonSeatModel", "soonest", "(I)I"⟩, prog_14_method_86_code, 2, (some .int))
theorem K_m_soonest : ab_MK M_m_soonest 1 := ⟨ab_gm 1755 (by decide +kernel) rfl, ab_gm 10 (by decide +kernel) rfl, ⟨by decide +kernel, by decide +kernel, by decide +kernel⟩, by decide⟩
theorem V_m_soonest : Cond.instanceMethod M_m_soonest.1 ∈ ab_good ∧ Cond.selects M_m_soonest.1.cls M_m_soonest.1 M_m_soonest.1 ∈ ab_good := ⟨ab_gm 1753 (by decide +kernel) rfl, ab_gm 1754 (by decide +kernel) rfl⟩
def M_m_laysFar : ab_M := (⟨"SeasonSeatModel", "laysFar", "(I)I"⟩, prog_14_method_84_code, 5, (some .int))
theorem K_m_laysFar : ab_MK M_m_laysFar 1 := ⟨ab_gm 1759 (by decide +kernel) rfl, ab_gm 10 (by decide +kernel) rfl, ⟨by decide +kernel, by decide +kernel, by decide +kernel⟩, by decide⟩
theorem V_m_laysFar : Cond.instanceMethod M_m_laysFar.1 ∈ ab_good ∧ Cond.selects M_m_laysFar.1.cls M_m_laysFar.1 M_m_laysFar.1 ∈ ab_good := ⟨ab_gm 1758 (by decide +kernel) rfl, ab_gs 151 (by decide +kernel) rfl⟩
def M_m_laysStands : ab_M := (⟨"SeasonSeatModel", "laysStands", "()V"⟩, prog_14_method_82_code, 3, none)
theorem K_m_laysStands : ab_MK M_m_laysStands 0 := ⟨ab_gm 1763 (by decide +kernel) rfl, ab_gm 10 (by decide +kernel) rfl, ⟨by decide +kernel, by decide +kernel, by decide +kernel⟩, by decide⟩
theorem V_m_laysStands : Cond.instanceMethod M_m_laysStands.1 ∈ ab_good ∧ Cond.selects M_m_laysStands.1.cls M_m_laysStands.1 M_m_laysStands.1 ∈ ab_good := ⟨ab_gm 1762 (by decide +kernel) rfl, ab_gs 152 (by decide +kernel) rfl⟩
def M_m_adds : ab_M := (⟨"SeasonSeatModel", "adds", "(I)I"⟩, prog_14_method_81_code, 2, (some .int))
theorem K_m_adds : ab_MK M_m_adds 1 := ⟨ab_gm 1767 (by decide +kernel) rfl, ab_gm 10 (by decide +kernel) rfl, ⟨by decide +kernel, by decide +kernel, by decide +kernel⟩, by decide⟩
theorem V_m_adds : Cond.instanceMethod M_m_adds.1 ∈ ab_good ∧ Cond.selects M_m_adds.1.cls M_m_adds.1 M_m_adds.1 ∈ ab_good := ⟨ab_gm 1766 (by decide +kernel) rfl, ab_gs 153 (by decide +kernel) rfl⟩
def M_m_farBy : ab_M := (⟨"SeasonSeatModel", "farBy", "(II)I"⟩, prog_14_method_83_code, 4, (some .int))
theorem K_m_farBy : ab_MK M_m_farBy 2 := ⟨ab_gm 1772 (by decide +kernel) rfl, ab_gm 10 (by decide +kernel) rfl, ⟨by decide +kernel, by decide +kernel, by decide +kernel⟩, by decide⟩
theorem V_m_farBy : Cond.instanceMethod M_m_farBy.1 ∈ ab_good ∧ Cond.selects M_m_farBy.1.cls M_m_farBy.1 M_m_farBy.1 ∈ ab_good := ⟨ab_gm 1771 (by decide +kernel) rfl, ab_gs 154 (by decide +kernel) rfl⟩
def M_m_toldFar : ab_M := (⟨"SeasonSeatModel", "toldFar", "(I)I"⟩, prog_14_method_85_code, 1, (some .int))
theorem K_m_toldFar : ab_MK M_m_toldFar 1 := ⟨ab_gm 1775 (by decide +kernel) rfl, ab_gm 10 (by decide +kernel) rfl, ⟨by decide +kernel, by decide +kernel, by decide +kernel⟩, by decide⟩
theorem T_m_toldFar : Cond.static M_m_toldFar.1 ∈ ab_good := ab_gm 1774 (by decide +kernel) rfl
def M_m_way : ab_M := (⟨"SeasonSeatModel", "way", "(II)I"⟩, prog_14_method_87_code, 6, (some .int))
theorem K_m_way : ab_MK M_m_way 2 := ⟨ab_gm 1779 (by decide +kernel) rfl, ab_gm 10 (by decide +kernel) rfl, ⟨by decide +kernel, by decide +kernel, by decide +kernel⟩, by decide⟩
theorem V_m_way : Cond.instanceMethod M_m_way.1 ∈ ab_good ∧ Cond.selects M_m_way.1.cls M_m_way.1 M_m_way.1 ∈ ab_good := ⟨ab_gm 1777 (by decide +kernel) rfl, ab_gm 1778 (by decide +kernel) rfl⟩
def M_m_rows : ab_M := (⟨"SeasonSeatModel", "rows", "(II)J"⟩, prog_14_method_88_code, 6, (some .long))
theorem K_m_rows : ab_MK M_m_rows 2 := ⟨ab_gm 1783 (by decide +kernel) rfl, ab_gm 10 (by decide +kernel) rfl, ⟨by decide +kernel, by decide +kernel, by decide +kernel⟩, by decide⟩
theorem V_m_rows : Cond.instanceMethod M_m_rows.1 ∈ ab_good ∧ Cond.selects M_m_rows.1.cls M_m_rows.1 M_m_rows.1 ∈ ab_good := ⟨ab_gm 1781 (by decide +kernel) rfl, ab_gm 1782 (by decide +kernel) rfl⟩
def M_m_keeps : ab_M := (⟨"SeasonSeatModel", "keeps", "(I)I"⟩, prog_14_method_90_code, 6, (some .int))
theorem K_m_keeps : ab_MK M_m_keeps 1 := ⟨ab_gm 1789 (by decide +kernel) rfl, ab_gm 10 (by decide +kernel) rfl, ⟨by decide +kernel, by decide +kernel, by decide +kernel⟩, by decide⟩
theorem V_m_keeps : Cond.instanceMethod M_m_keeps.1 ∈ ab_good ∧ Cond.selects M_m_keeps.1.cls M_m_keeps.1 M_m_keeps.1 ∈ ab_good := ⟨ab_gm 1787 (by decide +kernel) rfl, ab_gm 1788 (by decide +kernel) rfl⟩
def M_m_keptBy : ab_M := (⟨"SeasonSeatModel", "keptBy", "(III)I"⟩, prog_14_method_89_code, 5, (some .int))
theorem K_m_keptBy : ab_MK M_m_keptBy 3 := ⟨ab_gm 1793 (by decide +kernel) rfl, ab_gm 10 (by decide +kernel) rfl, ⟨by decide +kernel, by decide +kernel, by decide +kernel⟩, by decide⟩
theorem V_m_keptBy : Cond.instanceMethod M_m_keptBy.1 ∈ ab_good ∧ Cond.selects M_m_keptBy.1.cls M_m_keptBy.1 M_m_keptBy.1 ∈ ab_good := ⟨ab_gm 1792 (by decide +kernel) rfl, ab_gs 155 (by decide +kernel) rfl⟩
def M_m_most : ab_M := (⟨"SeasonSeatModel", "most", "(I)I"⟩, prog_14_method_91_code, 4, (some .int))
theorem K_m_most : ab_MK M_m_most 1 := ⟨ab_gm 1797 (by decide +kernel) rfl, ab_gm 10 (by decide +kernel) rfl, ⟨by decide +kernel, by decide +kernel, by decide +kernel⟩, by decide⟩
theorem V_m_most : Cond.instanceMethod M_m_most.1 ∈ ab_good ∧ Cond.selects M_m_most.1.cls M_m_most.1 M_m_most.1 ∈ ab_good := ⟨ab_gm 1795 (by decide +kernel) rfl, ab_gm 1796 (by decide +kernel) rfl⟩
def M_m_stands : ab_M := (⟨"SeasonSeatModel", "stands", "()I"⟩, prog_14_method_92_code, 1, (some .int))
theorem K_m_stands : ab_MK M_m_stands 0 := ⟨ab_gm 1801 (by decide +kernel) rfl, ab_gm 10 (by decide +kernel) rfl, ⟨by decide +kernel, by decide +kernel, by decide +kernel⟩, by decide⟩
theorem V_m_stands : Cond.instanceMethod M_m_stands.1 ∈ ab_good ∧ Cond.selects M_m_stands.1.cls M_m_stands.1 M_m_stands.1 ∈ ab_good := ⟨ab_gm 1799 (by decide +kernel) rfl, ab_gm 1800 (by decide +kernel) rfl⟩
def M_m_placing : ab_M := (⟨"SeasonSeatModel", "placing", "(II)I"⟩, prog_14_method_94_code, 3, (some .int))
theorem K_m_placing : ab_MK M_m_placing 2 := ⟨ab_gm 1805 (by decide +kernel) rfl, ab_gm 10 (by decide +kernel) rfl, ⟨by decide +kernel, by decide +kernel, by decide +kernel⟩, by decide⟩
theorem V_m_placing : Cond.instanceMethod M_m_placing.1 ∈ ab_good ∧ Cond.selects M_m_placing.1.cls M_m_placing.1 M_m_placing.1 ∈ ab_good := ⟨ab_gm 1803 (by decide +kernel) rfl, ab_gm 1804 (by decide +kernel) rfl⟩
def M_m_goesPlace : ab_M := (⟨"SeasonSeatModel", "goesPlace", "(III)V"⟩, prog_14_method_93_code, 6, none)
theorem K_m_goesPlace : ab_MK M_m_goesPlace 3 := ⟨ab_gm 1809 (by decide +kernel) rfl, ab_gm 10 (by decide +kernel) rfl, ⟨by decide +kernel, by decide +kernel, by decide +kernel⟩, by decide⟩
theorem V_m_goesPlace : Cond.instanceMethod M_m_goesPlace.1 ∈ ab_good ∧ Cond.selects M_m_goesPlace.1.cls M_m_goesPlace.1 M_m_goesPlace.1 ∈ ab_good := ⟨ab_gm 1808 (by decide +kernel) rfl, ab_gs 156 (by decide +kernel) rfl⟩
def M_m_isIn : ab_M := (⟨"SeasonSeatModel", "isIn", "(JI)Z"⟩, prog_14_method_15_code, 3, (some .boolean))
theorem K_m_isIn : ab_MK M_m_isIn 2 := ⟨ab_gm 1812 (by decide +kernel) rfl, ab_gm 10 (by decide +kernel) rfl, ⟨by decide +kernel, by decide +kernel, by decide +kernel⟩, by decide⟩
theorem T_m_isIn : Cond.static M_m_isIn.1 ∈ ab_good := ab_gm 1811 (by decide +kernel) rfl
def M_m_trades : ab_M := (⟨"SeasonSeatModel", "trades", "(II)I"⟩, prog_14_method_99_code, 3, (some .int))
theorem K_m_trades : ab_MK M_m_trades 2 := ⟨ab_gm 1816 (by decide +kernel) rfl, ab_gm 10 (by decide +kernel) rfl, ⟨by decide +kernel, by decide +kernel, by decide +kernel⟩, by decide⟩
theorem V_m_trades : Cond.instanceMethod M_m_trades.1 ∈ ab_good ∧ Cond.selects M_m_trades.1.cls M_m_trades.1 M_m_trades.1 ∈ ab_good := ⟨ab_gm 1814 (by decide +kernel) rfl, ab_gm 1815 (by decide +kernel) rfl⟩
def M_m_laysTrades : ab_M := (⟨"SeasonSeatModel", "laysTrades", "()V"⟩, prog_14_method_98_code, 5, none)
theorem K_m_laysTrades : ab_MK M_m_laysTrades 0 := ⟨ab_gm 1820 (by decide +kernel) rfl, ab_gm 10 (by decide +kernel) rfl, ⟨by decide +kernel, by decide +kernel, by decide +kernel⟩, by decide⟩
theorem V_m_laysTrades : Cond.instanceMethod M_m_laysTrades.1 ∈ ab_good ∧ Cond.selects M_m_laysTrades.1.cls M_m_laysTrades.1 M_m_laysTrades.1 ∈ ab_good := ⟨ab_gm 1819 (by decide +kernel) rfl, ab_gs 157 (by decide +kernel) rfl⟩
def M_m_pointing : ab_M := (⟨"SeasonSeatModel", "pointing", "(II)I"⟩, prog_14_method_96_code, 5, (some .int))
theorem K_m_pointing : ab_MK M_m_pointing 2 := ⟨ab_gm 1824 (by decide +kernel) rfl, ab_gm 10 (by decide +kernel) rfl, ⟨by decide +kernel, by decide +kernel, by decide +kernel⟩, by decide⟩
theorem V_m_pointing : Cond.instanceMethod M_m_pointing.1 ∈ ab_good ∧ Cond.selects M_m_pointing.1.cls M_m_pointing.1 M_m_pointing.1 ∈ ab_good := ⟨ab_gm 1823 (by decide +kernel) rfl, ab_gs 158 (by decide +kernel) rfl⟩
def M_m_likesOf : ab_M := (⟨"SeasonSeatModel", "likesOf", "(II)I"⟩, prog_14_method_95_code, 3, (some .int))
theorem K_m_likesOf : ab_MK M_m_likesOf 2 := ⟨ab_gm 1828 (by decide +kernel) rfl, ab_gm 10 (by decide +kernel) rfl, ⟨by decide +kernel, by decide +kernel, by decide +kernel⟩, by decide⟩
theorem V_m_likesOf : Cond.instanceMethod M_m_likesOf.1 ∈ ab_good ∧ Cond.selects M_m_likesOf.1.cls M_m_likesOf.1 M_m_likesOf.1 ∈ ab_good := ⟨ab_gm 1827 (by decide +kernel) rfl, ab_gs 159 (by decide +kernel) rfl⟩
def M_m_isOnRing : ab_M := (⟨"SeasonSeatModel", "isOnRing", "(I)Z"⟩, prog_14_method_97_code, 4, (some .boolean))
theorem K_m_isOnRing : ab_MK M_m_isOnRing 1 := ⟨ab_gm 1832 (by decide +kernel) rfl, ab_gm 10 (by decide +kernel) rfl, ⟨by decide +kernel, by decide +kernel, by decide +kernel⟩, by decide⟩
theorem V_m_isOnRing : Cond.instanceMethod M_m_isOnRing.1 ∈ ab_good ∧ Cond.selects M_m_isOnRing.1.cls M_m_isOnRing.1 M_m_isOnRing.1 ∈ ab_good := ⟨ab_gm 1831 (by decide +kernel) rfl, ab_gs 160 (by decide +kernel) rfl⟩
def M_m_glad : ab_M := (⟨"SeasonSeatModel", "glad", "()I"⟩, prog_14_method_100_code, 3, (some .int))
theorem K_m_glad : ab_MK M_m_glad 0 := ⟨ab_gm 1836 (by decide +kernel) rfl, ab_gm 10 (by decide +kernel) rfl, ⟨by decide +kernel, by decide +kernel, by decide +kernel⟩, by decide⟩
theorem V_m_glad : Cond.instanceMethod M_m_glad.1 ∈ ab_good ∧ Cond.selects M_m_glad.1.cls M_m_glad.1 M_m_glad.1 ∈ ab_good := ⟨ab_gm 1834 (by decide +kernel) rfl, ab_gm 1835 (by decide +kernel) rfl⟩
def M_m_seasons : ab_M := (⟨"SeasonSeatModel", "seasons", "(II)I"⟩, prog_14_method_104_code, 4, (some .int))
theorem K_m_seasons : ab_MK M_m_seasons 2 := ⟨ab_gm 1840 (by decide +kernel) rfl, ab_gm 10 (by decide +kernel) rfl, ⟨by decide +kernel, by decide +kernel, by decide +kernel⟩, by decide⟩
theorem V_m_seasons : Cond.instanceMethod M_m_seasons.1 ∈ ab_good ∧ Cond.selects M_m_seasons.1.cls M_m_seasons.1 M_m_seasons.1 ∈ ab_good := ⟨ab_gm 1838 (by decide +kernel) rfl, ab_gm 1839 (by decide +kernel) rfl⟩
def M_m_noFelt : ab_M := (⟨"SeasonSeatModel", "noFelt", "(II)I"⟩, prog_14_method_101_code, 5, (some .int))
theorem K_m_noFelt : ab_MK M_m_noFelt 2 := ⟨ab_gm 1844 (by decide +kernel) rfl, ab_gm 10 (by decide +kernel) rfl, ⟨by decide +kernel, by decide +kernel, by decide +kernel⟩, by decide⟩
theorem V_m_noFelt : Cond.instanceMethod M_m_noFelt.1 ∈ ab_good ∧ Cond.selects M_m_noFelt.1.cls M_m_noFelt.1 M_m_noFelt.1 ∈ ab_good := ⟨ab_gm 1843 (by decide +kernel) rfl, ab_gs 161 (by decide +kernel) rfl⟩
def M_m_seasonsOf : ab_M := (⟨"SeasonSeatModel", "seasonsOf", "(II)I"⟩, prog_14_method_103_code, 6, (some .int))
theorem K_m_seasonsOf : ab_MK M_m_seasonsOf 2 := ⟨ab_gm 1848 (by decide +kernel) rfl, ab_gm 10 (by decide +kernel) rfl, ⟨by decide +kernel, by decide +kernel, by decide +kernel⟩, by decide⟩
theorem V_m_seasonsOf : Cond.instanceMethod M_m_seasonsOf.1 ∈ ab_good ∧ Cond.selects M_m_seasonsOf.1.cls M_m_seasonsOf.1 M_m_seasonsOf.1 ∈ ab_good := ⟨ab_gm 1847 (by decide +kernel) rfl, ab_gs 162 (by decide +kernel) rfl⟩
def M_m_isFelt : ab_M := (⟨"SeasonSeatModel", "isFelt", "(III)Z"⟩, prog_14_method_102_code, 6, (some .boolean))
theorem K_m_isFelt : ab_MK M_m_isFelt 3 := ⟨ab_gm 1852 (by decide +kernel) rfl, ab_gm 10 (by decide +kernel) rfl, ⟨by decide +kernel, by decide +kernel, by decide +kernel⟩, by decide⟩
theorem V_m_isFelt : Cond.instanceMethod M_m_isFelt.1 ∈ ab_good ∧ Cond.selects M_m_isFelt.1.cls M_m_isFelt.1 M_m_isFelt.1 ∈ ab_good := ⟨ab_gm 1851 (by decide +kernel) rfl, ab_gs 163 (by decide +kernel) rfl⟩
def M_m_months : ab_M := (⟨"SeasonSeatModel", "months", "(II)I"⟩, prog_14_method_105_code, 6, (some .int))
theorem K_m_months : ab_MK M_m_months 2 := ⟨ab_gm 1856 (by decide +kernel) rfl, ab_gm 10 (by decide +kernel) rfl, ⟨by decide +kernel, by decide +kernel, by decide +kernel⟩, by decide⟩
theorem V_m_months : Cond.instanceMethod M_m_months.1 ∈ ab_good ∧ Cond.selects M_m_months.1.cls M_m_months.1 M_m_months.1 ∈ ab_good := ⟨ab_gm 1854 (by decide +kernel) rfl, ab_gm 1855 (by decide +kernel) rfl⟩
def M_m_attempt : ab_M := (⟨"SeasonSeatModel", "attempt", "(II)I"⟩, prog_14_method_107_code, 9, (some .int))
theorem K_m_attempt : ab_MK M_m_attempt 2 := ⟨ab_gm 1860 (by decide +kernel) rfl, ab_gm 10 (by decide +kernel) rfl, ⟨by decide +kernel, by decide +kernel, by decide +kernel⟩, by decide⟩
theorem V_m_attempt : Cond.instanceMethod M_m_attempt.1 ∈ ab_good ∧ Cond.selects M_m_attempt.1.cls M_m_attempt.1 M_m_attempt.1 ∈ ab_good := ⟨ab_gm 1858 (by decide +kernel) rfl, ab_gm 1859 (by decide +kernel) rfl⟩
def M_m_mostAlike : ab_M := (⟨"SeasonSeatModel", "mostAlike", "(III)I"⟩, prog_14_method_106_code, 9, (some .int))
theorem K_m_mostAlike : ab_MK M_m_mostAlike 3 := ⟨ab_gm 1864 (by decide +kernel) rfl, ab_gm 10 (by decide +kernel) rfl, ⟨by decide +kernel, by decide +kernel, by decide +kernel⟩, by decide⟩
theorem V_m_mostAlike : Cond.instanceMethod M_m_mostAlike.1 ∈ ab_good ∧ Cond.selects M_m_mostAlike.1.cls M_m_mostAlike.1 M_m_mostAlike.1 ∈ ab_good := ⟨ab_gm 1863 (by decide +kernel) rfl, ab_gs 164 (by decide +kernel) rfl⟩
def M_m_forces : ab_M := (⟨"SeasonSeatModel", "forces", "(II)I"⟩, prog_14_method_112_code, 4, (some .int))
theorem K_m_forces : ab_MK M_m_forces 2 := ⟨ab_gm 1868 (by decide +kernel) rfl, ab_gm 10 (by decide +kernel) rfl, ⟨by decide +kernel, by decide +kernel, by decide +kernel⟩, by decide⟩
theorem V_m_forces : Cond.instanceMethod M_m_forces.1 ∈ ab_good ∧ Cond.selects M_m_forces.1.cls M_m_forces.1 M_m_forces.1 ∈ ab_good := ⟨ab_gm 1866 (by decide +kernel) rfl, ab_gm 1867 (by decide +kernel) rfl⟩
def M_m_noForce : ab_M := (⟨"SeasonSeatModel", "noForce", "(II)I"⟩, prog_14_method_111_code, 3, (some .int))
theorem K_m_noForce : ab_MK M_m_noForce 2 := ⟨ab_gm 1872 (by decide +kernel) rfl, ab_gm 10 (by decide +kernel) rfl, ⟨by decide +kernel, by decide +kernel, by decide +kernel⟩, by decide⟩
theorem V_m_noForce : Cond.instanceMethod M_m_noForce.1 ∈ ab_good ∧ Cond.selects M_m_noForce.1.cls M_m_noForce.1 M_m_noForce.1 ∈ ab_good := ⟨ab_gm 1871 (by decide +kernel) rfl, ab_gs 165 (by decide +kernel) rfl⟩
def M_m_laysForce : ab_M := (⟨"SeasonSeatModel", "laysForce", "(II)I"⟩, prog_14_method_110_code, 7, (some .int))
theorem K_m_laysForce : ab_MK M_m_laysForce 2 := ⟨ab_gm 1876 (by decide +kernel) rfl, ab_gm 10 (by decide +kernel) rfl, ⟨by decide +kernel, by decide +kernel, by decide +kernel⟩, by decide⟩
theorem V_m_laysForce : Cond.instanceMethod M_m_laysForce.1 ∈ ab_good ∧ Cond.selects M_m_laysForce.1.cls M_m_laysForce.1 M_m_laysForce.1 ∈ ab_good := ⟨ab_gm 1875 (by decide +kernel) rfl, ab_gs 166 (by decide +kernel) rfl⟩
def M_m_firstBy : ab_M := (⟨"SeasonSeatModel", "firstBy", "(II)I"⟩, prog_14_method_108_code, 4, (some .int))
theorem K_m_firstBy : ab_MK M_m_firstBy 2 := ⟨ab_gm 1880 (by decide +kernel) rfl, ab_gm 10 (by decide +kernel) rfl, ⟨by decide +kernel, by decide +kernel, by decide +kernel⟩, by decide⟩
theorem V_m_firstBy : Cond.instanceMethod M_m_firstBy.1 ∈ ab_good ∧ Cond.selects M_m_firstBy.1.cls M_m_firstBy.1 M_m_firstBy.1 ∈ ab_good := ⟨ab_gm 1879 (by decide +kernel) rfl, ab_gs 167 (by decide +kernel) rfl⟩
def M_m_otherAt : ab_M := (⟨"SeasonSeatModel", "otherAt", "(I)I"⟩, prog_14_method_109_code, 5, (some .int))
theorem K_m_otherAt : ab_MK M_m_otherAt 1 := ⟨ab_gm 1884 (by decide +kernel) rfl, ab_gm 10 (by decide +kernel) rfl, ⟨by decide +kernel, by decide +kernel, by decide +kernel⟩, by decide⟩
theorem V_m_otherAt : Cond.instanceMethod M_m_otherAt.1 ∈ ab_good ∧ Cond.selects M_m_otherAt.1.cls M_m_otherAt.1 M_m_otherAt.1 ∈ ab_good := ⟨ab_gm 1883 (by decide +kernel) rfl, ab_gs 168 (by decide +kernel) rfl⟩
def M_m_best : ab_M := (⟨"SeasonSeatModel", "best", "(II)I"⟩, prog_14_method_113_code, 6, (some .int))
theorem K_m_best : ab_MK M_m_best 2 := ⟨ab_gm 1888 (by decide +kernel) rfl, ab_gm 10 (by decide +kernel) rfl, ⟨by decide +kernel, by decide +kernel, by decide +kernel⟩, by decide⟩
theorem V_m_best : Cond.instanceMethod M_m_best.1 ∈ ab_good ∧ Cond.selects M_m_best.1.cls M_m_best.1 M_m_best.1 ∈ ab_good := ⟨ab_gm 1886 (by decide +kernel) rfl, ab_gm 1887 (by decide +kernel) rfl⟩
def M_m_chance : ab_M := (⟨"SeasonSeatModel", "chance", "(III)I"⟩, prog_14_method_119_code, 4, (some .int))
theorem K_m_chance : ab_MK M_m_chance 3 := ⟨ab_gm 1892 (by decide +kernel) rfl, ab_gm 10 (by decide +kernel) rfl, ⟨by decide +kernel, by decide +kernel, by decide +kernel⟩, by decide⟩
theorem V_m_chance : Cond.instanceMethod M_m_chance.1 ∈ ab_good ∧ Cond.selects M_m_chance.1.cls M_m_chance.1 M_m_chance.1 ∈ ab_good := ⟨ab_gm 1890 (by decide +kernel) rfl, ab_gm 1891 (by decide +kernel) rfl⟩
def M_m_laysLots : ab_M := (⟨"SeasonSeatModel", "laysLots", "(II)V"⟩, prog_14_method_116_code, 3, none)
theorem K_m_laysLots : ab_MK M_m_laysLots 2 := ⟨ab_gm 1897 (by decide +kernel) rfl, ab_gm 10 (by decide +kernel) rfl, ⟨by decide +kernel, by decide +kernel, by decide +kernel⟩, by decide⟩
theorem V_m_laysLots : Cond.instanceMethod M_m_laysLots.1 ∈ ab_good ∧ Cond.selects M_m_laysLots.1.cls M_m_laysLots.1 M_m_laysLots.1 ∈ ab_good := ⟨ab_gm 1896 (by decide +kernel) rfl, ab_gs 169 (by decide +kernel) rfl⟩
def M_m_goesLots : ab_M := (⟨"SeasonSeatModel", "goesLots", "(IIIJ)V"⟩, prog_14_method_115_code, 10, none)
theorem K_m_goesLots : ab_MK M_m_goesLots 4 := ⟨ab_gm 1901 (by decide +kernel) rfl, ab_gm 10 (by decide +kernel) rfl, ⟨by decide +kernel, by decide +kernel, by decide +kernel⟩, by decide⟩
theorem V_m_goesLots : Cond.instanceMethod M_m_goesLots.1 ∈ ab_good ∧ Cond.selects M_m_goesLots.1.cls M_m_goesLots.1 M_m_goesLots.1 ∈ ab_good := ⟨ab_gm 1900 (by decide +kernel) rfl, ab_gs 170 (by decide +kernel) rfl⟩
def M_m_wholeOf : ab_M := (⟨"SeasonSeatModel", "wholeOf", "(I)J"⟩, prog_14_method_114_code, 4, (some .long))
theorem K_m_wholeOf : ab_MK M_m_wholeOf 1 := ⟨ab_gm 1904 (by decide +kernel) rfl, ab_gm 10 (by decide +kernel) rfl, ⟨by decide +kernel, by decide +kernel, by decide +kernel⟩, by decide⟩
theorem T_m_wholeOf : Cond.static M_m_wholeOf.1 ∈ ab_good := ab_gm 1903 (by decide +kernel) rfl
def M_m_part : ab_M := (⟨"SeasonSeatModel", "part", "(JJI)I"⟩, prog_14_method_118_code, 5, (some .int))
theorem K_m_part : ab_MK M_m_part 3 := ⟨ab_gm 1907 (by decide +kernel) rfl, ab_gm 10 (by decide +kernel) rfl, ⟨by decide +kernel, by decide +kernel, by decide +kernel⟩, by decide⟩
theorem T_m_part : Cond.static M_m_part.1 ∈ ab_good := ab_gm 1906 (by decide +kernel) rfl
def M_m_common : ab_M := (⟨"SeasonSeatModel", "common", "(JJ)J"⟩, prog_14_method_117_code, 4, (some .long))
theorem K_m_common : ab_MK M_m_common 2 := ⟨ab_gm 1910 (by decide +kernel) rfl, ab_gm 10 (by decide +kernel) rfl, ⟨by decide +kernel, by decide +kernel, by decide +kernel⟩, by decide⟩
theorem T_m_common : Cond.static M_m_common.1 ∈ ab_good := ab_gm 1909 (by decide +kernel) rfl
def M_m_mean : ab_M := (⟨"SeasonSeatModel", "mean", "(II)I"⟩, prog_14_method_120_code, 3, (some .int))
theorem K_m_mean : ab_MK M_m_mean 2 := ⟨ab_gm 1914 (by decide +kernel) rfl, ab_gm 10 (by decide +kernel) rfl, ⟨by decide +kernel, by decide +kernel, by decide +kernel⟩, by decide⟩
theorem V_m_mean : Cond.instanceMethod M_m_mean.1 ∈ ab_good ∧ Cond.selects M_m_mean.1.cls M_m_mean.1 M_m_mean.1 ∈ ab_good := ⟨ab_gm 1912 (by decide +kernel) rfl, ab_gm 1913 (by decide +kernel) rfl⟩
def M_m_numbers : ab_M := (⟨"SeasonSeatModel", "numbers", "(III)I"⟩, prog_14_method_122_code, 5, (some .int))
theorem K_m_numbers : ab_MK M_m_numbers 3 := ⟨ab_gm 1918 (by decide +kernel) rfl, ab_gm 10 (by decide +kernel) rfl, ⟨by decide +kernel, by decide +kernel, by decide +kernel⟩, by decide⟩
theorem V_m_numbers : Cond.instanceMethod M_m_numbers.1 ∈ ab_good ∧ Cond.selects M_m_numbers.1.cls M_m_numbers.1 M_m_numbers.1 ∈ ab_good := ⟨ab_gm 1916 (by decide +kernel) rfl, ab_gm 1917 (by decide +kernel) rfl⟩
def M_m_write : ab_M := (⟨"SeasonSeatModel", "write", "(IIJ)J"⟩, prog_14_method_123_code, 6, (some .long))
theorem K_m_write : ab_MK M_m_write 3 := ⟨ab_gm 1922 (by decide +kernel) rfl, ab_gm 10 (by decide +kernel) rfl, ⟨by decide +kernel, by decide +kernel, by decide +kernel⟩, by decide⟩
theorem V_m_write : Cond.instanceMethod M_m_write.1 ∈ ab_good ∧ Cond.selects M_m_write.1.cls M_m_write.1 M_m_write.1 ∈ ab_good := ⟨ab_gm 1920 (by decide +kernel) rfl, ab_gm 1921 (by decide +kernel) rfl⟩
def M_m_cut : ab_M := (⟨"SeasonSeatModel", "cut", "(JI)J"⟩, prog_14_method_121_code, 3, (some .long))
theorem K_m_cut : ab_MK M_m_cut 2 := ⟨ab_gm 1926 (by decide +kernel) rfl, ab_gm 10 (by decide +kernel) rfl, ⟨by decide +kernel, by decide +kernel, by decide +kernel⟩, by decide⟩
theorem T_m_cut : Cond.static M_m_cut.1 ∈ ab_good := ab_gm 1925 (by decide +kernel) rfl
def M_m_lists : ab_M := (⟨"SeasonSeatModel", "lists", "(II)I"⟩, prog_14_method_124_code, 5, (some .int))
theorem K_m_lists : ab_MK M_m_lists 2 := ⟨ab_gm 1930 (by decide +kernel) rfl, ab_gm 10 (by decide +kernel) rfl, ⟨by decide +kernel, by decide +kernel, by decide +kernel⟩, by decide⟩
theorem V_m_lists : Cond.instanceMethod M_m_lists.1 ∈ ab_good ∧ Cond.selects M_m_lists.1.cls M_m_lists.1 M_m_lists.1 ∈ ab_good := ⟨ab_gm 1928 (by decide +kernel) rfl, ab_gm 1929 (by decide +kernel) rfl⟩
def M_m_image : ab_M := (⟨"SeasonSeatModel", "image", "(I)I"⟩, prog_14_method_125_code, 3, (some .int))
theorem K_m_image : ab_MK M_m_image 1 := ⟨ab_gm 1934 (by decide +kernel) rfl, ab_gm 10 (by decide +kernel) rfl, ⟨by decide +kernel, by decide +kernel, by decide +kernel⟩, by decide⟩
theorem V_m_image : Cond.instanceMethod M_m_image.1 ∈ ab_good ∧ Cond.selects M_m_image.1.cls M_m_image.1 M_m_image.1 ∈ ab_good := ⟨ab_gm 1932 (by decide +kernel) rfl, ab_gm 1933 (by decide +kernel) rfl⟩
def M_m_restore : ab_M := (⟨"SeasonSeatModel", "restore", "(I)I"⟩, prog_14_method_126_code, 3, (some .int))
theorem K_m_restore : ab_MK M_m_restore 1 := ⟨ab_gm 1938 (by decide +kernel) rfl, ab_gm 10 (by decide +kernel) rfl, ⟨by decide +kernel, by decide +kernel, by decide +kernel⟩, by decide⟩
theorem V_m_restore : Cond.instanceMethod M_m_restore.1 ∈ ab_good ∧ Cond.selects M_m_restore.1.cls M_m_restore.1 M_m_restore.1 ∈ ab_good := ⟨ab_gm 1936 (by decide +kernel) rfl, ab_gm 1937 (by decide +kernel) rfl⟩
def M_m_count : ab_M := (⟨"SeasonSeatModel", "count", "(I)I"⟩, prog_14_method_128_code, 2, (some .int))
theorem K_m_count : ab_MK M_m_count 1 := ⟨ab_gm 1942 (by decide +kernel) rfl, ab_gm 10 (by decide +kernel) rfl, ⟨by decide +kernel, by decide +kernel, by decide +kernel⟩, by decide⟩
theorem V_m_count : Cond.instanceMethod M_m_count.1 ∈ ab_good ∧ Cond.selects M_m_count.1.cls M_m_count.1 M_m_count.1 ∈ ab_good := ⟨ab_gm 1940 (by decide +kernel) rfl, ab_gm 1941 (by decide +kernel) rfl⟩
def M_m_elsewhere : ab_M := (⟨"SeasonSeatModel", "elsewhere", "()I"⟩, prog_14_method_127_code, 3, (some .int))
theorem K_m_elsewhere : ab_MK M_m_elsewhere 0 := ⟨ab_gm 1946 (by decide +kernel) rfl, ab_gm 10 (by decide +kernel) rfl, ⟨by decide +kernel, by decide +kernel, by decide +kernel⟩, by decide⟩
theorem V_m_elsewhere : Cond.instanceMethod M_m_elsewhere.1 ∈ ab_good ∧ Cond.selects M_m_elsewhere.1.cls M_m_elsewhere.1 M_m_elsewhere.1 ∈ ab_good := ⟨ab_gm 1945 (by decide +kernel) rfl, ab_gs 171 (by decide +kernel) rfl⟩
theorem Q_law_7 : Cond.classLink "SeasonSeatLaw" 7 "SeasonSeat" ∈ ab_good := ab_gm 22 (by decide +kernel) rfl
theorem N_s : Cond.instantiable "SeasonSeat" 17 ∈ ab_good ∧ Cond.initialized "SeasonSeat" ∈ ab_good := ⟨ab_gm 23 (by decide +kernel) rfl, ab_gm 1 (by decide +kernel) rfl⟩
theorem L_law_9 : ab_ML "SeasonSeatLaw" 9 M_s_init.1 := Or.inl (ab_gm 24 (by decide +kernel) rfl)
theorem L_s_1 : Cond.methodLink "SeasonSeat" 1 objectInit ∈ ab_good := ab_gm 27 (by decide +kernel) rfl
theorem Q_s_17 : Cond.classLink "SeasonSeat" 17 "SeasonSeat$Carriage" ∈ ab_good := ab_gm 30 (by decide +kernel) rfl
theorem N_ca : Cond.instantiable "SeasonSeat$Carriage" 9 ∈ ab_good ∧ Cond.initialized "SeasonSeat$Carriage" ∈ ab_good := ⟨ab_gm 31 (by decide +kernel) rfl, ab_gm 2 (by decide +kernel) rfl⟩
theorem L_s_19 : ab_ML "SeasonSeat" 19 M_ca_init.1 := Or.inr ⟨"SeasonSeat", ab_nm 32 (by decide +kernel) rfl⟩
theorem L_ca_3 : Cond.methodLink "SeasonSeat$Carriage" 3 objectInit ∈ ab_good := ab_gm 35 (by decide +kernel) rfl
theorem F_ca_9 : ab_FL "SeasonSeat$Carriage" 9 0 0 false := ⟨_, _, _, rfl, by decide, rfl, Or.inl ⟨ab_gm 36 (by decide +kernel) rfl, fun h => by cases h⟩⟩
theorem F_tr_29 : ab_FL "SeasonSeat$Trading" 29 0 0 false := ⟨_, _, _, rfl, by decide, rfl, Or.inr ⟨"SeasonSeat", rfl, ab_nm 37 (by decide +kernel) rfl⟩⟩
theorem F_cl_60 : ab_FL "SeasonSeat$Climate" 60 0 0 false := ⟨_, _, _, rfl, by decide, rfl, Or.inr ⟨"SeasonSeat", rfl, ab_nm 38 (by decide +kernel) rfl⟩⟩
theorem F_ro_69 : ab_FL "SeasonSeat$Rows" 69 0 0 false := ⟨_, _, _, rfl, by decide, rfl, Or.inr ⟨"SeasonSeat", rfl, ab_nm 39 (by decide +kernel) rfl⟩⟩
theorem F_re_118 : ab_FL "SeasonSeat$Reader" 118 0 0 false := ⟨_, _, _, rfl, by decide, rfl, Or.inr ⟨"SeasonSeat", rfl, ab_nm 40 (by decide +kernel) rfl⟩⟩
theorem F_id_53 : ab_FL "SeasonSeat$Idling" 53 0 0 false := ⟨_, _, _, rfl, by decide, rfl, Or.inr ⟨"SeasonSeat", rfl, ab_nm 41 (by decide +kernel) rfl⟩⟩
theorem F_s_177 : ab_FL "SeasonSeat" 177 0 0 false := ⟨_, _, _, rfl, by decide, rfl, Or.inr ⟨"SeasonSeat", rfl, ab_nm 42 (by decide +kernel) rfl⟩⟩
theorem F_ca_15 : ab_FL "SeasonSeat$Carriage" 15 0 1 false := ⟨_, _, _, rfl, by decide, rfl, Or.inl ⟨ab_gm 43 (by decide +kernel) rfl, fun h => by cases h⟩⟩
theorem F_re_85 : ab_FL "SeasonSeat$Reader" 85 0 1 false := ⟨_, _, _, rfl, by decide, rfl, Or.inr ⟨"SeasonSeat", rfl, ab_nm 44 (by decide +kernel) rfl⟩⟩
theorem F_s_121 : ab_FL "SeasonSeat" 121 0 1 false := ⟨_, _, _, rfl, by decide, rfl, Or.inr ⟨"SeasonSeat", rfl, ab_nm 45 (by decide +kernel) rfl⟩⟩
theorem F_ca_18 : ab_FL "SeasonSeat$Carriage" 18 0 2 false := ⟨_, _, _, rfl, by decide, rfl, Or.inl ⟨ab_gm 46 (by decide +kernel) rfl, fun h => by cases h⟩⟩
theorem F_cl_56 : ab_FL "SeasonSeat$Climate" 56 0 2 false := ⟨_, _, _, rfl, by decide, rfl, Or.inr ⟨"SeasonSeat", rfl, ab_nm 47 (by decide +kernel) rfl⟩⟩
theorem F_sd_29 : ab_FL "SeasonSeat$Stand" 29 0 2 false := ⟨_, _, _, rfl, by decide, rfl, Or.inr ⟨"SeasonSeat", rfl, ab_nm 48 (by decide +kernel) rfl⟩⟩
theorem F_re_79 : ab_FL "SeasonSeat$Reader" 79 0 2 false := ⟨_, _, _, rfl, by decide, rfl, Or.inr ⟨"SeasonSeat", rfl, ab_nm 49 (by decide +kernel) rfl⟩⟩
theorem F_ca_21 : ab_FL "SeasonSeat$Carriage" 21 0 3 false := ⟨_, _, _, rfl, by decide, rfl, Or.inl ⟨ab_gm 50 (by decide +kernel) rfl, fun h => by cases h⟩⟩
theorem F_sd_25 : ab_FL "SeasonSeat$Stand" 25 0 3 false := ⟨_, _, _, rfl, by decide, rfl, Or.inr ⟨"SeasonSeat", rfl, ab_nm 51 (by decide +kernel) rfl⟩⟩
theorem F_cl_55 : ab_FL "SeasonSeat$Climate" 55 0 3 false := ⟨_, _, _, rfl, by decide, rfl, Or.inr ⟨"SeasonSeat", rfl, ab_nm 52 (by decide +kernel) rfl⟩⟩
theorem F_re_123 : ab_FL "SeasonSeat$Reader" 123 0 3 false := ⟨_, _, _, rfl, by decide, rfl, Or.inr ⟨"SeasonSeat", rfl, ab_nm 53 (by decide +kernel) rfl⟩⟩
theorem F_ca_24 : ab_FL "SeasonSeat$Carriage" 24 0 4 false := ⟨_, _, _, rfl, by decide, rfl, Or.inl ⟨ab_gm 54 (by decide +kernel) rfl, fun h => by cases h⟩⟩
theorem F_sd_28 : ab_FL "SeasonSeat$Stand" 28 0 4 false := ⟨_, _, _, rfl, by decide, rfl, Or.inr ⟨"SeasonSeat", rfl, ab_nm 55 (by decide +kernel) rfl⟩⟩
theorem F_re_135 : ab_FL "SeasonSeat$Reader" 135 0 4 false := ⟨_, _, _, rfl, by decide, rfl, Or.inr ⟨"SeasonSeat", rfl, ab_nm 56 (by decide +kernel) rfl⟩⟩
theorem F_ca_27 : ab_FL "SeasonSeat$Carriage" 27 0 5 true := ⟨_, _, _, rfl, by decide, rfl, Or.inl ⟨ab_gm 57 (by decide +kernel) rfl, fun _ => rfl⟩⟩
theorem FN_ca_27 : ∀ host : String, ∀ O n dd, Cond.fieldLinkNest "SeasonSeat$Carriage" 27 O n dd host ∉ ab_nest := ab_nestno (by decide +kernel)
theorem F_re_132 : ab_FL "SeasonSeat$Reader" 132 0 5 true := ⟨_, _, _, rfl, by decide, rfl, Or.inr ⟨"SeasonSeat", rfl, ab_nm 58 (by decide +kernel) rfl⟩⟩
theorem F_s_141 : ab_FL "SeasonSeat" 141 0 5 true := ⟨_, _, _, rfl, by decide, rfl, Or.inr ⟨"SeasonSeat", rfl, ab_nm 59 (by decide +kernel) rfl⟩⟩
theorem F_cl_110 : ab_FL "SeasonSeat$Climate" 110 0 5 true := ⟨_, _, _, rfl, by decide, rfl, Or.inr ⟨"SeasonSeat", rfl, ab_nm 60 (by decide +kernel) rfl⟩⟩
theorem F_ca_31 : ab_FL "SeasonSeat$Carriage" 31 0 6 true := ⟨_, _, _, rfl, by decide, rfl, Or.inl ⟨ab_gm 61 (by decide +kernel) rfl, fun _ => rfl⟩⟩
theorem FN_ca_31 : ∀ host : String, ∀ O n dd, Cond.fieldLinkNest "SeasonSeat$Carriage" 31 O n dd host ∉ ab_nest := ab_nestno (by decide +kernel)
theorem F_re_144 : ab_FL "SeasonSeat$Reader" 144 0 6 true := ⟨_, _, _, rfl, by decide, rfl, Or.inr ⟨"SeasonSeat", rfl, ab_nm 62 (by decide +kernel) rfl⟩⟩
theorem F_ca_34 : ab_FL "SeasonSeat$Carriage" 34 0 7 false := ⟨_, _, _, rfl, by decide, rfl, Or.inl ⟨ab_gm 63 (by decide +kernel) rfl, fun h => by cases h⟩⟩
theorem F_re_106 : ab_FL "SeasonSeat$Reader" 106 0 7 false := ⟨_, _, _, rfl, by decide, rfl, Or.inr ⟨"SeasonSeat", rfl, ab_nm 64 (by decide +kernel) rfl⟩⟩
theorem F_cl_99 : ab_FL "SeasonSeat$Climate" 99 0 7 false := ⟨_, _, _, rfl, by decide, rfl, Or.inr ⟨"SeasonSeat", rfl, ab_nm 65 (by decide +kernel) rfl⟩⟩
theorem F_ca_37 : ab_FL "SeasonSeat$Carriage" 37 0 8 false := ⟨_, _, _, rfl, by decide, rfl, Or.inl ⟨ab_gm 66 (by decide +kernel) rfl, fun h => by cases h⟩⟩
theorem F_re_111 : ab_FL "SeasonSeat$Reader" 111 0 8 false := ⟨_, _, _, rfl, by decide, rfl, Or.inr ⟨"SeasonSeat", rfl, ab_nm 67 (by decide +kernel) rfl⟩⟩
theorem F_cl_66 : ab_FL "SeasonSeat$Climate" 66 0 8 false := ⟨_, _, _, rfl, by decide, rfl, Or.inr ⟨"SeasonSeat", rfl, ab_nm 68 (by decide +kernel) rfl⟩⟩
theorem Q_s_24 : Cond.classLink "SeasonSeat" 24 "SeasonSeat$Stand" ∈ ab_good := ab_gm 90 (by decide +kernel) rfl
theorem N_sd : Cond.instantiable "SeasonSeat$Stand" 5 ∈ ab_good ∧ Cond.initialized "SeasonSeat$Stand" ∈ ab_good := ⟨ab_gm 91 (by decide +kernel) rfl, ab_gm 3 (by decide +kernel) rfl⟩
theorem L_s_26 : ab_ML "SeasonSeat" 26 M_sd_init.1 := Or.inr ⟨"SeasonSeat", ab_nm 92 (by decide +kernel) rfl⟩
theorem L_sd_1 : Cond.methodLink "SeasonSeat$Stand" 1 objectInit ∈ ab_good := ab_gm 95 (by decide +kernel) rfl
theorem F_sd_7 : ab_FL "SeasonSeat$Stand" 7 8 0 false := ⟨_, _, _, rfl, by decide, rfl, Or.inl ⟨ab_gm 96 (by decide +kernel) rfl, fun h => by cases h⟩⟩
theorem F_s_134 : ab_FL "SeasonSeat" 134 8 0 false := ⟨_, _, _, rfl, by decide, rfl, Or.inr ⟨"SeasonSeat", rfl, ab_nm 97 (by decide +kernel) rfl⟩⟩
theorem F_sd_13 : ab_FL "SeasonSeat$Stand" 13 8 1 false := ⟨_, _, _, rfl, by decide, rfl, Or.inl ⟨ab_gm 98 (by decide +kernel) rfl, fun h => by cases h⟩⟩
theorem F_s_145 : ab_FL "SeasonSeat" 145 8 1 false := ⟨_, _, _, rfl, by decide, rfl, Or.inr ⟨"SeasonSeat", rfl, ab_nm 99 (by decide +kernel) rfl⟩⟩
theorem F_sd_16 : ab_FL "SeasonSeat$Stand" 16 8 2 false := ⟨_, _, _, rfl, by decide, rfl, Or.inl ⟨ab_gm 100 (by decide +kernel) rfl, fun h => by cases h⟩⟩
theorem F_s_151 : ab_FL "SeasonSeat" 151 8 2 false := ⟨_, _, _, rfl, by decide, rfl, Or.inr ⟨"SeasonSeat", rfl, ab_nm 101 (by decide +kernel) rfl⟩⟩
theorem F_sd_19 : ab_FL "SeasonSeat$Stand" 19 8 3 false := ⟨_, _, _, rfl, by decide, rfl, Or.inl ⟨ab_gm 102 (by decide +kernel) rfl, fun h => by cases h⟩⟩
theorem F_s_180 : ab_FL "SeasonSeat" 180 8 3 false := ⟨_, _, _, rfl, by decide, rfl, Or.inr ⟨"SeasonSeat", rfl, ab_nm 103 (by decide +kernel) rfl⟩⟩
theorem F_sd_22 : ab_FL "SeasonSeat$Stand" 22 8 4 false := ⟨_, _, _, rfl, by decide, rfl, Or.inl ⟨ab_gm 104 (by decide +kernel) rfl, fun h => by cases h⟩⟩
theorem F_s_263 : ab_FL "SeasonSeat" 263 8 4 false := ⟨_, _, _, rfl, by decide, rfl, Or.inr ⟨"SeasonSeat", rfl, ab_nm 105 (by decide +kernel) rfl⟩⟩
theorem Q_s_34 : Cond.classLink "SeasonSeat" 34 "SeasonSeat$Past" ∈ ab_good := ab_gm 117 (by decide +kernel) rfl
theorem N_pa : Cond.instantiable "SeasonSeat$Past" 3 ∈ ab_good ∧ Cond.initialized "SeasonSeat$Past" ∈ ab_good := ⟨ab_gm 118 (by decide +kernel) rfl, ab_gm 4 (by decide +kernel) rfl⟩
theorem L_s_36 : ab_ML "SeasonSeat" 36 M_pa_init.1 := Or.inr ⟨"SeasonSeat", ab_nm 119 (by decide +kernel) rfl⟩
theorem L_pa_3 : Cond.methodLink "SeasonSeat$Past" 3 objectInit ∈ ab_good := ab_gm 122 (by decide +kernel) rfl
theorem Q_pa_9 : Cond.classLink "SeasonSeat$Past" 9 "SeasonSeat$Stand" ∈ ab_good := ab_gm 123 (by decide +kernel) rfl
theorem L_pa_24 : ab_ML "SeasonSeat$Past" 24 M_sd_init.1 := Or.inr ⟨"SeasonSeat", ab_nm 125 (by decide +kernel) rfl⟩
theorem F_pa_11 : ab_FL "SeasonSeat$Past" 11 4 0 true := ⟨_, _, _, rfl, by decide, rfl, Or.inl ⟨ab_gm 126 (by decide +kernel) rfl, fun _ => rfl⟩⟩
theorem FN_pa_11 : ∀ host : String, ∀ O n dd, Cond.fieldLinkNest "SeasonSeat$Past" 11 O n dd host ∉ ab_nest := ab_nestno (by decide +kernel)
theorem F_pa_17 : ab_FL "SeasonSeat$Past" 17 4 1 false := ⟨_, _, _, rfl, by decide, rfl, Or.inl ⟨ab_gm 127 (by decide +kernel) rfl, fun h => by cases h⟩⟩
theorem F_pa_21 : ab_FL "SeasonSeat$Past" 21 4 2 false := ⟨_, _, _, rfl, by decide, rfl, Or.inl ⟨ab_gm 128 (by decide +kernel) rfl, fun h => by cases h⟩⟩
theorem F_s_202 : ab_FL "SeasonSeat" 202 4 2 false := ⟨_, _, _, rfl, by decide, rfl, Or.inr ⟨"SeasonSeat", rfl, ab_nm 129 (by decide +kernel) rfl⟩⟩
theorem Q_s_44 : Cond.classLink "SeasonSeat" 44 "SeasonSeat$Tray" ∈ ab_good := ab_gm 137 (by decide +kernel) rfl
theorem Q_s_58 : Cond.classLink "SeasonSeat" 58 "SeasonSeat$Reader" ∈ ab_good := ab_gm 140 (by decide +kernel) rfl
theorem N_re : Cond.instantiable "SeasonSeat$Reader" 13 ∈ ab_good ∧ Cond.initialized "SeasonSeat$Reader" ∈ ab_good := ⟨ab_gm 141 (by decide +kernel) rfl, ab_gm 5 (by decide +kernel) rfl⟩
theorem L_s_60 : ab_ML "SeasonSeat" 60 M_re_init.1 := Or.inr ⟨"SeasonSeat", ab_nm 142 (by decide +kernel) rfl⟩
theorem L_re_3 : Cond.methodLink "SeasonSeat$Reader" 3 objectInit ∈ ab_good := ab_gm 145 (by decide +kernel) rfl
theorem Q_re_37 : Cond.classLink "SeasonSeat$Reader" 37 "SeasonSeat$Carriage" ∈ ab_good := ab_gm 146 (by decide +kernel) rfl
theorem L_re_39 : ab_ML "SeasonSeat$Reader" 39 M_ca_init.1 := Or.inr ⟨"SeasonSeat", ab_nm 147 (by decide +kernel) rfl⟩
theorem F_re_9 : ab_FL "SeasonSeat$Reader" 9 5 0 false := ⟨_, _, _, rfl, by decide, rfl, Or.inl ⟨ab_gm 148 (by decide +kernel) rfl, fun h => by cases h⟩⟩
theorem F_re_15 : ab_FL "SeasonSeat$Reader" 15 5 1 false := ⟨_, _, _, rfl, by decide, rfl, Or.inl ⟨ab_gm 149 (by decide +kernel) rfl, fun h => by cases h⟩⟩
theorem F_re_19 : ab_FL "SeasonSeat$Reader" 19 5 2 false := ⟨_, _, _, rfl, by decide, rfl, Or.inl ⟨ab_gm 150 (by decide +kernel) rfl, fun h => by cases h⟩⟩
theorem F_re_22 : ab_FL "SeasonSeat$Reader" 22 5 3 false := ⟨_, _, _, rfl, by decide, rfl, Or.inl ⟨ab_gm 151 (by decide +kernel) rfl, fun h => by cases h⟩⟩
theorem F_re_25 : ab_FL "SeasonSeat$Reader" 25 5 4 false := ⟨_, _, _, rfl, by decide, rfl, Or.inl ⟨ab_gm 152 (by decide +kernel) rfl, fun h => by cases h⟩⟩
theorem F_re_28 : ab_FL "SeasonSeat$Reader" 28 5 5 false := ⟨_, _, _, rfl, by decide, rfl, Or.inl ⟨ab_gm 153 (by decide +kernel) rfl, fun h => by cases h⟩⟩
theorem F_re_31 : ab_FL "SeasonSeat$Reader" 31 5 6 false := ⟨_, _, _, rfl, by decide, rfl, Or.inl ⟨ab_gm 154 (by decide +kernel) rfl, fun h => by cases h⟩⟩
theorem F_s_112 : ab_FL "SeasonSeat" 112 5 6 false := ⟨_, _, _, rfl, by decide, rfl, Or.inr ⟨"SeasonSeat", rfl, ab_nm 155 (by decide +kernel) rfl⟩⟩
theorem F_re_34 : ab_FL "SeasonSeat$Reader" 34 5 7 false := ⟨_, _, _, rfl, by decide, rfl, Or.inl ⟨ab_gm 156 (by decide +kernel) rfl, fun h => by cases h⟩⟩
theorem F_s_127 : ab_FL "SeasonSeat" 127 5 7 false := ⟨_, _, _, rfl, by decide, rfl, Or.inr ⟨"SeasonSeat", rfl, ab_nm 157 (by decide +kernel) rfl⟩⟩
theorem F_re_40 : ab_FL "SeasonSeat$Reader" 40 5 8 false := ⟨_, _, _, rfl, by decide, rfl, Or.inl ⟨ab_gm 158 (by decide +kernel) rfl, fun h => by cases h⟩⟩
theorem F_re_44 : ab_FL "SeasonSeat$Reader" 44 5 9 false := ⟨_, _, _, rfl, by decide, rfl, Or.inl ⟨ab_gm 159 (by decide +kernel) rfl, fun h => by cases h⟩⟩
theorem F_re_48 : ab_FL "SeasonSeat$Reader" 48 5 10 false := ⟨_, _, _, rfl, by decide, rfl, Or.inl ⟨ab_gm 160 (by decide +kernel) rfl, fun h => by cases h⟩⟩
theorem F_re_51 : ab_FL "SeasonSeat$Reader" 51 5 11 true := ⟨_, _, _, rfl, by decide, rfl, Or.inl ⟨ab_gm 161 (by decide +kernel) rfl, fun _ => rfl⟩⟩
theorem FN_re_51 : ∀ host : String, ∀ O n dd, Cond.fieldLinkNest "SeasonSeat$Reader" 51 O n dd host ∉ ab_nest := ab_nestno (by decide +kernel)
theorem F_re_55 : ab_FL "SeasonSeat$Reader" 55 5 12 false := ⟨_, _, _, rfl, by decide, rfl, Or.inl ⟨ab_gm 162 (by decide +kernel) rfl, fun h => by cases h⟩⟩
theorem Q_s_65 : Cond.classLink "SeasonSeat" 65 "SeasonSeat$Seatings" ∈ ab_good := ab_gm 190 (by decide +kernel) rfl
theorem N_se : Cond.instantiable "SeasonSeat$Seatings" 4 ∈ ab_good ∧ Cond.initialized "SeasonSeat$Seatings" ∈ ab_good := ⟨ab_gm 191 (by decide +kernel) rfl, ab_gm 6 (by decide +kernel) rfl⟩
theorem L_s_67 : ab_ML "SeasonSeat" 67 M_se_init.1 := Or.inr ⟨"SeasonSeat", ab_nm 192 (by decide +kernel) rfl⟩
theorem L_se_3 : Cond.methodLink "SeasonSeat$Seatings" 3 objectInit ∈ ab_good := ab_gm 195 (by decide +kernel) rfl
theorem L_se_24 : ab_ML "SeasonSeat$Seatings" 24 M_se_movesJust.1 := Or.inl (ab_gm 196 (by decide +kernel) rfl)
theorem L_se_36 : ab_ML "SeasonSeat$Seatings" 36 M_se_digit.1 := Or.inl (ab_gm 199 (by decide +kernel) rfl)
theorem L_se_28 : ab_ML "SeasonSeat$Seatings" 28 M_se_note.1 := Or.inl (ab_gm 202 (by decide +kernel) rfl)
theorem L_se_32 : ab_ML "SeasonSeat$Seatings" 32 M_se_orderBehind.1 := Or.inl (ab_gm 206 (by decide +kernel) rfl)
theorem F_se_9 : ab_FL "SeasonSeat$Seatings" 9 7 0 true := ⟨_, _, _, rfl, by decide, rfl, Or.inl ⟨ab_gm 210 (by decide +kernel) rfl, fun _ => rfl⟩⟩
theorem FN_se_9 : ∀ host : String, ∀ O n dd, Cond.fieldLinkNest "SeasonSeat$Seatings" 9 O n dd host ∉ ab_nest := ab_nestno (by decide +kernel)
theorem F_se_15 : ab_FL "SeasonSeat$Seatings" 15 7 1 true := ⟨_, _, _, rfl, by decide, rfl, Or.inl ⟨ab_gm 211 (by decide +kernel) rfl, fun _ => rfl⟩⟩
theorem FN_se_15 : ∀ host : String, ∀ O n dd, Cond.fieldLinkNest "SeasonSeat$Seatings" 15 O n dd host ∉ ab_nest := ab_nestno (by decide +kernel)
theorem F_se_18 : ab_FL "SeasonSeat$Seatings" 18 7 2 true := ⟨_, _, _, rfl, by decide, rfl, Or.inl ⟨ab_gm 212 (by decide +kernel) rfl, fun _ => rfl⟩⟩
theorem FN_se_18 : ∀ host : String, ∀ O n dd, Cond.fieldLinkNest "SeasonSeat$Seatings" 18 O n dd host ∉ ab_nest := ab_nestno (by decide +kernel)
theorem F_se_21 : ab_FL "SeasonSeat$Seatings" 21 7 3 true := ⟨_, _, _, rfl, by decide, rfl, Or.inl ⟨ab_gm 213 (by decide +kernel) rfl, fun _ => rfl⟩⟩
theorem FN_se_21 : ∀ host : String, ∀ O n dd, Cond.fieldLinkNest "SeasonSeat$Seatings" 21 O n dd host ∉ ab_nest := ab_nestno (by decide +kernel)
theorem Q_s_72 : Cond.classLink "SeasonSeat" 72 "SeasonSeat$Climate" ∈ ab_good := ab_gm 223 (by decide +kernel) rfl
theorem N_cl : Cond.instantiable "SeasonSeat$Climate" 12 ∈ ab_good ∧ Cond.initialized "SeasonSeat$Climate" ∈ ab_good := ⟨ab_gm 224 (by decide +kernel) rfl, ab_gm 7 (by decide +kernel) rfl⟩
theorem L_s_74 : ab_ML "SeasonSeat" 74 M_cl_init.1 := Or.inr ⟨"SeasonSeat", ab_nm 225 (by decide +kernel) rfl⟩
theorem L_cl_3 : Cond.methodLink "SeasonSeat$Climate" 3 objectInit ∈ ab_good := ab_gm 228 (by decide +kernel) rfl
theorem Q_cl_9 : Cond.classLink "SeasonSeat$Climate" 9 "SeasonSeat$Carriage" ∈ ab_good := ab_gm 229 (by decide +kernel) rfl
theorem L_cl_11 : ab_ML "SeasonSeat$Climate" 11 M_ca_init.1 := Or.inr ⟨"SeasonSeat", ab_nm 230 (by decide +kernel) rfl⟩
theorem F_cl_47 : ab_FL "SeasonSeat$Climate" 47 1 0 true := ⟨_, _, _, rfl, by decide, rfl, Or.inl ⟨ab_gm 231 (by decide +kernel) rfl, fun _ => rfl⟩⟩
theorem FN_cl_47 : ∀ host : String, ∀ O n dd, Cond.fieldLinkNest "SeasonSeat$Climate" 47 O n dd host ∉ ab_nest := ab_nestno (by decide +kernel)
theorem F_cl_51 : ab_FL "SeasonSeat$Climate" 51 1 1 true := ⟨_, _, _, rfl, by decide, rfl, Or.inl ⟨ab_gm 232 (by decide +kernel) rfl, fun _ => rfl⟩⟩
theorem FN_cl_51 : ∀ host : String, ∀ O n dd, Cond.fieldLinkNest "SeasonSeat$Climate" 51 O n dd host ∉ ab_nest := ab_nestno (by decide +kernel)
theorem F_cl_12 : ab_FL "SeasonSeat$Climate" 12 1 2 false := ⟨_, _, _, rfl, by decide, rfl, Or.inl ⟨ab_gm 233 (by decide +kernel) rfl, fun h => by cases h⟩⟩
theorem F_ro_63 : ab_FL "SeasonSeat$Rows" 63 1 2 false := ⟨_, _, _, rfl, by decide, rfl, Or.inr ⟨"SeasonSeat", rfl, ab_nm 234 (by decide +kernel) rfl⟩⟩
theorem F_id_49 : ab_FL "SeasonSeat$Idling" 49 1 2 false := ⟨_, _, _, rfl, by decide, rfl, Or.inr ⟨"SeasonSeat", rfl, ab_nm 235 (by decide +kernel) rfl⟩⟩
theorem F_cl_18 : ab_FL "SeasonSeat$Climate" 18 1 3 false := ⟨_, _, _, rfl, by decide, rfl, Or.inl ⟨ab_gm 236 (by decide +kernel) rfl, fun h => by cases h⟩⟩
theorem F_cl_22 : ab_FL "SeasonSeat$Climate" 22 1 4 false := ⟨_, _, _, rfl, by decide, rfl, Or.inl ⟨ab_gm 237 (by decide +kernel) rfl, fun h => by cases h⟩⟩
theorem F_cl_25 : ab_FL "SeasonSeat$Climate" 25 1 5 false := ⟨_, _, _, rfl, by decide, rfl, Or.inl ⟨ab_gm 238 (by decide +kernel) rfl, fun h => by cases h⟩⟩
theorem F_ro_72 : ab_FL "SeasonSeat$Rows" 72 1 5 false := ⟨_, _, _, rfl, by decide, rfl, Or.inr ⟨"SeasonSeat", rfl, ab_nm 239 (by decide +kernel) rfl⟩⟩
theorem F_cl_28 : ab_FL "SeasonSeat$Climate" 28 1 6 false := ⟨_, _, _, rfl, by decide, rfl, Or.inl ⟨ab_gm 240 (by decide +kernel) rfl, fun h => by cases h⟩⟩
theorem F_cl_32 : ab_FL "SeasonSeat$Climate" 32 1 7 true := ⟨_, _, _, rfl, by decide, rfl, Or.inl ⟨ab_gm 241 (by decide +kernel) rfl, fun _ => rfl⟩⟩
theorem FN_cl_32 : ∀ host : String, ∀ O n dd, Cond.fieldLinkNest "SeasonSeat$Climate" 32 O n dd host ∉ ab_nest := ab_nestno (by decide +kernel)
theorem F_cl_35 : ab_FL "SeasonSeat$Climate" 35 1 8 true := ⟨_, _, _, rfl, by decide, rfl, Or.inl ⟨ab_gm 242 (by decide +kernel) rfl, fun _ => rfl⟩⟩
theorem FN_cl_35 : ∀ host : String, ∀ O n dd, Cond.fieldLinkNest "SeasonSeat$Climate" 35 O n dd host ∉ ab_nest := ab_nestno (by decide +kernel)
theorem F_cl_38 : ab_FL "SeasonSeat$Climate" 38 1 9 true := ⟨_, _, _, rfl, by decide, rfl, Or.inl ⟨ab_gm 243 (by decide +kernel) rfl, fun _ => rfl⟩⟩
theorem FN_cl_38 : ∀ host : String, ∀ O n dd, Cond.fieldLinkNest "SeasonSeat$Climate" 38 O n dd host ∉ ab_nest := ab_nestno (by decide +kernel)
theorem F_cl_41 : ab_FL "SeasonSeat$Climate" 41 1 10 true := ⟨_, _, _, rfl, by decide, rfl, Or.inl ⟨ab_gm 244 (by decide +kernel) rfl, fun _ => rfl⟩⟩
theorem FN_cl_41 : ∀ host : String, ∀ O n dd, Cond.fieldLinkNest "SeasonSeat$Climate" 41 O n dd host ∉ ab_nest := ab_nestno (by decide +kernel)
theorem F_cl_44 : ab_FL "SeasonSeat$Climate" 44 1 11 true := ⟨_, _, _, rfl, by decide, rfl, Or.inl ⟨ab_gm 245 (by decide +kernel) rfl, fun _ => rfl⟩⟩
theorem FN_cl_44 : ∀ host : String, ∀ O n dd, Cond.fieldLinkNest "SeasonSeat$Climate" 44 O n dd host ∉ ab_nest := ab_nestno (by decide +kernel)
theorem Q_s_84 : Cond.classLink "SeasonSeat" 84 "SeasonSeat$Idling" ∈ ab_good := ab_gm 271 (by decide +kernel) rfl
theorem N_id : Cond.instantiable "SeasonSeat$Idling" 7 ∈ ab_good ∧ Cond.initialized "SeasonSeat$Idling" ∈ ab_good := ⟨ab_gm 272 (by decide +kernel) rfl, ab_gm 8 (by decide +kernel) rfl⟩
theorem L_s_86 : ab_ML "SeasonSeat" 86 M_id_init.1 := Or.inr ⟨"SeasonSeat", ab_nm 273 (by decide +kernel) rfl⟩
theorem L_id_3 : Cond.methodLink "SeasonSeat$Idling" 3 objectInit ∈ ab_good := ab_gm 276 (by decide +kernel) rfl
theorem F_id_9 : ab_FL "SeasonSeat$Idling" 9 3 0 true := ⟨_, _, _, rfl, by decide, rfl, Or.inl ⟨ab_gm 277 (by decide +kernel) rfl, fun _ => rfl⟩⟩
theorem FN_id_9 : ∀ host : String, ∀ O n dd, Cond.fieldLinkNest "SeasonSeat$Idling" 9 O n dd host ∉ ab_nest := ab_nestno (by decide +kernel)
theorem F_id_15 : ab_FL "SeasonSeat$Idling" 15 3 1 true := ⟨_, _, _, rfl, by decide, rfl, Or.inl ⟨ab_gm 278 (by decide +kernel) rfl, fun _ => rfl⟩⟩
theorem FN_id_15 : ∀ host : String, ∀ O n dd, Cond.fieldLinkNest "SeasonSeat$Idling" 15 O n dd host ∉ ab_nest := ab_nestno (by decide +kernel)
theorem F_id_18 : ab_FL "SeasonSeat$Idling" 18 3 2 false := ⟨_, _, _, rfl, by decide, rfl, Or.inl ⟨ab_gm 279 (by decide +kernel) rfl, fun h => by cases h⟩⟩
theorem F_s_277 : ab_FL "SeasonSeat" 277 3 2 false := ⟨_, _, _, rfl, by decide, rfl, Or.inr ⟨"SeasonSeat", rfl, ab_nm 280 (by decide +kernel) rfl⟩⟩
theorem F_id_22 : ab_FL "SeasonSeat$Idling" 22 3 3 false := ⟨_, _, _, rfl, by decide, rfl, Or.inl ⟨ab_gm 281 (by decide +kernel) rfl, fun h => by cases h⟩⟩
theorem F_s_280 : ab_FL "SeasonSeat" 280 3 3 false := ⟨_, _, _, rfl, by decide, rfl, Or.inr ⟨"SeasonSeat", rfl, ab_nm 282 (by decide +kernel) rfl⟩⟩
theorem F_id_25 : ab_FL "SeasonSeat$Idling" 25 3 4 false := ⟨_, _, _, rfl, by decide, rfl, Or.inl ⟨ab_gm 283 (by decide +kernel) rfl, fun h => by cases h⟩⟩
theorem F_id_28 : ab_FL "SeasonSeat$Idling" 28 3 5 false := ⟨_, _, _, rfl, by decide, rfl, Or.inl ⟨ab_gm 284 (by decide +kernel) rfl, fun h => by cases h⟩⟩
theorem F_id_31 : ab_FL "SeasonSeat$Idling" 31 3 6 false := ⟨_, _, _, rfl, by decide, rfl, Or.inl ⟨ab_gm 285 (by decide +kernel) rfl, fun h => by cases h⟩⟩
theorem F_s_408 : ab_FL "SeasonSeat" 408 3 6 false := ⟨_, _, _, rfl, by decide, rfl, Or.inr ⟨"SeasonSeat", rfl, ab_nm 286 (by decide +kernel) rfl⟩⟩
theorem N_ty : Cond.instantiable "SeasonSeat$Tray" 3 ∈ ab_good ∧ Cond.initialized "SeasonSeat$Tray" ∈ ab_good := ⟨ab_gm 302 (by decide +kernel) rfl, ab_gm 9 (by decide +kernel) rfl⟩
theorem L_s_99 : ab_ML "SeasonSeat" 99 M_ty_init.1 := Or.inr ⟨"SeasonSeat", ab_nm 303 (by decide +kernel) rfl⟩
theorem L_ty_3 : Cond.methodLink "SeasonSeat$Tray" 3 objectInit ∈ ab_good := ab_gm 306 (by decide +kernel) rfl
theorem F_ty_9 : ab_FL "SeasonSeat$Tray" 9 10 0 true := ⟨_, _, _, rfl, by decide, rfl, Or.inl ⟨ab_gm 307 (by decide +kernel) rfl, fun _ => rfl⟩⟩
theorem FN_ty_9 : ∀ host : String, ∀ O n dd, Cond.fieldLinkNest "SeasonSeat$Tray" 9 O n dd host ∉ ab_nest := ab_nestno (by decide +kernel)
theorem F_ty_15 : ab_FL "SeasonSeat$Tray" 15 10 1 false := ⟨_, _, _, rfl, by decide, rfl, Or.inl ⟨ab_gm 308 (by decide +kernel) rfl, fun h => by cases h⟩⟩
theorem F_ty_19 : ab_FL "SeasonSeat$Tray" 19 10 2 false := ⟨_, _, _, rfl, by decide, rfl, Or.inl ⟨ab_gm 309 (by decide +kernel) rfl, fun h => by cases h⟩⟩
theorem F_s_224 : ab_FL "SeasonSeat" 224 10 2 false := ⟨_, _, _, rfl, by decide, rfl, Or.inr ⟨"SeasonSeat", rfl, ab_nm 310 (by decide +kernel) rfl⟩⟩
theorem L_s_100 : ab_ML "SeasonSeat" 100 M_cl_enter.1 := Or.inr ⟨"SeasonSeat", ab_nm 319 (by decide +kernel) rfl⟩
theorem F_cl_57 : Cond.fieldLinkNest "SeasonSeat$Climate" 57 "SeasonSeat" "POWERS" "[I" "SeasonSeat" ∈ ab_nest := ab_nm 323 (by decide +kernel) rfl
theorem F_cl_63 : Cond.fieldLinkNest "SeasonSeat$Climate" 63 "SeasonSeat" "FACTORIALS" "[I" "SeasonSeat" ∈ ab_nest := ab_nm 325 (by decide +kernel) rfl
theorem F_s_9 : ab_FL "SeasonSeat" 9 11 0 true := ⟨_, _, _, rfl, by decide, rfl, Or.inl ⟨ab_gm 327 (by decide +kernel) rfl, fun _ => rfl⟩⟩
theorem FN_s_9 : ∀ host : String, ∀ O n dd, Cond.fieldLinkNest "SeasonSeat" 9 O n dd host ∉ ab_nest := ab_nestno (by decide +kernel)
theorem F_s_13 : ab_FL "SeasonSeat" 13 11 1 false := ⟨_, _, _, rfl, by decide, rfl, Or.inl ⟨ab_gm 328 (by decide +kernel) rfl, fun h => by cases h⟩⟩
theorem F_s_20 : ab_FL "SeasonSeat" 20 11 2 false := ⟨_, _, _, rfl, by decide, rfl, Or.inl ⟨ab_gm 329 (by decide +kernel) rfl, fun h => by cases h⟩⟩
theorem F_s_27 : ab_FL "SeasonSeat" 27 11 3 true := ⟨_, _, _, rfl, by decide, rfl, Or.inl ⟨ab_gm 330 (by decide +kernel) rfl, fun _ => rfl⟩⟩
theorem FN_s_27 : ∀ host : String, ∀ O n dd, Cond.fieldLinkNest "SeasonSeat" 27 O n dd host ∉ ab_nest := ab_nestno (by decide +kernel)
theorem F_s_31 : ab_FL "SeasonSeat" 31 11 4 true := ⟨_, _, _, rfl, by decide, rfl, Or.inl ⟨ab_gm 331 (by decide +kernel) rfl, fun _ => rfl⟩⟩
theorem FN_s_31 : ∀ host : String, ∀ O n dd, Cond.fieldLinkNest "SeasonSeat" 31 O n dd host ∉ ab_nest := ab_nestno (by decide +kernel)
theorem F_s_37 : ab_FL "SeasonSeat" 37 11 5 true := ⟨_, _, _, rfl, by decide, rfl, Or.inl ⟨ab_gm 332 (by decide +kernel) rfl, fun _ => rfl⟩⟩
theorem FN_s_37 : ∀ host : String, ∀ O n dd, Cond.fieldLinkNest "SeasonSeat" 37 O n dd host ∉ ab_nest := ab_nestno (by decide +kernel)
theorem F_s_41 : ab_FL "SeasonSeat" 41 11 6 false := ⟨_, _, _, rfl, by decide, rfl, Or.inl ⟨ab_gm 333 (by decide +kernel) rfl, fun h => by cases h⟩⟩
theorem F_s_46 : ab_FL "SeasonSeat" 46 11 7 true := ⟨_, _, _, rfl, by decide, rfl, Or.inl ⟨ab_gm 334 (by decide +kernel) rfl, fun _ => rfl⟩⟩
theorem FN_s_46 : ∀ host : String, ∀ O n dd, Cond.fieldLinkNest "SeasonSeat" 46 O n dd host ∉ ab_nest := ab_nestno (by decide +kernel)
theorem F_s_50 : ab_FL "SeasonSeat" 50 11 8 true := ⟨_, _, _, rfl, by decide, rfl, Or.inl ⟨ab_gm 335 (by decide +kernel) rfl, fun _ => rfl⟩⟩
theorem FN_s_50 : ∀ host : String, ∀ O n dd, Cond.fieldLinkNest "SeasonSeat" 50 O n dd host ∉ ab_nest := ab_nestno (by decide +kernel)
theorem F_s_54 : ab_FL "SeasonSeat" 54 11 9 true := ⟨_, _, _, rfl, by decide, rfl, Or.inl ⟨ab_gm 336 (by decide +kernel) rfl, fun _ => rfl⟩⟩
theorem FN_s_54 : ∀ host : String, ∀ O n dd, Cond.fieldLinkNest "SeasonSeat" 54 O n dd host ∉ ab_nest := ab_nestno (by decide +kernel)
theorem F_s_61 : ab_FL "SeasonSeat" 61 11 10 true := ⟨_, _, _, rfl, by decide, rfl, Or.inl ⟨ab_gm 337 (by decide +kernel) rfl, fun _ => rfl⟩⟩
theorem FN_s_61 : ∀ host : String, ∀ O n dd, Cond.fieldLinkNest "SeasonSeat" 61 O n dd host ∉ ab_nest := ab_nestno (by decide +kernel)
theorem F_s_68 : ab_FL "SeasonSeat" 68 11 11 true := ⟨_, _, _, rfl, by decide, rfl, Or.inl ⟨ab_gm 338 (by decide +kernel) rfl, fun _ => rfl⟩⟩
theorem FN_s_68 : ∀ host : String, ∀ O n dd, Cond.fieldLinkNest "SeasonSeat" 68 O n dd host ∉ ab_nest := ab_nestno (by decide +kernel)
theorem F_s_77 : ab_FL "SeasonSeat" 77 11 12 true := ⟨_, _, _, rfl, by decide, rfl, Or.inl ⟨ab_gm 339 (by decide +kernel) rfl, fun _ => rfl⟩⟩
theorem FN_s_77 : ∀ host : String, ∀ O n dd, Cond.fieldLinkNest "SeasonSeat" 77 O n dd host ∉ ab_nest := ab_nestno (by decide +kernel)
theorem F_s_81 : ab_FL "SeasonSeat" 81 11 13 true := ⟨_, _, _, rfl, by decide, rfl, Or.inl ⟨ab_gm 340 (by decide +kernel) rfl, fun _ => rfl⟩⟩
theorem FN_s_81 : ∀ host : String, ∀ O n dd, Cond.fieldLinkNest "SeasonSeat" 81 O n dd host ∉ ab_nest := ab_nestno (by decide +kernel)
theorem F_s_87 : ab_FL "SeasonSeat" 87 11 14 true := ⟨_, _, _, rfl, by decide, rfl, Or.inl ⟨ab_gm 341 (by decide +kernel) rfl, fun _ => rfl⟩⟩
theorem FN_s_87 : ∀ host : String, ∀ O n dd, Cond.fieldLinkNest "SeasonSeat" 87 O n dd host ∉ ab_nest := ab_nestno (by decide +kernel)
theorem F_s_91 : ab_FL "SeasonSeat" 91 11 15 false := ⟨_, _, _, rfl, by decide, rfl, Or.inl ⟨ab_gm 342 (by decide +kernel) rfl, fun h => by cases h⟩⟩
theorem F_s_95 : ab_FL "SeasonSeat" 95 11 16 false := ⟨_, _, _, rfl, by decide, rfl, Or.inl ⟨ab_gm 343 (by decide +kernel) rfl, fun h => by cases h⟩⟩
theorem L_law_13 : ab_ML "SeasonSeatLaw" 13 M_s_feed.1 := Or.inl (ab_gm 379 (by decide +kernel) rfl)
theorem L_s_104 : ab_ML "SeasonSeat" 104 M_s_putInt.1 := Or.inl (ab_gm 383 (by decide +kernel) rfl)
theorem L_law_18 : ab_ML "SeasonSeatLaw" 18 M_s_train.1 := Or.inl (ab_gm 387 (by decide +kernel) rfl)
theorem L_s_108 : ab_ML "SeasonSeat" 108 M_re_readAll.1 := Or.inr ⟨"SeasonSeat", ab_nm 391 (by decide +kernel) rfl⟩
theorem L_re_58 : ab_ML "SeasonSeat$Reader" 58 M_jM_min.1 := Or.inl (ab_gm 395 (by decide +kernel) rfl)
theorem L_re_64 : ab_ML "SeasonSeat$Reader" 64 M_re_advance.1 := Or.inl (ab_gm 398 (by decide +kernel) rfl)
theorem L_re_223 : ab_ML "SeasonSeat$Reader" 223 M_re_kindOf.1 := Or.inl (ab_gm 402 (by decide +kernel) rfl)
theorem L_re_228 : ab_ML "SeasonSeat$Reader" 228 M_jS_indexOf_0.1 := Or.inl (ab_gm 406 (by decide +kernel) rfl)
theorem L_jS_633 : ab_ML "java/lang/String" 633 M_jS_indexOf_1.1 := Or.inl (ab_gm 410 (by decide +kernel) rfl)
theorem L_jS_492 : ab_ML "java/lang/String" 492 M_jS_isLatin1.1 := Or.inl (ab_gm 414 (by decide +kernel) rfl)
theorem F_jS_38 : Cond.fieldLink "java/lang/String" 38 "java/lang/String" "COMPACT_STRINGS" "Z" ∈ ab_good := ab_gm 418 (by decide +kernel) rfl
theorem L_jS_505 : ab_ML "java/lang/String" 505 M_jS_length.1 := Or.inl (ab_gm 420 (by decide +kernel) rfl)
theorem L_jS_335 : ab_ML "java/lang/String" 335 M_jS_coder.1 := Or.inl (ab_gm 424 (by decide +kernel) rfl)
theorem L_jS_637 : ab_ML "java/lang/String" 637 M_jL_indexOf.1 := Or.inl (ab_gm 428 (by decide +kernel) rfl)
theorem L_jL_88 : ab_ML "java/lang/StringLatin1" 88 M_jL_canEncode.1 := Or.inl (ab_gm 431 (by decide +kernel) rfl)
theorem L_jL_92 : ab_ML "java/lang/StringLatin1" 92 M_jM_max.1 := Or.inl (ab_gm 434 (by decide +kernel) rfl)
theorem L_jL_38 : ab_ML "java/lang/StringLatin1" 38 M_jM_min.1 := Or.inl (ab_gm 437 (by decide +kernel) rfl)
theorem L_jL_95 : ab_ML "java/lang/StringLatin1" 95 M_jL_indexOfChar.1 := Or.inl (ab_gm 438 (by decide +kernel) rfl)
theorem L_jS_640 : ab_ML "java/lang/String" 640 M_jU_indexOf.1 := Or.inl (ab_gm 441 (by decide +kernel) rfl)
theorem L_jU_224 : ab_ML "java/lang/StringUTF16" 224 M_jM_max.1 := Or.inl (ab_gm 444 (by decide +kernel) rfl)
theorem L_jU_183 : ab_ML "java/lang/StringUTF16" 183 M_jM_min.1 := Or.inl (ab_gm 445 (by decide +kernel) rfl)
theorem C_jU_227 : Cond.constant "java/lang/StringUTF16" 227 (65536) ∈ ab_good := ab_gm 446 (by decide +kernel) rfl
theorem L_jU_228 : ab_ML "java/lang/StringUTF16" 228 M_jU_indexOfChar.1 := Or.inl (ab_gm 447 (by decide +kernel) rfl)
theorem L_jU_96 : ab_ML "java/lang/StringUTF16" 96 M_jU_checkBoundsBeginEnd.1 := Or.inl (ab_gm 450 (by decide +kernel) rfl)
theorem L_jU_48 : ab_ML "java/lang/StringUTF16" 48 M_jU_length.1 := Or.inl (ab_gm 453 (by decide +kernel) rfl)
theorem L_jU_241 : ab_ML "java/lang/StringUTF16" 241 M_jS_checkBoundsBeginEnd.1 := Or.inl (ab_gm 456 (by decide +kernel) rfl)
theorem F_jS_1053 : Cond.fieldLink "java/lang/String" 1053 "jdk/internal/util/Preconditions" "SIOOBE_FORMATTER" "Ljava/util/function/BiFunction;" ∈ ab_good := ab_gm 459 (by decide +kernel) rfl
theorem L_jS_1062 : ab_ML "java/lang/String" 1062 M_jP_checkFromToIndex.1 := Or.inl (ab_gm 461 (by decide +kernel) rfl)
theorem L_jU_244 : ab_ML "java/lang/StringUTF16" 244 M_jU_indexOfCharUnsafe.1 := Or.inl (ab_gm 464 (by decide +kernel) rfl)
theorem L_jU_71 : ab_ML "java/lang/StringUTF16" 71 M_jU_getChar.1 := Or.inl (ab_gm 467 (by decide +kernel) rfl)
theorem F_jU_44 : Cond.fieldLink "java/lang/StringUTF16" 44 "java/lang/StringUTF16" "$assertionsDisabled" "Z" ∈ ab_good := ab_gm 470 (by decide +kernel) rfl
theorem F_jU_59 : Cond.fieldLink "java/lang/StringUTF16" 59 "java/lang/StringUTF16" "HI_BYTE_SHIFT" "I" ∈ ab_good := ab_gm 472 (by decide +kernel) rfl
theorem F_jU_63 : Cond.fieldLink "java/lang/StringUTF16" 63 "java/lang/StringUTF16" "LO_BYTE_SHIFT" "I" ∈ ab_good := ab_gm 474 (by decide +kernel) rfl
theorem L_jU_232 : ab_ML "java/lang/StringUTF16" 232 M_jU_indexOfSupplementary.1 := Or.inl (ab_gm 476 (by decide +kernel) rfl)
theorem L_jU_164 : ab_ML "java/lang/StringUTF16" 164 M_jC_isValidCodePoint.1 := Or.inl (ab_gm 479 (by decide +kernel) rfl)
theorem L_jU_157 : ab_ML "java/lang/StringUTF16" 157 M_jC_highSurrogate.1 := Or.inl (ab_gm 482 (by decide +kernel) rfl)
theorem C_jC_110 : Cond.constant "java/lang/Character" 110 (55232) ∈ ab_good := ab_gm 485 (by decide +kernel) rfl
theorem L_jU_161 : ab_ML "java/lang/StringUTF16" 161 M_jC_lowSurrogate.1 := Or.inl (ab_gm 486 (by decide +kernel) rfl)
theorem C_jC_76 : Cond.constant "java/lang/Character" 76 (56320) ∈ ab_good := ab_gm 489 (by decide +kernel) rfl
theorem L_re_69 : ab_ML "SeasonSeat$Reader" 69 M_re_needWord.1 := Or.inl (ab_gm 491 (by decide +kernel) rfl)
theorem L_re_93 : ab_ML "SeasonSeat$Reader" 93 M_re_isWord.1 := Or.inl (ab_gm 495 (by decide +kernel) rfl)
theorem L_re_215 : ab_ML "SeasonSeat$Reader" 215 M_jS_length.1 := Or.inl (ab_gm 499 (by decide +kernel) rfl)
theorem L_re_219 : ab_ML "SeasonSeat$Reader" 219 M_jS_charAt.1 := Or.inl (ab_gm 500 (by decide +kernel) rfl)
theorem L_jS_495 : ab_ML "java/lang/String" 495 M_jL_charAt.1 := Or.inl (ab_gm 504 (by decide +kernel) rfl)
theorem L_jL_9 : ab_ML "java/lang/StringLatin1" 9 M_jS_checkIndex.1 := Or.inl (ab_gm 507 (by decide +kernel) rfl)
theorem L_jS_1059 : ab_ML "java/lang/String" 1059 M_jP_checkIndex.1 := Or.inl (ab_gm 510 (by decide +kernel) rfl)
theorem L_jS_498 : ab_ML "java/lang/String" 498 M_jU_charAt.1 := Or.inl (ab_gm 513 (by decide +kernel) rfl)
theorem L_jU_67 : ab_ML "java/lang/StringUTF16" 67 M_jU_checkIndex.1 := Or.inl (ab_gm 516 (by decide +kernel) rfl)
theorem L_jU_414 : ab_ML "java/lang/StringUTF16" 414 M_jS_checkIndex.1 := Or.inl (ab_gm 519 (by decide +kernel) rfl)
theorem L_re_114 : ab_ML "SeasonSeat$Reader" 114 M_re_refuse.1 := Or.inl (ab_gm 520 (by decide +kernel) rfl)
theorem L_re_75 : ab_ML "SeasonSeat$Reader" 75 M_re_needNumber.1 := Or.inl (ab_gm 525 (by decide +kernel) rfl)
theorem L_re_81 : ab_ML "SeasonSeat$Reader" 81 M_re_needSign.1 := Or.inl (ab_gm 529 (by decide +kernel) rfl)
theorem L_re_161 : ab_ML "SeasonSeat$Reader" 161 M_re_isSign.1 := Or.inl (ab_gm 533 (by decide +kernel) rfl)
theorem L_re_88 : ab_ML "SeasonSeat$Reader" 88 M_re_readLine.1 := Or.inl (ab_gm 537 (by decide +kernel) rfl)
theorem L_re_97 : ab_ML "SeasonSeat$Reader" 97 M_re_readRider.1 := Or.inl (ab_gm 542 (by decide +kernel) rfl)
theorem L_re_126 : ab_ML "SeasonSeat$Reader" 126 M_s_withSeason.1 := Or.inr ⟨"SeasonSeat", ab_nm 547 (by decide +kernel) rfl⟩
theorem L_re_138 : ab_ML "SeasonSeat$Reader" 138 M_s_withWarmth.1 := Or.inr ⟨"SeasonSeat", ab_nm 551 (by decide +kernel) rfl⟩
theorem L_s_148 : ab_ML "SeasonSeat" 148 M_s_warmthOf.1 := Or.inl (ab_gm 554 (by decide +kernel) rfl)
theorem F_s_322 : Cond.fieldLink "SeasonSeat" 322 "SeasonSeat" "POWERS" "[I" ∈ ab_good := ab_gm 557 (by decide +kernel) rfl
theorem L_re_102 : ab_ML "SeasonSeat$Reader" 102 M_re_readLaw.1 := Or.inl (ab_gm 561 (by decide +kernel) rfl)
theorem L_re_146 : ab_ML "SeasonSeat$Reader" 146 M_re_readTruth.1 := Or.inl (ab_gm 565 (by decide +kernel) rfl)
theorem L_re_190 : ab_ML "SeasonSeat$Reader" 190 M_re_readBoth.1 := Or.inl (ab_gm 569 (by decide +kernel) rfl)
theorem L_re_195 : ab_ML "SeasonSeat$Reader" 195 M_re_readUnit.1 := Or.inl (ab_gm 573 (by decide +kernel) rfl)
theorem L_re_171 : ab_ML "SeasonSeat$Reader" 171 M_re_enter.1 := Or.inl (ab_gm 578 (by decide +kernel) rfl)
theorem L_re_165 : ab_ML "SeasonSeat$Reader" 165 M_re_put.1 := Or.inl (ab_gm 582 (by decide +kernel) rfl)
theorem L_re_202 : ab_ML "SeasonSeat$Reader" 202 M_re_readComparison.1 := Or.inl (ab_gm 586 (by decide +kernel) rfl)
theorem L_re_149 : ab_ML "SeasonSeat$Reader" 149 M_re_readSum.1 := Or.inl (ab_gm 590 (by decide +kernel) rfl)
theorem L_re_158 : ab_ML "SeasonSeat$Reader" 158 M_re_readTerm.1 := Or.inl (ab_gm 594 (by decide +kernel) rfl)
theorem L_re_168 : ab_ML "SeasonSeat$Reader" 168 M_re_readAtom.1 := Or.inl (ab_gm 598 (by decide +kernel) rfl)
theorem L_re_177 : ab_ML "SeasonSeat$Reader" 177 M_re_readChoice.1 := Or.inl (ab_gm 603 (by decide +kernel) rfl)
theorem L_re_180 : ab_ML "SeasonSeat$Reader" 180 M_re_nameHere.1 := Or.inl (ab_gm 610 (by decide +kernel) rfl)
theorem L_re_152 : ab_ML "SeasonSeat$Reader" 152 M_jA_copyOf.1 := Or.inl (ab_gm 621 (by decide +kernel) rfl)
theorem Q_jA_317 : Cond.classLink "java/util/Arrays" 317 "[I" ∈ ab_good := ab_gm 630 (by decide +kernel) rfl
theorem L_jA_304 : ab_ML "java/util/Arrays" 304 M_jM_min.1 := Or.inl (ab_gm 631 (by decide +kernel) rfl)
theorem L_s_115 : ab_ML "SeasonSeat" 115 M_sd_begin.1 := Or.inr ⟨"SeasonSeat", ab_nm 636 (by decide +kernel) rfl⟩
theorem L_s_118 : ab_ML "SeasonSeat" 118 M_s_board.1 := Or.inl (ab_gm 640 (by decide +kernel) rfl)
theorem L_s_124 : ab_ML "SeasonSeat" 124 M_pa_forget.1 := Or.inr ⟨"SeasonSeat", ab_nm 644 (by decide +kernel) rfl⟩
theorem L_law_23 : ab_ML "SeasonSeatLaw" 23 M_s_fault.1 := Or.inl (ab_gm 648 (by decide +kernel) rfl)
theorem L_law_27 : ab_ML "SeasonSeatLaw" 27 M_s_rider.1 := Or.inl (ab_gm 652 (by decide +kernel) rfl)
theorem L_s_130 : ab_ML "SeasonSeat" 130 M_s_isRider.1 := Or.inl (ab_gm 656 (by decide +kernel) rfl)
theorem L_s_137 : ab_ML "SeasonSeat" 137 M_s_seasonOf.1 := Or.inl (ab_gm 660 (by decide +kernel) rfl)
theorem L_s_154 : ab_ML "SeasonSeat" 154 M_se_seatOf.1 := Or.inr ⟨"SeasonSeat", ab_nm 663 (by decide +kernel) rfl⟩
theorem L_s_157 : ab_ML "SeasonSeat" 157 M_ca_liking.1 := Or.inr ⟨"SeasonSeat", ab_nm 667 (by decide +kernel) rfl⟩
theorem L_law_32 : ab_ML "SeasonSeatLaw" 32 M_s_seat.1 := Or.inl (ab_gm 671 (by decide +kernel) rfl)
theorem L_s_160 : ab_ML "SeasonSeat" 160 M_se_riderIn.1 := Or.inr ⟨"SeasonSeat", ab_nm 675 (by decide +kernel) rfl⟩
theorem L_law_36 : ab_ML "SeasonSeatLaw" 36 M_s_why.1 := Or.inl (ab_gm 679 (by decide +kernel) rfl)
theorem L_s_163 : ab_ML "SeasonSeat" 163 M_s_lawsNow.1 := Or.inl (ab_gm 683 (by decide +kernel) rfl)
theorem L_s_183 : ab_ML "SeasonSeat" 183 M_cl_suppose.1 := Or.inr ⟨"SeasonSeat", ab_nm 687 (by decide +kernel) rfl⟩
theorem L_s_167 : ab_ML "SeasonSeat" 167 M_cl_whyNot.1 := Or.inr ⟨"SeasonSeat", ab_nm 691 (by decide +kernel) rfl⟩
theorem L_cl_69 : ab_ML "SeasonSeat$Climate" 69 M_se_riderIn.1 := Or.inr ⟨"SeasonSeat", ab_nm 695 (by decide +kernel) rfl⟩
theorem L_cl_75 : ab_ML "SeasonSeat$Climate" 75 M_s_warmthOf.1 := Or.inr ⟨"SeasonSeat", ab_nm 696 (by decide +kernel) rfl⟩
theorem L_cl_78 : ab_ML "SeasonSeat$Climate" 78 M_cl_mayGo.1 := Or.inl (ab_gm 697 (by decide +kernel) rfl)
theorem L_cl_82 : ab_ML "SeasonSeat$Climate" 82 M_cl_nameRider.1 := Or.inl (ab_gm 701 (by decide +kernel) rfl)
theorem L_cl_96 : ab_ML "SeasonSeat$Climate" 96 M_s_seasonOf.1 := Or.inr ⟨"SeasonSeat", ab_nm 705 (by decide +kernel) rfl⟩
theorem L_cl_86 : ab_ML "SeasonSeat$Climate" 86 M_cl_worked.1 := Or.inl (ab_gm 706 (by decide +kernel) rfl)
theorem L_cl_113 : ab_ML "SeasonSeat$Climate" 113 M_cl_workedBoth.1 := Or.inl (ab_gm 710 (by decide +kernel) rfl)
theorem C_cl_117 : Cond.constantLong "SeasonSeat$Climate" 117 (1000000) ∈ ab_good := ab_gm 713 (by decide +kernel) rfl
theorem C_cl_119 : Cond.constant "SeasonSeat$Climate" 119 (1000000) ∈ ab_good := ab_gm 714 (by decide +kernel) rfl
theorem C_cl_120 : Cond.constantLong "SeasonSeat$Climate" 120 (-1000000) ∈ ab_good := ab_gm 715 (by decide +kernel) rfl
theorem C_cl_122 : Cond.constant "SeasonSeat$Climate" 122 (-1000000) ∈ ab_good := ab_gm 716 (by decide +kernel) rfl
theorem L_law_40 : ab_ML "SeasonSeatLaw" 40 M_s_by.1 := Or.inl (ab_gm 717 (by decide +kernel) rfl)
theorem L_s_171 : ab_ML "SeasonSeat" 171 M_se_changed.1 := Or.inr ⟨"SeasonSeat", ab_nm 721 (by decide +kernel) rfl⟩
theorem L_s_174 : ab_ML "SeasonSeat" 174 M_cl_behind.1 := Or.inr ⟨"SeasonSeat", ab_nm 725 (by decide +kernel) rfl⟩
theorem L_cl_90 : ab_ML "SeasonSeat$Climate" 90 M_cl_warmthBehind.1 := Or.inl (ab_gm 729 (by decide +kernel) rfl)
theorem L_cl_93 : ab_ML "SeasonSeat$Climate" 93 M_se_seatOf.1 := Or.inr ⟨"SeasonSeat", ab_nm 733 (by decide +kernel) rfl⟩
theorem L_cl_102 : ab_ML "SeasonSeat$Climate" 102 M_jM_min.1 := Or.inl (ab_gm 734 (by decide +kernel) rfl)
theorem L_cl_107 : ab_ML "SeasonSeat$Climate" 107 M_jM_max.1 := Or.inl (ab_gm 735 (by decide +kernel) rfl)
theorem L_law_44 : ab_ML "SeasonSeatLaw" 44 M_s_stop.1 := Or.inl (ab_gm 736 (by decide +kernel) rfl)
theorem L_s_187 : ab_ML "SeasonSeat" 187 M_s_doAlone.1 := Or.inl (ab_gm 740 (by decide +kernel) rfl)
theorem L_s_217 : ab_ML "SeasonSeat" 217 M_sd_copy.1 := Or.inr ⟨"SeasonSeat", ab_nm 744 (by decide +kernel) rfl⟩
theorem L_s_198 : ab_ML "SeasonSeat" 198 M_s_act.1 := Or.inl (ab_gm 748 (by decide +kernel) rfl)
theorem C_s_240 : Cond.constantLong "SeasonSeat" 240 (4) ∈ ab_good := ab_gm 752 (by decide +kernel) rfl
theorem L_s_242 : ab_ML "SeasonSeat" 242 M_s_actStop.1 := Or.inl (ab_gm 753 (by decide +kernel) rfl)
theorem C_s_246 : Cond.constantLong "SeasonSeat" 246 (10) ∈ ab_good := ab_gm 757 (by decide +kernel) rfl
theorem C_s_248 : Cond.constantLong "SeasonSeat" 248 (20) ∈ ab_good := ab_gm 758 (by decide +kernel) rfl
theorem L_s_250 : ab_ML "SeasonSeat" 250 M_s_withWarmth.1 := Or.inl (ab_gm 759 (by decide +kernel) rfl)
theorem C_s_253 : Cond.constantLong "SeasonSeat" 253 (30) ∈ ab_good := ab_gm 760 (by decide +kernel) rfl
theorem C_s_255 : Cond.constantLong "SeasonSeat" 255 (100) ∈ ab_good := ab_gm 761 (by decide +kernel) rfl
theorem C_s_257 : Cond.constantLong "SeasonSeat" 257 (199) ∈ ab_good := ab_gm 762 (by decide +kernel) rfl
theorem L_s_259 : ab_ML "SeasonSeat" 259 M_s_actGive.1 := Or.inl (ab_gm 763 (by decide +kernel) rfl)
theorem L_s_266 : ab_ML "SeasonSeat" 266 M_s_withSeason.1 := Or.inl (ab_gm 767 (by decide +kernel) rfl)
theorem L_s_194 : ab_ML "SeasonSeat" 194 M_pa_keep.1 := Or.inr ⟨"SeasonSeat", ab_nm 768 (by decide +kernel) rfl⟩
theorem L_pa_25 : ab_ML "SeasonSeat$Past" 25 M_sd_copy.1 := Or.inr ⟨"SeasonSeat", ab_nm 772 (by decide +kernel) rfl⟩
theorem L_pa_29 : ab_ML "SeasonSeat$Past" 29 M_jM_min.1 := Or.inl (ab_gm 773 (by decide +kernel) rfl)
theorem L_s_191 : ab_ML "SeasonSeat" 191 M_s_leastOf.1 := Or.inl (ab_gm 774 (by decide +kernel) rfl)
theorem L_s_433 : ab_ML "SeasonSeat" 433 M_jM_min.1 := Or.inl (ab_gm 777 (by decide +kernel) rfl)
theorem L_law_48 : ab_ML "SeasonSeatLaw" 48 M_s_stops.1 := Or.inl (ab_gm 778 (by decide +kernel) rfl)
theorem L_law_52 : ab_ML "SeasonSeatLaw" 52 M_s_give.1 := Or.inl (ab_gm 782 (by decide +kernel) rfl)
theorem L_law_56 : ab_ML "SeasonSeatLaw" 56 M_s_rug.1 := Or.inl (ab_gm 786 (by decide +kernel) rfl)
theorem L_law_60 : ab_ML "SeasonSeatLaw" 60 M_s_month.1 := Or.inl (ab_gm 790 (by decide +kernel) rfl)
theorem L_law_64 : ab_ML "SeasonSeatLaw" 64 M_s_undo.1 := Or.inl (ab_gm 794 (by decide +kernel) rfl)
theorem L_s_205 : ab_ML "SeasonSeat" 205 M_pa_bringBack.1 := Or.inr ⟨"SeasonSeat", ab_nm 798 (by decide +kernel) rfl⟩
theorem L_pa_35 : ab_ML "SeasonSeat$Past" 35 M_jM_floorMod.1 := Or.inl (ab_gm 802 (by decide +kernel) rfl)
theorem L_law_68 : ab_ML "SeasonSeatLaw" 68 M_s_judge.1 := Or.inl (ab_gm 805 (by decide +kernel) rfl)
theorem L_s_209 : ab_ML "SeasonSeat" 209 M_s_trayAt.1 := Or.inl (ab_gm 809 (by decide +kernel) rfl)
theorem L_s_213 : ab_ML "SeasonSeat" 213 M_ty_isMissing.1 := Or.inr ⟨"SeasonSeat", ab_nm 813 (by decide +kernel) rfl⟩
theorem L_s_220 : ab_ML "SeasonSeat" 220 M_s_actAll.1 := Or.inl (ab_gm 817 (by decide +kernel) rfl)
theorem L_s_225 : ab_ML "SeasonSeat" 225 M_ty_numberAt.1 := Or.inr ⟨"SeasonSeat", ab_nm 821 (by decide +kernel) rfl⟩
theorem L_s_229 : ab_ML "SeasonSeat" 229 M_s_sumOf.1 := Or.inl (ab_gm 825 (by decide +kernel) rfl)
theorem L_law_72 : ab_ML "SeasonSeatLaw" 72 M_s_perform.1 := Or.inl (ab_gm 828 (by decide +kernel) rfl)
theorem L_law_76 : ab_ML "SeasonSeatLaw" 76 M_s_journey.1 := Or.inl (ab_gm 832 (by decide +kernel) rfl)
theorem L_s_232 : ab_ML "SeasonSeat" 232 M_s_deedDrawn.1 := Or.inl (ab_gm 836 (by decide +kernel) rfl)
theorem L_s_236 : ab_ML "SeasonSeat" 236 M_s_draw.1 := Or.inl (ab_gm 840 (by decide +kernel) rfl)
theorem C_s_239 : Cond.constant "SeasonSeat" 239 (1103515245) ∈ ab_good := ab_gm 844 (by decide +kernel) rfl
theorem L_law_80 : ab_ML "SeasonSeatLaw" 80 M_s_lies.1 := Or.inl (ab_gm 845 (by decide +kernel) rfl)
theorem C_s_269 : Cond.constant "SeasonSeat" 269 (99999) ∈ ab_good := ab_gm 849 (by decide +kernel) rfl
theorem L_s_270 : ab_ML "SeasonSeat" 270 M_s_settled.1 := Or.inl (ab_gm 850 (by decide +kernel) rfl)
theorem L_s_289 : ab_ML "SeasonSeat" 289 M_id_settle.1 := Or.inr ⟨"SeasonSeat", ab_nm 854 (by decide +kernel) rfl⟩
theorem L_id_34 : ab_ML "SeasonSeat$Idling" 34 M_jA_fill_0.1 := Or.inl (ab_gm 858 (by decide +kernel) rfl)
theorem L_id_40 : ab_ML "SeasonSeat$Idling" 40 M_cl_behind.1 := Or.inr ⟨"SeasonSeat", ab_nm 861 (by decide +kernel) rfl⟩
theorem L_s_274 : ab_ML "SeasonSeat" 274 M_id_warmBehind.1 := Or.inr ⟨"SeasonSeat", ab_nm 862 (by decide +kernel) rfl⟩
theorem L_law_84 : ab_ML "SeasonSeatLaw" 84 M_s_round.1 := Or.inl (ab_gm 866 (by decide +kernel) rfl)
theorem L_law_88 : ab_ML "SeasonSeatLaw" 88 M_s_when.1 := Or.inl (ab_gm 870 (by decide +kernel) rfl)
theorem L_s_283 : ab_ML "SeasonSeat" 283 M_s_isWarmth.1 := Or.inl (ab_gm 874 (by decide +kernel) rfl)
theorem L_s_286 : ab_ML "SeasonSeat" 286 M_id_firstWarm.1 := Or.inr ⟨"SeasonSeat", ab_nm 877 (by decide +kernel) rfl⟩
theorem L_id_46 : ab_ML "SeasonSeat$Idling" 46 M_s_leastOf.1 := Or.inr ⟨"SeasonSeat", ab_nm 881 (by decide +kernel) rfl⟩
theorem L_law_92 : ab_ML "SeasonSeatLaw" 92 M_s_soonest.1 := Or.inl (ab_gm 882 (by decide +kernel) rfl)
theorem L_s_293 : ab_ML "SeasonSeat" 293 M_s_rowsNow.1 := Or.inl (ab_gm 886 (by decide +kernel) rfl)
theorem F_s_325 : Cond.fieldLink "SeasonSeat" 325 "SeasonSeat" "FACTORIALS" "[I" ∈ ab_good := ab_gm 890 (by decide +kernel) rfl
theorem L_s_328 : ab_ML "SeasonSeat" 328 M_ro_size.1 := Or.inr ⟨"SeasonSeat", ab_nm 891 (by decide +kernel) rfl⟩
theorem N_ro : Cond.instantiable "SeasonSeat$Rows" 15 ∈ ab_good ∧ Cond.initialized "SeasonSeat$Rows" ∈ ab_good := ⟨ab_gm 894 (by decide +kernel) rfl, ab_gm 19 (by decide +kernel) rfl⟩
theorem Q_s_298 : Cond.classLink "SeasonSeat" 298 "SeasonSeat$Rows" ∈ ab_good := ab_gm 896 (by decide +kernel) rfl
theorem L_s_330 : ab_ML "SeasonSeat" 330 M_ro_init.1 := Or.inr ⟨"SeasonSeat", ab_nm 897 (by decide +kernel) rfl⟩
theorem L_ro_3 : Cond.methodLink "SeasonSeat$Rows" 3 objectInit ∈ ab_good := ab_gm 900 (by decide +kernel) rfl
theorem F_ro_34 : ab_FL "SeasonSeat$Rows" 34 6 0 true := ⟨_, _, _, rfl, by decide, rfl, Or.inl ⟨ab_gm 901 (by decide +kernel) rfl, fun _ => rfl⟩⟩
theorem FN_ro_34 : ∀ host : String, ∀ O n dd, Cond.fieldLinkNest "SeasonSeat$Rows" 34 O n dd host ∉ ab_nest := ab_nestno (by decide +kernel)
theorem F_ro_38 : ab_FL "SeasonSeat$Rows" 38 6 1 true := ⟨_, _, _, rfl, by decide, rfl, Or.inl ⟨ab_gm 902 (by decide +kernel) rfl, fun _ => rfl⟩⟩
theorem FN_ro_38 : ∀ host : String, ∀ O n dd, Cond.fieldLinkNest "SeasonSeat$Rows" 38 O n dd host ∉ ab_nest := ab_nestno (by decide +kernel)
theorem F_ro_42 : ab_FL "SeasonSeat$Rows" 42 6 2 true := ⟨_, _, _, rfl, by decide, rfl, Or.inl ⟨ab_gm 903 (by decide +kernel) rfl, fun _ => rfl⟩⟩
theorem FN_ro_42 : ∀ host : String, ∀ O n dd, Cond.fieldLinkNest "SeasonSeat$Rows" 42 O n dd host ∉ ab_nest := ab_nestno (by decide +kernel)
theorem F_ro_45 : ab_FL "SeasonSeat$Rows" 45 6 3 true := ⟨_, _, _, rfl, by decide, rfl, Or.inl ⟨ab_gm 904 (by decide +kernel) rfl, fun _ => rfl⟩⟩
theorem FN_ro_45 : ∀ host : String, ∀ O n dd, Cond.fieldLinkNest "SeasonSeat$Rows" 45 O n dd host ∉ ab_nest := ab_nestno (by decide +kernel)
theorem F_ro_48 : ab_FL "SeasonSeat$Rows" 48 6 4 true := ⟨_, _, _, rfl, by decide, rfl, Or.inl ⟨ab_gm 905 (by decide +kernel) rfl, fun _ => rfl⟩⟩
theorem FN_ro_48 : ∀ host : String, ∀ O n dd, Cond.fieldLinkNest "SeasonSeat$Rows" 48 O n dd host ∉ ab_nest := ab_nestno (by decide +kernel)
theorem F_ro_51 : ab_FL "SeasonSeat$Rows" 51 6 5 true := ⟨_, _, _, rfl, by decide, rfl, Or.inl ⟨ab_gm 906 (by decide +kernel) rfl, fun _ => rfl⟩⟩
theorem FN_ro_51 : ∀ host : String, ∀ O n dd, Cond.fieldLinkNest "SeasonSeat$Rows" 51 O n dd host ∉ ab_nest := ab_nestno (by decide +kernel)
theorem F_ro_54 : ab_FL "SeasonSeat$Rows" 54 6 6 true := ⟨_, _, _, rfl, by decide, rfl, Or.inl ⟨ab_gm 907 (by decide +kernel) rfl, fun _ => rfl⟩⟩
theorem FN_ro_54 : ∀ host : String, ∀ O n dd, Cond.fieldLinkNest "SeasonSeat$Rows" 54 O n dd host ∉ ab_nest := ab_nestno (by decide +kernel)
theorem F_ro_57 : ab_FL "SeasonSeat$Rows" 57 6 7 true := ⟨_, _, _, rfl, by decide, rfl, Or.inl ⟨ab_gm 908 (by decide +kernel) rfl, fun _ => rfl⟩⟩
theorem FN_ro_57 : ∀ host : String, ∀ O n dd, Cond.fieldLinkNest "SeasonSeat$Rows" 57 O n dd host ∉ ab_nest := ab_nestno (by decide +kernel)
theorem F_ro_9 : ab_FL "SeasonSeat$Rows" 9 6 8 false := ⟨_, _, _, rfl, by decide, rfl, Or.inl ⟨ab_gm 909 (by decide +kernel) rfl, fun h => by cases h⟩⟩
theorem F_ro_15 : ab_FL "SeasonSeat$Rows" 15 6 9 false := ⟨_, _, _, rfl, by decide, rfl, Or.inl ⟨ab_gm 910 (by decide +kernel) rfl, fun h => by cases h⟩⟩
theorem F_ro_19 : ab_FL "SeasonSeat$Rows" 19 6 10 false := ⟨_, _, _, rfl, by decide, rfl, Or.inl ⟨ab_gm 911 (by decide +kernel) rfl, fun h => by cases h⟩⟩
theorem F_ro_22 : ab_FL "SeasonSeat$Rows" 22 6 11 false := ⟨_, _, _, rfl, by decide, rfl, Or.inl ⟨ab_gm 912 (by decide +kernel) rfl, fun h => by cases h⟩⟩
theorem F_ro_25 : ab_FL "SeasonSeat$Rows" 25 6 12 false := ⟨_, _, _, rfl, by decide, rfl, Or.inl ⟨ab_gm 913 (by decide +kernel) rfl, fun h => by cases h⟩⟩
theorem F_fo_59 : ab_FL "SeasonSeat$Forcing" 59 6 12 false := ⟨_, _, _, rfl, by decide, rfl, Or.inr ⟨"SeasonSeat", rfl, ab_nm 914 (by decide +kernel) rfl⟩⟩
theorem F_ro_28 : ab_FL "SeasonSeat$Rows" 28 6 13 false := ⟨_, _, _, rfl, by decide, rfl, Or.inl ⟨ab_gm 915 (by decide +kernel) rfl, fun h => by cases h⟩⟩
theorem F_ro_31 : ab_FL "SeasonSeat$Rows" 31 6 14 false := ⟨_, _, _, rfl, by decide, rfl, Or.inl ⟨ab_gm 916 (by decide +kernel) rfl, fun h => by cases h⟩⟩
theorem F_fo_40 : ab_FL "SeasonSeat$Forcing" 40 6 14 false := ⟨_, _, _, rfl, by decide, rfl, Or.inr ⟨"SeasonSeat", rfl, ab_nm 917 (by decide +kernel) rfl⟩⟩
theorem L_s_333 : ab_ML "SeasonSeat" 333 M_ro_begin.1 := Or.inr ⟨"SeasonSeat", ab_nm 949 (by decide +kernel) rfl⟩
theorem F_ro_60 : Cond.fieldLinkNest "SeasonSeat$Rows" 60 "SeasonSeat" "POWERS" "[I" "SeasonSeat" ∈ ab_nest := ab_nm 953 (by decide +kernel) rfl
theorem L_ro_73 : ab_ML "SeasonSeat$Rows" 73 M_ro_standWith.1 := Or.inl (ab_gm 954 (by decide +kernel) rfl)
theorem L_s_297 : ab_ML "SeasonSeat" 297 M_ro_firstWarm.1 := Or.inr ⟨"SeasonSeat", ab_nm 958 (by decide +kernel) rfl⟩
theorem L_ro_100 : ab_ML "SeasonSeat$Rows" 100 M_ro_isWarm.1 := Or.inl (ab_gm 962 (by decide +kernel) rfl)
theorem L_ro_93 : ab_ML "SeasonSeat$Rows" 93 M_ro_warmOf.1 := Or.inl (ab_gm 966 (by decide +kernel) rfl)
theorem L_ro_97 : ab_ML "SeasonSeat$Rows" 97 M_s_leastOf.1 := Or.inr ⟨"SeasonSeat", ab_nm 970 (by decide +kernel) rfl⟩
theorem L_ro_89 : ab_ML "SeasonSeat$Rows" 89 M_ro_openTo.1 := Or.inl (ab_gm 971 (by decide +kernel) rfl)
theorem L_ro_77 : ab_ML "SeasonSeat$Rows" 77 M_cl_whyNot.1 := Or.inr ⟨"SeasonSeat", ab_nm 975 (by decide +kernel) rfl⟩
theorem L_ro_81 : ab_ML "SeasonSeat$Rows" 81 M_se_changed.1 := Or.inr ⟨"SeasonSeat", ab_nm 976 (by decide +kernel) rfl⟩
theorem L_ro_86 : ab_ML "SeasonSeat$Rows" 86 M_cl_behind.1 := Or.inr ⟨"SeasonSeat", ab_nm 977 (by decide +kernel) rfl⟩
theorem L_s_301 : ab_ML "SeasonSeat" 301 M_ro_stopsTo.1 := Or.inr ⟨"SeasonSeat", ab_nm 978 (by decide +kernel) rfl⟩
theorem L_law_96 : ab_ML "SeasonSeatLaw" 96 M_s_way.1 := Or.inl (ab_gm 982 (by decide +kernel) rfl)
theorem L_s_304 : ab_ML "SeasonSeat" 304 M_ro_deedTo.1 := Or.inr ⟨"SeasonSeat", ab_nm 986 (by decide +kernel) rfl⟩
theorem L_ro_104 : ab_ML "SeasonSeat$Rows" 104 M_ro_stopsTo.1 := Or.inl (ab_gm 990 (by decide +kernel) rfl)
theorem L_ro_107 : ab_ML "SeasonSeat$Rows" 107 M_ro_nextOf.1 := Or.inl (ab_gm 991 (by decide +kernel) rfl)
theorem L_law_100 : ab_ML "SeasonSeatLaw" 100 M_s_rows.1 := Or.inl (ab_gm 995 (by decide +kernel) rfl)
theorem C_s_307 : Cond.constantLong "SeasonSeat" 307 (-3) ∈ ab_good := ab_gm 999 (by decide +kernel) rfl
theorem L_s_309 : ab_ML "SeasonSeat" 309 M_ro_howManyWarm.1 := Or.inr ⟨"SeasonSeat", ab_nm 1000 (by decide +kernel) rfl⟩
theorem L_ro_110 : ab_ML "SeasonSeat$Rows" 110 M_jA_fill_0.1 := Or.inl (ab_gm 1004 (by decide +kernel) rfl)
theorem L_ro_116 : ab_ML "SeasonSeat$Rows" 116 M_ro_spread.1 := Or.inl (ab_gm 1005 (by decide +kernel) rfl)
theorem L_law_105 : ab_ML "SeasonSeatLaw" 105 M_s_keeps.1 := Or.inl (ab_gm 1009 (by decide +kernel) rfl)
theorem L_s_313 : ab_ML "SeasonSeat" 313 M_ro_longestWarm.1 := Or.inr ⟨"SeasonSeat", ab_nm 1013 (by decide +kernel) rfl⟩
theorem L_ro_120 : ab_ML "SeasonSeat$Rows" 120 M_ro_lengthen.1 := Or.inl (ab_gm 1017 (by decide +kernel) rfl)
theorem L_ro_124 : ab_ML "SeasonSeat$Rows" 124 M_jM_max.1 := Or.inl (ab_gm 1021 (by decide +kernel) rfl)
theorem L_law_109 : ab_ML "SeasonSeatLaw" 109 M_s_most.1 := Or.inl (ab_gm 1022 (by decide +kernel) rfl)
theorem L_s_316 : ab_ML "SeasonSeat" 316 M_ro_greatestWarmth.1 := Or.inr ⟨"SeasonSeat", ab_nm 1026 (by decide +kernel) rfl⟩
theorem L_ro_129 : ab_ML "SeasonSeat$Rows" 129 M_s_warmthOf.1 := Or.inr ⟨"SeasonSeat", ab_nm 1030 (by decide +kernel) rfl⟩
theorem L_law_113 : ab_ML "SeasonSeatLaw" 113 M_s_stands.1 := Or.inl (ab_gm 1031 (by decide +kernel) rfl)
theorem L_s_319 : ab_ML "SeasonSeat" 319 M_ro_openAll.1 := Or.inr ⟨"SeasonSeat", ab_nm 1035 (by decide +kernel) rfl⟩
theorem L_law_118 : ab_ML "SeasonSeatLaw" 118 M_s_placing.1 := Or.inl (ab_gm 1039 (by decide +kernel) rfl)
theorem L_s_335 : ab_ML "SeasonSeat" 335 M_s_warmWhenSeated.1 := Or.inl (ab_gm 1043 (by decide +kernel) rfl)
theorem L_s_338 : ab_ML "SeasonSeat" 338 M_s_isBetter.1 := Or.inl (ab_gm 1047 (by decide +kernel) rfl)
theorem L_s_342 : ab_ML "SeasonSeat" 342 M_se_orderOf.1 := Or.inr ⟨"SeasonSeat", ab_nm 1051 (by decide +kernel) rfl⟩
theorem L_law_122 : ab_ML "SeasonSeatLaw" 122 M_s_trades.1 := Or.inl (ab_gm 1055 (by decide +kernel) rfl)
theorem Q_s_345 : Cond.classLink "SeasonSeat" 345 "SeasonSeat$Trading" ∈ ab_good := ab_gm 1059 (by decide +kernel) rfl
theorem N_tr : Cond.instantiable "SeasonSeat$Trading" 5 ∈ ab_good ∧ Cond.initialized "SeasonSeat$Trading" ∈ ab_good := ⟨ab_gm 1060 (by decide +kernel) rfl, ab_gm 20 (by decide +kernel) rfl⟩
