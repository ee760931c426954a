/-! names: every method stands in the tables; the links -/
set_option maxRecDepth 20000 in
theorem ok_mq_Court_init : mj_okM mq_Court_init := ⟨mj_tn (p := 86) rfl, mj_tn (p := 70) (by decide +kernel), by decide +kernel, ⟨by decide +kernel, by decide +kernel⟩, by decide +kernel, by decide +kernel, Nat.le_of_ble_eq_true rfl, Nat.le_of_ble_eq_true rfl⟩
set_option maxRecDepth 20000 in
theorem ok_mq_Court_routine : mj_okM mq_Court_routine := ⟨mj_tn (p := 394) rfl, mj_tn (p := 70) (by decide +kernel), by decide +kernel, ⟨by decide +kernel, by decide +kernel⟩, by decide +kernel, by decide +kernel, Nat.le_of_ble_eq_true rfl, Nat.le_of_ble_eq_true rfl⟩
set_option maxRecDepth 20000 in
theorem ok_mq_Court_act : mj_okM mq_Court_act := ⟨mj_tn (p := 398) rfl, mj_tn (p := 70) (by decide +kernel), by decide +kernel, ⟨by decide +kernel, by decide +kernel⟩, by decide +kernel, by decide +kernel, Nat.le_of_ble_eq_true rfl, Nat.le_of_ble_eq_true rfl⟩
set_option maxRecDepth 20000 in
theorem ok_mq_Court_at : mj_okM mq_Court_at := ⟨mj_tn (p := 426) rfl, mj_tn (p := 70) (by decide +kernel), by decide +kernel, ⟨by decide +kernel, by decide +kernel⟩, by decide +kernel, by decide +kernel, Nat.le_of_ble_eq_true rfl, Nat.le_of_ble_eq_true rfl⟩
set_option maxRecDepth 20000 in
theorem ok_mq_Court_length : mj_okM mq_Court_length := ⟨mj_tn (p := 431) rfl, mj_tn (p := 70) (by decide +kernel), by decide +kernel, ⟨by decide +kernel, by decide +kernel⟩, by decide +kernel, by decide +kernel, Nat.le_of_ble_eq_true rfl, Nat.le_of_ble_eq_true rfl⟩
set_option maxRecDepth 20000 in
theorem ok_mq_Court_pass : mj_okM mq_Court_pass := ⟨mj_tn (p := 435) rfl, mj_tn (p := 70) (by decide +kernel), by decide +kernel, ⟨by decide +kernel, by decide +kernel⟩, by decide +kernel, by decide +kernel, Nat.le_of_ble_eq_true rfl, Nat.le_of_ble_eq_true rfl⟩
set_option maxRecDepth 20000 in
theorem ok_mq_Court_best : mj_okM mq_Court_best := ⟨mj_tn (p := 629) rfl, mj_tn (p := 70) (by decide +kernel), by decide +kernel, ⟨by decide +kernel, by decide +kernel⟩, by decide +kernel, by decide +kernel, Nat.le_of_ble_eq_true rfl, Nat.le_of_ble_eq_true rfl⟩
set_option maxRecDepth 20000 in
theorem ok_mq_Court_same : mj_okM mq_Court_same := ⟨mj_tn (p := 643) rfl, mj_tn (p := 70) (by decide +kernel), by decide +kernel, ⟨by decide +kernel, by decide +kernel⟩, by decide +kernel, by decide +kernel, Nat.le_of_ble_eq_true rfl, Nat.le_of_ble_eq_true rfl⟩
set_option maxRecDepth 20000 in
theorem ok_mq_Court_known : mj_okM mq_Court_known := ⟨mj_tn (p := 648) rfl, mj_tn (p := 70) (by decide +kernel), by decide +kernel, ⟨by decide +kernel, by decide +kernel⟩, by decide +kernel, by decide +kernel, Nat.le_of_ble_eq_true rfl, Nat.le_of_ble_eq_true rfl⟩
set_option maxRecDepth 20000 in
theorem ok_mq_Court_value : mj_okM mq_Court_value := ⟨mj_tn (p := 663) rfl, mj_tn (p := 70) (by decide +kernel), by decide +kernel, ⟨by decide +kernel, by decide +kernel⟩, by decide +kernel, by decide +kernel, Nat.le_of_ble_eq_true rfl, Nat.le_of_ble_eq_true rfl⟩
set_option maxRecDepth 20000 in
theorem ok_mq_Court_live : mj_okM mq_Court_live := ⟨mj_tn (p := 668) rfl, mj_tn (p := 70) (by decide +kernel), by decide +kernel, ⟨by decide +kernel, by decide +kernel⟩, by decide +kernel, by decide +kernel, Nat.le_of_ble_eq_true rfl, Nat.le_of_ble_eq_true rfl⟩
set_option maxRecDepth 20000 in
theorem ok_mq_Court_feed : mj_okM mq_Court_feed := ⟨mj_tn (p := 674) rfl, mj_tn (p := 70) (by decide +kernel), by decide +kernel, ⟨by decide +kernel, by decide +kernel⟩, by decide +kernel, by decide +kernel, Nat.le_of_ble_eq_true rfl, Nat.le_of_ble_eq_true rfl⟩
set_option maxRecDepth 20000 in
theorem ok_mq_Court_dry : mj_okM mq_Court_dry := ⟨mj_tn (p := 682) rfl, mj_tn (p := 70) (by decide +kernel), by decide +kernel, ⟨by decide +kernel, by decide +kernel⟩, by decide +kernel, by decide +kernel, Nat.le_of_ble_eq_true rfl, Nat.le_of_ble_eq_true rfl⟩
set_option maxRecDepth 20000 in
theorem ok_mq_Court_run : mj_okM mq_Court_run := ⟨mj_tn (p := 686) rfl, mj_tn (p := 70) (by decide +kernel), by decide +kernel, ⟨by decide +kernel, by decide +kernel⟩, by decide +kernel, by decide +kernel, Nat.le_of_ble_eq_true rfl, Nat.le_of_ble_eq_true rfl⟩
set_option maxRecDepth 20000 in
theorem ok_mq_Court_outs : mj_okM mq_Court_outs := ⟨mj_tn (p := 714) rfl, mj_tn (p := 70) (by decide +kernel), by decide +kernel, ⟨by decide +kernel, by decide +kernel⟩, by decide +kernel, by decide +kernel, Nat.le_of_ble_eq_true rfl, Nat.le_of_ble_eq_true rfl⟩
set_option maxRecDepth 20000 in
theorem ok_mq_Court_out : mj_okM mq_Court_out := ⟨mj_tn (p := 718) rfl, mj_tn (p := 70) (by decide +kernel), by decide +kernel, ⟨by decide +kernel, by decide +kernel⟩, by decide +kernel, by decide +kernel, Nat.le_of_ble_eq_true rfl, Nat.le_of_ble_eq_true rfl⟩
set_option maxRecDepth 20000 in
theorem ok_mq_Court_ran : mj_okM mq_Court_ran := ⟨mj_tn (p := 722) rfl, mj_tn (p := 70) (by decide +kernel), by decide +kernel, ⟨by decide +kernel, by decide +kernel⟩, by decide +kernel, by decide +kernel, Nat.le_of_ble_eq_true rfl, Nat.le_of_ble_eq_true rfl⟩
set_option maxRecDepth 20000 in
theorem ok_mq_Court_register : mj_okM mq_Court_register := ⟨mj_tn (p := 726) rfl, mj_tn (p := 70) (by decide +kernel), by decide +kernel, ⟨by decide +kernel, by decide +kernel⟩, by decide +kernel, by decide +kernel, Nat.le_of_ble_eq_true rfl, Nat.le_of_ble_eq_true rfl⟩
set_option maxRecDepth 20000 in
theorem ok_mq_Court_clear : mj_okM mq_Court_clear := ⟨mj_tn (p := 730) rfl, mj_tn (p := 70) (by decide +kernel), by decide +kernel, ⟨by decide +kernel, by decide +kernel⟩, by decide +kernel, by decide +kernel, Nat.le_of_ble_eq_true rfl, Nat.le_of_ble_eq_true rfl⟩
set_option maxRecDepth 20000 in
theorem ok_mq_Court_pair : mj_okM mq_Court_pair := ⟨mj_tn (p := 734) rfl, mj_tn (p := 70) (by decide +kernel), by decide +kernel, ⟨by decide +kernel, by decide +kernel⟩, by decide +kernel, by decide +kernel, Nat.le_of_ble_eq_true rfl, Nat.le_of_ble_eq_true rfl⟩
set_option maxRecDepth 20000 in
theorem ok_mq_Court_claim : mj_okM mq_Court_claim := ⟨mj_tn (p := 740) rfl, mj_tn (p := 70) (by decide +kernel), by decide +kernel, ⟨by decide +kernel, by decide +kernel⟩, by decide +kernel, by decide +kernel, Nat.le_of_ble_eq_true rfl, Nat.le_of_ble_eq_true rfl⟩
set_option maxRecDepth 20000 in
theorem ok_mq_Court_of : mj_okM mq_Court_of := ⟨mj_tn (p := 753) rfl, mj_tn (p := 70) (by decide +kernel), by decide +kernel, ⟨by decide +kernel, by decide +kernel⟩, by decide +kernel, by decide +kernel, Nat.le_of_ble_eq_true rfl, Nat.le_of_ble_eq_true rfl⟩
set_option maxRecDepth 20000 in
theorem ok_mq_Court_number : mj_okM mq_Court_number := ⟨mj_tn (p := 757) rfl, mj_tn (p := 70) (by decide +kernel), by decide +kernel, ⟨by decide +kernel, by decide +kernel⟩, by decide +kernel, by decide +kernel, Nat.le_of_ble_eq_true rfl, Nat.le_of_ble_eq_true rfl⟩
set_option maxRecDepth 20000 in
theorem ok_mq_Court_judge : mj_okM mq_Court_judge := ⟨mj_tn (p := 765) rfl, mj_tn (p := 70) (by decide +kernel), by decide +kernel, ⟨by decide +kernel, by decide +kernel⟩, by decide +kernel, by decide +kernel, Nat.le_of_ble_eq_true rfl, Nat.le_of_ble_eq_true rfl⟩
set_option maxRecDepth 20000 in
theorem ok_mq_Court_where : mj_okM mq_Court_where := ⟨mj_tn (p := 901) rfl, mj_tn (p := 70) (by decide +kernel), by decide +kernel, ⟨by decide +kernel, by decide +kernel⟩, by decide +kernel, by decide +kernel, Nat.le_of_ble_eq_true rfl, Nat.le_of_ble_eq_true rfl⟩
set_option maxRecDepth 20000 in
theorem ok_mq_Court_count : mj_okM mq_Court_count := ⟨mj_tn (p := 905) rfl, mj_tn (p := 70) (by decide +kernel), by decide +kernel, ⟨by decide +kernel, by decide +kernel⟩, by decide +kernel, by decide +kernel, Nat.le_of_ble_eq_true rfl, Nat.le_of_ble_eq_true rfl⟩
set_option maxRecDepth 20000 in
theorem ok_mq_Court_find : mj_okM mq_Court_find := ⟨mj_tn (p := 402) rfl, mj_tn (p := 70) (by decide +kernel), by decide +kernel, ⟨by decide +kernel, by decide +kernel⟩, by decide +kernel, by decide +kernel, Nat.le_of_ble_eq_true rfl, Nat.le_of_ble_eq_true rfl⟩
set_option maxRecDepth 20000 in
theorem ok_mq_Court_findWith : mj_okM mq_Court_findWith := ⟨mj_tn (p := 652) rfl, mj_tn (p := 70) (by decide +kernel), by decide +kernel, ⟨by decide +kernel, by decide +kernel⟩, by decide +kernel, by decide +kernel, Nat.le_of_ble_eq_true rfl, Nat.le_of_ble_eq_true rfl⟩
set_option maxRecDepth 20000 in
theorem ok_mq_Model_init : mj_okM mq_Model_init := ⟨mj_tn (p := 910) rfl, mj_tn (p := 80) (by decide +kernel), by decide +kernel, ⟨by decide +kernel, by decide +kernel⟩, by decide +kernel, by decide +kernel, Nat.le_of_ble_eq_true rfl, Nat.le_of_ble_eq_true rfl⟩
set_option maxRecDepth 20000 in
theorem ok_mq_Model_in : mj_okM mq_Model_in := ⟨mj_tn (p := 1032) rfl, mj_tn (p := 80) (by decide +kernel), by decide +kernel, ⟨by decide +kernel, by decide +kernel⟩, by decide +kernel, by decide +kernel, Nat.le_of_ble_eq_true rfl, Nat.le_of_ble_eq_true rfl⟩
set_option maxRecDepth 20000 in
theorem ok_mq_Model_isRoutine : mj_okM mq_Model_isRoutine := ⟨mj_tn (p := 1029) rfl, mj_tn (p := 80) (by decide +kernel), by decide +kernel, ⟨by decide +kernel, by decide +kernel⟩, by decide +kernel, by decide +kernel, Nat.le_of_ble_eq_true rfl, Nat.le_of_ble_eq_true rfl⟩
set_option maxRecDepth 20000 in
theorem ok_mq_Model_num : mj_okM mq_Model_num := ⟨mj_tn (p := 1050) rfl, mj_tn (p := 80) (by decide +kernel), by decide +kernel, ⟨by decide +kernel, by decide +kernel⟩, by decide +kernel, by decide +kernel, Nat.le_of_ble_eq_true rfl, Nat.le_of_ble_eq_true rfl⟩
set_option maxRecDepth 20000 in
theorem ok_mq_Model_kind : mj_okM mq_Model_kind := ⟨mj_tn (p := 1087) rfl, mj_tn (p := 80) (by decide +kernel), by decide +kernel, ⟨by decide +kernel, by decide +kernel⟩, by decide +kernel, by decide +kernel, Nat.le_of_ble_eq_true rfl, Nat.le_of_ble_eq_true rfl⟩
set_option maxRecDepth 20000 in
theorem ok_mq_Model_put : mj_okM mq_Model_put := ⟨mj_tn (p := 1042) rfl, mj_tn (p := 80) (by decide +kernel), by decide +kernel, ⟨by decide +kernel, by decide +kernel⟩, by decide +kernel, by decide +kernel, Nat.le_of_ble_eq_true rfl, Nat.le_of_ble_eq_true rfl⟩
set_option maxRecDepth 20000 in
theorem ok_mq_Model_place : mj_okM mq_Model_place := ⟨mj_tn (p := 1113) rfl, mj_tn (p := 80) (by decide +kernel), by decide +kernel, ⟨by decide +kernel, by decide +kernel⟩, by decide +kernel, by decide +kernel, Nat.le_of_ble_eq_true rfl, Nat.le_of_ble_eq_true rfl⟩
set_option maxRecDepth 20000 in
theorem ok_mq_Model_routine : mj_okM mq_Model_routine := ⟨mj_tn (p := 1021) rfl, mj_tn (p := 80) (by decide +kernel), by decide +kernel, ⟨by decide +kernel, by decide +kernel⟩, by decide +kernel, by decide +kernel, Nat.le_of_ble_eq_true rfl, Nat.le_of_ble_eq_true rfl⟩
set_option maxRecDepth 20000 in
theorem ok_mq_Model_isMade : mj_okM mq_Model_isMade := ⟨mj_tn (p := 1038) rfl, mj_tn (p := 80) (by decide +kernel), by decide +kernel, ⟨by decide +kernel, by decide +kernel⟩, by decide +kernel, by decide +kernel, Nat.le_of_ble_eq_true rfl, Nat.le_of_ble_eq_true rfl⟩
set_option maxRecDepth 20000 in
theorem ok_mq_Model_isAct : mj_okM mq_Model_isAct := ⟨mj_tn (p := 1035) rfl, mj_tn (p := 80) (by decide +kernel), by decide +kernel, ⟨by decide +kernel, by decide +kernel⟩, by decide +kernel, by decide +kernel, Nat.le_of_ble_eq_true rfl, Nat.le_of_ble_eq_true rfl⟩
set_option maxRecDepth 20000 in
theorem ok_mq_Model_act : mj_okM mq_Model_act := ⟨mj_tn (p := 1025) rfl, mj_tn (p := 80) (by decide +kernel), by decide +kernel, ⟨by decide +kernel, by decide +kernel⟩, by decide +kernel, by decide +kernel, Nat.le_of_ble_eq_true rfl, Nat.le_of_ble_eq_true rfl⟩
set_option maxRecDepth 20000 in
theorem ok_mq_Model_at : mj_okM mq_Model_at := ⟨mj_tn (p := 1046) rfl, mj_tn (p := 80) (by decide +kernel), by decide +kernel, ⟨by decide +kernel, by decide +kernel⟩, by decide +kernel, by decide +kernel, Nat.le_of_ble_eq_true rfl, Nat.le_of_ble_eq_true rfl⟩
set_option maxRecDepth 20000 in
theorem ok_mq_Model_length : mj_okM mq_Model_length := ⟨mj_tn (p := 1055) rfl, mj_tn (p := 80) (by decide +kernel), by decide +kernel, ⟨by decide +kernel, by decide +kernel⟩, by decide +kernel, by decide +kernel, Nat.le_of_ble_eq_true rfl, Nat.le_of_ble_eq_true rfl⟩
set_option maxRecDepth 20000 in
theorem ok_mq_Model_same : mj_okM mq_Model_same := ⟨mj_tn (p := 1059) rfl, mj_tn (p := 80) (by decide +kernel), by decide +kernel, ⟨by decide +kernel, by decide +kernel⟩, by decide +kernel, by decide +kernel, Nat.le_of_ble_eq_true rfl, Nat.le_of_ble_eq_true rfl⟩
set_option maxRecDepth 20000 in
theorem ok_mq_Model_areSame : mj_okM mq_Model_areSame := ⟨mj_tn (p := 1063) rfl, mj_tn (p := 80) (by decide +kernel), by decide +kernel, ⟨by decide +kernel, by decide +kernel⟩, by decide +kernel, by decide +kernel, Nat.le_of_ble_eq_true rfl, Nat.le_of_ble_eq_true rfl⟩
set_option maxRecDepth 20000 in
theorem ok_mq_Model_copy : mj_okM mq_Model_copy := ⟨mj_tn (p := 1145) rfl, mj_tn (p := 80) (by decide +kernel), by decide +kernel, ⟨by decide +kernel, by decide +kernel⟩, by decide +kernel, by decide +kernel, Nat.le_of_ble_eq_true rfl, Nat.le_of_ble_eq_true rfl⟩
set_option maxRecDepth 20000 in
theorem ok_mq_Model_made : mj_okM mq_Model_made := ⟨mj_tn (p := 1106) rfl, mj_tn (p := 80) (by decide +kernel), by decide +kernel, ⟨by decide +kernel, by decide +kernel⟩, by decide +kernel, by decide +kernel, Nat.le_of_ble_eq_true rfl, Nat.le_of_ble_eq_true rfl⟩
set_option maxRecDepth 20000 in
theorem ok_mq_Model_meet : mj_okM mq_Model_meet := ⟨mj_tn (p := 1079) rfl, mj_tn (p := 80) (by decide +kernel), by decide +kernel, ⟨by decide +kernel, by decide +kernel⟩, by decide +kernel, by decide +kernel, Nat.le_of_ble_eq_true rfl, Nat.le_of_ble_eq_true rfl⟩
set_option maxRecDepth 20000 in
theorem ok_mq_Model_knows : mj_okM mq_Model_knows := ⟨mj_tn (p := 1091) rfl, mj_tn (p := 80) (by decide +kernel), by decide +kernel, ⟨by decide +kernel, by decide +kernel⟩, by decide +kernel, by decide +kernel, Nat.le_of_ble_eq_true rfl, Nat.le_of_ble_eq_true rfl⟩
set_option maxRecDepth 20000 in
theorem ok_mq_Model_as : mj_okM mq_Model_as := ⟨mj_tn (p := 1095) rfl, mj_tn (p := 80) (by decide +kernel), by decide +kernel, ⟨by decide +kernel, by decide +kernel⟩, by decide +kernel, by decide +kernel, Nat.le_of_ble_eq_true rfl, Nat.le_of_ble_eq_true rfl⟩
set_option maxRecDepth 20000 in
theorem ok_mq_Model_knowsBehind : mj_okM mq_Model_knowsBehind := ⟨mj_tn (p := 1103) rfl, mj_tn (p := 80) (by decide +kernel), by decide +kernel, ⟨by decide +kernel, by decide +kernel⟩, by decide +kernel, by decide +kernel, Nat.le_of_ble_eq_true rfl, Nat.le_of_ble_eq_true rfl⟩
set_option maxRecDepth 20000 in
theorem ok_mq_Model_makes : mj_okM mq_Model_makes := ⟨mj_tn (p := 1109) rfl, mj_tn (p := 80) (by decide +kernel), by decide +kernel, ⟨by decide +kernel, by decide +kernel⟩, by decide +kernel, by decide +kernel, Nat.le_of_ble_eq_true rfl, Nat.le_of_ble_eq_true rfl⟩
set_option maxRecDepth 20000 in
theorem ok_mq_Model_lead : mj_okM mq_Model_lead := ⟨mj_tn (p := 1099) rfl, mj_tn (p := 80) (by decide +kernel), by decide +kernel, ⟨by decide +kernel, by decide +kernel⟩, by decide +kernel, by decide +kernel, Nat.le_of_ble_eq_true rfl, Nat.le_of_ble_eq_true rfl⟩
set_option maxRecDepth 20000 in
theorem ok_mq_Model_stops : mj_okM mq_Model_stops := ⟨mj_tn (p := 1083) rfl, mj_tn (p := 80) (by decide +kernel), by decide +kernel, ⟨by decide +kernel, by decide +kernel⟩, by decide +kernel, by decide +kernel, Nat.le_of_ble_eq_true rfl, Nat.le_of_ble_eq_true rfl⟩
set_option maxRecDepth 20000 in
theorem ok_mq_Model_know : mj_okM mq_Model_know := ⟨mj_tn (p := 1075) rfl, mj_tn (p := 80) (by decide +kernel), by decide +kernel, ⟨by decide +kernel, by decide +kernel⟩, by decide +kernel, by decide +kernel, Nat.le_of_ble_eq_true rfl, Nat.le_of_ble_eq_true rfl⟩
set_option maxRecDepth 20000 in
theorem ok_mq_Model_asks : mj_okM mq_Model_asks := ⟨mj_tn (p := 1129) rfl, mj_tn (p := 80) (by decide +kernel), by decide +kernel, ⟨by decide +kernel, by decide +kernel⟩, by decide +kernel, by decide +kernel, Nat.le_of_ble_eq_true rfl, Nat.le_of_ble_eq_true rfl⟩
set_option maxRecDepth 20000 in
theorem ok_mq_Model_livens : mj_okM mq_Model_livens := ⟨mj_tn (p := 1126) rfl, mj_tn (p := 80) (by decide +kernel), by decide +kernel, ⟨by decide +kernel, by decide +kernel⟩, by decide +kernel, by decide +kernel, Nat.le_of_ble_eq_true rfl, Nat.le_of_ble_eq_true rfl⟩
set_option maxRecDepth 20000 in
theorem ok_mq_Model_isPlace : mj_okM mq_Model_isPlace := ⟨mj_tn (p := 1071) rfl, mj_tn (p := 80) (by decide +kernel), by decide +kernel, ⟨by decide +kernel, by decide +kernel⟩, by decide +kernel, by decide +kernel, Nat.le_of_ble_eq_true rfl, Nat.le_of_ble_eq_true rfl⟩
set_option maxRecDepth 20000 in
theorem ok_mq_Model_known : mj_okM mq_Model_known := ⟨mj_tn (p := 1067) rfl, mj_tn (p := 80) (by decide +kernel), by decide +kernel, ⟨by decide +kernel, by decide +kernel⟩, by decide +kernel, by decide +kernel, Nat.le_of_ble_eq_true rfl, Nat.le_of_ble_eq_true rfl⟩
set_option maxRecDepth 20000 in
theorem ok_mq_Model_value : mj_okM mq_Model_value := ⟨mj_tn (p := 1117) rfl, mj_tn (p := 80) (by decide +kernel), by decide +kernel, ⟨by decide +kernel, by decide +kernel⟩, by decide +kernel, by decide +kernel, Nat.le_of_ble_eq_true rfl, Nat.le_of_ble_eq_true rfl⟩
set_option maxRecDepth 20000 in
theorem ok_mq_Model_live : mj_okM mq_Model_live := ⟨mj_tn (p := 1122) rfl, mj_tn (p := 80) (by decide +kernel), by decide +kernel, ⟨by decide +kernel, by decide +kernel⟩, by decide +kernel, by decide +kernel, Nat.le_of_ble_eq_true rfl, Nat.le_of_ble_eq_true rfl⟩
set_option maxRecDepth 20000 in
theorem ok_mq_Model_add : mj_okM mq_Model_add := ⟨mj_tn (p := 1149) rfl, mj_tn (p := 80) (by decide +kernel), by decide +kernel, ⟨by decide +kernel, by decide +kernel⟩, by decide +kernel, by decide +kernel, Nat.le_of_ble_eq_true rfl, Nat.le_of_ble_eq_true rfl⟩
set_option maxRecDepth 20000 in
theorem ok_mq_Model_fold : mj_okM mq_Model_fold := ⟨mj_tn (p := 1141) rfl, mj_tn (p := 80) (by decide +kernel), by decide +kernel, ⟨by decide +kernel, by decide +kernel⟩, by decide +kernel, by decide +kernel, Nat.le_of_ble_eq_true rfl, Nat.le_of_ble_eq_true rfl⟩
set_option maxRecDepth 20000 in
theorem ok_mq_Model_drop : mj_okM mq_Model_drop := ⟨mj_tn (p := 1153) rfl, mj_tn (p := 80) (by decide +kernel), by decide +kernel, ⟨by decide +kernel, by decide +kernel⟩, by decide +kernel, by decide +kernel, Nat.le_of_ble_eq_true rfl, Nat.le_of_ble_eq_true rfl⟩
set_option maxRecDepth 20000 in
theorem ok_mq_Model_leads : mj_okM mq_Model_leads := ⟨mj_tn (p := 1161) rfl, mj_tn (p := 80) (by decide +kernel), by decide +kernel, ⟨by decide +kernel, by decide +kernel⟩, by decide +kernel, by decide +kernel, Nat.le_of_ble_eq_true rfl, Nat.le_of_ble_eq_true rfl⟩
set_option maxRecDepth 20000 in
theorem ok_mq_Model_thread : mj_okM mq_Model_thread := ⟨mj_tn (p := 1157) rfl, mj_tn (p := 80) (by decide +kernel), by decide +kernel, ⟨by decide +kernel, by decide +kernel⟩, by decide +kernel, by decide +kernel, Nat.le_of_ble_eq_true rfl, Nat.le_of_ble_eq_true rfl⟩
set_option maxRecDepth 20000 in
theorem ok_mq_Model_packed : mj_okM mq_Model_packed := ⟨mj_tn (p := 1169) rfl, mj_tn (p := 80) (by decide +kernel), by decide +kernel, ⟨by decide +kernel, by decide +kernel⟩, by decide +kernel, by decide +kernel, Nat.le_of_ble_eq_true rfl, Nat.le_of_ble_eq_true rfl⟩
set_option maxRecDepth 20000 in
theorem ok_mq_Model_pack : mj_okM mq_Model_pack := ⟨mj_tn (p := 1165) rfl, mj_tn (p := 80) (by decide +kernel), by decide +kernel, ⟨by decide +kernel, by decide +kernel⟩, by decide +kernel, by decide +kernel, Nat.le_of_ble_eq_true rfl, Nat.le_of_ble_eq_true rfl⟩
set_option maxRecDepth 20000 in
theorem ok_mq_Model_does : mj_okM mq_Model_does := ⟨mj_tn (p := 1137) rfl, mj_tn (p := 80) (by decide +kernel), by decide +kernel, ⟨by decide +kernel, by decide +kernel⟩, by decide +kernel, by decide +kernel, Nat.le_of_ble_eq_true rfl, Nat.le_of_ble_eq_true rfl⟩
set_option maxRecDepth 20000 in
theorem ok_mq_Model_pass : mj_okM mq_Model_pass := ⟨mj_tn (p := 1133) rfl, mj_tn (p := 80) (by decide +kernel), by decide +kernel, ⟨by decide +kernel, by decide +kernel⟩, by decide +kernel, by decide +kernel, Nat.le_of_ble_eq_true rfl, Nat.le_of_ble_eq_true rfl⟩
set_option maxRecDepth 20000 in
theorem ok_mq_Model_best : mj_okM mq_Model_best := ⟨mj_tn (p := 1173) rfl, mj_tn (p := 80) (by decide +kernel), by decide +kernel, ⟨by decide +kernel, by decide +kernel⟩, by decide +kernel, by decide +kernel, Nat.le_of_ble_eq_true rfl, Nat.le_of_ble_eq_true rfl⟩
set_option maxRecDepth 20000 in
theorem ok_mq_Model_feed : mj_okM mq_Model_feed := ⟨mj_tn (p := 1177) rfl, mj_tn (p := 80) (by decide +kernel), by decide +kernel, ⟨by decide +kernel, by decide +kernel⟩, by decide +kernel, by decide +kernel, Nat.le_of_ble_eq_true rfl, Nat.le_of_ble_eq_true rfl⟩
set_option maxRecDepth 20000 in
theorem ok_mq_Model_dry : mj_okM mq_Model_dry := ⟨mj_tn (p := 1181) rfl, mj_tn (p := 80) (by decide +kernel), by decide +kernel, ⟨by decide +kernel, by decide +kernel⟩, by decide +kernel, by decide +kernel, Nat.le_of_ble_eq_true rfl, Nat.le_of_ble_eq_true rfl⟩
set_option maxRecDepth 20000 in
theorem ok_mq_Model_run : mj_okM mq_Model_run := ⟨mj_tn (p := 1185) rfl, mj_tn (p := 80) (by decide +kernel), by decide +kernel, ⟨by decide +kernel, by decide +kernel⟩, by decide +kernel, by decide +kernel, Nat.le_of_ble_eq_true rfl, Nat.le_of_ble_eq_true rfl⟩
set_option maxRecDepth 20000 in
theorem ok_mq_Model_outs : mj_okM mq_Model_outs := ⟨mj_tn (p := 1190) rfl, mj_tn (p := 80) (by decide +kernel), by decide +kernel, ⟨by decide +kernel, by decide +kernel⟩, by decide +kernel, by decide +kernel, Nat.le_of_ble_eq_true rfl, Nat.le_of_ble_eq_true rfl⟩
set_option maxRecDepth 20000 in
theorem ok_mq_Model_out : mj_okM mq_Model_out := ⟨mj_tn (p := 1194) rfl, mj_tn (p := 80) (by decide +kernel), by decide +kernel, ⟨by decide +kernel, by decide +kernel⟩, by decide +kernel, by decide +kernel, Nat.le_of_ble_eq_true rfl, Nat.le_of_ble_eq_true rfl⟩
set_option maxRecDepth 20000 in
theorem ok_mq_Model_ran : mj_okM mq_Model_ran := ⟨mj_tn (p := 1198) rfl, mj_tn (p := 80) (by decide +kernel), by decide +kernel, ⟨by decide +kernel, by decide +kernel⟩, by decide +kernel, by decide +kernel, Nat.le_of_ble_eq_true rfl, Nat.le_of_ble_eq_true rfl⟩
set_option maxRecDepth 20000 in
theorem ok_mq_Model_register : mj_okM mq_Model_register := ⟨mj_tn (p := 1202) rfl, mj_tn (p := 80) (by decide +kernel), by decide +kernel, ⟨by decide +kernel, by decide +kernel⟩, by decide +kernel, by decide +kernel, Nat.le_of_ble_eq_true rfl, Nat.le_of_ble_eq_true rfl⟩
set_option maxRecDepth 20000 in
theorem ok_mq_Model_clear : mj_okM mq_Model_clear := ⟨mj_tn (p := 1206) rfl, mj_tn (p := 80) (by decide +kernel), by decide +kernel, ⟨by decide +kernel, by decide +kernel⟩, by decide +kernel, by decide +kernel, Nat.le_of_ble_eq_true rfl, Nat.le_of_ble_eq_true rfl⟩
set_option maxRecDepth 20000 in
theorem ok_mq_Model_pair : mj_okM mq_Model_pair := ⟨mj_tn (p := 1210) rfl, mj_tn (p := 80) (by decide +kernel), by decide +kernel, ⟨by decide +kernel, by decide +kernel⟩, by decide +kernel, by decide +kernel, Nat.le_of_ble_eq_true rfl, Nat.le_of_ble_eq_true rfl⟩
set_option maxRecDepth 20000 in
theorem ok_mq_Model_claim : mj_okM mq_Model_claim := ⟨mj_tn (p := 1214) rfl, mj_tn (p := 80) (by decide +kernel), by decide +kernel, ⟨by decide +kernel, by decide +kernel⟩, by decide +kernel, by decide +kernel, Nat.le_of_ble_eq_true rfl, Nat.le_of_ble_eq_true rfl⟩
set_option maxRecDepth 20000 in
theorem ok_mq_Model_of : mj_okM mq_Model_of := ⟨mj_tn (p := 1218) rfl, mj_tn (p := 80) (by decide +kernel), by decide +kernel, ⟨by decide +kernel, by decide +kernel⟩, by decide +kernel, by decide +kernel, Nat.le_of_ble_eq_true rfl, Nat.le_of_ble_eq_true rfl⟩
set_option maxRecDepth 20000 in
theorem ok_mq_Model_number : mj_okM mq_Model_number := ⟨mj_tn (p := 1222) rfl, mj_tn (p := 80) (by decide +kernel), by decide +kernel, ⟨by decide +kernel, by decide +kernel⟩, by decide +kernel, by decide +kernel, Nat.le_of_ble_eq_true rfl, Nat.le_of_ble_eq_true rfl⟩
set_option maxRecDepth 20000 in
theorem ok_mq_Model_find : mj_okM mq_Model_find := ⟨mj_tn (p := 1230) rfl, mj_tn (p := 80) (by decide +kernel), by decide +kernel, ⟨by decide +kernel, by decide +kernel⟩, by decide +kernel, by decide +kernel, Nat.le_of_ble_eq_true rfl, Nat.le_of_ble_eq_true rfl⟩
set_option maxRecDepth 20000 in
theorem ok_mq_Model_isNumber : mj_okM mq_Model_isNumber := ⟨mj_tn (p := 1234) rfl, mj_tn (p := 80) (by decide +kernel), by decide +kernel, ⟨by decide +kernel, by decide +kernel⟩, by decide +kernel, by decide +kernel, Nat.le_of_ble_eq_true rfl, Nat.le_of_ble_eq_true rfl⟩
set_option maxRecDepth 20000 in
theorem ok_mq_Model_number0 : mj_okM mq_Model_number0 := ⟨mj_tn (p := 1238) rfl, mj_tn (p := 80) (by decide +kernel), by decide +kernel, ⟨by decide +kernel, by decide +kernel⟩, by decide +kernel, by decide +kernel, Nat.le_of_ble_eq_true rfl, Nat.le_of_ble_eq_true rfl⟩
set_option maxRecDepth 20000 in
theorem ok_mq_Model_areAlike : mj_okM mq_Model_areAlike := ⟨mj_tn (p := 1270) rfl, mj_tn (p := 80) (by decide +kernel), by decide +kernel, ⟨by decide +kernel, by decide +kernel⟩, by decide +kernel, by decide +kernel, Nat.le_of_ble_eq_true rfl, Nat.le_of_ble_eq_true rfl⟩
set_option maxRecDepth 20000 in
theorem ok_mq_Model_isQuiet : mj_okM mq_Model_isQuiet := ⟨mj_tn (p := 1246) rfl, mj_tn (p := 80) (by decide +kernel), by decide +kernel, ⟨by decide +kernel, by decide +kernel⟩, by decide +kernel, by decide +kernel, Nat.le_of_ble_eq_true rfl, Nat.le_of_ble_eq_true rfl⟩
set_option maxRecDepth 20000 in
theorem ok_mq_Model_goesTo : mj_okM mq_Model_goesTo := ⟨mj_tn (p := 1250) rfl, mj_tn (p := 80) (by decide +kernel), by decide +kernel, ⟨by decide +kernel, by decide +kernel⟩, by decide +kernel, by decide +kernel, Nat.le_of_ble_eq_true rfl, Nat.le_of_ble_eq_true rfl⟩
set_option maxRecDepth 20000 in
theorem ok_mq_Model_look : mj_okM mq_Model_look := ⟨mj_tn (p := 1262) rfl, mj_tn (p := 80) (by decide +kernel), by decide +kernel, ⟨by decide +kernel, by decide +kernel⟩, by decide +kernel, by decide +kernel, Nat.le_of_ble_eq_true rfl, Nat.le_of_ble_eq_true rfl⟩
set_option maxRecDepth 20000 in
theorem ok_mq_Model_isSame : mj_okM mq_Model_isSame := ⟨mj_tn (p := 1266) rfl, mj_tn (p := 80) (by decide +kernel), by decide +kernel, ⟨by decide +kernel, by decide +kernel⟩, by decide +kernel, by decide +kernel, Nat.le_of_ble_eq_true rfl, Nat.le_of_ble_eq_true rfl⟩
set_option maxRecDepth 20000 in
theorem ok_mq_Model_follow : mj_okM mq_Model_follow := ⟨mj_tn (p := 1258) rfl, mj_tn (p := 80) (by decide +kernel), by decide +kernel, ⟨by decide +kernel, by decide +kernel⟩, by decide +kernel, by decide +kernel, Nat.le_of_ble_eq_true rfl, Nat.le_of_ble_eq_true rfl⟩
set_option maxRecDepth 20000 in
theorem ok_mq_Model_wants : mj_okM mq_Model_wants := ⟨mj_tn (p := 1254) rfl, mj_tn (p := 80) (by decide +kernel), by decide +kernel, ⟨by decide +kernel, by decide +kernel⟩, by decide +kernel, by decide +kernel, Nat.le_of_ble_eq_true rfl, Nat.le_of_ble_eq_true rfl⟩
set_option maxRecDepth 20000 in
theorem ok_mq_Model_judged : mj_okM mq_Model_judged := ⟨mj_tn (p := 1242) rfl, mj_tn (p := 80) (by decide +kernel), by decide +kernel, ⟨by decide +kernel, by decide +kernel⟩, by decide +kernel, by decide +kernel, Nat.le_of_ble_eq_true rfl, Nat.le_of_ble_eq_true rfl⟩
set_option maxRecDepth 20000 in
theorem ok_mq_Model_judge : mj_okM mq_Model_judge := ⟨mj_tn (p := 1226) rfl, mj_tn (p := 80) (by decide +kernel), by decide +kernel, ⟨by decide +kernel, by decide +kernel⟩, by decide +kernel, by decide +kernel, Nat.le_of_ble_eq_true rfl, Nat.le_of_ble_eq_true rfl⟩
set_option maxRecDepth 20000 in
theorem ok_mq_Model_where : mj_okM mq_Model_where := ⟨mj_tn (p := 1274) rfl, mj_tn (p := 80) (by decide +kernel), by decide +kernel, ⟨by decide +kernel, by decide +kernel⟩, by decide +kernel, by decide +kernel, Nat.le_of_ble_eq_true rfl, Nat.le_of_ble_eq_true rfl⟩
set_option maxRecDepth 20000 in
theorem ok_mq_Model_count : mj_okM mq_Model_count := ⟨mj_tn (p := 1278) rfl, mj_tn (p := 80) (by decide +kernel), by decide +kernel, ⟨by decide +kernel, by decide +kernel⟩, by decide +kernel, by decide +kernel, Nat.le_of_ble_eq_true rfl, Nat.le_of_ble_eq_true rfl⟩
set_option maxRecDepth 20000 in
theorem ok_mq_Code_isRegister : mj_okM mq_Code_isRegister := ⟨mj_tn (p := 408) rfl, mj_tn (p := 81) (by decide +kernel), by decide +kernel, ⟨by decide +kernel, by decide +kernel⟩, by decide +kernel, by decide +kernel, Nat.le_of_ble_eq_true rfl, Nat.le_of_ble_eq_true rfl⟩
set_option maxRecDepth 20000 in
theorem ok_mq_Code_isPlace : mj_okM mq_Code_isPlace := ⟨mj_tn (p := 411) rfl, mj_tn (p := 81) (by decide +kernel), by decide +kernel, ⟨by decide +kernel, by decide +kernel⟩, by decide +kernel, by decide +kernel, Nat.le_of_ble_eq_true rfl, Nat.le_of_ble_eq_true rfl⟩
set_option maxRecDepth 20000 in
theorem ok_mq_Code_isAct : mj_okM mq_Code_isAct := ⟨mj_tn (p := 405) rfl, mj_tn (p := 81) (by decide +kernel), by decide +kernel, ⟨by decide +kernel, by decide +kernel⟩, by decide +kernel, by decide +kernel, Nat.le_of_ble_eq_true rfl, Nat.le_of_ble_eq_true rfl⟩
set_option maxRecDepth 20000 in
theorem ok_mq_Code_isReckoning : mj_okM mq_Code_isReckoning := ⟨mj_tn (p := 414) rfl, mj_tn (p := 81) (by decide +kernel), by decide +kernel, ⟨by decide +kernel, by decide +kernel⟩, by decide +kernel, by decide +kernel, Nat.le_of_ble_eq_true rfl, Nat.le_of_ble_eq_true rfl⟩
set_option maxRecDepth 20000 in
theorem ok_mq_Code_isDivision : mj_okM mq_Code_isDivision := ⟨mj_tn (p := 458) rfl, mj_tn (p := 81) (by decide +kernel), by decide +kernel, ⟨by decide +kernel, by decide +kernel⟩, by decide +kernel, by decide +kernel, Nat.le_of_ble_eq_true rfl, Nat.le_of_ble_eq_true rfl⟩
set_option maxRecDepth 20000 in
theorem ok_mq_Code_makesX : mj_okM mq_Code_makesX := ⟨mj_tn (p := 477) rfl, mj_tn (p := 81) (by decide +kernel), by decide +kernel, ⟨by decide +kernel, by decide +kernel⟩, by decide +kernel, by decide +kernel, Nat.le_of_ble_eq_true rfl, Nat.le_of_ble_eq_true rfl⟩
set_option maxRecDepth 20000 in
theorem ok_mq_Code_goesToNext : mj_okM mq_Code_goesToNext := ⟨mj_tn (p := 492) rfl, mj_tn (p := 81) (by decide +kernel), by decide +kernel, ⟨by decide +kernel, by decide +kernel⟩, by decide +kernel, by decide +kernel, Nat.le_of_ble_eq_true rfl, Nat.le_of_ble_eq_true rfl⟩
set_option maxRecDepth 20000 in
theorem ok_mq_Code_goesToY : mj_okM mq_Code_goesToY := ⟨mj_tn (p := 499) rfl, mj_tn (p := 81) (by decide +kernel), by decide +kernel, ⟨by decide +kernel, by decide +kernel⟩, by decide +kernel, by decide +kernel, Nat.le_of_ble_eq_true rfl, Nat.le_of_ble_eq_true rfl⟩
set_option maxRecDepth 20000 in
theorem ok_mq_Code_reckon : mj_okM mq_Code_reckon := ⟨mj_tn (p := 489) rfl, mj_tn (p := 81) (by decide +kernel), by decide +kernel, ⟨by decide +kernel, by decide +kernel⟩, by decide +kernel, by decide +kernel, Nat.le_of_ble_eq_true rfl, Nat.le_of_ble_eq_true rfl⟩
set_option maxRecDepth 20000 in
theorem ok_mq_Judge_init : mj_okM mq_Judge_init := ⟨mj_tn (p := 307) rfl, mj_tn (p := 78) (by decide +kernel), by decide +kernel, ⟨by decide +kernel, by decide +kernel⟩, by decide +kernel, by decide +kernel, Nat.le_of_ble_eq_true rfl, Nat.le_of_ble_eq_true rfl⟩
set_option maxRecDepth 20000 in
theorem ok_mq_Judge_hear : mj_okM mq_Judge_hear := ⟨mj_tn (p := 769) rfl, mj_tn (p := 78) (by decide +kernel), by decide +kernel, ⟨by decide +kernel, by decide +kernel⟩, by decide +kernel, by decide +kernel, Nat.le_of_ble_eq_true rfl, Nat.le_of_ble_eq_true rfl⟩
set_option maxRecDepth 20000 in
theorem ok_mq_Judge_listPairs : mj_okM mq_Judge_listPairs := ⟨mj_tn (p := 777) rfl, mj_tn (p := 78) (by decide +kernel), by decide +kernel, ⟨by decide +kernel, by decide +kernel⟩, by decide +kernel, by decide +kernel, Nat.le_of_ble_eq_true rfl, Nat.le_of_ble_eq_true rfl⟩
set_option maxRecDepth 20000 in
theorem ok_mq_Judge_spot : mj_okM mq_Judge_spot := ⟨mj_tn (p := 785) rfl, mj_tn (p := 78) (by decide +kernel), by decide +kernel, ⟨by decide +kernel, by decide +kernel⟩, by decide +kernel, by decide +kernel, Nat.le_of_ble_eq_true rfl, Nat.le_of_ble_eq_true rfl⟩
set_option maxRecDepth 20000 in
theorem ok_mq_Judge_isSoAtFirst : mj_okM mq_Judge_isSoAtFirst := ⟨mj_tn (p := 789) rfl, mj_tn (p := 78) (by decide +kernel), by decide +kernel, ⟨by decide +kernel, by decide +kernel⟩, by decide +kernel, by decide +kernel, Nat.le_of_ble_eq_true rfl, Nat.le_of_ble_eq_true rfl⟩
set_option maxRecDepth 20000 in
theorem ok_mq_Judge_lookAt : mj_okM mq_Judge_lookAt := ⟨mj_tn (p := 794) rfl, mj_tn (p := 78) (by decide +kernel), by decide +kernel, ⟨by decide +kernel, by decide +kernel⟩, by decide +kernel, by decide +kernel, Nat.le_of_ble_eq_true rfl, Nat.le_of_ble_eq_true rfl⟩
set_option maxRecDepth 20000 in
theorem ok_mq_Judge_lookAtOne : mj_okM mq_Judge_lookAtOne := ⟨mj_tn (p := 805) rfl, mj_tn (p := 78) (by decide +kernel), by decide +kernel, ⟨by decide +kernel, by decide +kernel⟩, by decide +kernel, by decide +kernel, Nat.le_of_ble_eq_true rfl, Nat.le_of_ble_eq_true rfl⟩
set_option maxRecDepth 20000 in
theorem ok_mq_Judge_lookAtQuiet : mj_okM mq_Judge_lookAtQuiet := ⟨mj_tn (p := 872) rfl, mj_tn (p := 78) (by decide +kernel), by decide +kernel, ⟨by decide +kernel, by decide +kernel⟩, by decide +kernel, by decide +kernel, Nat.le_of_ble_eq_true rfl, Nat.le_of_ble_eq_true rfl⟩
set_option maxRecDepth 20000 in
theorem ok_mq_Judge_lookAtLoud : mj_okM mq_Judge_lookAtLoud := ⟨mj_tn (p := 876) rfl, mj_tn (p := 78) (by decide +kernel), by decide +kernel, ⟨by decide +kernel, by decide +kernel⟩, by decide +kernel, by decide +kernel, Nat.le_of_ble_eq_true rfl, Nat.le_of_ble_eq_true rfl⟩
set_option maxRecDepth 20000 in
theorem ok_mq_Judge_isLoudKind : mj_okM mq_Judge_isLoudKind := ⟨mj_tn (p := 880) rfl, mj_tn (p := 78) (by decide +kernel), by decide +kernel, ⟨by decide +kernel, by decide +kernel⟩, by decide +kernel, by decide +kernel, Nat.le_of_ble_eq_true rfl, Nat.le_of_ble_eq_true rfl⟩
set_option maxRecDepth 20000 in
theorem ok_mq_Judge_asksSame : mj_okM mq_Judge_asksSame := ⟨mj_tn (p := 885) rfl, mj_tn (p := 78) (by decide +kernel), by decide +kernel, ⟨by decide +kernel, by decide +kernel⟩, by decide +kernel, by decide +kernel, Nat.le_of_ble_eq_true rfl, Nat.le_of_ble_eq_true rfl⟩
set_option maxRecDepth 20000 in
theorem ok_mq_Judge_goOn : mj_okM mq_Judge_goOn := ⟨mj_tn (p := 857) rfl, mj_tn (p := 78) (by decide +kernel), by decide +kernel, ⟨by decide +kernel, by decide +kernel⟩, by decide +kernel, by decide +kernel, Nat.le_of_ble_eq_true rfl, Nat.le_of_ble_eq_true rfl⟩
set_option maxRecDepth 20000 in
theorem ok_mq_Judge_follows : mj_okM mq_Judge_follows := ⟨mj_tn (p := 861) rfl, mj_tn (p := 78) (by decide +kernel), by decide +kernel, ⟨by decide +kernel, by decide +kernel⟩, by decide +kernel, by decide +kernel, Nat.le_of_ble_eq_true rfl, Nat.le_of_ble_eq_true rfl⟩
set_option maxRecDepth 20000 in
theorem ok_mq_Knowledge_init : mj_okM mq_Knowledge_init := ⟨mj_tn (p := 150) rfl, mj_tn (p := 72) (by decide +kernel), by decide +kernel, ⟨by decide +kernel, by decide +kernel⟩, by decide +kernel, by decide +kernel, Nat.le_of_ble_eq_true rfl, Nat.le_of_ble_eq_true rfl⟩
set_option maxRecDepth 20000 in
theorem ok_mq_Knowledge_isKnown : mj_okM mq_Knowledge_isKnown := ⟨mj_tn (p := 466) rfl, mj_tn (p := 72) (by decide +kernel), by decide +kernel, ⟨by decide +kernel, by decide +kernel⟩, by decide +kernel, by decide +kernel, Nat.le_of_ble_eq_true rfl, Nat.le_of_ble_eq_true rfl⟩
set_option maxRecDepth 20000 in
theorem ok_mq_Knowledge_numberIn : mj_okM mq_Knowledge_numberIn := ⟨mj_tn (p := 470) rfl, mj_tn (p := 72) (by decide +kernel), by decide +kernel, ⟨by decide +kernel, by decide +kernel⟩, by decide +kernel, by decide +kernel, Nat.le_of_ble_eq_true rfl, Nat.le_of_ble_eq_true rfl⟩
set_option maxRecDepth 20000 in
theorem ok_mq_Knowledge_isKnownAsZero : mj_okM mq_Knowledge_isKnownAsZero := ⟨mj_tn (p := 462) rfl, mj_tn (p := 72) (by decide +kernel), by decide +kernel, ⟨by decide +kernel, by decide +kernel⟩, by decide +kernel, by decide +kernel, Nat.le_of_ble_eq_true rfl, Nat.le_of_ble_eq_true rfl⟩
set_option maxRecDepth 20000 in
theorem ok_mq_Knowledge_study : mj_okM mq_Knowledge_study := ⟨mj_tn (p := 443) rfl, mj_tn (p := 72) (by decide +kernel), by decide +kernel, ⟨by decide +kernel, by decide +kernel⟩, by decide +kernel, by decide +kernel, Nat.le_of_ble_eq_true rfl, Nat.le_of_ble_eq_true rfl⟩
set_option maxRecDepth 20000 in
theorem ok_mq_Knowledge_begin : mj_okM mq_Knowledge_begin := ⟨mj_tn (p := 447) rfl, mj_tn (p := 72) (by decide +kernel), by decide +kernel, ⟨by decide +kernel, by decide +kernel⟩, by decide +kernel, by decide +kernel, Nat.le_of_ble_eq_true rfl, Nat.le_of_ble_eq_true rfl⟩
set_option maxRecDepth 20000 in
theorem ok_mq_Knowledge_goOn : mj_okM mq_Knowledge_goOn := ⟨mj_tn (p := 451) rfl, mj_tn (p := 72) (by decide +kernel), by decide +kernel, ⟨by decide +kernel, by decide +kernel⟩, by decide +kernel, by decide +kernel, Nat.le_of_ble_eq_true rfl, Nat.le_of_ble_eq_true rfl⟩
set_option maxRecDepth 20000 in
theorem ok_mq_Knowledge_stopsSurely : mj_okM mq_Knowledge_stopsSurely := ⟨mj_tn (p := 455) rfl, mj_tn (p := 72) (by decide +kernel), by decide +kernel, ⟨by decide +kernel, by decide +kernel⟩, by decide +kernel, by decide +kernel, Nat.le_of_ble_eq_true rfl, Nat.le_of_ble_eq_true rfl⟩
set_option maxRecDepth 20000 in
theorem ok_mq_Knowledge_keepAhead : mj_okM mq_Knowledge_keepAhead := ⟨mj_tn (p := 474) rfl, mj_tn (p := 72) (by decide +kernel), by decide +kernel, ⟨by decide +kernel, by decide +kernel⟩, by decide +kernel, by decide +kernel, Nat.le_of_ble_eq_true rfl, Nat.le_of_ble_eq_true rfl⟩
set_option maxRecDepth 20000 in
theorem ok_mq_Knowledge_knowsResult : mj_okM mq_Knowledge_knowsResult := ⟨mj_tn (p := 481) rfl, mj_tn (p := 72) (by decide +kernel), by decide +kernel, ⟨by decide +kernel, by decide +kernel⟩, by decide +kernel, by decide +kernel, Nat.le_of_ble_eq_true rfl, Nat.le_of_ble_eq_true rfl⟩
set_option maxRecDepth 20000 in
theorem ok_mq_Knowledge_resultOf : mj_okM mq_Knowledge_resultOf := ⟨mj_tn (p := 486) rfl, mj_tn (p := 72) (by decide +kernel), by decide +kernel, ⟨by decide +kernel, by decide +kernel⟩, by decide +kernel, by decide +kernel, Nat.le_of_ble_eq_true rfl, Nat.le_of_ble_eq_true rfl⟩
set_option maxRecDepth 20000 in
theorem ok_mq_Knowledge_arrive : mj_okM mq_Knowledge_arrive := ⟨mj_tn (p := 496) rfl, mj_tn (p := 72) (by decide +kernel), by decide +kernel, ⟨by decide +kernel, by decide +kernel⟩, by decide +kernel, by decide +kernel, Nat.le_of_ble_eq_true rfl, Nat.le_of_ble_eq_true rfl⟩
set_option maxRecDepth 20000 in
theorem ok_mq_Leads_init : mj_okM mq_Leads_init := ⟨mj_tn (p := 198) rfl, mj_tn (p := 75) (by decide +kernel), by decide +kernel, ⟨by decide +kernel, by decide +kernel⟩, by decide +kernel, by decide +kernel, Nat.le_of_ble_eq_true rfl, Nat.le_of_ble_eq_true rfl⟩
set_option maxRecDepth 20000 in
theorem ok_mq_Leads_study : mj_okM mq_Leads_study := ⟨mj_tn (p := 527) rfl, mj_tn (p := 75) (by decide +kernel), by decide +kernel, ⟨by decide +kernel, by decide +kernel⟩, by decide +kernel, by decide +kernel, Nat.le_of_ble_eq_true rfl, Nat.le_of_ble_eq_true rfl⟩
set_option maxRecDepth 20000 in
theorem ok_mq_Leads_follow : mj_okM mq_Leads_follow := ⟨mj_tn (p := 531) rfl, mj_tn (p := 75) (by decide +kernel), by decide +kernel, ⟨by decide +kernel, by decide +kernel⟩, by decide +kernel, by decide +kernel, Nat.le_of_ble_eq_true rfl, Nat.le_of_ble_eq_true rfl⟩
set_option maxRecDepth 20000 in
theorem ok_mq_Leads_leadsOn : mj_okM mq_Leads_leadsOn := ⟨mj_tn (p := 534) rfl, mj_tn (p := 75) (by decide +kernel), by decide +kernel, ⟨by decide +kernel, by decide +kernel⟩, by decide +kernel, by decide +kernel, Nat.le_of_ble_eq_true rfl, Nat.le_of_ble_eq_true rfl⟩
set_option maxRecDepth 20000 in
theorem ok_mq_Liveness_init : mj_okM mq_Liveness_init := ⟨mj_tn (p := 182) rfl, mj_tn (p := 73) (by decide +kernel), by decide +kernel, ⟨by decide +kernel, by decide +kernel⟩, by decide +kernel, by decide +kernel, Nat.le_of_ble_eq_true rfl, Nat.le_of_ble_eq_true rfl⟩
set_option maxRecDepth 20000 in
theorem ok_mq_Liveness_isLive : mj_okM mq_Liveness_isLive := ⟨mj_tn (p := 572) rfl, mj_tn (p := 73) (by decide +kernel), by decide +kernel, ⟨by decide +kernel, by decide +kernel⟩, by decide +kernel, by decide +kernel, Nat.le_of_ble_eq_true rfl, Nat.le_of_ble_eq_true rfl⟩
set_option maxRecDepth 20000 in
theorem ok_mq_Liveness_study : mj_okM mq_Liveness_study := ⟨mj_tn (p := 511) rfl, mj_tn (p := 73) (by decide +kernel), by decide +kernel, ⟨by decide +kernel, by decide +kernel⟩, by decide +kernel, by decide +kernel, Nat.le_of_ble_eq_true rfl, Nat.le_of_ble_eq_true rfl⟩
set_option maxRecDepth 20000 in
theorem ok_mq_Liveness_maskAhead : mj_okM mq_Liveness_maskAhead := ⟨mj_tn (p := 515) rfl, mj_tn (p := 73) (by decide +kernel), by decide +kernel, ⟨by decide +kernel, by decide +kernel⟩, by decide +kernel, by decide +kernel, Nat.le_of_ble_eq_true rfl, Nat.le_of_ble_eq_true rfl⟩
set_option maxRecDepth 20000 in
theorem ok_mq_Liveness_askedBy : mj_okM mq_Liveness_askedBy := ⟨mj_tn (p := 522) rfl, mj_tn (p := 73) (by decide +kernel), by decide +kernel, ⟨by decide +kernel, by decide +kernel⟩, by decide +kernel, by decide +kernel, Nat.le_of_ble_eq_true rfl, Nat.le_of_ble_eq_true rfl⟩
set_option maxRecDepth 20000 in
theorem ok_mq_Passes_init : mj_okM mq_Passes_init := ⟨mj_tn (p := 192) rfl, mj_tn (p := 74) (by decide +kernel), by decide +kernel, ⟨by decide +kernel, by decide +kernel⟩, by decide +kernel, by decide +kernel, Nat.le_of_ble_eq_true rfl, Nat.le_of_ble_eq_true rfl⟩
set_option maxRecDepth 20000 in
theorem ok_mq_Passes_study : mj_okM mq_Passes_study := ⟨mj_tn (p := 439) rfl, mj_tn (p := 74) (by decide +kernel), by decide +kernel, ⟨by decide +kernel, by decide +kernel⟩, by decide +kernel, by decide +kernel, Nat.le_of_ble_eq_true rfl, Nat.le_of_ble_eq_true rfl⟩
set_option maxRecDepth 20000 in
theorem ok_mq_Passes_make : mj_okM mq_Passes_make := ⟨mj_tn (p := 543) rfl, mj_tn (p := 74) (by decide +kernel), by decide +kernel, ⟨by decide +kernel, by decide +kernel⟩, by decide +kernel, by decide +kernel, Nat.le_of_ble_eq_true rfl, Nat.le_of_ble_eq_true rfl⟩
set_option maxRecDepth 20000 in
theorem ok_mq_Passes_testify : mj_okM mq_Passes_testify := ⟨mj_tn (p := 591) rfl, mj_tn (p := 74) (by decide +kernel), by decide +kernel, ⟨by decide +kernel, by decide +kernel⟩, by decide +kernel, by decide +kernel, Nat.le_of_ble_eq_true rfl, Nat.le_of_ble_eq_true rfl⟩
set_option maxRecDepth 20000 in
theorem ok_mq_Passes_improve : mj_okM mq_Passes_improve := ⟨mj_tn (p := 633) rfl, mj_tn (p := 74) (by decide +kernel), by decide +kernel, ⟨by decide +kernel, by decide +kernel⟩, by decide +kernel, by decide +kernel, Nat.le_of_ble_eq_true rfl, Nat.le_of_ble_eq_true rfl⟩
set_option maxRecDepth 20000 in
theorem ok_mq_Passes_fold : mj_okM mq_Passes_fold := ⟨mj_tn (p := 547) rfl, mj_tn (p := 74) (by decide +kernel), by decide +kernel, ⟨by decide +kernel, by decide +kernel⟩, by decide +kernel, by decide +kernel, Nat.le_of_ble_eq_true rfl, Nat.le_of_ble_eq_true rfl⟩
set_option maxRecDepth 20000 in
theorem ok_mq_Passes_foldAct : mj_okM mq_Passes_foldAct := ⟨mj_tn (p := 555) rfl, mj_tn (p := 74) (by decide +kernel), by decide +kernel, ⟨by decide +kernel, by decide +kernel⟩, by decide +kernel, by decide +kernel, Nat.le_of_ble_eq_true rfl, Nat.le_of_ble_eq_true rfl⟩
set_option maxRecDepth 20000 in
theorem ok_mq_Passes_testifyFold : mj_okM mq_Passes_testifyFold := ⟨mj_tn (p := 595) rfl, mj_tn (p := 74) (by decide +kernel), by decide +kernel, ⟨by decide +kernel, by decide +kernel⟩, by decide +kernel, by decide +kernel, Nat.le_of_ble_eq_true rfl, Nat.le_of_ble_eq_true rfl⟩
set_option maxRecDepth 20000 in
theorem ok_mq_Passes_drop : mj_okM mq_Passes_drop := ⟨mj_tn (p := 565) rfl, mj_tn (p := 74) (by decide +kernel), by decide +kernel, ⟨by decide +kernel, by decide +kernel⟩, by decide +kernel, by decide +kernel, Nat.le_of_ble_eq_true rfl, Nat.le_of_ble_eq_true rfl⟩
set_option maxRecDepth 20000 in
theorem ok_mq_Passes_isDroppable : mj_okM mq_Passes_isDroppable := ⟨mj_tn (p := 568) rfl, mj_tn (p := 74) (by decide +kernel), by decide +kernel, ⟨by decide +kernel, by decide +kernel⟩, by decide +kernel, by decide +kernel, Nat.le_of_ble_eq_true rfl, Nat.le_of_ble_eq_true rfl⟩
set_option maxRecDepth 20000 in
theorem ok_mq_Passes_testifyDrop : mj_okM mq_Passes_testifyDrop := ⟨mj_tn (p := 609) rfl, mj_tn (p := 74) (by decide +kernel), by decide +kernel, ⟨by decide +kernel, by decide +kernel⟩, by decide +kernel, by decide +kernel, Nat.le_of_ble_eq_true rfl, Nat.le_of_ble_eq_true rfl⟩
set_option maxRecDepth 20000 in
theorem ok_mq_Passes_thread : mj_okM mq_Passes_thread := ⟨mj_tn (p := 576) rfl, mj_tn (p := 74) (by decide +kernel), by decide +kernel, ⟨by decide +kernel, by decide +kernel⟩, by decide +kernel, by decide +kernel, Nat.le_of_ble_eq_true rfl, Nat.le_of_ble_eq_true rfl⟩
set_option maxRecDepth 20000 in
theorem ok_mq_Passes_testifyThread : mj_okM mq_Passes_testifyThread := ⟨mj_tn (p := 613) rfl, mj_tn (p := 74) (by decide +kernel), by decide +kernel, ⟨by decide +kernel, by decide +kernel⟩, by decide +kernel, by decide +kernel, Nat.le_of_ble_eq_true rfl, Nat.le_of_ble_eq_true rfl⟩
set_option maxRecDepth 20000 in
theorem ok_mq_Passes_countPasses : mj_okM mq_Passes_countPasses := ⟨mj_tn (p := 539) rfl, mj_tn (p := 74) (by decide +kernel), by decide +kernel, ⟨by decide +kernel, by decide +kernel⟩, by decide +kernel, by decide +kernel, Nat.le_of_ble_eq_true rfl, Nat.le_of_ble_eq_true rfl⟩
set_option maxRecDepth 20000 in
theorem ok_mq_Passes_packedPlace : mj_okM mq_Passes_packedPlace := ⟨mj_tn (p := 586) rfl, mj_tn (p := 74) (by decide +kernel), by decide +kernel, ⟨by decide +kernel, by decide +kernel⟩, by decide +kernel, by decide +kernel, Nat.le_of_ble_eq_true rfl, Nat.le_of_ble_eq_true rfl⟩
set_option maxRecDepth 20000 in
theorem ok_mq_Passes_pack : mj_okM mq_Passes_pack := ⟨mj_tn (p := 582) rfl, mj_tn (p := 74) (by decide +kernel), by decide +kernel, ⟨by decide +kernel, by decide +kernel⟩, by decide +kernel, by decide +kernel, Nat.le_of_ble_eq_true rfl, Nat.le_of_ble_eq_true rfl⟩
set_option maxRecDepth 20000 in
theorem ok_mq_Passes_testifyPack : mj_okM mq_Passes_testifyPack := ⟨mj_tn (p := 622) rfl, mj_tn (p := 74) (by decide +kernel), by decide +kernel, ⟨by decide +kernel, by decide +kernel⟩, by decide +kernel, by decide +kernel, Nat.le_of_ble_eq_true rfl, Nat.le_of_ble_eq_true rfl⟩
set_option maxRecDepth 20000 in
theorem ok_mq_Passes_passesInRow : mj_okM mq_Passes_passesInRow := ⟨mj_tn (p := 625) rfl, mj_tn (p := 74) (by decide +kernel), by decide +kernel, ⟨by decide +kernel, by decide +kernel⟩, by decide +kernel, by decide +kernel, Nat.le_of_ble_eq_true rfl, Nat.le_of_ble_eq_true rfl⟩
set_option maxRecDepth 20000 in
theorem ok_mq_Routine_init : mj_okM mq_Routine_init := ⟨mj_tn (p := 95) rfl, mj_tn (p := 71) (by decide +kernel), by decide +kernel, ⟨by decide +kernel, by decide +kernel⟩, by decide +kernel, by decide +kernel, Nat.le_of_ble_eq_true rfl, Nat.le_of_ble_eq_true rfl⟩
set_option maxRecDepth 20000 in
theorem ok_mq_Routine_hasPlace : mj_okM mq_Routine_hasPlace := ⟨mj_tn (p := 656) rfl, mj_tn (p := 71) (by decide +kernel), by decide +kernel, ⟨by decide +kernel, by decide +kernel⟩, by decide +kernel, by decide +kernel, Nat.le_of_ble_eq_true rfl, Nat.le_of_ble_eq_true rfl⟩
set_option maxRecDepth 20000 in
theorem ok_mq_Routine_placeFor : mj_okM mq_Routine_placeFor := ⟨mj_tn (p := 507) rfl, mj_tn (p := 71) (by decide +kernel), by decide +kernel, ⟨by decide +kernel, by decide +kernel⟩, by decide +kernel, by decide +kernel, Nat.le_of_ble_eq_true rfl, Nat.le_of_ble_eq_true rfl⟩
set_option maxRecDepth 20000 in
theorem ok_mq_Routine_target : mj_okM mq_Routine_target := ⟨mj_tn (p := 503) rfl, mj_tn (p := 71) (by decide +kernel), by decide +kernel, ⟨by decide +kernel, by decide +kernel⟩, by decide +kernel, by decide +kernel, Nat.le_of_ble_eq_true rfl, Nat.le_of_ble_eq_true rfl⟩
set_option maxRecDepth 20000 in
theorem ok_mq_Routine_append : mj_okM mq_Routine_append := ⟨mj_tn (p := 418) rfl, mj_tn (p := 71) (by decide +kernel), by decide +kernel, ⟨by decide +kernel, by decide +kernel⟩, by decide +kernel, by decide +kernel, Nat.le_of_ble_eq_true rfl, Nat.le_of_ble_eq_true rfl⟩
set_option maxRecDepth 20000 in
theorem ok_mq_Routine_put : mj_okM mq_Routine_put := ⟨mj_tn (p := 422) rfl, mj_tn (p := 71) (by decide +kernel), by decide +kernel, ⟨by decide +kernel, by decide +kernel⟩, by decide +kernel, by decide +kernel, Nat.le_of_ble_eq_true rfl, Nat.le_of_ble_eq_true rfl⟩
set_option maxRecDepth 20000 in
theorem ok_mq_Routine_copyFrom : mj_okM mq_Routine_copyFrom := ⟨mj_tn (p := 551) rfl, mj_tn (p := 71) (by decide +kernel), by decide +kernel, ⟨by decide +kernel, by decide +kernel⟩, by decide +kernel, by decide +kernel, Nat.le_of_ble_eq_true rfl, Nat.le_of_ble_eq_true rfl⟩
set_option maxRecDepth 20000 in
theorem ok_mq_Routine_hasActsOf : mj_okM mq_Routine_hasActsOf := ⟨mj_tn (p := 639) rfl, mj_tn (p := 71) (by decide +kernel), by decide +kernel, ⟨by decide +kernel, by decide +kernel⟩, by decide +kernel, by decide +kernel, Nat.le_of_ble_eq_true rfl, Nat.le_of_ble_eq_true rfl⟩
set_option maxRecDepth 20000 in
theorem ok_mq_Runner_init : mj_okM mq_Runner_init := ⟨mj_tn (p := 234) rfl, mj_tn (p := 76) (by decide +kernel), by decide +kernel, ⟨by decide +kernel, by decide +kernel⟩, by decide +kernel, by decide +kernel, Nat.le_of_ble_eq_true rfl, Nat.le_of_ble_eq_true rfl⟩
set_option maxRecDepth 20000 in
theorem ok_mq_Runner_addToFeed : mj_okM mq_Runner_addToFeed := ⟨mj_tn (p := 678) rfl, mj_tn (p := 76) (by decide +kernel), by decide +kernel, ⟨by decide +kernel, by decide +kernel⟩, by decide +kernel, by decide +kernel, Nat.le_of_ble_eq_true rfl, Nat.le_of_ble_eq_true rfl⟩
set_option maxRecDepth 20000 in
theorem ok_mq_Runner_go : mj_okM mq_Runner_go := ⟨mj_tn (p := 691) rfl, mj_tn (p := 76) (by decide +kernel), by decide +kernel, ⟨by decide +kernel, by decide +kernel⟩, by decide +kernel, by decide +kernel, Nat.le_of_ble_eq_true rfl, Nat.le_of_ble_eq_true rfl⟩
set_option maxRecDepth 20000 in
theorem ok_mq_Runner_doAct : mj_okM mq_Runner_doAct := ⟨mj_tn (p := 695) rfl, mj_tn (p := 76) (by decide +kernel), by decide +kernel, ⟨by decide +kernel, by decide +kernel⟩, by decide +kernel, by decide +kernel, Nat.le_of_ble_eq_true rfl, Nat.le_of_ble_eq_true rfl⟩
set_option maxRecDepth 20000 in
theorem ok_mq_Runner_readInto : mj_okM mq_Runner_readInto := ⟨mj_tn (p := 699) rfl, mj_tn (p := 76) (by decide +kernel), by decide +kernel, ⟨by decide +kernel, by decide +kernel⟩, by decide +kernel, by decide +kernel, Nat.le_of_ble_eq_true rfl, Nat.le_of_ble_eq_true rfl⟩
set_option maxRecDepth 20000 in
theorem ok_mq_Runner_reckonInto : mj_okM mq_Runner_reckonInto := ⟨mj_tn (p := 708) rfl, mj_tn (p := 76) (by decide +kernel), by decide +kernel, ⟨by decide +kernel, by decide +kernel⟩, by decide +kernel, by decide +kernel, Nat.le_of_ble_eq_true rfl, Nat.le_of_ble_eq_true rfl⟩
set_option maxRecDepth 20000 in
theorem ok_mq_Runner_giveOut : mj_okM mq_Runner_giveOut := ⟨mj_tn (p := 703) rfl, mj_tn (p := 76) (by decide +kernel), by decide +kernel, ⟨by decide +kernel, by decide +kernel⟩, by decide +kernel, by decide +kernel, Nat.le_of_ble_eq_true rfl, Nat.le_of_ble_eq_true rfl⟩
set_option maxRecDepth 20000 in
theorem ok_mq_Side_init : mj_okM mq_Side_init := ⟨mj_tn (p := 313) rfl, mj_tn (p := 79) (by decide +kernel), by decide +kernel, ⟨by decide +kernel, by decide +kernel⟩, by decide +kernel, by decide +kernel, Nat.le_of_ble_eq_true rfl, Nat.le_of_ble_eq_true rfl⟩
set_option maxRecDepth 20000 in
theorem ok_mq_Side_take : mj_okM mq_Side_take := ⟨mj_tn (p := 773) rfl, mj_tn (p := 79) (by decide +kernel), by decide +kernel, ⟨by decide +kernel, by decide +kernel⟩, by decide +kernel, by decide +kernel, Nat.le_of_ble_eq_true rfl, Nat.le_of_ble_eq_true rfl⟩
set_option maxRecDepth 20000 in
theorem ok_mq_Side_placeFor : mj_okM mq_Side_placeFor := ⟨mj_tn (p := 781) rfl, mj_tn (p := 79) (by decide +kernel), by decide +kernel, ⟨by decide +kernel, by decide +kernel⟩, by decide +kernel, by decide +kernel, Nat.le_of_ble_eq_true rfl, Nat.le_of_ble_eq_true rfl⟩
set_option maxRecDepth 20000 in
theorem ok_mq_Side_stand : mj_okM mq_Side_stand := ⟨mj_tn (p := 798) rfl, mj_tn (p := 79) (by decide +kernel), by decide +kernel, ⟨by decide +kernel, by decide +kernel⟩, by decide +kernel, by decide +kernel, Nat.le_of_ble_eq_true rfl, Nat.le_of_ble_eq_true rfl⟩
set_option maxRecDepth 20000 in
theorem ok_mq_Side_isAtEnd : mj_okM mq_Side_isAtEnd := ⟨mj_tn (p := 813) rfl, mj_tn (p := 79) (by decide +kernel), by decide +kernel, ⟨by decide +kernel, by decide +kernel⟩, by decide +kernel, by decide +kernel, Nat.le_of_ble_eq_true rfl, Nat.le_of_ble_eq_true rfl⟩
set_option maxRecDepth 20000 in
theorem ok_mq_Side_kindHere : mj_okM mq_Side_kindHere := ⟨mj_tn (p := 817) rfl, mj_tn (p := 79) (by decide +kernel), by decide +kernel, ⟨by decide +kernel, by decide +kernel⟩, by decide +kernel, by decide +kernel, Nat.le_of_ble_eq_true rfl, Nat.le_of_ble_eq_true rfl⟩
set_option maxRecDepth 20000 in
theorem ok_mq_Side_xHere : mj_okM mq_Side_xHere := ⟨mj_tn (p := 830) rfl, mj_tn (p := 79) (by decide +kernel), by decide +kernel, ⟨by decide +kernel, by decide +kernel⟩, by decide +kernel, by decide +kernel, Nat.le_of_ble_eq_true rfl, Nat.le_of_ble_eq_true rfl⟩
set_option maxRecDepth 20000 in
theorem ok_mq_Side_yHere : mj_okM mq_Side_yHere := ⟨mj_tn (p := 843) rfl, mj_tn (p := 79) (by decide +kernel), by decide +kernel, ⟨by decide +kernel, by decide +kernel⟩, by decide +kernel, by decide +kernel, Nat.le_of_ble_eq_true rfl, Nat.le_of_ble_eq_true rfl⟩
set_option maxRecDepth 20000 in
theorem ok_mq_Side_zHere : mj_okM mq_Side_zHere := ⟨mj_tn (p := 822) rfl, mj_tn (p := 79) (by decide +kernel), by decide +kernel, ⟨by decide +kernel, by decide +kernel⟩, by decide +kernel, by decide +kernel, Nat.le_of_ble_eq_true rfl, Nat.le_of_ble_eq_true rfl⟩
set_option maxRecDepth 20000 in
theorem ok_mq_Side_hasNumber : mj_okM mq_Side_hasNumber := ⟨mj_tn (p := 826) rfl, mj_tn (p := 79) (by decide +kernel), by decide +kernel, ⟨by decide +kernel, by decide +kernel⟩, by decide +kernel, by decide +kernel, Nat.le_of_ble_eq_true rfl, Nat.le_of_ble_eq_true rfl⟩
set_option maxRecDepth 20000 in
theorem ok_mq_Side_isQuiet : mj_okM mq_Side_isQuiet := ⟨mj_tn (p := 809) rfl, mj_tn (p := 79) (by decide +kernel), by decide +kernel, ⟨by decide +kernel, by decide +kernel⟩, by decide +kernel, by decide +kernel, Nat.le_of_ble_eq_true rfl, Nat.le_of_ble_eq_true rfl⟩
set_option maxRecDepth 20000 in
theorem ok_mq_Side_stopsSurely : mj_okM mq_Side_stopsSurely := ⟨mj_tn (p := 892) rfl, mj_tn (p := 79) (by decide +kernel), by decide +kernel, ⟨by decide +kernel, by decide +kernel⟩, by decide +kernel, by decide +kernel, Nat.le_of_ble_eq_true rfl, Nat.le_of_ble_eq_true rfl⟩
set_option maxRecDepth 20000 in
theorem ok_mq_Side_doQuietAct : mj_okM mq_Side_doQuietAct := ⟨mj_tn (p := 834) rfl, mj_tn (p := 79) (by decide +kernel), by decide +kernel, ⟨by decide +kernel, by decide +kernel⟩, by decide +kernel, by decide +kernel, Nat.le_of_ble_eq_true rfl, Nat.le_of_ble_eq_true rfl⟩
set_option maxRecDepth 20000 in
theorem ok_mq_Side_targetHere : mj_okM mq_Side_targetHere := ⟨mj_tn (p := 897) rfl, mj_tn (p := 79) (by decide +kernel), by decide +kernel, ⟨by decide +kernel, by decide +kernel⟩, by decide +kernel, by decide +kernel, Nat.le_of_ble_eq_true rfl, Nat.le_of_ble_eq_true rfl⟩
set_option maxRecDepth 20000 in
theorem ok_mq_Side_changeX : mj_okM mq_Side_changeX := ⟨mj_tn (p := 839) rfl, mj_tn (p := 79) (by decide +kernel), by decide +kernel, ⟨by decide +kernel, by decide +kernel⟩, by decide +kernel, by decide +kernel, Nat.le_of_ble_eq_true rfl, Nat.le_of_ble_eq_true rfl⟩
set_option maxRecDepth 20000 in
theorem ok_mq_Side_makeThing : mj_okM mq_Side_makeThing := ⟨mj_tn (p := 853) rfl, mj_tn (p := 79) (by decide +kernel), by decide +kernel, ⟨by decide +kernel, by decide +kernel⟩, by decide +kernel, by decide +kernel, Nat.le_of_ble_eq_true rfl, Nat.le_of_ble_eq_true rfl⟩
set_option maxRecDepth 20000 in
theorem ok_mq_Side_hasAsNumber : mj_okM mq_Side_hasAsNumber := ⟨mj_tn (p := 847) rfl, mj_tn (p := 79) (by decide +kernel), by decide +kernel, ⟨by decide +kernel, by decide +kernel⟩, by decide +kernel, by decide +kernel, Nat.le_of_ble_eq_true rfl, Nat.le_of_ble_eq_true rfl⟩
set_option maxRecDepth 20000 in
theorem ok_mq_Side_hasSame : mj_okM mq_Side_hasSame := ⟨mj_tn (p := 866) rfl, mj_tn (p := 79) (by decide +kernel), by decide +kernel, ⟨by decide +kernel, by decide +kernel⟩, by decide +kernel, by decide +kernel, Nat.le_of_ble_eq_true rfl, Nat.le_of_ble_eq_true rfl⟩
set_option maxRecDepth 20000 in
theorem ok_mq_Witness_init : mj_okM mq_Witness_init := ⟨mj_tn (p := 268) rfl, mj_tn (p := 77) (by decide +kernel), by decide +kernel, ⟨by decide +kernel, by decide +kernel⟩, by decide +kernel, by decide +kernel, Nat.le_of_ble_eq_true rfl, Nat.le_of_ble_eq_true rfl⟩
set_option maxRecDepth 20000 in
theorem ok_mq_Witness_hasPair : mj_okM mq_Witness_hasPair := ⟨mj_tn (p := 744) rfl, mj_tn (p := 77) (by decide +kernel), by decide +kernel, ⟨by decide +kernel, by decide +kernel⟩, by decide +kernel, by decide +kernel, Nat.le_of_ble_eq_true rfl, Nat.le_of_ble_eq_true rfl⟩
set_option maxRecDepth 20000 in
theorem ok_mq_Witness_claimOn : mj_okM mq_Witness_claimOn := ⟨mj_tn (p := 748) rfl, mj_tn (p := 77) (by decide +kernel), by decide +kernel, ⟨by decide +kernel, by decide +kernel⟩, by decide +kernel, by decide +kernel, Nat.le_of_ble_eq_true rfl, Nat.le_of_ble_eq_true rfl⟩
set_option maxRecDepth 20000 in
theorem ok_mq_Witness_numberOn : mj_okM mq_Witness_numberOn := ⟨mj_tn (p := 761) rfl, mj_tn (p := 77) (by decide +kernel), by decide +kernel, ⟨by decide +kernel, by decide +kernel⟩, by decide +kernel, by decide +kernel, Nat.le_of_ble_eq_true rfl, Nat.le_of_ble_eq_true rfl⟩
set_option maxRecDepth 20000 in
theorem ok_mq_Witness_setClaim : mj_okM mq_Witness_setClaim := ⟨mj_tn (p := 603) rfl, mj_tn (p := 77) (by decide +kernel), by decide +kernel, ⟨by decide +kernel, by decide +kernel⟩, by decide +kernel, by decide +kernel, Nat.le_of_ble_eq_true rfl, Nat.le_of_ble_eq_true rfl⟩
set_option maxRecDepth 20000 in
theorem ok_mq_Witness_append : mj_okM mq_Witness_append := ⟨mj_tn (p := 599) rfl, mj_tn (p := 77) (by decide +kernel), by decide +kernel, ⟨by decide +kernel, by decide +kernel⟩, by decide +kernel, by decide +kernel, Nat.le_of_ble_eq_true rfl, Nat.le_of_ble_eq_true rfl⟩
set_option maxRecDepth 20000 in
theorem ok_mq_Witness_appendAllSame : mj_okM mq_Witness_appendAllSame := ⟨mj_tn (p := 617) rfl, mj_tn (p := 77) (by decide +kernel), by decide +kernel, ⟨by decide +kernel, by decide +kernel⟩, by decide +kernel, by decide +kernel, Nat.le_of_ble_eq_true rfl, Nat.le_of_ble_eq_true rfl⟩
theorem mj_look {α : Type} {l : List (Nat × α)} {i : Nat} {x : α} (h : l.lookup i = some x) : (i, x) ∈ l := by
  induction l with
  | nil => cases h
  | cons a t ih =>
    obtain ⟨j, y⟩ := a
    rw [List.lookup_cons] at h
    by_cases e : i = j
    · subst e
      simp at h
      subst h
      exact List.mem_cons_self
    · have e2 : (i == j) = false := by simpa using e
      rw [e2] at h
      exact List.mem_cons_of_mem _ (ih h)
def mj_lk_0 : List (Nat × Nat × mj_M) := [(17, 2, mq_Side_init), (35, 0, mq_Side_take), (39, 0, mq_Judge_listPairs), (42, 0, mq_Judge_isSoAtFirst), (51, 0, mq_Judge_lookAt), (58, 0, mq_Side_placeFor), (64, 1, mq_Judge_spot), (68, 0, mq_Witness_numberOn), (72, 0, mq_Side_stand), (82, 0, mq_Judge_lookAtOne), (86, 0, mq_Side_isAtEnd), (90, 0, mq_Side_isQuiet), (93, 0, mq_Judge_lookAtQuiet), (97, 0, mq_Judge_lookAtLoud), (100, 0, mq_Side_doQuietAct), (106, 0, mq_Judge_goOn), (110, 0, mq_Side_kindHere), (113, 1, mq_Judge_isLoudKind), (116, 0, mq_Judge_asksSame), (119, 0, mq_Side_stopsSurely), (122, 0, mq_Side_changeX), (127, 0, mq_Side_targetHere), (130, 1, mq_Code_isDivision), (133, 0, mq_Side_xHere), (136, 0, mq_Side_hasSame), (140, 0, mq_Side_yHere), (143, 0, mq_Side_zHere), (146, 0, mq_Judge_follows), (150, 0, mq_Witness_claimOn), (153, 0, mq_Side_hasAsNumber)]
def mj_lk_1 : List (Nat × Nat × mj_M) := [(35, 0, mq_Knowledge_begin), (44, 0, mq_Knowledge_goOn), (48, 0, mq_Knowledge_stopsSurely), (56, 0, mq_Knowledge_keepAhead), (60, 1, mq_Code_makesX), (66, 0, mq_Knowledge_knowsResult), (72, 0, mq_Knowledge_resultOf), (76, 0, mq_Knowledge_isKnown), (80, 0, mq_Knowledge_numberIn), (84, 1, mq_Code_goesToNext), (87, 0, mq_Knowledge_arrive), (90, 1, mq_Code_goesToY), (93, 0, mq_Routine_target), (97, 1, mq_Code_isDivision), (103, 0, mq_Knowledge_isKnownAsZero), (109, 1, mq_Code_isReckoning), (112, 1, mq_Code_reckon)]
def mj_lk_2 : List (Nat × Nat × mj_M) := [(24, 0, mq_Leads_follow), (28, 1, mq_Leads_leadsOn), (37, 0, mq_Routine_target)]
def mj_lk_3 : List (Nat × Nat × mj_M) := [(21, 0, mq_Liveness_maskAhead), (28, 1, mq_Code_goesToNext), (34, 1, mq_Code_goesToY), (37, 0, mq_Routine_target), (41, 1, mq_Code_makesX), (47, 1, mq_Liveness_askedBy), (53, 1, mq_Code_isReckoning)]
def mj_lk_4 : List (Nat × Nat × mj_M) := [(21, 2, mq_Leads_init), (32, 2, mq_Routine_init), (40, 0, mq_Knowledge_study), (46, 0, mq_Liveness_study), (49, 0, mq_Leads_study), (50, 0, mq_Passes_countPasses), (53, 0, mq_Passes_fold), (57, 0, mq_Passes_drop), (60, 0, mq_Passes_thread), (63, 0, mq_Passes_pack), (72, 0, mq_Passes_testifyFold), (76, 0, mq_Passes_testifyDrop), (79, 0, mq_Passes_testifyThread), (82, 0, mq_Passes_testifyPack), (85, 0, mq_Routine_copyFrom), (88, 0, mq_Passes_study), (91, 0, mq_Passes_make), (95, 0, mq_Routine_hasActsOf), (104, 0, mq_Passes_foldAct), (115, 0, mq_Knowledge_isKnown), (119, 0, mq_Knowledge_isKnownAsZero), (122, 0, mq_Routine_put), (129, 1, mq_Code_isReckoning), (133, 0, mq_Knowledge_knowsResult), (137, 0, mq_Knowledge_resultOf), (141, 0, mq_Witness_append), (145, 0, mq_Knowledge_numberIn), (149, 0, mq_Witness_setClaim), (153, 1, mq_Passes_isDroppable), (156, 0, mq_Liveness_isLive), (159, 1, mq_Code_goesToY), (165, 0, mq_Routine_target), (169, 0, mq_Witness_appendAllSame), (176, 0, mq_Passes_packedPlace), (182, 0, mq_Routine_append), (183, 1, mq_Passes_passesInRow)]
def mj_lk_5 : List (Nat × Nat × mj_M) := [(39, 0, mq_Runner_doAct), (53, 0, mq_Runner_readInto), (57, 0, mq_Runner_giveOut), (61, 0, mq_Routine_target), (68, 0, mq_Runner_reckonInto), (72, 1, mq_Code_isDivision), (78, 1, mq_Code_reckon)]
def mj_lk_6 : List (Nat × Nat × mj_M) := [(28, 0, mq_Routine_placeFor), (32, 0, mq_Routine_put)]
def mj_lk_7 : List (Nat × Nat × mj_M) := [(17, 2, mq_Routine_init), (51, 0, mq_Routine_placeFor), (55, 0, mq_Side_placeFor), (56, 0, mq_Witness_claimOn), (62, 0, mq_Witness_numberOn), (81, 0, mq_Side_isAtEnd), (85, 0, mq_Side_kindHere), (89, 1, mq_Code_isDivision), (93, 0, mq_Side_zHere), (96, 0, mq_Side_hasNumber), (99, 0, mq_Side_xHere), (102, 0, mq_Side_hasAsNumber), (106, 0, mq_Side_yHere), (109, 0, mq_Routine_target), (112, 0, mq_Side_changeX), (115, 1, mq_Code_isReckoning), (118, 1, mq_Code_reckon), (122, 0, mq_Side_makeThing)]
def mj_lk_8 : List (Nat × Nat × mj_M) := [(35, 0, mq_Witness_setClaim), (39, 0, mq_Witness_append)]
def mj_lk_9 : List (Nat × Nat × mj_M) := [(15, 2, mq_Routine_init), (22, 2, mq_Knowledge_init), (29, 2, mq_Liveness_init), (36, 2, mq_Passes_init), (45, 2, mq_Runner_init), (52, 2, mq_Witness_init), (59, 2, mq_Judge_init), (66, 0, mq_Court_find), (73, 1, mq_Code_isAct), (79, 0, mq_Routine_append), (97, 0, mq_Passes_study), (101, 0, mq_Passes_make), (105, 0, mq_Passes_testify), (109, 0, mq_Passes_improve), (113, 0, mq_Routine_hasActsOf), (117, 0, mq_Court_findWith), (121, 0, mq_Knowledge_study), (128, 0, mq_Knowledge_isKnown), (132, 0, mq_Knowledge_numberIn), (136, 0, mq_Liveness_study), (137, 0, mq_Liveness_isLive), (140, 0, mq_Runner_addToFeed), (148, 0, mq_Runner_go), (165, 1, mq_Code_isRegister), (173, 1, mq_Code_isPlace), (176, 0, mq_Witness_append), (177, 0, mq_Witness_hasPair), (180, 0, mq_Witness_claimOn), (184, 0, mq_Witness_setClaim), (200, 0, mq_Witness_numberOn), (206, 0, mq_Judge_hear), (210, 0, mq_Routine_hasPlace)]
def mj_lk_10 : List (Nat × Nat × mj_M) := [(82, 1, mq_Model_in), (86, 0, mq_Model_num), (90, 1, mq_Model_isMade), (94, 0, mq_Model_isRoutine), (97, 1, mq_Model_isAct), (101, 0, mq_Model_put), (106, 0, mq_Model_areSame), (110, 0, mq_Model_kind), (122, 0, mq_Model_knows), (125, 0, mq_Model_as), (129, 1, mq_Model_made), (133, 0, mq_Model_knowsBehind), (136, 1, mq_Model_makes), (139, 0, mq_Model_meet), (143, 0, mq_Model_stops), (146, 0, mq_Model_lead), (150, 0, mq_Model_place), (153, 1, mq_Model_asks), (157, 0, mq_Model_isPlace), (160, 0, mq_Model_know), (164, 0, mq_Model_known), (167, 0, mq_Model_livens), (176, 0, mq_Model_copy), (180, 0, mq_Model_add), (187, 0, mq_Model_leads), (190, 0, mq_Model_packed), (193, 0, mq_Model_fold), (196, 0, mq_Model_drop), (199, 0, mq_Model_thread), (202, 0, mq_Model_pack), (205, 0, mq_Model_does), (227, 0, mq_Model_isNumber), (230, 0, mq_Model_number0), (233, 0, mq_Model_areAlike), (236, 0, mq_Model_look), (239, 0, mq_Model_isSame), (242, 0, mq_Model_find), (245, 0, mq_Model_follow), (249, 0, mq_Model_isQuiet), (252, 0, mq_Model_goesTo), (255, 0, mq_Model_wants), (262, 0, mq_Model_judged)]
def mj_lk_11 : List (Nat × Nat × mj_M) := [(9, 1, mq_Code_isRegister), (15, 1, mq_Code_isPlace), (18, 1, mq_Code_isReckoning)]
def mj_lk_12 : List (Nat × Nat × mj_M) := [(9, 2, mq_Court_init), (12, 2, mq_Model_init), (13, 0, mq_Court_routine), (17, 0, mq_Model_routine), (18, 0, mq_Court_act), (22, 0, mq_Model_act), (23, 0, mq_Court_at), (27, 0, mq_Model_at), (28, 0, mq_Court_length), (32, 0, mq_Model_length), (33, 0, mq_Court_pass), (37, 0, mq_Model_pass), (38, 0, mq_Court_best), (41, 0, mq_Model_best), (42, 0, mq_Court_same), (45, 0, mq_Model_same), (46, 0, mq_Court_known), (49, 0, mq_Model_known), (50, 0, mq_Court_value), (54, 0, mq_Model_value), (55, 0, mq_Court_live), (58, 0, mq_Model_live), (61, 0, mq_Court_feed), (65, 0, mq_Model_feed), (66, 0, mq_Court_dry), (69, 0, mq_Model_dry), (70, 0, mq_Court_run), (73, 0, mq_Model_run), (74, 0, mq_Court_outs), (77, 0, mq_Model_outs), (78, 0, mq_Court_out), (82, 0, mq_Model_out), (83, 0, mq_Court_ran), (86, 0, mq_Model_ran), (87, 0, mq_Court_register), (90, 0, mq_Model_register), (91, 0, mq_Court_clear), (94, 0, mq_Model_clear), (95, 0, mq_Court_pair), (99, 0, mq_Model_pair), (100, 0, mq_Court_claim), (104, 0, mq_Model_claim), (105, 0, mq_Court_of), (108, 0, mq_Model_of), (109, 0, mq_Court_number), (113, 0, mq_Model_number), (114, 0, mq_Court_judge), (117, 0, mq_Model_judge), (118, 0, mq_Court_where), (121, 0, mq_Model_where), (122, 0, mq_Court_count), (125, 0, mq_Model_count)]
def mj_lkT (c : Nat) : List (Nat × Nat × mj_M) := match c with
  | 0 => mj_lk_0
  | 1 => mj_lk_1
  | 2 => mj_lk_2
  | 3 => mj_lk_3
  | 4 => mj_lk_4
  | 5 => mj_lk_5
  | 6 => mj_lk_6
  | 7 => mj_lk_7
  | 8 => mj_lk_8
  | 9 => mj_lk_9
  | 10 => mj_lk_10
  | 11 => mj_lk_11
  | _ => mj_lk_12
def mj_lk (c i : Nat) : Option (Nat × mj_M) := (mj_lkT c).lookup i
def mj_okL (c i : Nat) (x : Nat × mj_M) : Prop := mj_okM x.2 ∧ Cond.methodLink (mj_cn c) i (mj_N x.2) ∈ lw_tbl ∧ (x.1 = 0 → Cond.instanceMethod (mj_N x.2) ∈ lw_tbl ∧ Cond.selects (mj_N x.2).cls (mj_N x.2) (mj_N x.2) ∈ lw_tbl) ∧ (x.1 = 1 → Cond.static (mj_N x.2) ∈ lw_tbl) ∧ (x.1 = 2 → Cond.instanceMethod (mj_N x.2) ∈ lw_tbl ∧ (mj_N x.2).name = "<init>" ∧ mj_R x.2 = none)
set_option maxRecDepth 20000 in
theorem mj_lk_ok_0_17 : mj_okL 0 17 (2, mq_Side_init) := ⟨ok_mq_Side_init, mj_tn (p := 311) (by decide +kernel), fun h => absurd h (by decide), fun h => absurd h (by decide), fun _ => ⟨mj_tn (p := 312) (by decide +kernel), rfl, rfl⟩⟩
set_option maxRecDepth 20000 in
theorem mj_lk_ok_0_35 : mj_okL 0 35 (0, mq_Side_take) := ⟨ok_mq_Side_take, mj_tn (p := 770) (by decide +kernel), fun _ => ⟨mj_tn (p := 771) (by decide +kernel), mj_tn (p := 772) (by decide +kernel)⟩, fun h => absurd h (by decide), fun h => absurd h (by decide)⟩
set_option maxRecDepth 20000 in
theorem mj_lk_ok_0_39 : mj_okL 0 39 (0, mq_Judge_listPairs) := ⟨ok_mq_Judge_listPairs, mj_tn (p := 774) (by decide +kernel), fun _ => ⟨mj_tn (p := 776) (by decide +kernel), mj_tn (p := 24) (by decide +kernel)⟩, fun h => absurd h (by decide), fun h => absurd h (by decide)⟩
set_option maxRecDepth 20000 in
theorem mj_lk_ok_0_42 : mj_okL 0 42 (0, mq_Judge_isSoAtFirst) := ⟨ok_mq_Judge_isSoAtFirst, mj_tn (p := 786) (by decide +kernel), fun _ => ⟨mj_tn (p := 788) (by decide +kernel), mj_tn (p := 25) (by decide +kernel)⟩, fun h => absurd h (by decide), fun h => absurd h (by decide)⟩
set_option maxRecDepth 20000 in
theorem mj_lk_ok_0_51 : mj_okL 0 51 (0, mq_Judge_lookAt) := ⟨ok_mq_Judge_lookAt, mj_tn (p := 791) (by decide +kernel), fun _ => ⟨mj_tn (p := 793) (by decide +kernel), mj_tn (p := 26) (by decide +kernel)⟩, fun h => absurd h (by decide), fun h => absurd h (by decide)⟩
set_option maxRecDepth 20000 in
theorem mj_lk_ok_0_58 : mj_okL 0 58 (0, mq_Side_placeFor) := ⟨ok_mq_Side_placeFor, mj_tn (p := 778) (by decide +kernel), fun _ => ⟨mj_tn (p := 779) (by decide +kernel), mj_tn (p := 780) (by decide +kernel)⟩, fun h => absurd h (by decide), fun h => absurd h (by decide)⟩
set_option maxRecDepth 20000 in
theorem mj_lk_ok_0_64 : mj_okL 0 64 (1, mq_Judge_spot) := ⟨ok_mq_Judge_spot, mj_tn (p := 783) (by decide +kernel), fun h => absurd h (by decide), fun _ => mj_tn (p := 784) (by decide +kernel), fun h => absurd h (by decide)⟩
set_option maxRecDepth 20000 in
theorem mj_lk_ok_0_68 : mj_okL 0 68 (0, mq_Witness_numberOn) := ⟨ok_mq_Witness_numberOn, mj_tn (p := 790) (by decide +kernel), fun _ => ⟨mj_tn (p := 759) (by decide +kernel), mj_tn (p := 760) (by decide +kernel)⟩, fun h => absurd h (by decide), fun h => absurd h (by decide)⟩
set_option maxRecDepth 20000 in
theorem mj_lk_ok_0_72 : mj_okL 0 72 (0, mq_Side_stand) := ⟨ok_mq_Side_stand, mj_tn (p := 795) (by decide +kernel), fun _ => ⟨mj_tn (p := 796) (by decide +kernel), mj_tn (p := 797) (by decide +kernel)⟩, fun h => absurd h (by decide), fun h => absurd h (by decide)⟩
set_option maxRecDepth 20000 in
theorem mj_lk_ok_0_82 : mj_okL 0 82 (0, mq_Judge_lookAtOne) := ⟨ok_mq_Judge_lookAtOne, mj_tn (p := 802) (by decide +kernel), fun _ => ⟨mj_tn (p := 804) (by decide +kernel), mj_tn (p := 27) (by decide +kernel)⟩, fun h => absurd h (by decide), fun h => absurd h (by decide)⟩
set_option maxRecDepth 20000 in
theorem mj_lk_ok_0_86 : mj_okL 0 86 (0, mq_Side_isAtEnd) := ⟨ok_mq_Side_isAtEnd, mj_tn (p := 868) (by decide +kernel), fun _ => ⟨mj_tn (p := 811) (by decide +kernel), mj_tn (p := 812) (by decide +kernel)⟩, fun h => absurd h (by decide), fun h => absurd h (by decide)⟩
set_option maxRecDepth 20000 in
theorem mj_lk_ok_0_90 : mj_okL 0 90 (0, mq_Side_isQuiet) := ⟨ok_mq_Side_isQuiet, mj_tn (p := 806) (by decide +kernel), fun _ => ⟨mj_tn (p := 807) (by decide +kernel), mj_tn (p := 808) (by decide +kernel)⟩, fun h => absurd h (by decide), fun h => absurd h (by decide)⟩
set_option maxRecDepth 20000 in
theorem mj_lk_ok_0_93 : mj_okL 0 93 (0, mq_Judge_lookAtQuiet) := ⟨ok_mq_Judge_lookAtQuiet, mj_tn (p := 869) (by decide +kernel), fun _ => ⟨mj_tn (p := 871) (by decide +kernel), mj_tn (p := 31) (by decide +kernel)⟩, fun h => absurd h (by decide), fun h => absurd h (by decide)⟩
set_option maxRecDepth 20000 in
theorem mj_lk_ok_0_97 : mj_okL 0 97 (0, mq_Judge_lookAtLoud) := ⟨ok_mq_Judge_lookAtLoud, mj_tn (p := 873) (by decide +kernel), fun _ => ⟨mj_tn (p := 875) (by decide +kernel), mj_tn (p := 32) (by decide +kernel)⟩, fun h => absurd h (by decide), fun h => absurd h (by decide)⟩
set_option maxRecDepth 20000 in
theorem mj_lk_ok_0_100 : mj_okL 0 100 (0, mq_Side_doQuietAct) := ⟨ok_mq_Side_doQuietAct, mj_tn (p := 831) (by decide +kernel), fun _ => ⟨mj_tn (p := 832) (by decide +kernel), mj_tn (p := 833) (by decide +kernel)⟩, fun h => absurd h (by decide), fun h => absurd h (by decide)⟩
set_option maxRecDepth 20000 in
theorem mj_lk_ok_0_106 : mj_okL 0 106 (0, mq_Judge_goOn) := ⟨ok_mq_Judge_goOn, mj_tn (p := 854) (by decide +kernel), fun _ => ⟨mj_tn (p := 856) (by decide +kernel), mj_tn (p := 29) (by decide +kernel)⟩, fun h => absurd h (by decide), fun h => absurd h (by decide)⟩
set_option maxRecDepth 20000 in
theorem mj_lk_ok_0_110 : mj_okL 0 110 (0, mq_Side_kindHere) := ⟨ok_mq_Side_kindHere, mj_tn (p := 877) (by decide +kernel), fun _ => ⟨mj_tn (p := 815) (by decide +kernel), mj_tn (p := 816) (by decide +kernel)⟩, fun h => absurd h (by decide), fun h => absurd h (by decide)⟩
set_option maxRecDepth 20000 in
theorem mj_lk_ok_0_113 : mj_okL 0 113 (1, mq_Judge_isLoudKind) := ⟨ok_mq_Judge_isLoudKind, mj_tn (p := 878) (by decide +kernel), fun h => absurd h (by decide), fun _ => mj_tn (p := 879) (by decide +kernel), fun h => absurd h (by decide)⟩
set_option maxRecDepth 20000 in
theorem mj_lk_ok_0_116 : mj_okL 0 116 (0, mq_Judge_asksSame) := ⟨ok_mq_Judge_asksSame, mj_tn (p := 882) (by decide +kernel), fun _ => ⟨mj_tn (p := 884) (by decide +kernel), mj_tn (p := 33) (by decide +kernel)⟩, fun h => absurd h (by decide), fun h => absurd h (by decide)⟩
set_option maxRecDepth 20000 in
theorem mj_lk_ok_0_119 : mj_okL 0 119 (0, mq_Side_stopsSurely) := ⟨ok_mq_Side_stopsSurely, mj_tn (p := 889) (by decide +kernel), fun _ => ⟨mj_tn (p := 890) (by decide +kernel), mj_tn (p := 891) (by decide +kernel)⟩, fun h => absurd h (by decide), fun h => absurd h (by decide)⟩
set_option maxRecDepth 20000 in
theorem mj_lk_ok_0_122 : mj_okL 0 122 (0, mq_Side_changeX) := ⟨ok_mq_Side_changeX, mj_tn (p := 893) (by decide +kernel), fun _ => ⟨mj_tn (p := 837) (by decide +kernel), mj_tn (p := 838) (by decide +kernel)⟩, fun h => absurd h (by decide), fun h => absurd h (by decide)⟩
set_option maxRecDepth 20000 in
theorem mj_lk_ok_0_127 : mj_okL 0 127 (0, mq_Side_targetHere) := ⟨ok_mq_Side_targetHere, mj_tn (p := 894) (by decide +kernel), fun _ => ⟨mj_tn (p := 895) (by decide +kernel), mj_tn (p := 896) (by decide +kernel)⟩, fun h => absurd h (by decide), fun h => absurd h (by decide)⟩
set_option maxRecDepth 20000 in
theorem mj_lk_ok_0_130 : mj_okL 0 130 (1, mq_Code_isDivision) := ⟨ok_mq_Code_isDivision, mj_tn (p := 881) (by decide +kernel), fun h => absurd h (by decide), fun _ => mj_tn (p := 457) (by decide +kernel), fun h => absurd h (by decide)⟩
set_option maxRecDepth 20000 in
theorem mj_lk_ok_0_133 : mj_okL 0 133 (0, mq_Side_xHere) := ⟨ok_mq_Side_xHere, mj_tn (p := 886) (by decide +kernel), fun _ => ⟨mj_tn (p := 828) (by decide +kernel), mj_tn (p := 829) (by decide +kernel)⟩, fun h => absurd h (by decide), fun h => absurd h (by decide)⟩
set_option maxRecDepth 20000 in
theorem mj_lk_ok_0_136 : mj_okL 0 136 (0, mq_Side_hasSame) := ⟨ok_mq_Side_hasSame, mj_tn (p := 863) (by decide +kernel), fun _ => ⟨mj_tn (p := 864) (by decide +kernel), mj_tn (p := 865) (by decide +kernel)⟩, fun h => absurd h (by decide), fun h => absurd h (by decide)⟩
set_option maxRecDepth 20000 in
theorem mj_lk_ok_0_140 : mj_okL 0 140 (0, mq_Side_yHere) := ⟨ok_mq_Side_yHere, mj_tn (p := 887) (by decide +kernel), fun _ => ⟨mj_tn (p := 841) (by decide +kernel), mj_tn (p := 842) (by decide +kernel)⟩, fun h => absurd h (by decide), fun h => absurd h (by decide)⟩
set_option maxRecDepth 20000 in
theorem mj_lk_ok_0_143 : mj_okL 0 143 (0, mq_Side_zHere) := ⟨ok_mq_Side_zHere, mj_tn (p := 888) (by decide +kernel), fun _ => ⟨mj_tn (p := 820) (by decide +kernel), mj_tn (p := 821) (by decide +kernel)⟩, fun h => absurd h (by decide), fun h => absurd h (by decide)⟩
set_option maxRecDepth 20000 in
theorem mj_lk_ok_0_146 : mj_okL 0 146 (0, mq_Judge_follows) := ⟨ok_mq_Judge_follows, mj_tn (p := 858) (by decide +kernel), fun _ => ⟨mj_tn (p := 860) (by decide +kernel), mj_tn (p := 30) (by decide +kernel)⟩, fun h => absurd h (by decide), fun h => absurd h (by decide)⟩
set_option maxRecDepth 20000 in
theorem mj_lk_ok_0_150 : mj_okL 0 150 (0, mq_Witness_claimOn) := ⟨ok_mq_Witness_claimOn, mj_tn (p := 862) (by decide +kernel), fun _ => ⟨mj_tn (p := 746) (by decide +kernel), mj_tn (p := 747) (by decide +kernel)⟩, fun h => absurd h (by decide), fun h => absurd h (by decide)⟩
set_option maxRecDepth 20000 in
theorem mj_lk_ok_0_153 : mj_okL 0 153 (0, mq_Side_hasAsNumber) := ⟨ok_mq_Side_hasAsNumber, mj_tn (p := 867) (by decide +kernel), fun _ => ⟨mj_tn (p := 845) (by decide +kernel), mj_tn (p := 846) (by decide +kernel)⟩, fun h => absurd h (by decide), fun h => absurd h (by decide)⟩
theorem mj_lk_ok_0 : ∀ e ∈ mj_lk_0, mj_okL 0 e.1 e.2 := by
  exact List.forall_mem_cons.mpr ⟨mj_lk_ok_0_17, List.forall_mem_cons.mpr ⟨mj_lk_ok_0_35, List.forall_mem_cons.mpr ⟨mj_lk_ok_0_39, List.forall_mem_cons.mpr ⟨mj_lk_ok_0_42, List.forall_mem_cons.mpr ⟨mj_lk_ok_0_51, List.forall_mem_cons.mpr ⟨mj_lk_ok_0_58, List.forall_mem_cons.mpr ⟨mj_lk_ok_0_64, List.forall_mem_cons.mpr ⟨mj_lk_ok_0_68, List.forall_mem_cons.mpr ⟨mj_lk_ok_0_72, List.forall_mem_cons.mpr ⟨mj_lk_ok_0_82, List.forall_mem_cons.mpr ⟨mj_lk_ok_0_86, List.forall_mem_cons.mpr ⟨mj_lk_ok_0_90, List.forall_mem_cons.mpr ⟨mj_lk_ok_0_93, List.forall_mem_cons.mpr ⟨mj_lk_ok_0_97, List.forall_mem_cons.mpr ⟨mj_lk_ok_0_100, List.forall_mem_cons.mpr ⟨mj_lk_ok_0_106, List.forall_mem_cons.mpr ⟨mj_lk_ok_0_110, List.forall_mem_cons.mpr ⟨mj_lk_ok_0_113, List.forall_mem_cons.mpr ⟨mj_lk_ok_0_116, List.forall_mem_cons.mpr ⟨mj_lk_ok_0_119, List.forall_mem_cons.mpr ⟨mj_lk_ok_0_122, List.forall_mem_cons.mpr ⟨mj_lk_ok_0_127, List.forall_mem_cons.mpr ⟨mj_lk_ok_0_130, List.forall_mem_cons.mpr ⟨mj_lk_ok_0_133, List.forall_mem_cons.mpr ⟨mj_lk_ok_0_136, List.forall_mem_cons.mpr ⟨mj_lk_ok_0_140, List.forall_mem_cons.mpr ⟨mj_lk_ok_0_143, List.forall_mem_cons.mpr ⟨mj_lk_ok_0_146, List.forall_mem_cons.mpr ⟨mj_lk_ok_0_150, List.forall_mem_cons.mpr ⟨mj_lk_ok_0_153, fun _ h => absurd h List.not_mem_nil⟩⟩⟩⟩⟩⟩⟩⟩⟩⟩⟩⟩⟩⟩⟩⟩⟩⟩⟩⟩⟩⟩⟩⟩⟩⟩⟩⟩⟩⟩
set_option maxRecDepth 20000 in
theorem mj_lk_ok_1_35 : mj_okL 1 35 (0, mq_Knowledge_begin) := ⟨ok_mq_Knowledge_begin, mj_tn (p := 444) (by decide +kernel), fun _ => ⟨mj_tn (p := 446) (by decide +kernel), mj_tn (p := 1) (by decide +kernel)⟩, fun h => absurd h (by decide), fun h => absurd h (by decide)⟩
set_option maxRecDepth 20000 in
theorem mj_lk_ok_1_44 : mj_okL 1 44 (0, mq_Knowledge_goOn) := ⟨ok_mq_Knowledge_goOn, mj_tn (p := 448) (by decide +kernel), fun _ => ⟨mj_tn (p := 450) (by decide +kernel), mj_tn (p := 2) (by decide +kernel)⟩, fun h => absurd h (by decide), fun h => absurd h (by decide)⟩
set_option maxRecDepth 20000 in
theorem mj_lk_ok_1_48 : mj_okL 1 48 (0, mq_Knowledge_stopsSurely) := ⟨ok_mq_Knowledge_stopsSurely, mj_tn (p := 452) (by decide +kernel), fun _ => ⟨mj_tn (p := 454) (by decide +kernel), mj_tn (p := 3) (by decide +kernel)⟩, fun h => absurd h (by decide), fun h => absurd h (by decide)⟩
set_option maxRecDepth 20000 in
theorem mj_lk_ok_1_56 : mj_okL 1 56 (0, mq_Knowledge_keepAhead) := ⟨ok_mq_Knowledge_keepAhead, mj_tn (p := 471) (by decide +kernel), fun _ => ⟨mj_tn (p := 473) (by decide +kernel), mj_tn (p := 4) (by decide +kernel)⟩, fun h => absurd h (by decide), fun h => absurd h (by decide)⟩
set_option maxRecDepth 20000 in
theorem mj_lk_ok_1_60 : mj_okL 1 60 (1, mq_Code_makesX) := ⟨ok_mq_Code_makesX, mj_tn (p := 475) (by decide +kernel), fun h => absurd h (by decide), fun _ => mj_tn (p := 476) (by decide +kernel), fun h => absurd h (by decide)⟩
set_option maxRecDepth 20000 in
theorem mj_lk_ok_1_66 : mj_okL 1 66 (0, mq_Knowledge_knowsResult) := ⟨ok_mq_Knowledge_knowsResult, mj_tn (p := 478) (by decide +kernel), fun _ => ⟨mj_tn (p := 479) (by decide +kernel), mj_tn (p := 480) (by decide +kernel)⟩, fun h => absurd h (by decide), fun h => absurd h (by decide)⟩
set_option maxRecDepth 20000 in
theorem mj_lk_ok_1_72 : mj_okL 1 72 (0, mq_Knowledge_resultOf) := ⟨ok_mq_Knowledge_resultOf, mj_tn (p := 483) (by decide +kernel), fun _ => ⟨mj_tn (p := 484) (by decide +kernel), mj_tn (p := 485) (by decide +kernel)⟩, fun h => absurd h (by decide), fun h => absurd h (by decide)⟩
set_option maxRecDepth 20000 in
theorem mj_lk_ok_1_76 : mj_okL 1 76 (0, mq_Knowledge_isKnown) := ⟨ok_mq_Knowledge_isKnown, mj_tn (p := 463) (by decide +kernel), fun _ => ⟨mj_tn (p := 464) (by decide +kernel), mj_tn (p := 465) (by decide +kernel)⟩, fun h => absurd h (by decide), fun h => absurd h (by decide)⟩
set_option maxRecDepth 20000 in
theorem mj_lk_ok_1_80 : mj_okL 1 80 (0, mq_Knowledge_numberIn) := ⟨ok_mq_Knowledge_numberIn, mj_tn (p := 467) (by decide +kernel), fun _ => ⟨mj_tn (p := 468) (by decide +kernel), mj_tn (p := 469) (by decide +kernel)⟩, fun h => absurd h (by decide), fun h => absurd h (by decide)⟩
set_option maxRecDepth 20000 in
theorem mj_lk_ok_1_84 : mj_okL 1 84 (1, mq_Code_goesToNext) := ⟨ok_mq_Code_goesToNext, mj_tn (p := 490) (by decide +kernel), fun h => absurd h (by decide), fun _ => mj_tn (p := 491) (by decide +kernel), fun h => absurd h (by decide)⟩
set_option maxRecDepth 20000 in
theorem mj_lk_ok_1_87 : mj_okL 1 87 (0, mq_Knowledge_arrive) := ⟨ok_mq_Knowledge_arrive, mj_tn (p := 493) (by decide +kernel), fun _ => ⟨mj_tn (p := 495) (by decide +kernel), mj_tn (p := 5) (by decide +kernel)⟩, fun h => absurd h (by decide), fun h => absurd h (by decide)⟩
set_option maxRecDepth 20000 in
theorem mj_lk_ok_1_90 : mj_okL 1 90 (1, mq_Code_goesToY) := ⟨ok_mq_Code_goesToY, mj_tn (p := 497) (by decide +kernel), fun h => absurd h (by decide), fun _ => mj_tn (p := 498) (by decide +kernel), fun h => absurd h (by decide)⟩
set_option maxRecDepth 20000 in
theorem mj_lk_ok_1_93 : mj_okL 1 93 (0, mq_Routine_target) := ⟨ok_mq_Routine_target, mj_tn (p := 500) (by decide +kernel), fun _ => ⟨mj_tn (p := 501) (by decide +kernel), mj_tn (p := 502) (by decide +kernel)⟩, fun h => absurd h (by decide), fun h => absurd h (by decide)⟩
set_option maxRecDepth 20000 in
theorem mj_lk_ok_1_97 : mj_okL 1 97 (1, mq_Code_isDivision) := ⟨ok_mq_Code_isDivision, mj_tn (p := 456) (by decide +kernel), fun h => absurd h (by decide), fun _ => mj_tn (p := 457) (by decide +kernel), fun h => absurd h (by decide)⟩
set_option maxRecDepth 20000 in
theorem mj_lk_ok_1_103 : mj_okL 1 103 (0, mq_Knowledge_isKnownAsZero) := ⟨ok_mq_Knowledge_isKnownAsZero, mj_tn (p := 459) (by decide +kernel), fun _ => ⟨mj_tn (p := 460) (by decide +kernel), mj_tn (p := 461) (by decide +kernel)⟩, fun h => absurd h (by decide), fun h => absurd h (by decide)⟩
set_option maxRecDepth 20000 in
theorem mj_lk_ok_1_109 : mj_okL 1 109 (1, mq_Code_isReckoning) := ⟨ok_mq_Code_isReckoning, mj_tn (p := 482) (by decide +kernel), fun h => absurd h (by decide), fun _ => mj_tn (p := 413) (by decide +kernel), fun h => absurd h (by decide)⟩
set_option maxRecDepth 20000 in
theorem mj_lk_ok_1_112 : mj_okL 1 112 (1, mq_Code_reckon) := ⟨ok_mq_Code_reckon, mj_tn (p := 487) (by decide +kernel), fun h => absurd h (by decide), fun _ => mj_tn (p := 488) (by decide +kernel), fun h => absurd h (by decide)⟩
theorem mj_lk_ok_1 : ∀ e ∈ mj_lk_1, mj_okL 1 e.1 e.2 := by
  exact List.forall_mem_cons.mpr ⟨mj_lk_ok_1_35, List.forall_mem_cons.mpr ⟨mj_lk_ok_1_44, List.forall_mem_cons.mpr ⟨mj_lk_ok_1_48, List.forall_mem_cons.mpr ⟨mj_lk_ok_1_56, List.forall_mem_cons.mpr ⟨mj_lk_ok_1_60, List.forall_mem_cons.mpr ⟨mj_lk_ok_1_66, List.forall_mem_cons.mpr ⟨mj_lk_ok_1_72, List.forall_mem_cons.mpr ⟨mj_lk_ok_1_76, List.forall_mem_cons.mpr ⟨mj_lk_ok_1_80, List.forall_mem_cons.mpr ⟨mj_lk_ok_1_84, List.forall_mem_cons.mpr ⟨mj_lk_ok_1_87, List.forall_mem_cons.mpr ⟨mj_lk_ok_1_90, List.forall_mem_cons.mpr ⟨mj_lk_ok_1_93, List.forall_mem_cons.mpr ⟨mj_lk_ok_1_97, List.forall_mem_cons.mpr ⟨mj_lk_ok_1_103, List.forall_mem_cons.mpr ⟨mj_lk_ok_1_109, List.forall_mem_cons.mpr ⟨mj_lk_ok_1_112, fun _ h => absurd h List.not_mem_nil⟩⟩⟩⟩⟩⟩⟩⟩⟩⟩⟩⟩⟩⟩⟩⟩⟩
set_option maxRecDepth 20000 in
theorem mj_lk_ok_2_24 : mj_okL 2 24 (0, mq_Leads_follow) := ⟨ok_mq_Leads_follow, mj_tn (p := 528) (by decide +kernel), fun _ => ⟨mj_tn (p := 530) (by decide +kernel), mj_tn (p := 7) (by decide +kernel)⟩, fun h => absurd h (by decide), fun h => absurd h (by decide)⟩
set_option maxRecDepth 20000 in
theorem mj_lk_ok_2_28 : mj_okL 2 28 (1, mq_Leads_leadsOn) := ⟨ok_mq_Leads_leadsOn, mj_tn (p := 532) (by decide +kernel), fun h => absurd h (by decide), fun _ => mj_tn (p := 533) (by decide +kernel), fun h => absurd h (by decide)⟩
set_option maxRecDepth 20000 in
theorem mj_lk_ok_2_37 : mj_okL 2 37 (0, mq_Routine_target) := ⟨ok_mq_Routine_target, mj_tn (p := 535) (by decide +kernel), fun _ => ⟨mj_tn (p := 501) (by decide +kernel), mj_tn (p := 502) (by decide +kernel)⟩, fun h => absurd h (by decide), fun h => absurd h (by decide)⟩
theorem mj_lk_ok_2 : ∀ e ∈ mj_lk_2, mj_okL 2 e.1 e.2 := by
  exact List.forall_mem_cons.mpr ⟨mj_lk_ok_2_24, List.forall_mem_cons.mpr ⟨mj_lk_ok_2_28, List.forall_mem_cons.mpr ⟨mj_lk_ok_2_37, fun _ h => absurd h List.not_mem_nil⟩⟩⟩
set_option maxRecDepth 20000 in
theorem mj_lk_ok_3_21 : mj_okL 3 21 (0, mq_Liveness_maskAhead) := ⟨ok_mq_Liveness_maskAhead, mj_tn (p := 512) (by decide +kernel), fun _ => ⟨mj_tn (p := 514) (by decide +kernel), mj_tn (p := 6) (by decide +kernel)⟩, fun h => absurd h (by decide), fun h => absurd h (by decide)⟩
set_option maxRecDepth 20000 in
theorem mj_lk_ok_3_28 : mj_okL 3 28 (1, mq_Code_goesToNext) := ⟨ok_mq_Code_goesToNext, mj_tn (p := 516) (by decide +kernel), fun h => absurd h (by decide), fun _ => mj_tn (p := 491) (by decide +kernel), fun h => absurd h (by decide)⟩
set_option maxRecDepth 20000 in
theorem mj_lk_ok_3_34 : mj_okL 3 34 (1, mq_Code_goesToY) := ⟨ok_mq_Code_goesToY, mj_tn (p := 517) (by decide +kernel), fun h => absurd h (by decide), fun _ => mj_tn (p := 498) (by decide +kernel), fun h => absurd h (by decide)⟩
set_option maxRecDepth 20000 in
theorem mj_lk_ok_3_37 : mj_okL 3 37 (0, mq_Routine_target) := ⟨ok_mq_Routine_target, mj_tn (p := 518) (by decide +kernel), fun _ => ⟨mj_tn (p := 501) (by decide +kernel), mj_tn (p := 502) (by decide +kernel)⟩, fun h => absurd h (by decide), fun h => absurd h (by decide)⟩
set_option maxRecDepth 20000 in
theorem mj_lk_ok_3_41 : mj_okL 3 41 (1, mq_Code_makesX) := ⟨ok_mq_Code_makesX, mj_tn (p := 519) (by decide +kernel), fun h => absurd h (by decide), fun _ => mj_tn (p := 476) (by decide +kernel), fun h => absurd h (by decide)⟩
set_option maxRecDepth 20000 in
theorem mj_lk_ok_3_47 : mj_okL 3 47 (1, mq_Liveness_askedBy) := ⟨ok_mq_Liveness_askedBy, mj_tn (p := 520) (by decide +kernel), fun h => absurd h (by decide), fun _ => mj_tn (p := 521) (by decide +kernel), fun h => absurd h (by decide)⟩
set_option maxRecDepth 20000 in
theorem mj_lk_ok_3_53 : mj_okL 3 53 (1, mq_Code_isReckoning) := ⟨ok_mq_Code_isReckoning, mj_tn (p := 523) (by decide +kernel), fun h => absurd h (by decide), fun _ => mj_tn (p := 413) (by decide +kernel), fun h => absurd h (by decide)⟩
theorem mj_lk_ok_3 : ∀ e ∈ mj_lk_3, mj_okL 3 e.1 e.2 := by
  exact List.forall_mem_cons.mpr ⟨mj_lk_ok_3_21, List.forall_mem_cons.mpr ⟨mj_lk_ok_3_28, List.forall_mem_cons.mpr ⟨mj_lk_ok_3_34, List.forall_mem_cons.mpr ⟨mj_lk_ok_3_37, List.forall_mem_cons.mpr ⟨mj_lk_ok_3_41, List.forall_mem_cons.mpr ⟨mj_lk_ok_3_47, List.forall_mem_cons.mpr ⟨mj_lk_ok_3_53, fun _ h => absurd h List.not_mem_nil⟩⟩⟩⟩⟩⟩⟩
set_option maxRecDepth 20000 in
theorem mj_lk_ok_4_21 : mj_okL 4 21 (2, mq_Leads_init) := ⟨ok_mq_Leads_init, mj_tn (p := 196) (by decide +kernel), fun h => absurd h (by decide), fun h => absurd h (by decide), fun _ => ⟨mj_tn (p := 197) (by decide +kernel), rfl, rfl⟩⟩
set_option maxRecDepth 20000 in
theorem mj_lk_ok_4_32 : mj_okL 4 32 (2, mq_Routine_init) := ⟨ok_mq_Routine_init, mj_tn (p := 210) (by decide +kernel), fun h => absurd h (by decide), fun h => absurd h (by decide), fun _ => ⟨mj_tn (p := 94) (by decide +kernel), rfl, rfl⟩⟩
set_option maxRecDepth 20000 in
theorem mj_lk_ok_4_40 : mj_okL 4 40 (0, mq_Knowledge_study) := ⟨ok_mq_Knowledge_study, mj_tn (p := 440) (by decide +kernel), fun _ => ⟨mj_tn (p := 441) (by decide +kernel), mj_tn (p := 442) (by decide +kernel)⟩, fun h => absurd h (by decide), fun h => absurd h (by decide)⟩
set_option maxRecDepth 20000 in
theorem mj_lk_ok_4_46 : mj_okL 4 46 (0, mq_Liveness_study) := ⟨ok_mq_Liveness_study, mj_tn (p := 508) (by decide +kernel), fun _ => ⟨mj_tn (p := 509) (by decide +kernel), mj_tn (p := 510) (by decide +kernel)⟩, fun h => absurd h (by decide), fun h => absurd h (by decide)⟩
set_option maxRecDepth 20000 in
theorem mj_lk_ok_4_49 : mj_okL 4 49 (0, mq_Leads_study) := ⟨ok_mq_Leads_study, mj_tn (p := 524) (by decide +kernel), fun _ => ⟨mj_tn (p := 525) (by decide +kernel), mj_tn (p := 526) (by decide +kernel)⟩, fun h => absurd h (by decide), fun h => absurd h (by decide)⟩
set_option maxRecDepth 20000 in
theorem mj_lk_ok_4_50 : mj_okL 4 50 (0, mq_Passes_countPasses) := ⟨ok_mq_Passes_countPasses, mj_tn (p := 536) (by decide +kernel), fun _ => ⟨mj_tn (p := 538) (by decide +kernel), mj_tn (p := 8) (by decide +kernel)⟩, fun h => absurd h (by decide), fun h => absurd h (by decide)⟩
set_option maxRecDepth 20000 in
theorem mj_lk_ok_4_53 : mj_okL 4 53 (0, mq_Passes_fold) := ⟨ok_mq_Passes_fold, mj_tn (p := 544) (by decide +kernel), fun _ => ⟨mj_tn (p := 546) (by decide +kernel), mj_tn (p := 9) (by decide +kernel)⟩, fun h => absurd h (by decide), fun h => absurd h (by decide)⟩
set_option maxRecDepth 20000 in
theorem mj_lk_ok_4_57 : mj_okL 4 57 (0, mq_Passes_drop) := ⟨ok_mq_Passes_drop, mj_tn (p := 562) (by decide +kernel), fun _ => ⟨mj_tn (p := 564) (by decide +kernel), mj_tn (p := 11) (by decide +kernel)⟩, fun h => absurd h (by decide), fun h => absurd h (by decide)⟩
set_option maxRecDepth 20000 in
theorem mj_lk_ok_4_60 : mj_okL 4 60 (0, mq_Passes_thread) := ⟨ok_mq_Passes_thread, mj_tn (p := 573) (by decide +kernel), fun _ => ⟨mj_tn (p := 575) (by decide +kernel), mj_tn (p := 12) (by decide +kernel)⟩, fun h => absurd h (by decide), fun h => absurd h (by decide)⟩
set_option maxRecDepth 20000 in
theorem mj_lk_ok_4_63 : mj_okL 4 63 (0, mq_Passes_pack) := ⟨ok_mq_Passes_pack, mj_tn (p := 579) (by decide +kernel), fun _ => ⟨mj_tn (p := 581) (by decide +kernel), mj_tn (p := 13) (by decide +kernel)⟩, fun h => absurd h (by decide), fun h => absurd h (by decide)⟩
set_option maxRecDepth 20000 in
theorem mj_lk_ok_4_72 : mj_okL 4 72 (0, mq_Passes_testifyFold) := ⟨ok_mq_Passes_testifyFold, mj_tn (p := 592) (by decide +kernel), fun _ => ⟨mj_tn (p := 594) (by decide +kernel), mj_tn (p := 15) (by decide +kernel)⟩, fun h => absurd h (by decide), fun h => absurd h (by decide)⟩
set_option maxRecDepth 20000 in
theorem mj_lk_ok_4_76 : mj_okL 4 76 (0, mq_Passes_testifyDrop) := ⟨ok_mq_Passes_testifyDrop, mj_tn (p := 606) (by decide +kernel), fun _ => ⟨mj_tn (p := 608) (by decide +kernel), mj_tn (p := 16) (by decide +kernel)⟩, fun h => absurd h (by decide), fun h => absurd h (by decide)⟩
set_option maxRecDepth 20000 in
theorem mj_lk_ok_4_79 : mj_okL 4 79 (0, mq_Passes_testifyThread) := ⟨ok_mq_Passes_testifyThread, mj_tn (p := 610) (by decide +kernel), fun _ => ⟨mj_tn (p := 612) (by decide +kernel), mj_tn (p := 17) (by decide +kernel)⟩, fun h => absurd h (by decide), fun h => absurd h (by decide)⟩
set_option maxRecDepth 20000 in
theorem mj_lk_ok_4_82 : mj_okL 4 82 (0, mq_Passes_testifyPack) := ⟨ok_mq_Passes_testifyPack, mj_tn (p := 619) (by decide +kernel), fun _ => ⟨mj_tn (p := 621) (by decide +kernel), mj_tn (p := 18) (by decide +kernel)⟩, fun h => absurd h (by decide), fun h => absurd h (by decide)⟩
set_option maxRecDepth 20000 in
theorem mj_lk_ok_4_85 : mj_okL 4 85 (0, mq_Routine_copyFrom) := ⟨ok_mq_Routine_copyFrom, mj_tn (p := 548) (by decide +kernel), fun _ => ⟨mj_tn (p := 549) (by decide +kernel), mj_tn (p := 550) (by decide +kernel)⟩, fun h => absurd h (by decide), fun h => absurd h (by decide)⟩
set_option maxRecDepth 20000 in
theorem mj_lk_ok_4_88 : mj_okL 4 88 (0, mq_Passes_study) := ⟨ok_mq_Passes_study, mj_tn (p := 634) (by decide +kernel), fun _ => ⟨mj_tn (p := 437) (by decide +kernel), mj_tn (p := 438) (by decide +kernel)⟩, fun h => absurd h (by decide), fun h => absurd h (by decide)⟩
set_option maxRecDepth 20000 in
theorem mj_lk_ok_4_91 : mj_okL 4 91 (0, mq_Passes_make) := ⟨ok_mq_Passes_make, mj_tn (p := 635) (by decide +kernel), fun _ => ⟨mj_tn (p := 541) (by decide +kernel), mj_tn (p := 542) (by decide +kernel)⟩, fun h => absurd h (by decide), fun h => absurd h (by decide)⟩
set_option maxRecDepth 20000 in
theorem mj_lk_ok_4_95 : mj_okL 4 95 (0, mq_Routine_hasActsOf) := ⟨ok_mq_Routine_hasActsOf, mj_tn (p := 636) (by decide +kernel), fun _ => ⟨mj_tn (p := 637) (by decide +kernel), mj_tn (p := 638) (by decide +kernel)⟩, fun h => absurd h (by decide), fun h => absurd h (by decide)⟩
set_option maxRecDepth 20000 in
theorem mj_lk_ok_4_104 : mj_okL 4 104 (0, mq_Passes_foldAct) := ⟨ok_mq_Passes_foldAct, mj_tn (p := 552) (by decide +kernel), fun _ => ⟨mj_tn (p := 554) (by decide +kernel), mj_tn (p := 10) (by decide +kernel)⟩, fun h => absurd h (by decide), fun h => absurd h (by decide)⟩
set_option maxRecDepth 20000 in
theorem mj_lk_ok_4_115 : mj_okL 4 115 (0, mq_Knowledge_isKnown) := ⟨ok_mq_Knowledge_isKnown, mj_tn (p := 556) (by decide +kernel), fun _ => ⟨mj_tn (p := 464) (by decide +kernel), mj_tn (p := 465) (by decide +kernel)⟩, fun h => absurd h (by decide), fun h => absurd h (by decide)⟩
set_option maxRecDepth 20000 in
theorem mj_lk_ok_4_119 : mj_okL 4 119 (0, mq_Knowledge_isKnownAsZero) := ⟨ok_mq_Knowledge_isKnownAsZero, mj_tn (p := 557) (by decide +kernel), fun _ => ⟨mj_tn (p := 460) (by decide +kernel), mj_tn (p := 461) (by decide +kernel)⟩, fun h => absurd h (by decide), fun h => absurd h (by decide)⟩
set_option maxRecDepth 20000 in
theorem mj_lk_ok_4_122 : mj_okL 4 122 (0, mq_Routine_put) := ⟨ok_mq_Routine_put, mj_tn (p := 558) (by decide +kernel), fun _ => ⟨mj_tn (p := 420) (by decide +kernel), mj_tn (p := 421) (by decide +kernel)⟩, fun h => absurd h (by decide), fun h => absurd h (by decide)⟩
set_option maxRecDepth 20000 in
theorem mj_lk_ok_4_129 : mj_okL 4 129 (1, mq_Code_isReckoning) := ⟨ok_mq_Code_isReckoning, mj_tn (p := 559) (by decide +kernel), fun h => absurd h (by decide), fun _ => mj_tn (p := 413) (by decide +kernel), fun h => absurd h (by decide)⟩
set_option maxRecDepth 20000 in
theorem mj_lk_ok_4_133 : mj_okL 4 133 (0, mq_Knowledge_knowsResult) := ⟨ok_mq_Knowledge_knowsResult, mj_tn (p := 560) (by decide +kernel), fun _ => ⟨mj_tn (p := 479) (by decide +kernel), mj_tn (p := 480) (by decide +kernel)⟩, fun h => absurd h (by decide), fun h => absurd h (by decide)⟩
set_option maxRecDepth 20000 in
theorem mj_lk_ok_4_137 : mj_okL 4 137 (0, mq_Knowledge_resultOf) := ⟨ok_mq_Knowledge_resultOf, mj_tn (p := 561) (by decide +kernel), fun _ => ⟨mj_tn (p := 484) (by decide +kernel), mj_tn (p := 485) (by decide +kernel)⟩, fun h => absurd h (by decide), fun h => absurd h (by decide)⟩
set_option maxRecDepth 20000 in
theorem mj_lk_ok_4_141 : mj_okL 4 141 (0, mq_Witness_append) := ⟨ok_mq_Witness_append, mj_tn (p := 596) (by decide +kernel), fun _ => ⟨mj_tn (p := 597) (by decide +kernel), mj_tn (p := 598) (by decide +kernel)⟩, fun h => absurd h (by decide), fun h => absurd h (by decide)⟩
set_option maxRecDepth 20000 in
theorem mj_lk_ok_4_145 : mj_okL 4 145 (0, mq_Knowledge_numberIn) := ⟨ok_mq_Knowledge_numberIn, mj_tn (p := 604) (by decide +kernel), fun _ => ⟨mj_tn (p := 468) (by decide +kernel), mj_tn (p := 469) (by decide +kernel)⟩, fun h => absurd h (by decide), fun h => absurd h (by decide)⟩
set_option maxRecDepth 20000 in
theorem mj_lk_ok_4_149 : mj_okL 4 149 (0, mq_Witness_setClaim) := ⟨ok_mq_Witness_setClaim, mj_tn (p := 605) (by decide +kernel), fun _ => ⟨mj_tn (p := 601) (by decide +kernel), mj_tn (p := 602) (by decide +kernel)⟩, fun h => absurd h (by decide), fun h => absurd h (by decide)⟩
set_option maxRecDepth 20000 in
theorem mj_lk_ok_4_153 : mj_okL 4 153 (1, mq_Passes_isDroppable) := ⟨ok_mq_Passes_isDroppable, mj_tn (p := 566) (by decide +kernel), fun h => absurd h (by decide), fun _ => mj_tn (p := 567) (by decide +kernel), fun h => absurd h (by decide)⟩
set_option maxRecDepth 20000 in
theorem mj_lk_ok_4_156 : mj_okL 4 156 (0, mq_Liveness_isLive) := ⟨ok_mq_Liveness_isLive, mj_tn (p := 569) (by decide +kernel), fun _ => ⟨mj_tn (p := 570) (by decide +kernel), mj_tn (p := 571) (by decide +kernel)⟩, fun h => absurd h (by decide), fun h => absurd h (by decide)⟩
set_option maxRecDepth 20000 in
theorem mj_lk_ok_4_159 : mj_okL 4 159 (1, mq_Code_goesToY) := ⟨ok_mq_Code_goesToY, mj_tn (p := 577) (by decide +kernel), fun h => absurd h (by decide), fun _ => mj_tn (p := 498) (by decide +kernel), fun h => absurd h (by decide)⟩
set_option maxRecDepth 20000 in
theorem mj_lk_ok_4_165 : mj_okL 4 165 (0, mq_Routine_target) := ⟨ok_mq_Routine_target, mj_tn (p := 578) (by decide +kernel), fun _ => ⟨mj_tn (p := 501) (by decide +kernel), mj_tn (p := 502) (by decide +kernel)⟩, fun h => absurd h (by decide), fun h => absurd h (by decide)⟩
set_option maxRecDepth 20000 in
theorem mj_lk_ok_4_169 : mj_okL 4 169 (0, mq_Witness_appendAllSame) := ⟨ok_mq_Witness_appendAllSame, mj_tn (p := 614) (by decide +kernel), fun _ => ⟨mj_tn (p := 615) (by decide +kernel), mj_tn (p := 616) (by decide +kernel)⟩, fun h => absurd h (by decide), fun h => absurd h (by decide)⟩
set_option maxRecDepth 20000 in
theorem mj_lk_ok_4_176 : mj_okL 4 176 (0, mq_Passes_packedPlace) := ⟨ok_mq_Passes_packedPlace, mj_tn (p := 583) (by decide +kernel), fun _ => ⟨mj_tn (p := 585) (by decide +kernel), mj_tn (p := 14) (by decide +kernel)⟩, fun h => absurd h (by decide), fun h => absurd h (by decide)⟩
set_option maxRecDepth 20000 in
theorem mj_lk_ok_4_182 : mj_okL 4 182 (0, mq_Routine_append) := ⟨ok_mq_Routine_append, mj_tn (p := 587) (by decide +kernel), fun _ => ⟨mj_tn (p := 416) (by decide +kernel), mj_tn (p := 417) (by decide +kernel)⟩, fun h => absurd h (by decide), fun h => absurd h (by decide)⟩
set_option maxRecDepth 20000 in
theorem mj_lk_ok_4_183 : mj_okL 4 183 (1, mq_Passes_passesInRow) := ⟨ok_mq_Passes_passesInRow, mj_tn (p := 623) (by decide +kernel), fun h => absurd h (by decide), fun _ => mj_tn (p := 624) (by decide +kernel), fun h => absurd h (by decide)⟩
theorem mj_lk_ok_4 : ∀ e ∈ mj_lk_4, mj_okL 4 e.1 e.2 := by
  exact List.forall_mem_cons.mpr ⟨mj_lk_ok_4_21, List.forall_mem_cons.mpr ⟨mj_lk_ok_4_32, List.forall_mem_cons.mpr ⟨mj_lk_ok_4_40, List.forall_mem_cons.mpr ⟨mj_lk_ok_4_46, List.forall_mem_cons.mpr ⟨mj_lk_ok_4_49, List.forall_mem_cons.mpr ⟨mj_lk_ok_4_50, List.forall_mem_cons.mpr ⟨mj_lk_ok_4_53, List.forall_mem_cons.mpr ⟨mj_lk_ok_4_57, List.forall_mem_cons.mpr ⟨mj_lk_ok_4_60, List.forall_mem_cons.mpr ⟨mj_lk_ok_4_63, List.forall_mem_cons.mpr ⟨mj_lk_ok_4_72, List.forall_mem_cons.mpr ⟨mj_lk_ok_4_76, List.forall_mem_cons.mpr ⟨mj_lk_ok_4_79, List.forall_mem_cons.mpr ⟨mj_lk_ok_4_82, List.forall_mem_cons.mpr ⟨mj_lk_ok_4_85, List.forall_mem_cons.mpr ⟨mj_lk_ok_4_88, List.forall_mem_cons.mpr ⟨mj_lk_ok_4_91, List.forall_mem_cons.mpr ⟨mj_lk_ok_4_95, List.forall_mem_cons.mpr ⟨mj_lk_ok_4_104, List.forall_mem_cons.mpr ⟨mj_lk_ok_4_115, List.forall_mem_cons.mpr ⟨mj_lk_ok_4_119, List.forall_mem_cons.mpr ⟨mj_lk_ok_4_122, List.forall_mem_cons.mpr ⟨mj_lk_ok_4_129, List.forall_mem_cons.mpr ⟨mj_lk_ok_4_133, List.forall_mem_cons.mpr ⟨mj_lk_ok_4_137, List.forall_mem_cons.mpr ⟨mj_lk_ok_4_141, List.forall_mem_cons.mpr ⟨mj_lk_ok_4_145, List.forall_mem_cons.mpr ⟨mj_lk_ok_4_149, List.forall_mem_cons.mpr ⟨mj_lk_ok_4_153, List.forall_mem_cons.mpr ⟨mj_lk_ok_4_156, List.forall_mem_cons.mpr ⟨mj_lk_ok_4_159, List.forall_mem_cons.mpr ⟨mj_lk_ok_4_165, List.forall_mem_cons.mpr ⟨mj_lk_ok_4_169, List.forall_mem_cons.mpr ⟨mj_lk_ok_4_176, List.forall_mem_cons.mpr ⟨mj_lk_ok_4_182, List.forall_mem_cons.mpr ⟨mj_lk_ok_4_183, fun _ h => absurd h List.not_mem_nil⟩⟩⟩⟩⟩⟩⟩⟩⟩⟩⟩⟩⟩⟩⟩⟩⟩⟩⟩⟩⟩⟩⟩⟩⟩⟩⟩⟩⟩⟩⟩⟩⟩⟩⟩⟩
set_option maxRecDepth 20000 in
theorem mj_lk_ok_5_39 : mj_okL 5 39 (0, mq_Runner_doAct) := ⟨ok_mq_Runner_doAct, mj_tn (p := 692) (by decide +kernel), fun _ => ⟨mj_tn (p := 694) (by decide +kernel), mj_tn (p := 20) (by decide +kernel)⟩, fun h => absurd h (by decide), fun h => absurd h (by decide)⟩
set_option maxRecDepth 20000 in
theorem mj_lk_ok_5_53 : mj_okL 5 53 (0, mq_Runner_readInto) := ⟨ok_mq_Runner_readInto, mj_tn (p := 696) (by decide +kernel), fun _ => ⟨mj_tn (p := 698) (by decide +kernel), mj_tn (p := 21) (by decide +kernel)⟩, fun h => absurd h (by decide), fun h => absurd h (by decide)⟩
set_option maxRecDepth 20000 in
theorem mj_lk_ok_5_57 : mj_okL 5 57 (0, mq_Runner_giveOut) := ⟨ok_mq_Runner_giveOut, mj_tn (p := 700) (by decide +kernel), fun _ => ⟨mj_tn (p := 702) (by decide +kernel), mj_tn (p := 22) (by decide +kernel)⟩, fun h => absurd h (by decide), fun h => absurd h (by decide)⟩
set_option maxRecDepth 20000 in
theorem mj_lk_ok_5_61 : mj_okL 5 61 (0, mq_Routine_target) := ⟨ok_mq_Routine_target, mj_tn (p := 704) (by decide +kernel), fun _ => ⟨mj_tn (p := 501) (by decide +kernel), mj_tn (p := 502) (by decide +kernel)⟩, fun h => absurd h (by decide), fun h => absurd h (by decide)⟩
set_option maxRecDepth 20000 in
theorem mj_lk_ok_5_68 : mj_okL 5 68 (0, mq_Runner_reckonInto) := ⟨ok_mq_Runner_reckonInto, mj_tn (p := 705) (by decide +kernel), fun _ => ⟨mj_tn (p := 707) (by decide +kernel), mj_tn (p := 23) (by decide +kernel)⟩, fun h => absurd h (by decide), fun h => absurd h (by decide)⟩
set_option maxRecDepth 20000 in
theorem mj_lk_ok_5_72 : mj_okL 5 72 (1, mq_Code_isDivision) := ⟨ok_mq_Code_isDivision, mj_tn (p := 709) (by decide +kernel), fun h => absurd h (by decide), fun _ => mj_tn (p := 457) (by decide +kernel), fun h => absurd h (by decide)⟩
set_option maxRecDepth 20000 in
theorem mj_lk_ok_5_78 : mj_okL 5 78 (1, mq_Code_reckon) := ⟨ok_mq_Code_reckon, mj_tn (p := 710) (by decide +kernel), fun h => absurd h (by decide), fun _ => mj_tn (p := 488) (by decide +kernel), fun h => absurd h (by decide)⟩
theorem mj_lk_ok_5 : ∀ e ∈ mj_lk_5, mj_okL 5 e.1 e.2 := by
  exact List.forall_mem_cons.mpr ⟨mj_lk_ok_5_39, List.forall_mem_cons.mpr ⟨mj_lk_ok_5_53, List.forall_mem_cons.mpr ⟨mj_lk_ok_5_57, List.forall_mem_cons.mpr ⟨mj_lk_ok_5_61, List.forall_mem_cons.mpr ⟨mj_lk_ok_5_68, List.forall_mem_cons.mpr ⟨mj_lk_ok_5_72, List.forall_mem_cons.mpr ⟨mj_lk_ok_5_78, fun _ h => absurd h List.not_mem_nil⟩⟩⟩⟩⟩⟩⟩
set_option maxRecDepth 20000 in
theorem mj_lk_ok_6_28 : mj_okL 6 28 (0, mq_Routine_placeFor) := ⟨ok_mq_Routine_placeFor, mj_tn (p := 504) (by decide +kernel), fun _ => ⟨mj_tn (p := 505) (by decide +kernel), mj_tn (p := 506) (by decide +kernel)⟩, fun h => absurd h (by decide), fun h => absurd h (by decide)⟩
set_option maxRecDepth 20000 in
theorem mj_lk_ok_6_32 : mj_okL 6 32 (0, mq_Routine_put) := ⟨ok_mq_Routine_put, mj_tn (p := 419) (by decide +kernel), fun _ => ⟨mj_tn (p := 420) (by decide +kernel), mj_tn (p := 421) (by decide +kernel)⟩, fun h => absurd h (by decide), fun h => absurd h (by decide)⟩
theorem mj_lk_ok_6 : ∀ e ∈ mj_lk_6, mj_okL 6 e.1 e.2 := by
  exact List.forall_mem_cons.mpr ⟨mj_lk_ok_6_28, List.forall_mem_cons.mpr ⟨mj_lk_ok_6_32, fun _ h => absurd h List.not_mem_nil⟩⟩
set_option maxRecDepth 20000 in
theorem mj_lk_ok_7_17 : mj_okL 7 17 (2, mq_Routine_init) := ⟨ok_mq_Routine_init, mj_tn (p := 316) (by decide +kernel), fun h => absurd h (by decide), fun h => absurd h (by decide), fun _ => ⟨mj_tn (p := 94) (by decide +kernel), rfl, rfl⟩⟩
set_option maxRecDepth 20000 in
theorem mj_lk_ok_7_51 : mj_okL 7 51 (0, mq_Routine_placeFor) := ⟨ok_mq_Routine_placeFor, mj_tn (p := 782) (by decide +kernel), fun _ => ⟨mj_tn (p := 505) (by decide +kernel), mj_tn (p := 506) (by decide +kernel)⟩, fun h => absurd h (by decide), fun h => absurd h (by decide)⟩
set_option maxRecDepth 20000 in
theorem mj_lk_ok_7_55 : mj_okL 7 55 (0, mq_Side_placeFor) := ⟨ok_mq_Side_placeFor, mj_tn (p := 799) (by decide +kernel), fun _ => ⟨mj_tn (p := 779) (by decide +kernel), mj_tn (p := 780) (by decide +kernel)⟩, fun h => absurd h (by decide), fun h => absurd h (by decide)⟩
set_option maxRecDepth 20000 in
theorem mj_lk_ok_7_56 : mj_okL 7 56 (0, mq_Witness_claimOn) := ⟨ok_mq_Witness_claimOn, mj_tn (p := 800) (by decide +kernel), fun _ => ⟨mj_tn (p := 746) (by decide +kernel), mj_tn (p := 747) (by decide +kernel)⟩, fun h => absurd h (by decide), fun h => absurd h (by decide)⟩
set_option maxRecDepth 20000 in
theorem mj_lk_ok_7_62 : mj_okL 7 62 (0, mq_Witness_numberOn) := ⟨ok_mq_Witness_numberOn, mj_tn (p := 801) (by decide +kernel), fun _ => ⟨mj_tn (p := 759) (by decide +kernel), mj_tn (p := 760) (by decide +kernel)⟩, fun h => absurd h (by decide), fun h => absurd h (by decide)⟩
set_option maxRecDepth 20000 in
theorem mj_lk_ok_7_81 : mj_okL 7 81 (0, mq_Side_isAtEnd) := ⟨ok_mq_Side_isAtEnd, mj_tn (p := 810) (by decide +kernel), fun _ => ⟨mj_tn (p := 811) (by decide +kernel), mj_tn (p := 812) (by decide +kernel)⟩, fun h => absurd h (by decide), fun h => absurd h (by decide)⟩
set_option maxRecDepth 20000 in
theorem mj_lk_ok_7_85 : mj_okL 7 85 (0, mq_Side_kindHere) := ⟨ok_mq_Side_kindHere, mj_tn (p := 814) (by decide +kernel), fun _ => ⟨mj_tn (p := 815) (by decide +kernel), mj_tn (p := 816) (by decide +kernel)⟩, fun h => absurd h (by decide), fun h => absurd h (by decide)⟩
set_option maxRecDepth 20000 in
theorem mj_lk_ok_7_89 : mj_okL 7 89 (1, mq_Code_isDivision) := ⟨ok_mq_Code_isDivision, mj_tn (p := 818) (by decide +kernel), fun h => absurd h (by decide), fun _ => mj_tn (p := 457) (by decide +kernel), fun h => absurd h (by decide)⟩
set_option maxRecDepth 20000 in
theorem mj_lk_ok_7_93 : mj_okL 7 93 (0, mq_Side_zHere) := ⟨ok_mq_Side_zHere, mj_tn (p := 819) (by decide +kernel), fun _ => ⟨mj_tn (p := 820) (by decide +kernel), mj_tn (p := 821) (by decide +kernel)⟩, fun h => absurd h (by decide), fun h => absurd h (by decide)⟩
set_option maxRecDepth 20000 in
theorem mj_lk_ok_7_96 : mj_okL 7 96 (0, mq_Side_hasNumber) := ⟨ok_mq_Side_hasNumber, mj_tn (p := 823) (by decide +kernel), fun _ => ⟨mj_tn (p := 824) (by decide +kernel), mj_tn (p := 825) (by decide +kernel)⟩, fun h => absurd h (by decide), fun h => absurd h (by decide)⟩
set_option maxRecDepth 20000 in
theorem mj_lk_ok_7_99 : mj_okL 7 99 (0, mq_Side_xHere) := ⟨ok_mq_Side_xHere, mj_tn (p := 827) (by decide +kernel), fun _ => ⟨mj_tn (p := 828) (by decide +kernel), mj_tn (p := 829) (by decide +kernel)⟩, fun h => absurd h (by decide), fun h => absurd h (by decide)⟩
set_option maxRecDepth 20000 in
theorem mj_lk_ok_7_102 : mj_okL 7 102 (0, mq_Side_hasAsNumber) := ⟨ok_mq_Side_hasAsNumber, mj_tn (p := 844) (by decide +kernel), fun _ => ⟨mj_tn (p := 845) (by decide +kernel), mj_tn (p := 846) (by decide +kernel)⟩, fun h => absurd h (by decide), fun h => absurd h (by decide)⟩
set_option maxRecDepth 20000 in
theorem mj_lk_ok_7_106 : mj_okL 7 106 (0, mq_Side_yHere) := ⟨ok_mq_Side_yHere, mj_tn (p := 840) (by decide +kernel), fun _ => ⟨mj_tn (p := 841) (by decide +kernel), mj_tn (p := 842) (by decide +kernel)⟩, fun h => absurd h (by decide), fun h => absurd h (by decide)⟩
set_option maxRecDepth 20000 in
theorem mj_lk_ok_7_109 : mj_okL 7 109 (0, mq_Routine_target) := ⟨ok_mq_Routine_target, mj_tn (p := 835) (by decide +kernel), fun _ => ⟨mj_tn (p := 501) (by decide +kernel), mj_tn (p := 502) (by decide +kernel)⟩, fun h => absurd h (by decide), fun h => absurd h (by decide)⟩
set_option maxRecDepth 20000 in
theorem mj_lk_ok_7_112 : mj_okL 7 112 (0, mq_Side_changeX) := ⟨ok_mq_Side_changeX, mj_tn (p := 836) (by decide +kernel), fun _ => ⟨mj_tn (p := 837) (by decide +kernel), mj_tn (p := 838) (by decide +kernel)⟩, fun h => absurd h (by decide), fun h => absurd h (by decide)⟩
set_option maxRecDepth 20000 in
theorem mj_lk_ok_7_115 : mj_okL 7 115 (1, mq_Code_isReckoning) := ⟨ok_mq_Code_isReckoning, mj_tn (p := 848) (by decide +kernel), fun h => absurd h (by decide), fun _ => mj_tn (p := 413) (by decide +kernel), fun h => absurd h (by decide)⟩
set_option maxRecDepth 20000 in
theorem mj_lk_ok_7_118 : mj_okL 7 118 (1, mq_Code_reckon) := ⟨ok_mq_Code_reckon, mj_tn (p := 849) (by decide +kernel), fun h => absurd h (by decide), fun _ => mj_tn (p := 488) (by decide +kernel), fun h => absurd h (by decide)⟩
set_option maxRecDepth 20000 in
theorem mj_lk_ok_7_122 : mj_okL 7 122 (0, mq_Side_makeThing) := ⟨ok_mq_Side_makeThing, mj_tn (p := 850) (by decide +kernel), fun _ => ⟨mj_tn (p := 852) (by decide +kernel), mj_tn (p := 28) (by decide +kernel)⟩, fun h => absurd h (by decide), fun h => absurd h (by decide)⟩
theorem mj_lk_ok_7 : ∀ e ∈ mj_lk_7, mj_okL 7 e.1 e.2 := by
  exact List.forall_mem_cons.mpr ⟨mj_lk_ok_7_17, List.forall_mem_cons.mpr ⟨mj_lk_ok_7_51, List.forall_mem_cons.mpr ⟨mj_lk_ok_7_55, List.forall_mem_cons.mpr ⟨mj_lk_ok_7_56, List.forall_mem_cons.mpr ⟨mj_lk_ok_7_62, List.forall_mem_cons.mpr ⟨mj_lk_ok_7_81, List.forall_mem_cons.mpr ⟨mj_lk_ok_7_85, List.forall_mem_cons.mpr ⟨mj_lk_ok_7_89, List.forall_mem_cons.mpr ⟨mj_lk_ok_7_93, List.forall_mem_cons.mpr ⟨mj_lk_ok_7_96, List.forall_mem_cons.mpr ⟨mj_lk_ok_7_99, List.forall_mem_cons.mpr ⟨mj_lk_ok_7_102, List.forall_mem_cons.mpr ⟨mj_lk_ok_7_106, List.forall_mem_cons.mpr ⟨mj_lk_ok_7_109, List.forall_mem_cons.mpr ⟨mj_lk_ok_7_112, List.forall_mem_cons.mpr ⟨mj_lk_ok_7_115, List.forall_mem_cons.mpr ⟨mj_lk_ok_7_118, List.forall_mem_cons.mpr ⟨mj_lk_ok_7_122, fun _ h => absurd h List.not_mem_nil⟩⟩⟩⟩⟩⟩⟩⟩⟩⟩⟩⟩⟩⟩⟩⟩⟩⟩
set_option maxRecDepth 20000 in
theorem mj_lk_ok_8_35 : mj_okL 8 35 (0, mq_Witness_setClaim) := ⟨ok_mq_Witness_setClaim, mj_tn (p := 600) (by decide +kernel), fun _ => ⟨mj_tn (p := 601) (by decide +kernel), mj_tn (p := 602) (by decide +kernel)⟩, fun h => absurd h (by decide), fun h => absurd h (by decide)⟩
set_option maxRecDepth 20000 in
theorem mj_lk_ok_8_39 : mj_okL 8 39 (0, mq_Witness_append) := ⟨ok_mq_Witness_append, mj_tn (p := 618) (by decide +kernel), fun _ => ⟨mj_tn (p := 597) (by decide +kernel), mj_tn (p := 598) (by decide +kernel)⟩, fun h => absurd h (by decide), fun h => absurd h (by decide)⟩
theorem mj_lk_ok_8 : ∀ e ∈ mj_lk_8, mj_okL 8 e.1 e.2 := by
  exact List.forall_mem_cons.mpr ⟨mj_lk_ok_8_35, List.forall_mem_cons.mpr ⟨mj_lk_ok_8_39, fun _ h => absurd h List.not_mem_nil⟩⟩
set_option maxRecDepth 20000 in
theorem mj_lk_ok_9_15 : mj_okL 9 15 (2, mq_Routine_init) := ⟨ok_mq_Routine_init, mj_tn (p := 93) (by decide +kernel), fun h => absurd h (by decide), fun h => absurd h (by decide), fun _ => ⟨mj_tn (p := 94) (by decide +kernel), rfl, rfl⟩⟩
set_option maxRecDepth 20000 in
theorem mj_lk_ok_9_22 : mj_okL 9 22 (2, mq_Knowledge_init) := ⟨ok_mq_Knowledge_init, mj_tn (p := 148) (by decide +kernel), fun h => absurd h (by decide), fun h => absurd h (by decide), fun _ => ⟨mj_tn (p := 149) (by decide +kernel), rfl, rfl⟩⟩
set_option maxRecDepth 20000 in
theorem mj_lk_ok_9_29 : mj_okL 9 29 (2, mq_Liveness_init) := ⟨ok_mq_Liveness_init, mj_tn (p := 180) (by decide +kernel), fun h => absurd h (by decide), fun h => absurd h (by decide), fun _ => ⟨mj_tn (p := 181) (by decide +kernel), rfl, rfl⟩⟩
set_option maxRecDepth 20000 in
theorem mj_lk_ok_9_36 : mj_okL 9 36 (2, mq_Passes_init) := ⟨ok_mq_Passes_init, mj_tn (p := 190) (by decide +kernel), fun h => absurd h (by decide), fun h => absurd h (by decide), fun _ => ⟨mj_tn (p := 191) (by decide +kernel), rfl, rfl⟩⟩
set_option maxRecDepth 20000 in
theorem mj_lk_ok_9_45 : mj_okL 9 45 (2, mq_Runner_init) := ⟨ok_mq_Runner_init, mj_tn (p := 232) (by decide +kernel), fun h => absurd h (by decide), fun h => absurd h (by decide), fun _ => ⟨mj_tn (p := 233) (by decide +kernel), rfl, rfl⟩⟩
set_option maxRecDepth 20000 in
theorem mj_lk_ok_9_52 : mj_okL 9 52 (2, mq_Witness_init) := ⟨ok_mq_Witness_init, mj_tn (p := 266) (by decide +kernel), fun h => absurd h (by decide), fun h => absurd h (by decide), fun _ => ⟨mj_tn (p := 267) (by decide +kernel), rfl, rfl⟩⟩
set_option maxRecDepth 20000 in
theorem mj_lk_ok_9_59 : mj_okL 9 59 (2, mq_Judge_init) := ⟨ok_mq_Judge_init, mj_tn (p := 305) (by decide +kernel), fun h => absurd h (by decide), fun h => absurd h (by decide), fun _ => ⟨mj_tn (p := 306) (by decide +kernel), rfl, rfl⟩⟩
set_option maxRecDepth 20000 in
theorem mj_lk_ok_9_66 : mj_okL 9 66 (0, mq_Court_find) := ⟨ok_mq_Court_find, mj_tn (p := 399) (by decide +kernel), fun _ => ⟨mj_tn (p := 401) (by decide +kernel), mj_tn (p := 0) (by decide +kernel)⟩, fun h => absurd h (by decide), fun h => absurd h (by decide)⟩
set_option maxRecDepth 20000 in
theorem mj_lk_ok_9_73 : mj_okL 9 73 (1, mq_Code_isAct) := ⟨ok_mq_Code_isAct, mj_tn (p := 403) (by decide +kernel), fun h => absurd h (by decide), fun _ => mj_tn (p := 404) (by decide +kernel), fun h => absurd h (by decide)⟩
set_option maxRecDepth 20000 in
theorem mj_lk_ok_9_79 : mj_okL 9 79 (0, mq_Routine_append) := ⟨ok_mq_Routine_append, mj_tn (p := 415) (by decide +kernel), fun _ => ⟨mj_tn (p := 416) (by decide +kernel), mj_tn (p := 417) (by decide +kernel)⟩, fun h => absurd h (by decide), fun h => absurd h (by decide)⟩
set_option maxRecDepth 20000 in
theorem mj_lk_ok_9_97 : mj_okL 9 97 (0, mq_Passes_study) := ⟨ok_mq_Passes_study, mj_tn (p := 436) (by decide +kernel), fun _ => ⟨mj_tn (p := 437) (by decide +kernel), mj_tn (p := 438) (by decide +kernel)⟩, fun h => absurd h (by decide), fun h => absurd h (by decide)⟩
set_option maxRecDepth 20000 in
theorem mj_lk_ok_9_101 : mj_okL 9 101 (0, mq_Passes_make) := ⟨ok_mq_Passes_make, mj_tn (p := 540) (by decide +kernel), fun _ => ⟨mj_tn (p := 541) (by decide +kernel), mj_tn (p := 542) (by decide +kernel)⟩, fun h => absurd h (by decide), fun h => absurd h (by decide)⟩
set_option maxRecDepth 20000 in
theorem mj_lk_ok_9_105 : mj_okL 9 105 (0, mq_Passes_testify) := ⟨ok_mq_Passes_testify, mj_tn (p := 588) (by decide +kernel), fun _ => ⟨mj_tn (p := 589) (by decide +kernel), mj_tn (p := 590) (by decide +kernel)⟩, fun h => absurd h (by decide), fun h => absurd h (by decide)⟩
set_option maxRecDepth 20000 in
theorem mj_lk_ok_9_109 : mj_okL 9 109 (0, mq_Passes_improve) := ⟨ok_mq_Passes_improve, mj_tn (p := 630) (by decide +kernel), fun _ => ⟨mj_tn (p := 631) (by decide +kernel), mj_tn (p := 632) (by decide +kernel)⟩, fun h => absurd h (by decide), fun h => absurd h (by decide)⟩
set_option maxRecDepth 20000 in
theorem mj_lk_ok_9_113 : mj_okL 9 113 (0, mq_Routine_hasActsOf) := ⟨ok_mq_Routine_hasActsOf, mj_tn (p := 644) (by decide +kernel), fun _ => ⟨mj_tn (p := 637) (by decide +kernel), mj_tn (p := 638) (by decide +kernel)⟩, fun h => absurd h (by decide), fun h => absurd h (by decide)⟩
set_option maxRecDepth 20000 in
theorem mj_lk_ok_9_117 : mj_okL 9 117 (0, mq_Court_findWith) := ⟨ok_mq_Court_findWith, mj_tn (p := 649) (by decide +kernel), fun _ => ⟨mj_tn (p := 651) (by decide +kernel), mj_tn (p := 19) (by decide +kernel)⟩, fun h => absurd h (by decide), fun h => absurd h (by decide)⟩
set_option maxRecDepth 20000 in
theorem mj_lk_ok_9_121 : mj_okL 9 121 (0, mq_Knowledge_study) := ⟨ok_mq_Knowledge_study, mj_tn (p := 658) (by decide +kernel), fun _ => ⟨mj_tn (p := 441) (by decide +kernel), mj_tn (p := 442) (by decide +kernel)⟩, fun h => absurd h (by decide), fun h => absurd h (by decide)⟩
set_option maxRecDepth 20000 in
theorem mj_lk_ok_9_128 : mj_okL 9 128 (0, mq_Knowledge_isKnown) := ⟨ok_mq_Knowledge_isKnown, mj_tn (p := 659) (by decide +kernel), fun _ => ⟨mj_tn (p := 464) (by decide +kernel), mj_tn (p := 465) (by decide +kernel)⟩, fun h => absurd h (by decide), fun h => absurd h (by decide)⟩
set_option maxRecDepth 20000 in
theorem mj_lk_ok_9_132 : mj_okL 9 132 (0, mq_Knowledge_numberIn) := ⟨ok_mq_Knowledge_numberIn, mj_tn (p := 664) (by decide +kernel), fun _ => ⟨mj_tn (p := 468) (by decide +kernel), mj_tn (p := 469) (by decide +kernel)⟩, fun h => absurd h (by decide), fun h => absurd h (by decide)⟩
set_option maxRecDepth 20000 in
theorem mj_lk_ok_9_136 : mj_okL 9 136 (0, mq_Liveness_study) := ⟨ok_mq_Liveness_study, mj_tn (p := 669) (by decide +kernel), fun _ => ⟨mj_tn (p := 509) (by decide +kernel), mj_tn (p := 510) (by decide +kernel)⟩, fun h => absurd h (by decide), fun h => absurd h (by decide)⟩
set_option maxRecDepth 20000 in
theorem mj_lk_ok_9_137 : mj_okL 9 137 (0, mq_Liveness_isLive) := ⟨ok_mq_Liveness_isLive, mj_tn (p := 670) (by decide +kernel), fun _ => ⟨mj_tn (p := 570) (by decide +kernel), mj_tn (p := 571) (by decide +kernel)⟩, fun h => absurd h (by decide), fun h => absurd h (by decide)⟩
set_option maxRecDepth 20000 in
theorem mj_lk_ok_9_140 : mj_okL 9 140 (0, mq_Runner_addToFeed) := ⟨ok_mq_Runner_addToFeed, mj_tn (p := 675) (by decide +kernel), fun _ => ⟨mj_tn (p := 676) (by decide +kernel), mj_tn (p := 677) (by decide +kernel)⟩, fun h => absurd h (by decide), fun h => absurd h (by decide)⟩
set_option maxRecDepth 20000 in
theorem mj_lk_ok_9_148 : mj_okL 9 148 (0, mq_Runner_go) := ⟨ok_mq_Runner_go, mj_tn (p := 688) (by decide +kernel), fun _ => ⟨mj_tn (p := 689) (by decide +kernel), mj_tn (p := 690) (by decide +kernel)⟩, fun h => absurd h (by decide), fun h => absurd h (by decide)⟩
set_option maxRecDepth 20000 in
theorem mj_lk_ok_9_165 : mj_okL 9 165 (1, mq_Code_isRegister) := ⟨ok_mq_Code_isRegister, mj_tn (p := 657) (by decide +kernel), fun h => absurd h (by decide), fun _ => mj_tn (p := 407) (by decide +kernel), fun h => absurd h (by decide)⟩
set_option maxRecDepth 20000 in
theorem mj_lk_ok_9_173 : mj_okL 9 173 (1, mq_Code_isPlace) := ⟨ok_mq_Code_isPlace, mj_tn (p := 735) (by decide +kernel), fun h => absurd h (by decide), fun _ => mj_tn (p := 410) (by decide +kernel), fun h => absurd h (by decide)⟩
set_option maxRecDepth 20000 in
theorem mj_lk_ok_9_176 : mj_okL 9 176 (0, mq_Witness_append) := ⟨ok_mq_Witness_append, mj_tn (p := 736) (by decide +kernel), fun _ => ⟨mj_tn (p := 597) (by decide +kernel), mj_tn (p := 598) (by decide +kernel)⟩, fun h => absurd h (by decide), fun h => absurd h (by decide)⟩
set_option maxRecDepth 20000 in
theorem mj_lk_ok_9_177 : mj_okL 9 177 (0, mq_Witness_hasPair) := ⟨ok_mq_Witness_hasPair, mj_tn (p := 741) (by decide +kernel), fun _ => ⟨mj_tn (p := 742) (by decide +kernel), mj_tn (p := 743) (by decide +kernel)⟩, fun h => absurd h (by decide), fun h => absurd h (by decide)⟩
set_option maxRecDepth 20000 in
theorem mj_lk_ok_9_180 : mj_okL 9 180 (0, mq_Witness_claimOn) := ⟨ok_mq_Witness_claimOn, mj_tn (p := 745) (by decide +kernel), fun _ => ⟨mj_tn (p := 746) (by decide +kernel), mj_tn (p := 747) (by decide +kernel)⟩, fun h => absurd h (by decide), fun h => absurd h (by decide)⟩
set_option maxRecDepth 20000 in
theorem mj_lk_ok_9_184 : mj_okL 9 184 (0, mq_Witness_setClaim) := ⟨ok_mq_Witness_setClaim, mj_tn (p := 749) (by decide +kernel), fun _ => ⟨mj_tn (p := 601) (by decide +kernel), mj_tn (p := 602) (by decide +kernel)⟩, fun h => absurd h (by decide), fun h => absurd h (by decide)⟩
set_option maxRecDepth 20000 in
theorem mj_lk_ok_9_200 : mj_okL 9 200 (0, mq_Witness_numberOn) := ⟨ok_mq_Witness_numberOn, mj_tn (p := 758) (by decide +kernel), fun _ => ⟨mj_tn (p := 759) (by decide +kernel), mj_tn (p := 760) (by decide +kernel)⟩, fun h => absurd h (by decide), fun h => absurd h (by decide)⟩
set_option maxRecDepth 20000 in
theorem mj_lk_ok_9_206 : mj_okL 9 206 (0, mq_Judge_hear) := ⟨ok_mq_Judge_hear, mj_tn (p := 766) (by decide +kernel), fun _ => ⟨mj_tn (p := 767) (by decide +kernel), mj_tn (p := 768) (by decide +kernel)⟩, fun h => absurd h (by decide), fun h => absurd h (by decide)⟩
set_option maxRecDepth 20000 in
theorem mj_lk_ok_9_210 : mj_okL 9 210 (0, mq_Routine_hasPlace) := ⟨ok_mq_Routine_hasPlace, mj_tn (p := 653) (by decide +kernel), fun _ => ⟨mj_tn (p := 654) (by decide +kernel), mj_tn (p := 655) (by decide +kernel)⟩, fun h => absurd h (by decide), fun h => absurd h (by decide)⟩
theorem mj_lk_ok_9 : ∀ e ∈ mj_lk_9, mj_okL 9 e.1 e.2 := by
  exact List.forall_mem_cons.mpr ⟨mj_lk_ok_9_15, List.forall_mem_cons.mpr ⟨mj_lk_ok_9_22, List.forall_mem_cons.mpr ⟨mj_lk_ok_9_29, List.forall_mem_cons.mpr ⟨mj_lk_ok_9_36, List.forall_mem_cons.mpr ⟨mj_lk_ok_9_45, List.forall_mem_cons.mpr ⟨mj_lk_ok_9_52, List.forall_mem_cons.mpr ⟨mj_lk_ok_9_59, List.forall_mem_cons.mpr ⟨mj_lk_ok_9_66, List.forall_mem_cons.mpr ⟨mj_lk_ok_9_73, List.forall_mem_cons.mpr ⟨mj_lk_ok_9_79, List.forall_mem_cons.mpr ⟨mj_lk_ok_9_97, List.forall_mem_cons.mpr ⟨mj_lk_ok_9_101, List.forall_mem_cons.mpr ⟨mj_lk_ok_9_105, List.forall_mem_cons.mpr ⟨mj_lk_ok_9_109, List.forall_mem_cons.mpr ⟨mj_lk_ok_9_113, List.forall_mem_cons.mpr ⟨mj_lk_ok_9_117, List.forall_mem_cons.mpr ⟨mj_lk_ok_9_121, List.forall_mem_cons.mpr ⟨mj_lk_ok_9_128, List.forall_mem_cons.mpr ⟨mj_lk_ok_9_132, List.forall_mem_cons.mpr ⟨mj_lk_ok_9_136, List.forall_mem_cons.mpr ⟨mj_lk_ok_9_137, List.forall_mem_cons.mpr ⟨mj_lk_ok_9_140, List.forall_mem_cons.mpr ⟨mj_lk_ok_9_148, List.forall_mem_cons.mpr ⟨mj_lk_ok_9_165, List.forall_mem_cons.mpr ⟨mj_lk_ok_9_173, List.forall_mem_cons.mpr ⟨mj_lk_ok_9_176, List.forall_mem_cons.mpr ⟨mj_lk_ok_9_177, List.forall_mem_cons.mpr ⟨mj_lk_ok_9_180, List.forall_mem_cons.mpr ⟨mj_lk_ok_9_184, List.forall_mem_cons.mpr ⟨mj_lk_ok_9_200, List.forall_mem_cons.mpr ⟨mj_lk_ok_9_206, List.forall_mem_cons.mpr ⟨mj_lk_ok_9_210, fun _ h => absurd h List.not_mem_nil⟩⟩⟩⟩⟩⟩⟩⟩⟩⟩⟩⟩⟩⟩⟩⟩⟩⟩⟩⟩⟩⟩⟩⟩⟩⟩⟩⟩⟩⟩⟩⟩
set_option maxRecDepth 20000 in
theorem mj_lk_ok_10_82 : mj_okL 10 82 (1, mq_Model_in) := ⟨ok_mq_Model_in, mj_tn (p := 1030) (by decide +kernel), fun h => absurd h (by decide), fun _ => mj_tn (p := 1031) (by decide +kernel), fun h => absurd h (by decide)⟩
set_option maxRecDepth 20000 in
theorem mj_lk_ok_10_86 : mj_okL 10 86 (0, mq_Model_num) := ⟨ok_mq_Model_num, mj_tn (p := 1047) (by decide +kernel), fun _ => ⟨mj_tn (p := 1049) (by decide +kernel), mj_tn (p := 36) (by decide +kernel)⟩, fun h => absurd h (by decide), fun h => absurd h (by decide)⟩
set_option maxRecDepth 20000 in
theorem mj_lk_ok_10_90 : mj_okL 10 90 (1, mq_Model_isMade) := ⟨ok_mq_Model_isMade, mj_tn (p := 1036) (by decide +kernel), fun h => absurd h (by decide), fun _ => mj_tn (p := 1037) (by decide +kernel), fun h => absurd h (by decide)⟩
set_option maxRecDepth 20000 in
theorem mj_lk_ok_10_94 : mj_okL 10 94 (0, mq_Model_isRoutine) := ⟨ok_mq_Model_isRoutine, mj_tn (p := 1026) (by decide +kernel), fun _ => ⟨mj_tn (p := 1028) (by decide +kernel), mj_tn (p := 34) (by decide +kernel)⟩, fun h => absurd h (by decide), fun h => absurd h (by decide)⟩
set_option maxRecDepth 20000 in
theorem mj_lk_ok_10_97 : mj_okL 10 97 (1, mq_Model_isAct) := ⟨ok_mq_Model_isAct, mj_tn (p := 1033) (by decide +kernel), fun h => absurd h (by decide), fun _ => mj_tn (p := 1034) (by decide +kernel), fun h => absurd h (by decide)⟩
set_option maxRecDepth 20000 in
theorem mj_lk_ok_10_101 : mj_okL 10 101 (0, mq_Model_put) := ⟨ok_mq_Model_put, mj_tn (p := 1039) (by decide +kernel), fun _ => ⟨mj_tn (p := 1041) (by decide +kernel), mj_tn (p := 35) (by decide +kernel)⟩, fun h => absurd h (by decide), fun h => absurd h (by decide)⟩
set_option maxRecDepth 20000 in
theorem mj_lk_ok_10_106 : mj_okL 10 106 (0, mq_Model_areSame) := ⟨ok_mq_Model_areSame, mj_tn (p := 1060) (by decide +kernel), fun _ => ⟨mj_tn (p := 1062) (by decide +kernel), mj_tn (p := 37) (by decide +kernel)⟩, fun h => absurd h (by decide), fun h => absurd h (by decide)⟩
set_option maxRecDepth 20000 in
theorem mj_lk_ok_10_110 : mj_okL 10 110 (0, mq_Model_kind) := ⟨ok_mq_Model_kind, mj_tn (p := 1084) (by decide +kernel), fun _ => ⟨mj_tn (p := 1086) (by decide +kernel), mj_tn (p := 42) (by decide +kernel)⟩, fun h => absurd h (by decide), fun h => absurd h (by decide)⟩
set_option maxRecDepth 20000 in
theorem mj_lk_ok_10_122 : mj_okL 10 122 (0, mq_Model_knows) := ⟨ok_mq_Model_knows, mj_tn (p := 1088) (by decide +kernel), fun _ => ⟨mj_tn (p := 1090) (by decide +kernel), mj_tn (p := 43) (by decide +kernel)⟩, fun h => absurd h (by decide), fun h => absurd h (by decide)⟩
set_option maxRecDepth 20000 in
theorem mj_lk_ok_10_125 : mj_okL 10 125 (0, mq_Model_as) := ⟨ok_mq_Model_as, mj_tn (p := 1092) (by decide +kernel), fun _ => ⟨mj_tn (p := 1094) (by decide +kernel), mj_tn (p := 44) (by decide +kernel)⟩, fun h => absurd h (by decide), fun h => absurd h (by decide)⟩
set_option maxRecDepth 20000 in
theorem mj_lk_ok_10_129 : mj_okL 10 129 (1, mq_Model_made) := ⟨ok_mq_Model_made, mj_tn (p := 1104) (by decide +kernel), fun h => absurd h (by decide), fun _ => mj_tn (p := 1105) (by decide +kernel), fun h => absurd h (by decide)⟩
set_option maxRecDepth 20000 in
theorem mj_lk_ok_10_133 : mj_okL 10 133 (0, mq_Model_knowsBehind) := ⟨ok_mq_Model_knowsBehind, mj_tn (p := 1100) (by decide +kernel), fun _ => ⟨mj_tn (p := 1102) (by decide +kernel), mj_tn (p := 46) (by decide +kernel)⟩, fun h => absurd h (by decide), fun h => absurd h (by decide)⟩
set_option maxRecDepth 20000 in
theorem mj_lk_ok_10_136 : mj_okL 10 136 (1, mq_Model_makes) := ⟨ok_mq_Model_makes, mj_tn (p := 1107) (by decide +kernel), fun h => absurd h (by decide), fun _ => mj_tn (p := 1108) (by decide +kernel), fun h => absurd h (by decide)⟩
set_option maxRecDepth 20000 in
theorem mj_lk_ok_10_139 : mj_okL 10 139 (0, mq_Model_meet) := ⟨ok_mq_Model_meet, mj_tn (p := 1076) (by decide +kernel), fun _ => ⟨mj_tn (p := 1078) (by decide +kernel), mj_tn (p := 40) (by decide +kernel)⟩, fun h => absurd h (by decide), fun h => absurd h (by decide)⟩
set_option maxRecDepth 20000 in
theorem mj_lk_ok_10_143 : mj_okL 10 143 (0, mq_Model_stops) := ⟨ok_mq_Model_stops, mj_tn (p := 1080) (by decide +kernel), fun _ => ⟨mj_tn (p := 1082) (by decide +kernel), mj_tn (p := 41) (by decide +kernel)⟩, fun h => absurd h (by decide), fun h => absurd h (by decide)⟩
set_option maxRecDepth 20000 in
theorem mj_lk_ok_10_146 : mj_okL 10 146 (0, mq_Model_lead) := ⟨ok_mq_Model_lead, mj_tn (p := 1096) (by decide +kernel), fun _ => ⟨mj_tn (p := 1098) (by decide +kernel), mj_tn (p := 45) (by decide +kernel)⟩, fun h => absurd h (by decide), fun h => absurd h (by decide)⟩
set_option maxRecDepth 20000 in
theorem mj_lk_ok_10_150 : mj_okL 10 150 (0, mq_Model_place) := ⟨ok_mq_Model_place, mj_tn (p := 1110) (by decide +kernel), fun _ => ⟨mj_tn (p := 1112) (by decide +kernel), mj_tn (p := 47) (by decide +kernel)⟩, fun h => absurd h (by decide), fun h => absurd h (by decide)⟩
set_option maxRecDepth 20000 in
theorem mj_lk_ok_10_153 : mj_okL 10 153 (1, mq_Model_asks) := ⟨ok_mq_Model_asks, mj_tn (p := 1127) (by decide +kernel), fun h => absurd h (by decide), fun _ => mj_tn (p := 1128) (by decide +kernel), fun h => absurd h (by decide)⟩
set_option maxRecDepth 20000 in
theorem mj_lk_ok_10_157 : mj_okL 10 157 (0, mq_Model_isPlace) := ⟨ok_mq_Model_isPlace, mj_tn (p := 1068) (by decide +kernel), fun _ => ⟨mj_tn (p := 1070) (by decide +kernel), mj_tn (p := 38) (by decide +kernel)⟩, fun h => absurd h (by decide), fun h => absurd h (by decide)⟩
set_option maxRecDepth 20000 in
theorem mj_lk_ok_10_160 : mj_okL 10 160 (0, mq_Model_know) := ⟨ok_mq_Model_know, mj_tn (p := 1072) (by decide +kernel), fun _ => ⟨mj_tn (p := 1074) (by decide +kernel), mj_tn (p := 39) (by decide +kernel)⟩, fun h => absurd h (by decide), fun h => absurd h (by decide)⟩
set_option maxRecDepth 20000 in
theorem mj_lk_ok_10_164 : mj_okL 10 164 (0, mq_Model_known) := ⟨ok_mq_Model_known, mj_tn (p := 1118) (by decide +kernel), fun _ => ⟨mj_tn (p := 1065) (by decide +kernel), mj_tn (p := 1066) (by decide +kernel)⟩, fun h => absurd h (by decide), fun h => absurd h (by decide)⟩
set_option maxRecDepth 20000 in
theorem mj_lk_ok_10_167 : mj_okL 10 167 (0, mq_Model_livens) := ⟨ok_mq_Model_livens, mj_tn (p := 1123) (by decide +kernel), fun _ => ⟨mj_tn (p := 1125) (by decide +kernel), mj_tn (p := 48) (by decide +kernel)⟩, fun h => absurd h (by decide), fun h => absurd h (by decide)⟩
set_option maxRecDepth 20000 in
theorem mj_lk_ok_10_176 : mj_okL 10 176 (0, mq_Model_copy) := ⟨ok_mq_Model_copy, mj_tn (p := 1142) (by decide +kernel), fun _ => ⟨mj_tn (p := 1144) (by decide +kernel), mj_tn (p := 51) (by decide +kernel)⟩, fun h => absurd h (by decide), fun h => absurd h (by decide)⟩
set_option maxRecDepth 20000 in
theorem mj_lk_ok_10_180 : mj_okL 10 180 (0, mq_Model_add) := ⟨ok_mq_Model_add, mj_tn (p := 1146) (by decide +kernel), fun _ => ⟨mj_tn (p := 1148) (by decide +kernel), mj_tn (p := 52) (by decide +kernel)⟩, fun h => absurd h (by decide), fun h => absurd h (by decide)⟩
set_option maxRecDepth 20000 in
theorem mj_lk_ok_10_187 : mj_okL 10 187 (0, mq_Model_leads) := ⟨ok_mq_Model_leads, mj_tn (p := 1158) (by decide +kernel), fun _ => ⟨mj_tn (p := 1160) (by decide +kernel), mj_tn (p := 55) (by decide +kernel)⟩, fun h => absurd h (by decide), fun h => absurd h (by decide)⟩
set_option maxRecDepth 20000 in
theorem mj_lk_ok_10_190 : mj_okL 10 190 (0, mq_Model_packed) := ⟨ok_mq_Model_packed, mj_tn (p := 1166) (by decide +kernel), fun _ => ⟨mj_tn (p := 1168) (by decide +kernel), mj_tn (p := 57) (by decide +kernel)⟩, fun h => absurd h (by decide), fun h => absurd h (by decide)⟩
set_option maxRecDepth 20000 in
theorem mj_lk_ok_10_193 : mj_okL 10 193 (0, mq_Model_fold) := ⟨ok_mq_Model_fold, mj_tn (p := 1138) (by decide +kernel), fun _ => ⟨mj_tn (p := 1140) (by decide +kernel), mj_tn (p := 50) (by decide +kernel)⟩, fun h => absurd h (by decide), fun h => absurd h (by decide)⟩
set_option maxRecDepth 20000 in
theorem mj_lk_ok_10_196 : mj_okL 10 196 (0, mq_Model_drop) := ⟨ok_mq_Model_drop, mj_tn (p := 1150) (by decide +kernel), fun _ => ⟨mj_tn (p := 1152) (by decide +kernel), mj_tn (p := 53) (by decide +kernel)⟩, fun h => absurd h (by decide), fun h => absurd h (by decide)⟩
set_option maxRecDepth 20000 in
theorem mj_lk_ok_10_199 : mj_okL 10 199 (0, mq_Model_thread) := ⟨ok_mq_Model_thread, mj_tn (p := 1154) (by decide +kernel), fun _ => ⟨mj_tn (p := 1156) (by decide +kernel), mj_tn (p := 54) (by decide +kernel)⟩, fun h => absurd h (by decide), fun h => absurd h (by decide)⟩
set_option maxRecDepth 20000 in
theorem mj_lk_ok_10_202 : mj_okL 10 202 (0, mq_Model_pack) := ⟨ok_mq_Model_pack, mj_tn (p := 1162) (by decide +kernel), fun _ => ⟨mj_tn (p := 1164) (by decide +kernel), mj_tn (p := 56) (by decide +kernel)⟩, fun h => absurd h (by decide), fun h => absurd h (by decide)⟩
set_option maxRecDepth 20000 in
theorem mj_lk_ok_10_205 : mj_okL 10 205 (0, mq_Model_does) := ⟨ok_mq_Model_does, mj_tn (p := 1134) (by decide +kernel), fun _ => ⟨mj_tn (p := 1136) (by decide +kernel), mj_tn (p := 49) (by decide +kernel)⟩, fun h => absurd h (by decide), fun h => absurd h (by decide)⟩
set_option maxRecDepth 20000 in
theorem mj_lk_ok_10_227 : mj_okL 10 227 (0, mq_Model_isNumber) := ⟨ok_mq_Model_isNumber, mj_tn (p := 1231) (by decide +kernel), fun _ => ⟨mj_tn (p := 1233) (by decide +kernel), mj_tn (p := 59) (by decide +kernel)⟩, fun h => absurd h (by decide), fun h => absurd h (by decide)⟩
set_option maxRecDepth 20000 in
theorem mj_lk_ok_10_230 : mj_okL 10 230 (0, mq_Model_number0) := ⟨ok_mq_Model_number0, mj_tn (p := 1235) (by decide +kernel), fun _ => ⟨mj_tn (p := 1237) (by decide +kernel), mj_tn (p := 60) (by decide +kernel)⟩, fun h => absurd h (by decide), fun h => absurd h (by decide)⟩
set_option maxRecDepth 20000 in
theorem mj_lk_ok_10_233 : mj_okL 10 233 (0, mq_Model_areAlike) := ⟨ok_mq_Model_areAlike, mj_tn (p := 1267) (by decide +kernel), fun _ => ⟨mj_tn (p := 1269) (by decide +kernel), mj_tn (p := 68) (by decide +kernel)⟩, fun h => absurd h (by decide), fun h => absurd h (by decide)⟩
set_option maxRecDepth 20000 in
theorem mj_lk_ok_10_236 : mj_okL 10 236 (0, mq_Model_look) := ⟨ok_mq_Model_look, mj_tn (p := 1259) (by decide +kernel), fun _ => ⟨mj_tn (p := 1261) (by decide +kernel), mj_tn (p := 66) (by decide +kernel)⟩, fun h => absurd h (by decide), fun h => absurd h (by decide)⟩
set_option maxRecDepth 20000 in
theorem mj_lk_ok_10_239 : mj_okL 10 239 (0, mq_Model_isSame) := ⟨ok_mq_Model_isSame, mj_tn (p := 1263) (by decide +kernel), fun _ => ⟨mj_tn (p := 1265) (by decide +kernel), mj_tn (p := 67) (by decide +kernel)⟩, fun h => absurd h (by decide), fun h => absurd h (by decide)⟩
set_option maxRecDepth 20000 in
theorem mj_lk_ok_10_242 : mj_okL 10 242 (0, mq_Model_find) := ⟨ok_mq_Model_find, mj_tn (p := 1227) (by decide +kernel), fun _ => ⟨mj_tn (p := 1229) (by decide +kernel), mj_tn (p := 58) (by decide +kernel)⟩, fun h => absurd h (by decide), fun h => absurd h (by decide)⟩
set_option maxRecDepth 20000 in
theorem mj_lk_ok_10_245 : mj_okL 10 245 (0, mq_Model_follow) := ⟨ok_mq_Model_follow, mj_tn (p := 1255) (by decide +kernel), fun _ => ⟨mj_tn (p := 1257) (by decide +kernel), mj_tn (p := 65) (by decide +kernel)⟩, fun h => absurd h (by decide), fun h => absurd h (by decide)⟩
set_option maxRecDepth 20000 in
theorem mj_lk_ok_10_249 : mj_okL 10 249 (0, mq_Model_isQuiet) := ⟨ok_mq_Model_isQuiet, mj_tn (p := 1243) (by decide +kernel), fun _ => ⟨mj_tn (p := 1245) (by decide +kernel), mj_tn (p := 62) (by decide +kernel)⟩, fun h => absurd h (by decide), fun h => absurd h (by decide)⟩
set_option maxRecDepth 20000 in
theorem mj_lk_ok_10_252 : mj_okL 10 252 (0, mq_Model_goesTo) := ⟨ok_mq_Model_goesTo, mj_tn (p := 1247) (by decide +kernel), fun _ => ⟨mj_tn (p := 1249) (by decide +kernel), mj_tn (p := 63) (by decide +kernel)⟩, fun h => absurd h (by decide), fun h => absurd h (by decide)⟩
set_option maxRecDepth 20000 in
theorem mj_lk_ok_10_255 : mj_okL 10 255 (0, mq_Model_wants) := ⟨ok_mq_Model_wants, mj_tn (p := 1251) (by decide +kernel), fun _ => ⟨mj_tn (p := 1253) (by decide +kernel), mj_tn (p := 64) (by decide +kernel)⟩, fun h => absurd h (by decide), fun h => absurd h (by decide)⟩
set_option maxRecDepth 20000 in
theorem mj_lk_ok_10_262 : mj_okL 10 262 (0, mq_Model_judged) := ⟨ok_mq_Model_judged, mj_tn (p := 1239) (by decide +kernel), fun _ => ⟨mj_tn (p := 1241) (by decide +kernel), mj_tn (p := 61) (by decide +kernel)⟩, fun h => absurd h (by decide), fun h => absurd h (by decide)⟩
theorem mj_lk_ok_10 : ∀ e ∈ mj_lk_10, mj_okL 10 e.1 e.2 := by
  exact List.forall_mem_cons.mpr ⟨mj_lk_ok_10_82, List.forall_mem_cons.mpr ⟨mj_lk_ok_10_86, List.forall_mem_cons.mpr ⟨mj_lk_ok_10_90, List.forall_mem_cons.mpr ⟨mj_lk_ok_10_94, List.forall_mem_cons.mpr ⟨mj_lk_ok_10_97, List.forall_mem_cons.mpr ⟨mj_lk_ok_10_101, List.forall_mem_cons.mpr ⟨mj_lk_ok_10_106, List.forall_mem_cons.mpr ⟨mj_lk_ok_10_110, List.forall_mem_cons.mpr ⟨mj_lk_ok_10_122, List.forall_mem_cons.mpr ⟨mj_lk_ok_10_125, List.forall_mem_cons.mpr ⟨mj_lk_ok_10_129, List.forall_mem_cons.mpr ⟨mj_lk_ok_10_133, List.forall_mem_cons.mpr ⟨mj_lk_ok_10_136, List.forall_mem_cons.mpr ⟨mj_lk_ok_10_139, List.forall_mem_cons.mpr ⟨mj_lk_ok_10_143, List.forall_mem_cons.mpr ⟨mj_lk_ok_10_146, List.forall_mem_cons.mpr ⟨mj_lk_ok_10_150, List.forall_mem_cons.mpr ⟨mj_lk_ok_10_153, List.forall_mem_cons.mpr ⟨mj_lk_ok_10_157, List.forall_mem_cons.mpr ⟨mj_lk_ok_10_160, List.forall_mem_cons.mpr ⟨mj_lk_ok_10_164, List.forall_mem_cons.mpr ⟨mj_lk_ok_10_167, List.forall_mem_cons.mpr ⟨mj_lk_ok_10_176, List.forall_mem_cons.mpr ⟨mj_lk_ok_10_180, List.forall_mem_cons.mpr ⟨mj_lk_ok_10_187, List.forall_mem_cons.mpr ⟨mj_lk_ok_10_190, List.forall_mem_cons.mpr ⟨mj_lk_ok_10_193, List.forall_mem_cons.mpr ⟨mj_lk_ok_10_196, List.forall_mem_cons.mpr ⟨mj_lk_ok_10_199, List.forall_mem_cons.mpr ⟨mj_lk_ok_10_202, List.forall_mem_cons.mpr ⟨mj_lk_ok_10_205, List.forall_mem_cons.mpr ⟨mj_lk_ok_10_227, List.forall_mem_cons.mpr ⟨mj_lk_ok_10_230, List.forall_mem_cons.mpr ⟨mj_lk_ok_10_233, List.forall_mem_cons.mpr ⟨mj_lk_ok_10_236, List.forall_mem_cons.mpr ⟨mj_lk_ok_10_239, List.forall_mem_cons.mpr ⟨mj_lk_ok_10_242, List.forall_mem_cons.mpr ⟨mj_lk_ok_10_245, List.forall_mem_cons.mpr ⟨mj_lk_ok_10_249, List.forall_mem_cons.mpr ⟨mj_lk_ok_10_252, List.forall_mem_cons.mpr ⟨mj_lk_ok_10_255, List.forall_mem_cons.mpr ⟨mj_lk_ok_10_262, fun _ h => absurd h List.not_mem_nil⟩⟩⟩⟩⟩⟩⟩⟩⟩⟩⟩⟩⟩⟩⟩⟩⟩⟩⟩⟩⟩⟩⟩⟩⟩⟩⟩⟩⟩⟩⟩⟩⟩⟩⟩⟩⟩⟩⟩⟩⟩⟩
set_option maxRecDepth 20000 in
theorem mj_lk_ok_11_9 : mj_okL 11 9 (1, mq_Code_isRegister) := ⟨ok_mq_Code_isRegister, mj_tn (p := 406) (by decide +kernel), fun h => absurd h (by decide), fun _ => mj_tn (p := 407) (by decide +kernel), fun h => absurd h (by decide)⟩
set_option maxRecDepth 20000 in
theorem mj_lk_ok_11_15 : mj_okL 11 15 (1, mq_Code_isPlace) := ⟨ok_mq_Code_isPlace, mj_tn (p := 409) (by decide +kernel), fun h => absurd h (by decide), fun _ => mj_tn (p := 410) (by decide +kernel), fun h => absurd h (by decide)⟩
set_option maxRecDepth 20000 in
theorem mj_lk_ok_11_18 : mj_okL 11 18 (1, mq_Code_isReckoning) := ⟨ok_mq_Code_isReckoning, mj_tn (p := 412) (by decide +kernel), fun h => absurd h (by decide), fun _ => mj_tn (p := 413) (by decide +kernel), fun h => absurd h (by decide)⟩
theorem mj_lk_ok_11 : ∀ e ∈ mj_lk_11, mj_okL 11 e.1 e.2 := by
  exact List.forall_mem_cons.mpr ⟨mj_lk_ok_11_9, List.forall_mem_cons.mpr ⟨mj_lk_ok_11_15, List.forall_mem_cons.mpr ⟨mj_lk_ok_11_18, fun _ h => absurd h List.not_mem_nil⟩⟩⟩
set_option maxRecDepth 20000 in
theorem mj_lk_ok_12_9 : mj_okL 12 9 (2, mq_Court_init) := ⟨ok_mq_Court_init, mj_tn (p := 84) (by decide +kernel), fun h => absurd h (by decide), fun h => absurd h (by decide), fun _ => ⟨mj_tn (p := 85) (by decide +kernel), rfl, rfl⟩⟩
set_option maxRecDepth 20000 in
theorem mj_lk_ok_12_12 : mj_okL 12 12 (2, mq_Model_init) := ⟨ok_mq_Model_init, mj_tn (p := 908) (by decide +kernel), fun h => absurd h (by decide), fun h => absurd h (by decide), fun _ => ⟨mj_tn (p := 909) (by decide +kernel), rfl, rfl⟩⟩
set_option maxRecDepth 20000 in
theorem mj_lk_ok_12_13 : mj_okL 12 13 (0, mq_Court_routine) := ⟨ok_mq_Court_routine, mj_tn (p := 391) (by decide +kernel), fun _ => ⟨mj_tn (p := 392) (by decide +kernel), mj_tn (p := 393) (by decide +kernel)⟩, fun h => absurd h (by decide), fun h => absurd h (by decide)⟩
set_option maxRecDepth 20000 in
theorem mj_lk_ok_12_17 : mj_okL 12 17 (0, mq_Model_routine) := ⟨ok_mq_Model_routine, mj_tn (p := 1018) (by decide +kernel), fun _ => ⟨mj_tn (p := 1019) (by decide +kernel), mj_tn (p := 1020) (by decide +kernel)⟩, fun h => absurd h (by decide), fun h => absurd h (by decide)⟩
set_option maxRecDepth 20000 in
theorem mj_lk_ok_12_18 : mj_okL 12 18 (0, mq_Court_act) := ⟨ok_mq_Court_act, mj_tn (p := 395) (by decide +kernel), fun _ => ⟨mj_tn (p := 396) (by decide +kernel), mj_tn (p := 397) (by decide +kernel)⟩, fun h => absurd h (by decide), fun h => absurd h (by decide)⟩
set_option maxRecDepth 20000 in
theorem mj_lk_ok_12_22 : mj_okL 12 22 (0, mq_Model_act) := ⟨ok_mq_Model_act, mj_tn (p := 1022) (by decide +kernel), fun _ => ⟨mj_tn (p := 1023) (by decide +kernel), mj_tn (p := 1024) (by decide +kernel)⟩, fun h => absurd h (by decide), fun h => absurd h (by decide)⟩
set_option maxRecDepth 20000 in
theorem mj_lk_ok_12_23 : mj_okL 12 23 (0, mq_Court_at) := ⟨ok_mq_Court_at, mj_tn (p := 423) (by decide +kernel), fun _ => ⟨mj_tn (p := 424) (by decide +kernel), mj_tn (p := 425) (by decide +kernel)⟩, fun h => absurd h (by decide), fun h => absurd h (by decide)⟩
set_option maxRecDepth 20000 in
theorem mj_lk_ok_12_27 : mj_okL 12 27 (0, mq_Model_at) := ⟨ok_mq_Model_at, mj_tn (p := 1043) (by decide +kernel), fun _ => ⟨mj_tn (p := 1044) (by decide +kernel), mj_tn (p := 1045) (by decide +kernel)⟩, fun h => absurd h (by decide), fun h => absurd h (by decide)⟩
set_option maxRecDepth 20000 in
theorem mj_lk_ok_12_28 : mj_okL 12 28 (0, mq_Court_length) := ⟨ok_mq_Court_length, mj_tn (p := 428) (by decide +kernel), fun _ => ⟨mj_tn (p := 429) (by decide +kernel), mj_tn (p := 430) (by decide +kernel)⟩, fun h => absurd h (by decide), fun h => absurd h (by decide)⟩
set_option maxRecDepth 20000 in
theorem mj_lk_ok_12_32 : mj_okL 12 32 (0, mq_Model_length) := ⟨ok_mq_Model_length, mj_tn (p := 1052) (by decide +kernel), fun _ => ⟨mj_tn (p := 1053) (by decide +kernel), mj_tn (p := 1054) (by decide +kernel)⟩, fun h => absurd h (by decide), fun h => absurd h (by decide)⟩
set_option maxRecDepth 20000 in
theorem mj_lk_ok_12_33 : mj_okL 12 33 (0, mq_Court_pass) := ⟨ok_mq_Court_pass, mj_tn (p := 432) (by decide +kernel), fun _ => ⟨mj_tn (p := 433) (by decide +kernel), mj_tn (p := 434) (by decide +kernel)⟩, fun h => absurd h (by decide), fun h => absurd h (by decide)⟩
set_option maxRecDepth 20000 in
theorem mj_lk_ok_12_37 : mj_okL 12 37 (0, mq_Model_pass) := ⟨ok_mq_Model_pass, mj_tn (p := 1130) (by decide +kernel), fun _ => ⟨mj_tn (p := 1131) (by decide +kernel), mj_tn (p := 1132) (by decide +kernel)⟩, fun h => absurd h (by decide), fun h => absurd h (by decide)⟩
set_option maxRecDepth 20000 in
theorem mj_lk_ok_12_38 : mj_okL 12 38 (0, mq_Court_best) := ⟨ok_mq_Court_best, mj_tn (p := 626) (by decide +kernel), fun _ => ⟨mj_tn (p := 627) (by decide +kernel), mj_tn (p := 628) (by decide +kernel)⟩, fun h => absurd h (by decide), fun h => absurd h (by decide)⟩
set_option maxRecDepth 20000 in
theorem mj_lk_ok_12_41 : mj_okL 12 41 (0, mq_Model_best) := ⟨ok_mq_Model_best, mj_tn (p := 1170) (by decide +kernel), fun _ => ⟨mj_tn (p := 1171) (by decide +kernel), mj_tn (p := 1172) (by decide +kernel)⟩, fun h => absurd h (by decide), fun h => absurd h (by decide)⟩
set_option maxRecDepth 20000 in
theorem mj_lk_ok_12_42 : mj_okL 12 42 (0, mq_Court_same) := ⟨ok_mq_Court_same, mj_tn (p := 640) (by decide +kernel), fun _ => ⟨mj_tn (p := 641) (by decide +kernel), mj_tn (p := 642) (by decide +kernel)⟩, fun h => absurd h (by decide), fun h => absurd h (by decide)⟩
set_option maxRecDepth 20000 in
theorem mj_lk_ok_12_45 : mj_okL 12 45 (0, mq_Model_same) := ⟨ok_mq_Model_same, mj_tn (p := 1056) (by decide +kernel), fun _ => ⟨mj_tn (p := 1057) (by decide +kernel), mj_tn (p := 1058) (by decide +kernel)⟩, fun h => absurd h (by decide), fun h => absurd h (by decide)⟩
set_option maxRecDepth 20000 in
theorem mj_lk_ok_12_46 : mj_okL 12 46 (0, mq_Court_known) := ⟨ok_mq_Court_known, mj_tn (p := 645) (by decide +kernel), fun _ => ⟨mj_tn (p := 646) (by decide +kernel), mj_tn (p := 647) (by decide +kernel)⟩, fun h => absurd h (by decide), fun h => absurd h (by decide)⟩
set_option maxRecDepth 20000 in
theorem mj_lk_ok_12_49 : mj_okL 12 49 (0, mq_Model_known) := ⟨ok_mq_Model_known, mj_tn (p := 1064) (by decide +kernel), fun _ => ⟨mj_tn (p := 1065) (by decide +kernel), mj_tn (p := 1066) (by decide +kernel)⟩, fun h => absurd h (by decide), fun h => absurd h (by decide)⟩
set_option maxRecDepth 20000 in
theorem mj_lk_ok_12_50 : mj_okL 12 50 (0, mq_Court_value) := ⟨ok_mq_Court_value, mj_tn (p := 660) (by decide +kernel), fun _ => ⟨mj_tn (p := 661) (by decide +kernel), mj_tn (p := 662) (by decide +kernel)⟩, fun h => absurd h (by decide), fun h => absurd h (by decide)⟩
set_option maxRecDepth 20000 in
theorem mj_lk_ok_12_54 : mj_okL 12 54 (0, mq_Model_value) := ⟨ok_mq_Model_value, mj_tn (p := 1114) (by decide +kernel), fun _ => ⟨mj_tn (p := 1115) (by decide +kernel), mj_tn (p := 1116) (by decide +kernel)⟩, fun h => absurd h (by decide), fun h => absurd h (by decide)⟩
set_option maxRecDepth 20000 in
theorem mj_lk_ok_12_55 : mj_okL 12 55 (0, mq_Court_live) := ⟨ok_mq_Court_live, mj_tn (p := 665) (by decide +kernel), fun _ => ⟨mj_tn (p := 666) (by decide +kernel), mj_tn (p := 667) (by decide +kernel)⟩, fun h => absurd h (by decide), fun h => absurd h (by decide)⟩
set_option maxRecDepth 20000 in
theorem mj_lk_ok_12_58 : mj_okL 12 58 (0, mq_Model_live) := ⟨ok_mq_Model_live, mj_tn (p := 1119) (by decide +kernel), fun _ => ⟨mj_tn (p := 1120) (by decide +kernel), mj_tn (p := 1121) (by decide +kernel)⟩, fun h => absurd h (by decide), fun h => absurd h (by decide)⟩
set_option maxRecDepth 20000 in
theorem mj_lk_ok_12_61 : mj_okL 12 61 (0, mq_Court_feed) := ⟨ok_mq_Court_feed, mj_tn (p := 671) (by decide +kernel), fun _ => ⟨mj_tn (p := 672) (by decide +kernel), mj_tn (p := 673) (by decide +kernel)⟩, fun h => absurd h (by decide), fun h => absurd h (by decide)⟩
set_option maxRecDepth 20000 in
theorem mj_lk_ok_12_65 : mj_okL 12 65 (0, mq_Model_feed) := ⟨ok_mq_Model_feed, mj_tn (p := 1174) (by decide +kernel), fun _ => ⟨mj_tn (p := 1175) (by decide +kernel), mj_tn (p := 1176) (by decide +kernel)⟩, fun h => absurd h (by decide), fun h => absurd h (by decide)⟩
set_option maxRecDepth 20000 in
theorem mj_lk_ok_12_66 : mj_okL 12 66 (0, mq_Court_dry) := ⟨ok_mq_Court_dry, mj_tn (p := 679) (by decide +kernel), fun _ => ⟨mj_tn (p := 680) (by decide +kernel), mj_tn (p := 681) (by decide +kernel)⟩, fun h => absurd h (by decide), fun h => absurd h (by decide)⟩
set_option maxRecDepth 20000 in
theorem mj_lk_ok_12_69 : mj_okL 12 69 (0, mq_Model_dry) := ⟨ok_mq_Model_dry, mj_tn (p := 1178) (by decide +kernel), fun _ => ⟨mj_tn (p := 1179) (by decide +kernel), mj_tn (p := 1180) (by decide +kernel)⟩, fun h => absurd h (by decide), fun h => absurd h (by decide)⟩
set_option maxRecDepth 20000 in
theorem mj_lk_ok_12_70 : mj_okL 12 70 (0, mq_Court_run) := ⟨ok_mq_Court_run, mj_tn (p := 683) (by decide +kernel), fun _ => ⟨mj_tn (p := 684) (by decide +kernel), mj_tn (p := 685) (by decide +kernel)⟩, fun h => absurd h (by decide), fun h => absurd h (by decide)⟩
set_option maxRecDepth 20000 in
theorem mj_lk_ok_12_73 : mj_okL 12 73 (0, mq_Model_run) := ⟨ok_mq_Model_run, mj_tn (p := 1182) (by decide +kernel), fun _ => ⟨mj_tn (p := 1183) (by decide +kernel), mj_tn (p := 1184) (by decide +kernel)⟩, fun h => absurd h (by decide), fun h => absurd h (by decide)⟩
set_option maxRecDepth 20000 in
theorem mj_lk_ok_12_74 : mj_okL 12 74 (0, mq_Court_outs) := ⟨ok_mq_Court_outs, mj_tn (p := 711) (by decide +kernel), fun _ => ⟨mj_tn (p := 712) (by decide +kernel), mj_tn (p := 713) (by decide +kernel)⟩, fun h => absurd h (by decide), fun h => absurd h (by decide)⟩
set_option maxRecDepth 20000 in
theorem mj_lk_ok_12_77 : mj_okL 12 77 (0, mq_Model_outs) := ⟨ok_mq_Model_outs, mj_tn (p := 1187) (by decide +kernel), fun _ => ⟨mj_tn (p := 1188) (by decide +kernel), mj_tn (p := 1189) (by decide +kernel)⟩, fun h => absurd h (by decide), fun h => absurd h (by decide)⟩
set_option maxRecDepth 20000 in
theorem mj_lk_ok_12_78 : mj_okL 12 78 (0, mq_Court_out) := ⟨ok_mq_Court_out, mj_tn (p := 715) (by decide +kernel), fun _ => ⟨mj_tn (p := 716) (by decide +kernel), mj_tn (p := 717) (by decide +kernel)⟩, fun h => absurd h (by decide), fun h => absurd h (by decide)⟩
set_option maxRecDepth 20000 in
theorem mj_lk_ok_12_82 : mj_okL 12 82 (0, mq_Model_out) := ⟨ok_mq_Model_out, mj_tn (p := 1191) (by decide +kernel), fun _ => ⟨mj_tn (p := 1192) (by decide +kernel), mj_tn (p := 1193) (by decide +kernel)⟩, fun h => absurd h (by decide), fun h => absurd h (by decide)⟩
set_option maxRecDepth 20000 in
theorem mj_lk_ok_12_83 : mj_okL 12 83 (0, mq_Court_ran) := ⟨ok_mq_Court_ran, mj_tn (p := 719) (by decide +kernel), fun _ => ⟨mj_tn (p := 720) (by decide +kernel), mj_tn (p := 721) (by decide +kernel)⟩, fun h => absurd h (by decide), fun h => absurd h (by decide)⟩
set_option maxRecDepth 20000 in
theorem mj_lk_ok_12_86 : mj_okL 12 86 (0, mq_Model_ran) := ⟨ok_mq_Model_ran, mj_tn (p := 1195) (by decide +kernel), fun _ => ⟨mj_tn (p := 1196) (by decide +kernel), mj_tn (p := 1197) (by decide +kernel)⟩, fun h => absurd h (by decide), fun h => absurd h (by decide)⟩
set_option maxRecDepth 20000 in
theorem mj_lk_ok_12_87 : mj_okL 12 87 (0, mq_Court_register) := ⟨ok_mq_Court_register, mj_tn (p := 723) (by decide +kernel), fun _ => ⟨mj_tn (p := 724) (by decide +kernel), mj_tn (p := 725) (by decide +kernel)⟩, fun h => absurd h (by decide), fun h => absurd h (by decide)⟩
set_option maxRecDepth 20000 in
theorem mj_lk_ok_12_90 : mj_okL 12 90 (0, mq_Model_register) := ⟨ok_mq_Model_register, mj_tn (p := 1199) (by decide +kernel), fun _ => ⟨mj_tn (p := 1200) (by decide +kernel), mj_tn (p := 1201) (by decide +kernel)⟩, fun h => absurd h (by decide), fun h => absurd h (by decide)⟩
set_option maxRecDepth 20000 in
theorem mj_lk_ok_12_91 : mj_okL 12 91 (0, mq_Court_clear) := ⟨ok_mq_Court_clear, mj_tn (p := 727) (by decide +kernel), fun _ => ⟨mj_tn (p := 728) (by decide +kernel), mj_tn (p := 729) (by decide +kernel)⟩, fun h => absurd h (by decide), fun h => absurd h (by decide)⟩
set_option maxRecDepth 20000 in
theorem mj_lk_ok_12_94 : mj_okL 12 94 (0, mq_Model_clear) := ⟨ok_mq_Model_clear, mj_tn (p := 1203) (by decide +kernel), fun _ => ⟨mj_tn (p := 1204) (by decide +kernel), mj_tn (p := 1205) (by decide +kernel)⟩, fun h => absurd h (by decide), fun h => absurd h (by decide)⟩
set_option maxRecDepth 20000 in
theorem mj_lk_ok_12_95 : mj_okL 12 95 (0, mq_Court_pair) := ⟨ok_mq_Court_pair, mj_tn (p := 731) (by decide +kernel), fun _ => ⟨mj_tn (p := 732) (by decide +kernel), mj_tn (p := 733) (by decide +kernel)⟩, fun h => absurd h (by decide), fun h => absurd h (by decide)⟩
set_option maxRecDepth 20000 in
theorem mj_lk_ok_12_99 : mj_okL 12 99 (0, mq_Model_pair) := ⟨ok_mq_Model_pair, mj_tn (p := 1207) (by decide +kernel), fun _ => ⟨mj_tn (p := 1208) (by decide +kernel), mj_tn (p := 1209) (by decide +kernel)⟩, fun h => absurd h (by decide), fun h => absurd h (by decide)⟩
set_option maxRecDepth 20000 in
theorem mj_lk_ok_12_100 : mj_okL 12 100 (0, mq_Court_claim) := ⟨ok_mq_Court_claim, mj_tn (p := 737) (by decide +kernel), fun _ => ⟨mj_tn (p := 738) (by decide +kernel), mj_tn (p := 739) (by decide +kernel)⟩, fun h => absurd h (by decide), fun h => absurd h (by decide)⟩
set_option maxRecDepth 20000 in
theorem mj_lk_ok_12_104 : mj_okL 12 104 (0, mq_Model_claim) := ⟨ok_mq_Model_claim, mj_tn (p := 1211) (by decide +kernel), fun _ => ⟨mj_tn (p := 1212) (by decide +kernel), mj_tn (p := 1213) (by decide +kernel)⟩, fun h => absurd h (by decide), fun h => absurd h (by decide)⟩
set_option maxRecDepth 20000 in
theorem mj_lk_ok_12_105 : mj_okL 12 105 (0, mq_Court_of) := ⟨ok_mq_Court_of, mj_tn (p := 750) (by decide +kernel), fun _ => ⟨mj_tn (p := 751) (by decide +kernel), mj_tn (p := 752) (by decide +kernel)⟩, fun h => absurd h (by decide), fun h => absurd h (by decide)⟩
set_option maxRecDepth 20000 in
theorem mj_lk_ok_12_108 : mj_okL 12 108 (0, mq_Model_of) := ⟨ok_mq_Model_of, mj_tn (p := 1215) (by decide +kernel), fun _ => ⟨mj_tn (p := 1216) (by decide +kernel), mj_tn (p := 1217) (by decide +kernel)⟩, fun h => absurd h (by decide), fun h => absurd h (by decide)⟩
set_option maxRecDepth 20000 in
theorem mj_lk_ok_12_109 : mj_okL 12 109 (0, mq_Court_number) := ⟨ok_mq_Court_number, mj_tn (p := 754) (by decide +kernel), fun _ => ⟨mj_tn (p := 755) (by decide +kernel), mj_tn (p := 756) (by decide +kernel)⟩, fun h => absurd h (by decide), fun h => absurd h (by decide)⟩
set_option maxRecDepth 20000 in
theorem mj_lk_ok_12_113 : mj_okL 12 113 (0, mq_Model_number) := ⟨ok_mq_Model_number, mj_tn (p := 1219) (by decide +kernel), fun _ => ⟨mj_tn (p := 1220) (by decide +kernel), mj_tn (p := 1221) (by decide +kernel)⟩, fun h => absurd h (by decide), fun h => absurd h (by decide)⟩
set_option maxRecDepth 20000 in
theorem mj_lk_ok_12_114 : mj_okL 12 114 (0, mq_Court_judge) := ⟨ok_mq_Court_judge, mj_tn (p := 762) (by decide +kernel), fun _ => ⟨mj_tn (p := 763) (by decide +kernel), mj_tn (p := 764) (by decide +kernel)⟩, fun h => absurd h (by decide), fun h => absurd h (by decide)⟩
set_option maxRecDepth 20000 in
theorem mj_lk_ok_12_117 : mj_okL 12 117 (0, mq_Model_judge) := ⟨ok_mq_Model_judge, mj_tn (p := 1223) (by decide +kernel), fun _ => ⟨mj_tn (p := 1224) (by decide +kernel), mj_tn (p := 1225) (by decide +kernel)⟩, fun h => absurd h (by decide), fun h => absurd h (by decide)⟩
set_option maxRecDepth 20000 in
theorem mj_lk_ok_12_118 : mj_okL 12 118 (0, mq_Court_where) := ⟨ok_mq_Court_where, mj_tn (p := 898) (by decide +kernel), fun _ => ⟨mj_tn (p := 899) (by decide +kernel), mj_tn (p := 900) (by decide +kernel)⟩, fun h => absurd h (by decide), fun h => absurd h (by decide)⟩
set_option maxRecDepth 20000 in
theorem mj_lk_ok_12_121 : mj_okL 12 121 (0, mq_Model_where) := ⟨ok_mq_Model_where, mj_tn (p := 1271) (by decide +kernel), fun _ => ⟨mj_tn (p := 1272) (by decide +kernel), mj_tn (p := 1273) (by decide +kernel)⟩, fun h => absurd h (by decide), fun h => absurd h (by decide)⟩
set_option maxRecDepth 20000 in
theorem mj_lk_ok_12_122 : mj_okL 12 122 (0, mq_Court_count) := ⟨ok_mq_Court_count, mj_tn (p := 902) (by decide +kernel), fun _ => ⟨mj_tn (p := 903) (by decide +kernel), mj_tn (p := 904) (by decide +kernel)⟩, fun h => absurd h (by decide), fun h => absurd h (by decide)⟩
set_option maxRecDepth 20000 in
theorem mj_lk_ok_12_125 : mj_okL 12 125 (0, mq_Model_count) := ⟨ok_mq_Model_count, mj_tn (p := 1275) (by decide +kernel), fun _ => ⟨mj_tn (p := 1276) (by decide +kernel), mj_tn (p := 1277) (by decide +kernel)⟩, fun h => absurd h (by decide), fun h => absurd h (by decide)⟩
theorem mj_lk_ok_12 : ∀ e ∈ mj_lk_12, mj_okL 12 e.1 e.2 := by
  exact List.forall_mem_cons.mpr ⟨mj_lk_ok_12_9, List.forall_mem_cons.mpr ⟨mj_lk_ok_12_12, List.forall_mem_cons.mpr ⟨mj_lk_ok_12_13, List.forall_mem_cons.mpr ⟨mj_lk_ok_12_17, List.forall_mem_cons.mpr ⟨mj_lk_ok_12_18, List.forall_mem_cons.mpr ⟨mj_lk_ok_12_22, List.forall_mem_cons.mpr ⟨mj_lk_ok_12_23, List.forall_mem_cons.mpr ⟨mj_lk_ok_12_27, List.forall_mem_cons.mpr ⟨mj_lk_ok_12_28, List.forall_mem_cons.mpr ⟨mj_lk_ok_12_32, List.forall_mem_cons.mpr ⟨mj_lk_ok_12_33, List.forall_mem_cons.mpr ⟨mj_lk_ok_12_37, List.forall_mem_cons.mpr ⟨mj_lk_ok_12_38, List.forall_mem_cons.mpr ⟨mj_lk_ok_12_41, List.forall_mem_cons.mpr ⟨mj_lk_ok_12_42, List.forall_mem_cons.mpr ⟨mj_lk_ok_12_45, List.forall_mem_cons.mpr ⟨mj_lk_ok_12_46, List.forall_mem_cons.mpr ⟨mj_lk_ok_12_49, List.forall_mem_cons.mpr ⟨mj_lk_ok_12_50, List.forall_mem_cons.mpr ⟨mj_lk_ok_12_54, List.forall_mem_cons.mpr ⟨mj_lk_ok_12_55, List.forall_mem_cons.mpr ⟨mj_lk_ok_12_58, List.forall_mem_cons.mpr ⟨mj_lk_ok_12_61, List.forall_mem_cons.mpr ⟨mj_lk_ok_12_65, List.forall_mem_cons.mpr ⟨mj_lk_ok_12_66, List.forall_mem_cons.mpr ⟨mj_lk_ok_12_69, List.forall_mem_cons.mpr ⟨mj_lk_ok_12_70, List.forall_mem_cons.mpr ⟨mj_lk_ok_12_73, List.forall_mem_cons.mpr ⟨mj_lk_ok_12_74, List.forall_mem_cons.mpr ⟨mj_lk_ok_12_77, List.forall_mem_cons.mpr ⟨mj_lk_ok_12_78, List.forall_mem_cons.mpr ⟨mj_lk_ok_12_82, List.forall_mem_cons.mpr ⟨mj_lk_ok_12_83, List.forall_mem_cons.mpr ⟨mj_lk_ok_12_86, List.forall_mem_cons.mpr ⟨mj_lk_ok_12_87, List.forall_mem_cons.mpr ⟨mj_lk_ok_12_90, List.forall_mem_cons.mpr ⟨mj_lk_ok_12_91, List.forall_mem_cons.mpr ⟨mj_lk_ok_12_94, List.forall_mem_cons.mpr ⟨mj_lk_ok_12_95, List.forall_mem_cons.mpr ⟨mj_lk_ok_12_99, List.forall_mem_cons.mpr ⟨mj_lk_ok_12_100, List.forall_mem_cons.mpr ⟨mj_lk_ok_12_104, List.forall_mem_cons.mpr ⟨mj_lk_ok_12_105, List.forall_mem_cons.mpr ⟨mj_lk_ok_12_108, List.forall_mem_cons.mpr ⟨mj_lk_ok_12_109, List.forall_mem_cons.mpr ⟨mj_lk_ok_12_113, List.forall_mem_cons.mpr ⟨mj_lk_ok_12_114, List.forall_mem_cons.mpr ⟨mj_lk_ok_12_117, List.forall_mem_cons.mpr ⟨mj_lk_ok_12_118, List.forall_mem_cons.mpr ⟨mj_lk_ok_12_121, List.forall_mem_cons.mpr ⟨mj_lk_ok_12_122, List.forall_mem_cons.mpr ⟨mj_lk_ok_12_125, fun _ h => absurd h List.not_mem_nil⟩⟩⟩⟩⟩⟩⟩⟩⟩⟩⟩⟩⟩⟩⟩⟩⟩⟩⟩⟩⟩⟩⟩⟩⟩⟩⟩⟩⟩⟩⟩⟩⟩⟩⟩⟩⟩⟩⟩⟩⟩⟩⟩⟩⟩⟩⟩⟩⟩⟩⟩⟩
theorem mj_lk_ok {c i : Nat} {x : _} (hc : c < 13) (h : mj_lk c i = some x) : mj_okL c i x := by
  have hm := mj_look h
  match c, hc, hm with
  | 0, _, hm => exact mj_lk_ok_0 _ hm
  | 1, _, hm => exact mj_lk_ok_1 _ hm
  | 2, _, hm => exact mj_lk_ok_2 _ hm
  | 3, _, hm => exact mj_lk_ok_3 _ hm
  | 4, _, hm => exact mj_lk_ok_4 _ hm
  | 5, _, hm => exact mj_lk_ok_5 _ hm
  | 6, _, hm => exact mj_lk_ok_6 _ hm
  | 7, _, hm => exact mj_lk_ok_7 _ hm
  | 8, _, hm => exact mj_lk_ok_8 _ hm
  | 9, _, hm => exact mj_lk_ok_9 _ hm
  | 10, _, hm => exact mj_lk_ok_10 _ hm
  | 11, _, hm => exact mj_lk_ok_11 _ hm
  | 12, _, hm => exact mj_lk_ok_12 _ hm
  | n + 13, hc, _ => exact absurd hc (by omega)
def mj_fl_0 : List (Nat × Nat × Nat) := [(9, 0, 0), (20, 0, 1), (24, 0, 2), (27, 0, 3), (31, 0, 4), (46, 8, 6), (55, 8, 0), (61, 8, 1), (76, 8, 2), (79, 8, 3), (103, 7, 2)]
def mj_fl_1 : List (Nat × Nat × Nat) := [(9, 1, 0), (15, 1, 1), (18, 1, 2), (22, 1, 3), (25, 1, 4), (29, 1, 5), (32, 1, 6), (38, 6, 4), (52, 6, 0), (69, 6, 1), (100, 6, 3), (106, 6, 2)]
def mj_fl_2 : List (Nat × Nat × Nat) := [(9, 2, 0), (15, 2, 1), (18, 6, 4), (32, 6, 0)]
def mj_fl_3 : List (Nat × Nat × Nat) := [(9, 3, 0), (15, 6, 4), (25, 6, 0), (44, 6, 1), (50, 6, 2), (56, 6, 3)]
def mj_fl_4 : List (Nat × Nat × Nat) := [(9, 4, 0), (15, 4, 1), (22, 4, 2), (26, 4, 3), (33, 4, 4), (37, 4, 5), (66, 8, 6), (99, 6, 4), (100, 1, 0), (107, 6, 0), (110, 6, 1), (126, 6, 2), (162, 2, 0), (173, 2, 1), (179, 6, 3)]
def mj_fl_5 : List (Nat × Nat × Nat) := [(9, 5, 0), (15, 5, 1), (19, 5, 2), (22, 5, 3), (25, 5, 4), (28, 5, 5), (31, 5, 6), (34, 6, 4), (43, 6, 0), (47, 6, 1), (50, 6, 2), (65, 6, 3)]
def mj_fl_6 : List (Nat × Nat × Nat) := [(9, 6, 0), (15, 6, 1), (18, 6, 2), (21, 6, 3), (24, 6, 4)]
def mj_fl_7 : List (Nat × Nat × Nat) := [(9, 7, 0), (18, 7, 1), (22, 7, 2), (25, 7, 3), (29, 7, 4), (35, 7, 5), (38, 7, 6), (41, 7, 7), (45, 7, 8), (48, 7, 9), (66, 6, 4), (69, 6, 0), (72, 6, 1), (75, 6, 2), (78, 6, 3)]
def mj_fl_8 : List (Nat × Nat × Nat) := [(9, 8, 0), (15, 8, 1), (18, 8, 2), (21, 8, 3), (24, 8, 4), (27, 8, 5), (31, 8, 6)]
def mj_fl_9 : List (Nat × Nat × Nat) := [(11, 9, 0), (16, 9, 1), (23, 9, 2), (30, 9, 3), (39, 9, 4), (46, 9, 5), (53, 9, 6), (62, 9, 7), (70, 6, 4), (84, 6, 0), (88, 6, 1), (91, 6, 2), (94, 6, 3), (124, 1, 0), (144, 5, 1), (152, 5, 4), (155, 5, 3), (159, 5, 5), (162, 5, 6), (169, 5, 2), (172, 8, 6), (188, 8, 0), (191, 8, 1), (194, 8, 2), (197, 8, 3), (203, 0, 4)]
def mj_fl_10 : List (Nat × Nat × Nat) := [(7, 10, 1), (13, 10, 2), (16, 10, 3), (20, 10, 5), (23, 10, 6), (26, 10, 11), (29, 10, 12), (32, 10, 13), (35, 10, 14), (38, 10, 15), (41, 10, 16), (44, 10, 18), (48, 10, 19), (52, 10, 20), (55, 10, 21), (58, 10, 24), (61, 10, 29), (64, 10, 30), (67, 10, 31), (70, 10, 32), (73, 10, 33), (76, 10, 34), (79, 10, 0), (114, 10, 22), (118, 10, 23), (170, 10, 25), (173, 10, 10), (184, 10, 26), (208, 10, 4), (212, 10, 7), (215, 10, 8), (218, 10, 9), (221, 10, 27), (224, 10, 28), (259, 10, 17)]
def mj_fl_11 : List (Nat × Nat × Nat) := []
def mj_fl_12 : List (Nat × Nat × Nat) := []
def mj_flT (c : Nat) : List (Nat × Nat × Nat) := match c with
  | 0 => mj_fl_0
  | 1 => mj_fl_1
  | 2 => mj_fl_2
  | 3 => mj_fl_3
  | 4 => mj_fl_4
  | 5 => mj_fl_5
  | 6 => mj_fl_6
  | 7 => mj_fl_7
  | 8 => mj_fl_8
  | 9 => mj_fl_9
  | 10 => mj_fl_10
  | 11 => mj_fl_11
  | _ => mj_fl_12
def mj_fl (c i : Nat) : Option (Nat × Nat) := (mj_flT c).lookup i
def mj_okF (c i : Nat) (x : Nat × Nat) : Prop := ∃ r : vw_C, mj_cs[x.1]? = some r ∧ x.2 < r.2.2 ∧ Cond.fieldLink (mj_cn c) i (r.2.1 x.2).1 (r.2.1 x.2).2.1 (r.2.1 x.2).2.2.1 ∈ lw_tbl
set_option maxRecDepth 20000 in
theorem mj_fl_ok_0_9 : mj_okF 0 9 (0, 0) := ⟨("PassCourt$Judge", mj_F0, 5), rfl, Nat.le_of_ble_eq_true rfl, mj_tn (p := 349) (by decide +kernel)⟩
set_option maxRecDepth 20000 in
theorem mj_fl_ok_0_20 : mj_okF 0 20 (0, 1) := ⟨("PassCourt$Judge", mj_F0, 5), rfl, Nat.le_of_ble_eq_true rfl, mj_tn (p := 350) (by decide +kernel)⟩
set_option maxRecDepth 20000 in
theorem mj_fl_ok_0_24 : mj_okF 0 24 (0, 2) := ⟨("PassCourt$Judge", mj_F0, 5), rfl, Nat.le_of_ble_eq_true rfl, mj_tn (p := 351) (by decide +kernel)⟩
set_option maxRecDepth 20000 in
theorem mj_fl_ok_0_27 : mj_okF 0 27 (0, 3) := ⟨("PassCourt$Judge", mj_F0, 5), rfl, Nat.le_of_ble_eq_true rfl, mj_tn (p := 352) (by decide +kernel)⟩
set_option maxRecDepth 20000 in
theorem mj_fl_ok_0_31 : mj_okF 0 31 (0, 4) := ⟨("PassCourt$Judge", mj_F0, 5), rfl, Nat.le_of_ble_eq_true rfl, mj_tn (p := 353) (by decide +kernel)⟩
set_option maxRecDepth 20000 in
theorem mj_fl_ok_0_46 : mj_okF 0 46 (8, 6) := ⟨("PassCourt$Witness", mj_F8, 7), rfl, Nat.le_of_ble_eq_true rfl, mj_tn (p := 285) (by decide +kernel)⟩
set_option maxRecDepth 20000 in
theorem mj_fl_ok_0_55 : mj_okF 0 55 (8, 0) := ⟨("PassCourt$Witness", mj_F8, 7), rfl, Nat.le_of_ble_eq_true rfl, mj_tn (p := 271) (by decide +kernel)⟩
set_option maxRecDepth 20000 in
theorem mj_fl_ok_0_61 : mj_okF 0 61 (8, 1) := ⟨("PassCourt$Witness", mj_F8, 7), rfl, Nat.le_of_ble_eq_true rfl, mj_tn (p := 274) (by decide +kernel)⟩
set_option maxRecDepth 20000 in
theorem mj_fl_ok_0_76 : mj_okF 0 76 (8, 2) := ⟨("PassCourt$Witness", mj_F8, 7), rfl, Nat.le_of_ble_eq_true rfl, mj_tn (p := 277) (by decide +kernel)⟩
set_option maxRecDepth 20000 in
theorem mj_fl_ok_0_79 : mj_okF 0 79 (8, 3) := ⟨("PassCourt$Witness", mj_F8, 7), rfl, Nat.le_of_ble_eq_true rfl, mj_tn (p := 280) (by decide +kernel)⟩
set_option maxRecDepth 20000 in
theorem mj_fl_ok_0_103 : mj_okF 0 103 (7, 2) := ⟨("PassCourt$Side", mj_F7, 10), rfl, Nat.le_of_ble_eq_true rfl, mj_tn (p := 320) (by decide +kernel)⟩
theorem mj_fl_ok_0 : ∀ e ∈ mj_fl_0, mj_okF 0 e.1 e.2 := by
  exact List.forall_mem_cons.mpr ⟨mj_fl_ok_0_9, List.forall_mem_cons.mpr ⟨mj_fl_ok_0_20, List.forall_mem_cons.mpr ⟨mj_fl_ok_0_24, List.forall_mem_cons.mpr ⟨mj_fl_ok_0_27, List.forall_mem_cons.mpr ⟨mj_fl_ok_0_31, List.forall_mem_cons.mpr ⟨mj_fl_ok_0_46, List.forall_mem_cons.mpr ⟨mj_fl_ok_0_55, List.forall_mem_cons.mpr ⟨mj_fl_ok_0_61, List.forall_mem_cons.mpr ⟨mj_fl_ok_0_76, List.forall_mem_cons.mpr ⟨mj_fl_ok_0_79, List.forall_mem_cons.mpr ⟨mj_fl_ok_0_103, fun _ h => absurd h List.not_mem_nil⟩⟩⟩⟩⟩⟩⟩⟩⟩⟩⟩
set_option maxRecDepth 20000 in
theorem mj_fl_ok_1_9 : mj_okF 1 9 (1, 0) := ⟨("PassCourt$Knowledge", mj_F1, 7), rfl, Nat.le_of_ble_eq_true rfl, mj_tn (p := 152) (by decide +kernel)⟩
set_option maxRecDepth 20000 in
theorem mj_fl_ok_1_15 : mj_okF 1 15 (1, 1) := ⟨("PassCourt$Knowledge", mj_F1, 7), rfl, Nat.le_of_ble_eq_true rfl, mj_tn (p := 155) (by decide +kernel)⟩
set_option maxRecDepth 20000 in
theorem mj_fl_ok_1_18 : mj_okF 1 18 (1, 2) := ⟨("PassCourt$Knowledge", mj_F1, 7), rfl, Nat.le_of_ble_eq_true rfl, mj_tn (p := 156) (by decide +kernel)⟩
set_option maxRecDepth 20000 in
theorem mj_fl_ok_1_22 : mj_okF 1 22 (1, 3) := ⟨("PassCourt$Knowledge", mj_F1, 7), rfl, Nat.le_of_ble_eq_true rfl, mj_tn (p := 157) (by decide +kernel)⟩
set_option maxRecDepth 20000 in
theorem mj_fl_ok_1_25 : mj_okF 1 25 (1, 4) := ⟨("PassCourt$Knowledge", mj_F1, 7), rfl, Nat.le_of_ble_eq_true rfl, mj_tn (p := 158) (by decide +kernel)⟩
set_option maxRecDepth 20000 in
theorem mj_fl_ok_1_29 : mj_okF 1 29 (1, 5) := ⟨("PassCourt$Knowledge", mj_F1, 7), rfl, Nat.le_of_ble_eq_true rfl, mj_tn (p := 159) (by decide +kernel)⟩
set_option maxRecDepth 20000 in
theorem mj_fl_ok_1_32 : mj_okF 1 32 (1, 6) := ⟨("PassCourt$Knowledge", mj_F1, 7), rfl, Nat.le_of_ble_eq_true rfl, mj_tn (p := 160) (by decide +kernel)⟩
set_option maxRecDepth 20000 in
theorem mj_fl_ok_1_38 : mj_okF 1 38 (6, 4) := ⟨("PassCourt$Routine", mj_F6, 5), rfl, Nat.le_of_ble_eq_true rfl, mj_tn (p := 132) (by decide +kernel)⟩
set_option maxRecDepth 20000 in
theorem mj_fl_ok_1_52 : mj_okF 1 52 (6, 0) := ⟨("PassCourt$Routine", mj_F6, 5), rfl, Nat.le_of_ble_eq_true rfl, mj_tn (p := 104) (by decide +kernel)⟩
set_option maxRecDepth 20000 in
theorem mj_fl_ok_1_69 : mj_okF 1 69 (6, 1) := ⟨("PassCourt$Routine", mj_F6, 5), rfl, Nat.le_of_ble_eq_true rfl, mj_tn (p := 111) (by decide +kernel)⟩
set_option maxRecDepth 20000 in
theorem mj_fl_ok_1_100 : mj_okF 1 100 (6, 3) := ⟨("PassCourt$Routine", mj_F6, 5), rfl, Nat.le_of_ble_eq_true rfl, mj_tn (p := 123) (by decide +kernel)⟩
set_option maxRecDepth 20000 in
theorem mj_fl_ok_1_106 : mj_okF 1 106 (6, 2) := ⟨("PassCourt$Routine", mj_F6, 5), rfl, Nat.le_of_ble_eq_true rfl, mj_tn (p := 118) (by decide +kernel)⟩
theorem mj_fl_ok_1 : ∀ e ∈ mj_fl_1, mj_okF 1 e.1 e.2 := by
  exact List.forall_mem_cons.mpr ⟨mj_fl_ok_1_9, List.forall_mem_cons.mpr ⟨mj_fl_ok_1_15, List.forall_mem_cons.mpr ⟨mj_fl_ok_1_18, List.forall_mem_cons.mpr ⟨mj_fl_ok_1_22, List.forall_mem_cons.mpr ⟨mj_fl_ok_1_25, List.forall_mem_cons.mpr ⟨mj_fl_ok_1_29, List.forall_mem_cons.mpr ⟨mj_fl_ok_1_32, List.forall_mem_cons.mpr ⟨mj_fl_ok_1_38, List.forall_mem_cons.mpr ⟨mj_fl_ok_1_52, List.forall_mem_cons.mpr ⟨mj_fl_ok_1_69, List.forall_mem_cons.mpr ⟨mj_fl_ok_1_100, List.forall_mem_cons.mpr ⟨mj_fl_ok_1_106, fun _ h => absurd h List.not_mem_nil⟩⟩⟩⟩⟩⟩⟩⟩⟩⟩⟩⟩
set_option maxRecDepth 20000 in
theorem mj_fl_ok_2_9 : mj_okF 2 9 (2, 0) := ⟨("PassCourt$Leads", mj_F2, 2), rfl, Nat.le_of_ble_eq_true rfl, mj_tn (p := 200) (by decide +kernel)⟩
set_option maxRecDepth 20000 in
theorem mj_fl_ok_2_15 : mj_okF 2 15 (2, 1) := ⟨("PassCourt$Leads", mj_F2, 2), rfl, Nat.le_of_ble_eq_true rfl, mj_tn (p := 202) (by decide +kernel)⟩
set_option maxRecDepth 20000 in
theorem mj_fl_ok_2_18 : mj_okF 2 18 (6, 4) := ⟨("PassCourt$Routine", mj_F6, 5), rfl, Nat.le_of_ble_eq_true rfl, mj_tn (p := 127) (by decide +kernel)⟩
set_option maxRecDepth 20000 in
theorem mj_fl_ok_2_32 : mj_okF 2 32 (6, 0) := ⟨("PassCourt$Routine", mj_F6, 5), rfl, Nat.le_of_ble_eq_true rfl, mj_tn (p := 98) (by decide +kernel)⟩
theorem mj_fl_ok_2 : ∀ e ∈ mj_fl_2, mj_okF 2 e.1 e.2 := by
  exact List.forall_mem_cons.mpr ⟨mj_fl_ok_2_9, List.forall_mem_cons.mpr ⟨mj_fl_ok_2_15, List.forall_mem_cons.mpr ⟨mj_fl_ok_2_18, List.forall_mem_cons.mpr ⟨mj_fl_ok_2_32, fun _ h => absurd h List.not_mem_nil⟩⟩⟩⟩
set_option maxRecDepth 20000 in
theorem mj_fl_ok_3_9 : mj_okF 3 9 (3, 0) := ⟨("PassCourt$Liveness", mj_F3, 1), rfl, Nat.le_of_ble_eq_true rfl, mj_tn (p := 184) (by decide +kernel)⟩
set_option maxRecDepth 20000 in
theorem mj_fl_ok_3_15 : mj_okF 3 15 (6, 4) := ⟨("PassCourt$Routine", mj_F6, 5), rfl, Nat.le_of_ble_eq_true rfl, mj_tn (p := 129) (by decide +kernel)⟩
set_option maxRecDepth 20000 in
theorem mj_fl_ok_3_25 : mj_okF 3 25 (6, 0) := ⟨("PassCourt$Routine", mj_F6, 5), rfl, Nat.le_of_ble_eq_true rfl, mj_tn (p := 99) (by decide +kernel)⟩
set_option maxRecDepth 20000 in
theorem mj_fl_ok_3_44 : mj_okF 3 44 (6, 1) := ⟨("PassCourt$Routine", mj_F6, 5), rfl, Nat.le_of_ble_eq_true rfl, mj_tn (p := 107) (by decide +kernel)⟩
set_option maxRecDepth 20000 in
theorem mj_fl_ok_3_50 : mj_okF 3 50 (6, 2) := ⟨("PassCourt$Routine", mj_F6, 5), rfl, Nat.le_of_ble_eq_true rfl, mj_tn (p := 115) (by decide +kernel)⟩
set_option maxRecDepth 20000 in
theorem mj_fl_ok_3_56 : mj_okF 3 56 (6, 3) := ⟨("PassCourt$Routine", mj_F6, 5), rfl, Nat.le_of_ble_eq_true rfl, mj_tn (p := 122) (by decide +kernel)⟩
theorem mj_fl_ok_3 : ∀ e ∈ mj_fl_3, mj_okF 3 e.1 e.2 := by
  exact List.forall_mem_cons.mpr ⟨mj_fl_ok_3_9, List.forall_mem_cons.mpr ⟨mj_fl_ok_3_15, List.forall_mem_cons.mpr ⟨mj_fl_ok_3_25, List.forall_mem_cons.mpr ⟨mj_fl_ok_3_44, List.forall_mem_cons.mpr ⟨mj_fl_ok_3_50, List.forall_mem_cons.mpr ⟨mj_fl_ok_3_56, fun _ h => absurd h List.not_mem_nil⟩⟩⟩⟩⟩⟩
set_option maxRecDepth 20000 in
theorem mj_fl_ok_4_9 : mj_okF 4 9 (4, 0) := ⟨("PassCourt$Passes", mj_F4, 6), rfl, Nat.le_of_ble_eq_true rfl, mj_tn (p := 211) (by decide +kernel)⟩
set_option maxRecDepth 20000 in
theorem mj_fl_ok_4_15 : mj_okF 4 15 (4, 1) := ⟨("PassCourt$Passes", mj_F4, 6), rfl, Nat.le_of_ble_eq_true rfl, mj_tn (p := 212) (by decide +kernel)⟩
set_option maxRecDepth 20000 in
theorem mj_fl_ok_4_22 : mj_okF 4 22 (4, 2) := ⟨("PassCourt$Passes", mj_F4, 6), rfl, Nat.le_of_ble_eq_true rfl, mj_tn (p := 213) (by decide +kernel)⟩
set_option maxRecDepth 20000 in
theorem mj_fl_ok_4_26 : mj_okF 4 26 (4, 3) := ⟨("PassCourt$Passes", mj_F4, 6), rfl, Nat.le_of_ble_eq_true rfl, mj_tn (p := 214) (by decide +kernel)⟩
set_option maxRecDepth 20000 in
theorem mj_fl_ok_4_33 : mj_okF 4 33 (4, 4) := ⟨("PassCourt$Passes", mj_F4, 6), rfl, Nat.le_of_ble_eq_true rfl, mj_tn (p := 215) (by decide +kernel)⟩
set_option maxRecDepth 20000 in
theorem mj_fl_ok_4_37 : mj_okF 4 37 (4, 5) := ⟨("PassCourt$Passes", mj_F4, 6), rfl, Nat.le_of_ble_eq_true rfl, mj_tn (p := 216) (by decide +kernel)⟩
set_option maxRecDepth 20000 in
theorem mj_fl_ok_4_66 : mj_okF 4 66 (8, 6) := ⟨("PassCourt$Witness", mj_F8, 7), rfl, Nat.le_of_ble_eq_true rfl, mj_tn (p := 286) (by decide +kernel)⟩
set_option maxRecDepth 20000 in
theorem mj_fl_ok_4_99 : mj_okF 4 99 (6, 4) := ⟨("PassCourt$Routine", mj_F6, 5), rfl, Nat.le_of_ble_eq_true rfl, mj_tn (p := 133) (by decide +kernel)⟩
set_option maxRecDepth 20000 in
theorem mj_fl_ok_4_100 : mj_okF 4 100 (1, 0) := ⟨("PassCourt$Knowledge", mj_F1, 7), rfl, Nat.le_of_ble_eq_true rfl, mj_tn (p := 153) (by decide +kernel)⟩
set_option maxRecDepth 20000 in
theorem mj_fl_ok_4_107 : mj_okF 4 107 (6, 0) := ⟨("PassCourt$Routine", mj_F6, 5), rfl, Nat.le_of_ble_eq_true rfl, mj_tn (p := 103) (by decide +kernel)⟩
set_option maxRecDepth 20000 in
theorem mj_fl_ok_4_110 : mj_okF 4 110 (6, 1) := ⟨("PassCourt$Routine", mj_F6, 5), rfl, Nat.le_of_ble_eq_true rfl, mj_tn (p := 110) (by decide +kernel)⟩
set_option maxRecDepth 20000 in
theorem mj_fl_ok_4_126 : mj_okF 4 126 (6, 2) := ⟨("PassCourt$Routine", mj_F6, 5), rfl, Nat.le_of_ble_eq_true rfl, mj_tn (p := 116) (by decide +kernel)⟩
set_option maxRecDepth 20000 in
theorem mj_fl_ok_4_162 : mj_okF 4 162 (2, 0) := ⟨("PassCourt$Leads", mj_F2, 2), rfl, Nat.le_of_ble_eq_true rfl, mj_tn (p := 201) (by decide +kernel)⟩
set_option maxRecDepth 20000 in
theorem mj_fl_ok_4_173 : mj_okF 4 173 (2, 1) := ⟨("PassCourt$Leads", mj_F2, 2), rfl, Nat.le_of_ble_eq_true rfl, mj_tn (p := 203) (by decide +kernel)⟩
set_option maxRecDepth 20000 in
theorem mj_fl_ok_4_179 : mj_okF 4 179 (6, 3) := ⟨("PassCourt$Routine", mj_F6, 5), rfl, Nat.le_of_ble_eq_true rfl, mj_tn (p := 125) (by decide +kernel)⟩
theorem mj_fl_ok_4 : ∀ e ∈ mj_fl_4, mj_okF 4 e.1 e.2 := by
  exact List.forall_mem_cons.mpr ⟨mj_fl_ok_4_9, List.forall_mem_cons.mpr ⟨mj_fl_ok_4_15, List.forall_mem_cons.mpr ⟨mj_fl_ok_4_22, List.forall_mem_cons.mpr ⟨mj_fl_ok_4_26, List.forall_mem_cons.mpr ⟨mj_fl_ok_4_33, List.forall_mem_cons.mpr ⟨mj_fl_ok_4_37, List.forall_mem_cons.mpr ⟨mj_fl_ok_4_66, List.forall_mem_cons.mpr ⟨mj_fl_ok_4_99, List.forall_mem_cons.mpr ⟨mj_fl_ok_4_100, List.forall_mem_cons.mpr ⟨mj_fl_ok_4_107, List.forall_mem_cons.mpr ⟨mj_fl_ok_4_110, List.forall_mem_cons.mpr ⟨mj_fl_ok_4_126, List.forall_mem_cons.mpr ⟨mj_fl_ok_4_162, List.forall_mem_cons.mpr ⟨mj_fl_ok_4_173, List.forall_mem_cons.mpr ⟨mj_fl_ok_4_179, fun _ h => absurd h List.not_mem_nil⟩⟩⟩⟩⟩⟩⟩⟩⟩⟩⟩⟩⟩⟩⟩
set_option maxRecDepth 20000 in
theorem mj_fl_ok_5_9 : mj_okF 5 9 (5, 0) := ⟨("PassCourt$Runner", mj_F5, 7), rfl, Nat.le_of_ble_eq_true rfl, mj_tn (p := 236) (by decide +kernel)⟩
set_option maxRecDepth 20000 in
theorem mj_fl_ok_5_15 : mj_okF 5 15 (5, 1) := ⟨("PassCourt$Runner", mj_F5, 7), rfl, Nat.le_of_ble_eq_true rfl, mj_tn (p := 237) (by decide +kernel)⟩
set_option maxRecDepth 20000 in
theorem mj_fl_ok_5_19 : mj_okF 5 19 (5, 2) := ⟨("PassCourt$Runner", mj_F5, 7), rfl, Nat.le_of_ble_eq_true rfl, mj_tn (p := 239) (by decide +kernel)⟩
set_option maxRecDepth 20000 in
theorem mj_fl_ok_5_22 : mj_okF 5 22 (5, 3) := ⟨("PassCourt$Runner", mj_F5, 7), rfl, Nat.le_of_ble_eq_true rfl, mj_tn (p := 241) (by decide +kernel)⟩
set_option maxRecDepth 20000 in
theorem mj_fl_ok_5_25 : mj_okF 5 25 (5, 4) := ⟨("PassCourt$Runner", mj_F5, 7), rfl, Nat.le_of_ble_eq_true rfl, mj_tn (p := 243) (by decide +kernel)⟩
set_option maxRecDepth 20000 in
theorem mj_fl_ok_5_28 : mj_okF 5 28 (5, 5) := ⟨("PassCourt$Runner", mj_F5, 7), rfl, Nat.le_of_ble_eq_true rfl, mj_tn (p := 245) (by decide +kernel)⟩
set_option maxRecDepth 20000 in
theorem mj_fl_ok_5_31 : mj_okF 5 31 (5, 6) := ⟨("PassCourt$Runner", mj_F5, 7), rfl, Nat.le_of_ble_eq_true rfl, mj_tn (p := 247) (by decide +kernel)⟩
set_option maxRecDepth 20000 in
theorem mj_fl_ok_5_34 : mj_okF 5 34 (6, 4) := ⟨("PassCourt$Routine", mj_F6, 5), rfl, Nat.le_of_ble_eq_true rfl, mj_tn (p := 130) (by decide +kernel)⟩
set_option maxRecDepth 20000 in
theorem mj_fl_ok_5_43 : mj_okF 5 43 (6, 0) := ⟨("PassCourt$Routine", mj_F6, 5), rfl, Nat.le_of_ble_eq_true rfl, mj_tn (p := 100) (by decide +kernel)⟩
set_option maxRecDepth 20000 in
theorem mj_fl_ok_5_47 : mj_okF 5 47 (6, 1) := ⟨("PassCourt$Routine", mj_F6, 5), rfl, Nat.le_of_ble_eq_true rfl, mj_tn (p := 106) (by decide +kernel)⟩
set_option maxRecDepth 20000 in
theorem mj_fl_ok_5_50 : mj_okF 5 50 (6, 2) := ⟨("PassCourt$Routine", mj_F6, 5), rfl, Nat.le_of_ble_eq_true rfl, mj_tn (p := 113) (by decide +kernel)⟩
set_option maxRecDepth 20000 in
theorem mj_fl_ok_5_65 : mj_okF 5 65 (6, 3) := ⟨("PassCourt$Routine", mj_F6, 5), rfl, Nat.le_of_ble_eq_true rfl, mj_tn (p := 121) (by decide +kernel)⟩
theorem mj_fl_ok_5 : ∀ e ∈ mj_fl_5, mj_okF 5 e.1 e.2 := by
  exact List.forall_mem_cons.mpr ⟨mj_fl_ok_5_9, List.forall_mem_cons.mpr ⟨mj_fl_ok_5_15, List.forall_mem_cons.mpr ⟨mj_fl_ok_5_19, List.forall_mem_cons.mpr ⟨mj_fl_ok_5_22, List.forall_mem_cons.mpr ⟨mj_fl_ok_5_25, List.forall_mem_cons.mpr ⟨mj_fl_ok_5_28, List.forall_mem_cons.mpr ⟨mj_fl_ok_5_31, List.forall_mem_cons.mpr ⟨mj_fl_ok_5_34, List.forall_mem_cons.mpr ⟨mj_fl_ok_5_43, List.forall_mem_cons.mpr ⟨mj_fl_ok_5_47, List.forall_mem_cons.mpr ⟨mj_fl_ok_5_50, List.forall_mem_cons.mpr ⟨mj_fl_ok_5_65, fun _ h => absurd h List.not_mem_nil⟩⟩⟩⟩⟩⟩⟩⟩⟩⟩⟩⟩
set_option maxRecDepth 20000 in
theorem mj_fl_ok_6_9 : mj_okF 6 9 (6, 0) := ⟨("PassCourt$Routine", mj_F6, 5), rfl, Nat.le_of_ble_eq_true rfl, mj_tn (p := 97) (by decide +kernel)⟩
set_option maxRecDepth 20000 in
theorem mj_fl_ok_6_15 : mj_okF 6 15 (6, 1) := ⟨("PassCourt$Routine", mj_F6, 5), rfl, Nat.le_of_ble_eq_true rfl, mj_tn (p := 105) (by decide +kernel)⟩
set_option maxRecDepth 20000 in
theorem mj_fl_ok_6_18 : mj_okF 6 18 (6, 2) := ⟨("PassCourt$Routine", mj_F6, 5), rfl, Nat.le_of_ble_eq_true rfl, mj_tn (p := 112) (by decide +kernel)⟩
set_option maxRecDepth 20000 in
theorem mj_fl_ok_6_21 : mj_okF 6 21 (6, 3) := ⟨("PassCourt$Routine", mj_F6, 5), rfl, Nat.le_of_ble_eq_true rfl, mj_tn (p := 119) (by decide +kernel)⟩
set_option maxRecDepth 20000 in
theorem mj_fl_ok_6_24 : mj_okF 6 24 (6, 4) := ⟨("PassCourt$Routine", mj_F6, 5), rfl, Nat.le_of_ble_eq_true rfl, mj_tn (p := 126) (by decide +kernel)⟩
theorem mj_fl_ok_6 : ∀ e ∈ mj_fl_6, mj_okF 6 e.1 e.2 := by
  exact List.forall_mem_cons.mpr ⟨mj_fl_ok_6_9, List.forall_mem_cons.mpr ⟨mj_fl_ok_6_15, List.forall_mem_cons.mpr ⟨mj_fl_ok_6_18, List.forall_mem_cons.mpr ⟨mj_fl_ok_6_21, List.forall_mem_cons.mpr ⟨mj_fl_ok_6_24, fun _ h => absurd h List.not_mem_nil⟩⟩⟩⟩⟩
set_option maxRecDepth 20000 in
theorem mj_fl_ok_7_9 : mj_okF 7 9 (7, 0) := ⟨("PassCourt$Side", mj_F7, 10), rfl, Nat.le_of_ble_eq_true rfl, mj_tn (p := 317) (by decide +kernel)⟩
set_option maxRecDepth 20000 in
theorem mj_fl_ok_7_18 : mj_okF 7 18 (7, 1) := ⟨("PassCourt$Side", mj_F7, 10), rfl, Nat.le_of_ble_eq_true rfl, mj_tn (p := 318) (by decide +kernel)⟩
set_option maxRecDepth 20000 in
theorem mj_fl_ok_7_22 : mj_okF 7 22 (7, 2) := ⟨("PassCourt$Side", mj_F7, 10), rfl, Nat.le_of_ble_eq_true rfl, mj_tn (p := 319) (by decide +kernel)⟩
set_option maxRecDepth 20000 in
theorem mj_fl_ok_7_25 : mj_okF 7 25 (7, 3) := ⟨("PassCourt$Side", mj_F7, 10), rfl, Nat.le_of_ble_eq_true rfl, mj_tn (p := 321) (by decide +kernel)⟩
set_option maxRecDepth 20000 in
theorem mj_fl_ok_7_29 : mj_okF 7 29 (7, 4) := ⟨("PassCourt$Side", mj_F7, 10), rfl, Nat.le_of_ble_eq_true rfl, mj_tn (p := 322) (by decide +kernel)⟩
set_option maxRecDepth 20000 in
theorem mj_fl_ok_7_35 : mj_okF 7 35 (7, 5) := ⟨("PassCourt$Side", mj_F7, 10), rfl, Nat.le_of_ble_eq_true rfl, mj_tn (p := 323) (by decide +kernel)⟩
set_option maxRecDepth 20000 in
theorem mj_fl_ok_7_38 : mj_okF 7 38 (7, 6) := ⟨("PassCourt$Side", mj_F7, 10), rfl, Nat.le_of_ble_eq_true rfl, mj_tn (p := 324) (by decide +kernel)⟩
set_option maxRecDepth 20000 in
theorem mj_fl_ok_7_41 : mj_okF 7 41 (7, 7) := ⟨("PassCourt$Side", mj_F7, 10), rfl, Nat.le_of_ble_eq_true rfl, mj_tn (p := 325) (by decide +kernel)⟩
set_option maxRecDepth 20000 in
theorem mj_fl_ok_7_45 : mj_okF 7 45 (7, 8) := ⟨("PassCourt$Side", mj_F7, 10), rfl, Nat.le_of_ble_eq_true rfl, mj_tn (p := 326) (by decide +kernel)⟩
set_option maxRecDepth 20000 in
theorem mj_fl_ok_7_48 : mj_okF 7 48 (7, 9) := ⟨("PassCourt$Side", mj_F7, 10), rfl, Nat.le_of_ble_eq_true rfl, mj_tn (p := 327) (by decide +kernel)⟩
set_option maxRecDepth 20000 in
theorem mj_fl_ok_7_66 : mj_okF 7 66 (6, 4) := ⟨("PassCourt$Routine", mj_F6, 5), rfl, Nat.le_of_ble_eq_true rfl, mj_tn (p := 131) (by decide +kernel)⟩
set_option maxRecDepth 20000 in
theorem mj_fl_ok_7_69 : mj_okF 7 69 (6, 0) := ⟨("PassCourt$Routine", mj_F6, 5), rfl, Nat.le_of_ble_eq_true rfl, mj_tn (p := 102) (by decide +kernel)⟩
set_option maxRecDepth 20000 in
theorem mj_fl_ok_7_72 : mj_okF 7 72 (6, 1) := ⟨("PassCourt$Routine", mj_F6, 5), rfl, Nat.le_of_ble_eq_true rfl, mj_tn (p := 109) (by decide +kernel)⟩
set_option maxRecDepth 20000 in
theorem mj_fl_ok_7_75 : mj_okF 7 75 (6, 2) := ⟨("PassCourt$Routine", mj_F6, 5), rfl, Nat.le_of_ble_eq_true rfl, mj_tn (p := 117) (by decide +kernel)⟩
set_option maxRecDepth 20000 in
theorem mj_fl_ok_7_78 : mj_okF 7 78 (6, 3) := ⟨("PassCourt$Routine", mj_F6, 5), rfl, Nat.le_of_ble_eq_true rfl, mj_tn (p := 124) (by decide +kernel)⟩
theorem mj_fl_ok_7 : ∀ e ∈ mj_fl_7, mj_okF 7 e.1 e.2 := by
  exact List.forall_mem_cons.mpr ⟨mj_fl_ok_7_9, List.forall_mem_cons.mpr ⟨mj_fl_ok_7_18, List.forall_mem_cons.mpr ⟨mj_fl_ok_7_22, List.forall_mem_cons.mpr ⟨mj_fl_ok_7_25, List.forall_mem_cons.mpr ⟨mj_fl_ok_7_29, List.forall_mem_cons.mpr ⟨mj_fl_ok_7_35, List.forall_mem_cons.mpr ⟨mj_fl_ok_7_38, List.forall_mem_cons.mpr ⟨mj_fl_ok_7_41, List.forall_mem_cons.mpr ⟨mj_fl_ok_7_45, List.forall_mem_cons.mpr ⟨mj_fl_ok_7_48, List.forall_mem_cons.mpr ⟨mj_fl_ok_7_66, List.forall_mem_cons.mpr ⟨mj_fl_ok_7_69, List.forall_mem_cons.mpr ⟨mj_fl_ok_7_72, List.forall_mem_cons.mpr ⟨mj_fl_ok_7_75, List.forall_mem_cons.mpr ⟨mj_fl_ok_7_78, fun _ h => absurd h List.not_mem_nil⟩⟩⟩⟩⟩⟩⟩⟩⟩⟩⟩⟩⟩⟩⟩
set_option maxRecDepth 20000 in
theorem mj_fl_ok_8_9 : mj_okF 8 9 (8, 0) := ⟨("PassCourt$Witness", mj_F8, 7), rfl, Nat.le_of_ble_eq_true rfl, mj_tn (p := 270) (by decide +kernel)⟩
set_option maxRecDepth 20000 in
theorem mj_fl_ok_8_15 : mj_okF 8 15 (8, 1) := ⟨("PassCourt$Witness", mj_F8, 7), rfl, Nat.le_of_ble_eq_true rfl, mj_tn (p := 273) (by decide +kernel)⟩
set_option maxRecDepth 20000 in
theorem mj_fl_ok_8_18 : mj_okF 8 18 (8, 2) := ⟨("PassCourt$Witness", mj_F8, 7), rfl, Nat.le_of_ble_eq_true rfl, mj_tn (p := 276) (by decide +kernel)⟩
set_option maxRecDepth 20000 in
theorem mj_fl_ok_8_21 : mj_okF 8 21 (8, 3) := ⟨("PassCourt$Witness", mj_F8, 7), rfl, Nat.le_of_ble_eq_true rfl, mj_tn (p := 279) (by decide +kernel)⟩
set_option maxRecDepth 20000 in
theorem mj_fl_ok_8_24 : mj_okF 8 24 (8, 4) := ⟨("PassCourt$Witness", mj_F8, 7), rfl, Nat.le_of_ble_eq_true rfl, mj_tn (p := 282) (by decide +kernel)⟩
set_option maxRecDepth 20000 in
theorem mj_fl_ok_8_27 : mj_okF 8 27 (8, 5) := ⟨("PassCourt$Witness", mj_F8, 7), rfl, Nat.le_of_ble_eq_true rfl, mj_tn (p := 283) (by decide +kernel)⟩
set_option maxRecDepth 20000 in
theorem mj_fl_ok_8_31 : mj_okF 8 31 (8, 6) := ⟨("PassCourt$Witness", mj_F8, 7), rfl, Nat.le_of_ble_eq_true rfl, mj_tn (p := 284) (by decide +kernel)⟩
theorem mj_fl_ok_8 : ∀ e ∈ mj_fl_8, mj_okF 8 e.1 e.2 := by
  exact List.forall_mem_cons.mpr ⟨mj_fl_ok_8_9, List.forall_mem_cons.mpr ⟨mj_fl_ok_8_15, List.forall_mem_cons.mpr ⟨mj_fl_ok_8_18, List.forall_mem_cons.mpr ⟨mj_fl_ok_8_21, List.forall_mem_cons.mpr ⟨mj_fl_ok_8_24, List.forall_mem_cons.mpr ⟨mj_fl_ok_8_27, List.forall_mem_cons.mpr ⟨mj_fl_ok_8_31, fun _ h => absurd h List.not_mem_nil⟩⟩⟩⟩⟩⟩⟩
set_option maxRecDepth 20000 in
theorem mj_fl_ok_9_11 : mj_okF 9 11 (9, 0) := ⟨("PassCourt", mj_F9, 8), rfl, Nat.le_of_ble_eq_true rfl, mj_tn (p := 366) (by decide +kernel)⟩
set_option maxRecDepth 20000 in
theorem mj_fl_ok_9_16 : mj_okF 9 16 (9, 1) := ⟨("PassCourt", mj_F9, 8), rfl, Nat.le_of_ble_eq_true rfl, mj_tn (p := 367) (by decide +kernel)⟩
set_option maxRecDepth 20000 in
theorem mj_fl_ok_9_23 : mj_okF 9 23 (9, 2) := ⟨("PassCourt", mj_F9, 8), rfl, Nat.le_of_ble_eq_true rfl, mj_tn (p := 368) (by decide +kernel)⟩
set_option maxRecDepth 20000 in
theorem mj_fl_ok_9_30 : mj_okF 9 30 (9, 3) := ⟨("PassCourt", mj_F9, 8), rfl, Nat.le_of_ble_eq_true rfl, mj_tn (p := 369) (by decide +kernel)⟩
set_option maxRecDepth 20000 in
theorem mj_fl_ok_9_39 : mj_okF 9 39 (9, 4) := ⟨("PassCourt", mj_F9, 8), rfl, Nat.le_of_ble_eq_true rfl, mj_tn (p := 370) (by decide +kernel)⟩
set_option maxRecDepth 20000 in
theorem mj_fl_ok_9_46 : mj_okF 9 46 (9, 5) := ⟨("PassCourt", mj_F9, 8), rfl, Nat.le_of_ble_eq_true rfl, mj_tn (p := 371) (by decide +kernel)⟩
set_option maxRecDepth 20000 in
theorem mj_fl_ok_9_53 : mj_okF 9 53 (9, 6) := ⟨("PassCourt", mj_F9, 8), rfl, Nat.le_of_ble_eq_true rfl, mj_tn (p := 372) (by decide +kernel)⟩
set_option maxRecDepth 20000 in
theorem mj_fl_ok_9_62 : mj_okF 9 62 (9, 7) := ⟨("PassCourt", mj_F9, 8), rfl, Nat.le_of_ble_eq_true rfl, mj_tn (p := 373) (by decide +kernel)⟩
set_option maxRecDepth 20000 in
theorem mj_fl_ok_9_70 : mj_okF 9 70 (6, 4) := ⟨("PassCourt$Routine", mj_F6, 5), rfl, Nat.le_of_ble_eq_true rfl, mj_tn (p := 128) (by decide +kernel)⟩
set_option maxRecDepth 20000 in
theorem mj_fl_ok_9_84 : mj_okF 9 84 (6, 0) := ⟨("PassCourt$Routine", mj_F6, 5), rfl, Nat.le_of_ble_eq_true rfl, mj_tn (p := 101) (by decide +kernel)⟩
set_option maxRecDepth 20000 in
theorem mj_fl_ok_9_88 : mj_okF 9 88 (6, 1) := ⟨("PassCourt$Routine", mj_F6, 5), rfl, Nat.le_of_ble_eq_true rfl, mj_tn (p := 108) (by decide +kernel)⟩
set_option maxRecDepth 20000 in
theorem mj_fl_ok_9_91 : mj_okF 9 91 (6, 2) := ⟨("PassCourt$Routine", mj_F6, 5), rfl, Nat.le_of_ble_eq_true rfl, mj_tn (p := 114) (by decide +kernel)⟩
set_option maxRecDepth 20000 in
theorem mj_fl_ok_9_94 : mj_okF 9 94 (6, 3) := ⟨("PassCourt$Routine", mj_F6, 5), rfl, Nat.le_of_ble_eq_true rfl, mj_tn (p := 120) (by decide +kernel)⟩
set_option maxRecDepth 20000 in
theorem mj_fl_ok_9_124 : mj_okF 9 124 (1, 0) := ⟨("PassCourt$Knowledge", mj_F1, 7), rfl, Nat.le_of_ble_eq_true rfl, mj_tn (p := 154) (by decide +kernel)⟩
set_option maxRecDepth 20000 in
theorem mj_fl_ok_9_144 : mj_okF 9 144 (5, 1) := ⟨("PassCourt$Runner", mj_F5, 7), rfl, Nat.le_of_ble_eq_true rfl, mj_tn (p := 238) (by decide +kernel)⟩
set_option maxRecDepth 20000 in
theorem mj_fl_ok_9_152 : mj_okF 9 152 (5, 4) := ⟨("PassCourt$Runner", mj_F5, 7), rfl, Nat.le_of_ble_eq_true rfl, mj_tn (p := 244) (by decide +kernel)⟩
set_option maxRecDepth 20000 in
theorem mj_fl_ok_9_155 : mj_okF 9 155 (5, 3) := ⟨("PassCourt$Runner", mj_F5, 7), rfl, Nat.le_of_ble_eq_true rfl, mj_tn (p := 242) (by decide +kernel)⟩
set_option maxRecDepth 20000 in
theorem mj_fl_ok_9_159 : mj_okF 9 159 (5, 5) := ⟨("PassCourt$Runner", mj_F5, 7), rfl, Nat.le_of_ble_eq_true rfl, mj_tn (p := 246) (by decide +kernel)⟩
set_option maxRecDepth 20000 in
theorem mj_fl_ok_9_162 : mj_okF 9 162 (5, 6) := ⟨("PassCourt$Runner", mj_F5, 7), rfl, Nat.le_of_ble_eq_true rfl, mj_tn (p := 248) (by decide +kernel)⟩
set_option maxRecDepth 20000 in
theorem mj_fl_ok_9_169 : mj_okF 9 169 (5, 2) := ⟨("PassCourt$Runner", mj_F5, 7), rfl, Nat.le_of_ble_eq_true rfl, mj_tn (p := 240) (by decide +kernel)⟩
set_option maxRecDepth 20000 in
theorem mj_fl_ok_9_172 : mj_okF 9 172 (8, 6) := ⟨("PassCourt$Witness", mj_F8, 7), rfl, Nat.le_of_ble_eq_true rfl, mj_tn (p := 287) (by decide +kernel)⟩
set_option maxRecDepth 20000 in
theorem mj_fl_ok_9_188 : mj_okF 9 188 (8, 0) := ⟨("PassCourt$Witness", mj_F8, 7), rfl, Nat.le_of_ble_eq_true rfl, mj_tn (p := 272) (by decide +kernel)⟩
set_option maxRecDepth 20000 in
theorem mj_fl_ok_9_191 : mj_okF 9 191 (8, 1) := ⟨("PassCourt$Witness", mj_F8, 7), rfl, Nat.le_of_ble_eq_true rfl, mj_tn (p := 275) (by decide +kernel)⟩
set_option maxRecDepth 20000 in
theorem mj_fl_ok_9_194 : mj_okF 9 194 (8, 2) := ⟨("PassCourt$Witness", mj_F8, 7), rfl, Nat.le_of_ble_eq_true rfl, mj_tn (p := 278) (by decide +kernel)⟩
set_option maxRecDepth 20000 in
theorem mj_fl_ok_9_197 : mj_okF 9 197 (8, 3) := ⟨("PassCourt$Witness", mj_F8, 7), rfl, Nat.le_of_ble_eq_true rfl, mj_tn (p := 281) (by decide +kernel)⟩
set_option maxRecDepth 20000 in
theorem mj_fl_ok_9_203 : mj_okF 9 203 (0, 4) := ⟨("PassCourt$Judge", mj_F0, 5), rfl, Nat.le_of_ble_eq_true rfl, mj_tn (p := 354) (by decide +kernel)⟩
theorem mj_fl_ok_9 : ∀ e ∈ mj_fl_9, mj_okF 9 e.1 e.2 := by
  exact List.forall_mem_cons.mpr ⟨mj_fl_ok_9_11, List.forall_mem_cons.mpr ⟨mj_fl_ok_9_16, List.forall_mem_cons.mpr ⟨mj_fl_ok_9_23, List.forall_mem_cons.mpr ⟨mj_fl_ok_9_30, List.forall_mem_cons.mpr ⟨mj_fl_ok_9_39, List.forall_mem_cons.mpr ⟨mj_fl_ok_9_46, List.forall_mem_cons.mpr ⟨mj_fl_ok_9_53, List.forall_mem_cons.mpr ⟨mj_fl_ok_9_62, List.forall_mem_cons.mpr ⟨mj_fl_ok_9_70, List.forall_mem_cons.mpr ⟨mj_fl_ok_9_84, List.forall_mem_cons.mpr ⟨mj_fl_ok_9_88, List.forall_mem_cons.mpr ⟨mj_fl_ok_9_91, List.forall_mem_cons.mpr ⟨mj_fl_ok_9_94, List.forall_mem_cons.mpr ⟨mj_fl_ok_9_124, List.forall_mem_cons.mpr ⟨mj_fl_ok_9_144, List.forall_mem_cons.mpr ⟨mj_fl_ok_9_152, List.forall_mem_cons.mpr ⟨mj_fl_ok_9_155, List.forall_mem_cons.mpr ⟨mj_fl_ok_9_159, List.forall_mem_cons.mpr ⟨mj_fl_ok_9_162, List.forall_mem_cons.mpr ⟨mj_fl_ok_9_169, List.forall_mem_cons.mpr ⟨mj_fl_ok_9_172, List.forall_mem_cons.mpr ⟨mj_fl_ok_9_188, List.forall_mem_cons.mpr ⟨mj_fl_ok_9_191, List.forall_mem_cons.mpr ⟨mj_fl_ok_9_194, List.forall_mem_cons.mpr ⟨mj_fl_ok_9_197, List.forall_mem_cons.mpr ⟨mj_fl_ok_9_203, fun _ h => absurd h List.not_mem_nil⟩⟩⟩⟩⟩⟩⟩⟩⟩⟩⟩⟩⟩⟩⟩⟩⟩⟩⟩⟩⟩⟩⟩⟩⟩⟩
set_option maxRecDepth 20000 in
theorem mj_fl_ok_10_7 : mj_okF 10 7 (10, 1) := ⟨("PassCourtModel", mj_F10, 35), rfl, Nat.le_of_ble_eq_true rfl, mj_tn (p := 913) (by decide +kernel)⟩
set_option maxRecDepth 20000 in
theorem mj_fl_ok_10_13 : mj_okF 10 13 (10, 2) := ⟨("PassCourtModel", mj_F10, 35), rfl, Nat.le_of_ble_eq_true rfl, mj_tn (p := 914) (by decide +kernel)⟩
set_option maxRecDepth 20000 in
theorem mj_fl_ok_10_16 : mj_okF 10 16 (10, 3) := ⟨("PassCourtModel", mj_F10, 35), rfl, Nat.le_of_ble_eq_true rfl, mj_tn (p := 915) (by decide +kernel)⟩
set_option maxRecDepth 20000 in
theorem mj_fl_ok_10_20 : mj_okF 10 20 (10, 5) := ⟨("PassCourtModel", mj_F10, 35), rfl, Nat.le_of_ble_eq_true rfl, mj_tn (p := 917) (by decide +kernel)⟩
set_option maxRecDepth 20000 in
theorem mj_fl_ok_10_23 : mj_okF 10 23 (10, 6) := ⟨("PassCourtModel", mj_F10, 35), rfl, Nat.le_of_ble_eq_true rfl, mj_tn (p := 918) (by decide +kernel)⟩
set_option maxRecDepth 20000 in
theorem mj_fl_ok_10_26 : mj_okF 10 26 (10, 11) := ⟨("PassCourtModel", mj_F10, 35), rfl, Nat.le_of_ble_eq_true rfl, mj_tn (p := 923) (by decide +kernel)⟩
set_option maxRecDepth 20000 in
theorem mj_fl_ok_10_29 : mj_okF 10 29 (10, 12) := ⟨("PassCourtModel", mj_F10, 35), rfl, Nat.le_of_ble_eq_true rfl, mj_tn (p := 924) (by decide +kernel)⟩
set_option maxRecDepth 20000 in
theorem mj_fl_ok_10_32 : mj_okF 10 32 (10, 13) := ⟨("PassCourtModel", mj_F10, 35), rfl, Nat.le_of_ble_eq_true rfl, mj_tn (p := 925) (by decide +kernel)⟩
set_option maxRecDepth 20000 in
theorem mj_fl_ok_10_35 : mj_okF 10 35 (10, 14) := ⟨("PassCourtModel", mj_F10, 35), rfl, Nat.le_of_ble_eq_true rfl, mj_tn (p := 926) (by decide +kernel)⟩
set_option maxRecDepth 20000 in
theorem mj_fl_ok_10_38 : mj_okF 10 38 (10, 15) := ⟨("PassCourtModel", mj_F10, 35), rfl, Nat.le_of_ble_eq_true rfl, mj_tn (p := 927) (by decide +kernel)⟩
set_option maxRecDepth 20000 in
theorem mj_fl_ok_10_41 : mj_okF 10 41 (10, 16) := ⟨("PassCourtModel", mj_F10, 35), rfl, Nat.le_of_ble_eq_true rfl, mj_tn (p := 928) (by decide +kernel)⟩
set_option maxRecDepth 20000 in
theorem mj_fl_ok_10_44 : mj_okF 10 44 (10, 18) := ⟨("PassCourtModel", mj_F10, 35), rfl, Nat.le_of_ble_eq_true rfl, mj_tn (p := 930) (by decide +kernel)⟩
set_option maxRecDepth 20000 in
theorem mj_fl_ok_10_48 : mj_okF 10 48 (10, 19) := ⟨("PassCourtModel", mj_F10, 35), rfl, Nat.le_of_ble_eq_true rfl, mj_tn (p := 931) (by decide +kernel)⟩
set_option maxRecDepth 20000 in
theorem mj_fl_ok_10_52 : mj_okF 10 52 (10, 20) := ⟨("PassCourtModel", mj_F10, 35), rfl, Nat.le_of_ble_eq_true rfl, mj_tn (p := 932) (by decide +kernel)⟩
set_option maxRecDepth 20000 in
theorem mj_fl_ok_10_55 : mj_okF 10 55 (10, 21) := ⟨("PassCourtModel", mj_F10, 35), rfl, Nat.le_of_ble_eq_true rfl, mj_tn (p := 933) (by decide +kernel)⟩
set_option maxRecDepth 20000 in
theorem mj_fl_ok_10_58 : mj_okF 10 58 (10, 24) := ⟨("PassCourtModel", mj_F10, 35), rfl, Nat.le_of_ble_eq_true rfl, mj_tn (p := 936) (by decide +kernel)⟩
set_option maxRecDepth 20000 in
theorem mj_fl_ok_10_61 : mj_okF 10 61 (10, 29) := ⟨("PassCourtModel", mj_F10, 35), rfl, Nat.le_of_ble_eq_true rfl, mj_tn (p := 941) (by decide +kernel)⟩
set_option maxRecDepth 20000 in
theorem mj_fl_ok_10_64 : mj_okF 10 64 (10, 30) := ⟨("PassCourtModel", mj_F10, 35), rfl, Nat.le_of_ble_eq_true rfl, mj_tn (p := 942) (by decide +kernel)⟩
set_option maxRecDepth 20000 in
theorem mj_fl_ok_10_67 : mj_okF 10 67 (10, 31) := ⟨("PassCourtModel", mj_F10, 35), rfl, Nat.le_of_ble_eq_true rfl, mj_tn (p := 943) (by decide +kernel)⟩
set_option maxRecDepth 20000 in
theorem mj_fl_ok_10_70 : mj_okF 10 70 (10, 32) := ⟨("PassCourtModel", mj_F10, 35), rfl, Nat.le_of_ble_eq_true rfl, mj_tn (p := 944) (by decide +kernel)⟩
set_option maxRecDepth 20000 in
theorem mj_fl_ok_10_73 : mj_okF 10 73 (10, 33) := ⟨("PassCourtModel", mj_F10, 35), rfl, Nat.le_of_ble_eq_true rfl, mj_tn (p := 945) (by decide +kernel)⟩
set_option maxRecDepth 20000 in
theorem mj_fl_ok_10_76 : mj_okF 10 76 (10, 34) := ⟨("PassCourtModel", mj_F10, 35), rfl, Nat.le_of_ble_eq_true rfl, mj_tn (p := 946) (by decide +kernel)⟩
set_option maxRecDepth 20000 in
theorem mj_fl_ok_10_79 : mj_okF 10 79 (10, 0) := ⟨("PassCourtModel", mj_F10, 35), rfl, Nat.le_of_ble_eq_true rfl, mj_tn (p := 912) (by decide +kernel)⟩
set_option maxRecDepth 20000 in
theorem mj_fl_ok_10_114 : mj_okF 10 114 (10, 22) := ⟨("PassCourtModel", mj_F10, 35), rfl, Nat.le_of_ble_eq_true rfl, mj_tn (p := 934) (by decide +kernel)⟩
set_option maxRecDepth 20000 in
theorem mj_fl_ok_10_118 : mj_okF 10 118 (10, 23) := ⟨("PassCourtModel", mj_F10, 35), rfl, Nat.le_of_ble_eq_true rfl, mj_tn (p := 935) (by decide +kernel)⟩
set_option maxRecDepth 20000 in
theorem mj_fl_ok_10_170 : mj_okF 10 170 (10, 25) := ⟨("PassCourtModel", mj_F10, 35), rfl, Nat.le_of_ble_eq_true rfl, mj_tn (p := 937) (by decide +kernel)⟩
set_option maxRecDepth 20000 in
theorem mj_fl_ok_10_173 : mj_okF 10 173 (10, 10) := ⟨("PassCourtModel", mj_F10, 35), rfl, Nat.le_of_ble_eq_true rfl, mj_tn (p := 922) (by decide +kernel)⟩
set_option maxRecDepth 20000 in
theorem mj_fl_ok_10_184 : mj_okF 10 184 (10, 26) := ⟨("PassCourtModel", mj_F10, 35), rfl, Nat.le_of_ble_eq_true rfl, mj_tn (p := 938) (by decide +kernel)⟩
set_option maxRecDepth 20000 in
theorem mj_fl_ok_10_208 : mj_okF 10 208 (10, 4) := ⟨("PassCourtModel", mj_F10, 35), rfl, Nat.le_of_ble_eq_true rfl, mj_tn (p := 916) (by decide +kernel)⟩
set_option maxRecDepth 20000 in
theorem mj_fl_ok_10_212 : mj_okF 10 212 (10, 7) := ⟨("PassCourtModel", mj_F10, 35), rfl, Nat.le_of_ble_eq_true rfl, mj_tn (p := 919) (by decide +kernel)⟩
set_option maxRecDepth 20000 in
theorem mj_fl_ok_10_215 : mj_okF 10 215 (10, 8) := ⟨("PassCourtModel", mj_F10, 35), rfl, Nat.le_of_ble_eq_true rfl, mj_tn (p := 920) (by decide +kernel)⟩
set_option maxRecDepth 20000 in
theorem mj_fl_ok_10_218 : mj_okF 10 218 (10, 9) := ⟨("PassCourtModel", mj_F10, 35), rfl, Nat.le_of_ble_eq_true rfl, mj_tn (p := 921) (by decide +kernel)⟩
set_option maxRecDepth 20000 in
theorem mj_fl_ok_10_221 : mj_okF 10 221 (10, 27) := ⟨("PassCourtModel", mj_F10, 35), rfl, Nat.le_of_ble_eq_true rfl, mj_tn (p := 939) (by decide +kernel)⟩
set_option maxRecDepth 20000 in
theorem mj_fl_ok_10_224 : mj_okF 10 224 (10, 28) := ⟨("PassCourtModel", mj_F10, 35), rfl, Nat.le_of_ble_eq_true rfl, mj_tn (p := 940) (by decide +kernel)⟩
set_option maxRecDepth 20000 in
theorem mj_fl_ok_10_259 : mj_okF 10 259 (10, 17) := ⟨("PassCourtModel", mj_F10, 35), rfl, Nat.le_of_ble_eq_true rfl, mj_tn (p := 929) (by decide +kernel)⟩
theorem mj_fl_ok_10 : ∀ e ∈ mj_fl_10, mj_okF 10 e.1 e.2 := by
  exact List.forall_mem_cons.mpr ⟨mj_fl_ok_10_7, List.forall_mem_cons.mpr ⟨mj_fl_ok_10_13, List.forall_mem_cons.mpr ⟨mj_fl_ok_10_16, List.forall_mem_cons.mpr ⟨mj_fl_ok_10_20, List.forall_mem_cons.mpr ⟨mj_fl_ok_10_23, List.forall_mem_cons.mpr ⟨mj_fl_ok_10_26, List.forall_mem_cons.mpr ⟨mj_fl_ok_10_29, List.forall_mem_cons.mpr ⟨mj_fl_ok_10_32, List.forall_mem_cons.mpr ⟨mj_fl_ok_10_35, List.forall_mem_cons.mpr ⟨mj_fl_ok_10_38, List.forall_mem_cons.mpr ⟨mj_fl_ok_10_41, List.forall_mem_cons.mpr ⟨mj_fl_ok_10_44, List.forall_mem_cons.mpr ⟨mj_fl_ok_10_48, List.forall_mem_cons.mpr ⟨mj_fl_ok_10_52, List.forall_mem_cons.mpr ⟨mj_fl_ok_10_55, List.forall_mem_cons.mpr ⟨mj_fl_ok_10_58, List.forall_mem_cons.mpr ⟨mj_fl_ok_10_61, List.forall_mem_cons.mpr ⟨mj_fl_ok_10_64, List.forall_mem_cons.mpr ⟨mj_fl_ok_10_67, List.forall_mem_cons.mpr ⟨mj_fl_ok_10_70, List.forall_mem_cons.mpr ⟨mj_fl_ok_10_73, List.forall_mem_cons.mpr ⟨mj_fl_ok_10_76, List.forall_mem_cons.mpr ⟨mj_fl_ok_10_79, List.forall_mem_cons.mpr ⟨mj_fl_ok_10_114, List.forall_mem_cons.mpr ⟨mj_fl_ok_10_118, List.forall_mem_cons.mpr ⟨mj_fl_ok_10_170, List.forall_mem_cons.mpr ⟨mj_fl_ok_10_173, List.forall_mem_cons.mpr ⟨mj_fl_ok_10_184, List.forall_mem_cons.mpr ⟨mj_fl_ok_10_208, List.forall_mem_cons.mpr ⟨mj_fl_ok_10_212, List.forall_mem_cons.mpr ⟨mj_fl_ok_10_215, List.forall_mem_cons.mpr ⟨mj_fl_ok_10_218, List.forall_mem_cons.mpr ⟨mj_fl_ok_10_221, List.forall_mem_cons.mpr ⟨mj_fl_ok_10_224, List.forall_mem_cons.mpr ⟨mj_fl_ok_10_259, fun _ h => absurd h List.not_mem_nil⟩⟩⟩⟩⟩⟩⟩⟩⟩⟩⟩⟩⟩⟩⟩⟩⟩⟩⟩⟩⟩⟩⟩⟩⟩⟩⟩⟩⟩⟩⟩⟩⟩⟩⟩
theorem mj_fl_ok_11 : ∀ e ∈ mj_fl_11, mj_okF 11 e.1 e.2 := by
  intro e he; cases he
theorem mj_fl_ok_12 : ∀ e ∈ mj_fl_12, mj_okF 12 e.1 e.2 := by
  intro e he; cases he
theorem mj_fl_ok {c i : Nat} {x : _} (hc : c < 13) (h : mj_fl c i = some x) : mj_okF c i x := by
  have hm := mj_look h
  match c, hc, hm with
  | 0, _, hm => exact mj_fl_ok_0 _ hm
  | 1, _, hm => exact mj_fl_ok_1 _ hm
  | 2, _, hm => exact mj_fl_ok_2 _ hm
  | 3, _, hm => exact mj_fl_ok_3 _ hm
  | 4, _, hm => exact mj_fl_ok_4 _ hm
  | 5, _, hm => exact mj_fl_ok_5 _ hm
  | 6, _, hm => exact mj_fl_ok_6 _ hm
  | 7, _, hm => exact mj_fl_ok_7 _ hm
  | 8, _, hm => exact mj_fl_ok_8 _ hm
  | 9, _, hm => exact mj_fl_ok_9 _ hm
  | 10, _, hm => exact mj_fl_ok_10 _ hm
  | 11, _, hm => exact mj_fl_ok_11 _ hm
  | 12, _, hm => exact mj_fl_ok_12 _ hm
  | n + 13, hc, _ => exact absurd hc (by omega)
def mj_nw_0 : List (Nat × Nat) := [(15, 7)]
def mj_nw_1 : List (Nat × Nat) := []
def mj_nw_2 : List (Nat × Nat) := []
def mj_nw_3 : List (Nat × Nat) := []
def mj_nw_4 : List (Nat × Nat) := [(19, 2), (30, 6)]
def mj_nw_5 : List (Nat × Nat) := []
def mj_nw_6 : List (Nat × Nat) := []
def mj_nw_7 : List (Nat × Nat) := [(15, 6)]
def mj_nw_8 : List (Nat × Nat) := []
def mj_nw_9 : List (Nat × Nat) := [(9, 6), (20, 1), (27, 3), (34, 4), (43, 5), (50, 8), (57, 0)]
def mj_nw_10 : List (Nat × Nat) := []
def mj_nw_11 : List (Nat × Nat) := []
def mj_nw_12 : List (Nat × Nat) := [(7, 9), (10, 10)]
def mj_nwT (c : Nat) : List (Nat × Nat) := match c with
  | 0 => mj_nw_0
  | 1 => mj_nw_1
  | 2 => mj_nw_2
  | 3 => mj_nw_3
  | 4 => mj_nw_4
  | 5 => mj_nw_5
  | 6 => mj_nw_6
  | 7 => mj_nw_7
  | 8 => mj_nw_8
  | 9 => mj_nw_9
  | 10 => mj_nw_10
  | 11 => mj_nw_11
  | _ => mj_nw_12
def mj_nw (c i : Nat) : Option (Nat) := (mj_nwT c).lookup i
def mj_okN (c i : Nat) (x : Nat) : Prop := ∃ r : vw_C, mj_cs[x]? = some r ∧ Cond.classLink (mj_cn c) i r.1 ∈ lw_tbl ∧ Cond.instantiable r.1 r.2.2 ∈ lw_tbl ∧ Cond.initialized r.1 ∈ lw_tbl
set_option maxRecDepth 20000 in
theorem mj_nw_ok_0_15 : mj_okN 0 15 7 := ⟨("PassCourt$Side", mj_F7, 10), rfl, mj_tn (p := 309) (by decide +kernel), mj_tn (p := 310) (by decide +kernel), mj_tn (p := 79) (by decide +kernel)⟩
theorem mj_nw_ok_0 : ∀ e ∈ mj_nw_0, mj_okN 0 e.1 e.2 := by
  exact List.forall_mem_cons.mpr ⟨mj_nw_ok_0_15, fun _ h => absurd h List.not_mem_nil⟩
theorem mj_nw_ok_1 : ∀ e ∈ mj_nw_1, mj_okN 1 e.1 e.2 := by
  intro e he; cases he
theorem mj_nw_ok_2 : ∀ e ∈ mj_nw_2, mj_okN 2 e.1 e.2 := by
  intro e he; cases he
theorem mj_nw_ok_3 : ∀ e ∈ mj_nw_3, mj_okN 3 e.1 e.2 := by
  intro e he; cases he
set_option maxRecDepth 20000 in
theorem mj_nw_ok_4_19 : mj_okN 4 19 2 := ⟨("PassCourt$Leads", mj_F2, 2), rfl, mj_tn (p := 194) (by decide +kernel), mj_tn (p := 195) (by decide +kernel), mj_tn (p := 75) (by decide +kernel)⟩
set_option maxRecDepth 20000 in
theorem mj_nw_ok_4_30 : mj_okN 4 30 6 := ⟨("PassCourt$Routine", mj_F6, 5), rfl, mj_tn (p := 209) (by decide +kernel), mj_tn (p := 92) (by decide +kernel), mj_tn (p := 71) (by decide +kernel)⟩
theorem mj_nw_ok_4 : ∀ e ∈ mj_nw_4, mj_okN 4 e.1 e.2 := by
  exact List.forall_mem_cons.mpr ⟨mj_nw_ok_4_19, List.forall_mem_cons.mpr ⟨mj_nw_ok_4_30, fun _ h => absurd h List.not_mem_nil⟩⟩
theorem mj_nw_ok_5 : ∀ e ∈ mj_nw_5, mj_okN 5 e.1 e.2 := by
  intro e he; cases he
theorem mj_nw_ok_6 : ∀ e ∈ mj_nw_6, mj_okN 6 e.1 e.2 := by
  intro e he; cases he
set_option maxRecDepth 20000 in
theorem mj_nw_ok_7_15 : mj_okN 7 15 6 := ⟨("PassCourt$Routine", mj_F6, 5), rfl, mj_tn (p := 315) (by decide +kernel), mj_tn (p := 92) (by decide +kernel), mj_tn (p := 71) (by decide +kernel)⟩
theorem mj_nw_ok_7 : ∀ e ∈ mj_nw_7, mj_okN 7 e.1 e.2 := by
  exact List.forall_mem_cons.mpr ⟨mj_nw_ok_7_15, fun _ h => absurd h List.not_mem_nil⟩
theorem mj_nw_ok_8 : ∀ e ∈ mj_nw_8, mj_okN 8 e.1 e.2 := by
  intro e he; cases he
set_option maxRecDepth 20000 in
theorem mj_nw_ok_9_9 : mj_okN 9 9 6 := ⟨("PassCourt$Routine", mj_F6, 5), rfl, mj_tn (p := 90) (by decide +kernel), mj_tn (p := 92) (by decide +kernel), mj_tn (p := 71) (by decide +kernel)⟩
set_option maxRecDepth 20000 in
theorem mj_nw_ok_9_20 : mj_okN 9 20 1 := ⟨("PassCourt$Knowledge", mj_F1, 7), rfl, mj_tn (p := 146) (by decide +kernel), mj_tn (p := 147) (by decide +kernel), mj_tn (p := 72) (by decide +kernel)⟩
set_option maxRecDepth 20000 in
theorem mj_nw_ok_9_27 : mj_okN 9 27 3 := ⟨("PassCourt$Liveness", mj_F3, 1), rfl, mj_tn (p := 178) (by decide +kernel), mj_tn (p := 179) (by decide +kernel), mj_tn (p := 73) (by decide +kernel)⟩
set_option maxRecDepth 20000 in
theorem mj_nw_ok_9_34 : mj_okN 9 34 4 := ⟨("PassCourt$Passes", mj_F4, 6), rfl, mj_tn (p := 188) (by decide +kernel), mj_tn (p := 189) (by decide +kernel), mj_tn (p := 74) (by decide +kernel)⟩
set_option maxRecDepth 20000 in
theorem mj_nw_ok_9_43 : mj_okN 9 43 5 := ⟨("PassCourt$Runner", mj_F5, 7), rfl, mj_tn (p := 230) (by decide +kernel), mj_tn (p := 231) (by decide +kernel), mj_tn (p := 76) (by decide +kernel)⟩
set_option maxRecDepth 20000 in
theorem mj_nw_ok_9_50 : mj_okN 9 50 8 := ⟨("PassCourt$Witness", mj_F8, 7), rfl, mj_tn (p := 264) (by decide +kernel), mj_tn (p := 265) (by decide +kernel), mj_tn (p := 77) (by decide +kernel)⟩
set_option maxRecDepth 20000 in
theorem mj_nw_ok_9_57 : mj_okN 9 57 0 := ⟨("PassCourt$Judge", mj_F0, 5), rfl, mj_tn (p := 303) (by decide +kernel), mj_tn (p := 304) (by decide +kernel), mj_tn (p := 78) (by decide +kernel)⟩
theorem mj_nw_ok_9 : ∀ e ∈ mj_nw_9, mj_okN 9 e.1 e.2 := by
  exact List.forall_mem_cons.mpr ⟨mj_nw_ok_9_9, List.forall_mem_cons.mpr ⟨mj_nw_ok_9_20, List.forall_mem_cons.mpr ⟨mj_nw_ok_9_27, List.forall_mem_cons.mpr ⟨mj_nw_ok_9_34, List.forall_mem_cons.mpr ⟨mj_nw_ok_9_43, List.forall_mem_cons.mpr ⟨mj_nw_ok_9_50, List.forall_mem_cons.mpr ⟨mj_nw_ok_9_57, fun _ h => absurd h List.not_mem_nil⟩⟩⟩⟩⟩⟩⟩
theorem mj_nw_ok_10 : ∀ e ∈ mj_nw_10, mj_okN 10 e.1 e.2 := by
  intro e he; cases he
theorem mj_nw_ok_11 : ∀ e ∈ mj_nw_11, mj_okN 11 e.1 e.2 := by
  intro e he; cases he
set_option maxRecDepth 20000 in
theorem mj_nw_ok_12_7 : mj_okN 12 7 9 := ⟨("PassCourt", mj_F9, 8), rfl, mj_tn (p := 82) (by decide +kernel), mj_tn (p := 83) (by decide +kernel), mj_tn (p := 70) (by decide +kernel)⟩
set_option maxRecDepth 20000 in
theorem mj_nw_ok_12_10 : mj_okN 12 10 10 := ⟨("PassCourtModel", mj_F10, 35), rfl, mj_tn (p := 906) (by decide +kernel), mj_tn (p := 907) (by decide +kernel), mj_tn (p := 80) (by decide +kernel)⟩
theorem mj_nw_ok_12 : ∀ e ∈ mj_nw_12, mj_okN 12 e.1 e.2 := by
  exact List.forall_mem_cons.mpr ⟨mj_nw_ok_12_7, List.forall_mem_cons.mpr ⟨mj_nw_ok_12_10, fun _ h => absurd h List.not_mem_nil⟩⟩
theorem mj_nw_ok {c i : Nat} {x : _} (hc : c < 13) (h : mj_nw c i = some x) : mj_okN c i x := by
  have hm := mj_look h
  match c, hc, hm with
  | 0, _, hm => exact mj_nw_ok_0 _ hm
  | 1, _, hm => exact mj_nw_ok_1 _ hm
  | 2, _, hm => exact mj_nw_ok_2 _ hm
  | 3, _, hm => exact mj_nw_ok_3 _ hm
  | 4, _, hm => exact mj_nw_ok_4 _ hm
  | 5, _, hm => exact mj_nw_ok_5 _ hm
  | 6, _, hm => exact mj_nw_ok_6 _ hm
  | 7, _, hm => exact mj_nw_ok_7 _ hm
  | 8, _, hm => exact mj_nw_ok_8 _ hm
  | 9, _, hm => exact mj_nw_ok_9 _ hm
  | 10, _, hm => exact mj_nw_ok_10 _ hm
  | 11, _, hm => exact mj_nw_ok_11 _ hm
  | 12, _, hm => exact mj_nw_ok_12 _ hm
  | n + 13, hc, _ => exact absurd hc (by omega)
def mj_an_0 : List (Nat × Nat) := []
def mj_an_1 : List (Nat × Nat) := []
def mj_an_2 : List (Nat × Nat) := []
def mj_an_3 : List (Nat × Nat) := []
def mj_an_4 : List (Nat × Nat) := []
def mj_an_5 : List (Nat × Nat) := []
def mj_an_6 : List (Nat × Nat) := []
def mj_an_7 : List (Nat × Nat) := []
def mj_an_8 : List (Nat × Nat) := []
def mj_an_9 : List (Nat × Nat) := [(9, 6)]
def mj_an_10 : List (Nat × Nat) := []
def mj_an_11 : List (Nat × Nat) := []
def mj_an_12 : List (Nat × Nat) := []
def mj_anT (c : Nat) : List (Nat × Nat) := match c with
  | 0 => mj_an_0
  | 1 => mj_an_1
  | 2 => mj_an_2
  | 3 => mj_an_3
  | 4 => mj_an_4
  | 5 => mj_an_5
  | 6 => mj_an_6
  | 7 => mj_an_7
  | 8 => mj_an_8
  | 9 => mj_an_9
  | 10 => mj_an_10
  | 11 => mj_an_11
  | _ => mj_an_12
def mj_an (c i : Nat) : Option (Nat) := (mj_anT c).lookup i
def mj_okA (c i : Nat) (x : Nat) : Prop := Cond.classLink (mj_cn c) i (mj_cn x) ∈ lw_tbl ∧ Cond.arrayOver (.object (mj_cn x)) ∈ lw_tbl ∧ x = 6
theorem mj_an_ok_0 : ∀ e ∈ mj_an_0, mj_okA 0 e.1 e.2 := by
  intro e he; cases he
theorem mj_an_ok_1 : ∀ e ∈ mj_an_1, mj_okA 1 e.1 e.2 := by
  intro e he; cases he
theorem mj_an_ok_2 : ∀ e ∈ mj_an_2, mj_okA 2 e.1 e.2 := by
  intro e he; cases he
theorem mj_an_ok_3 : ∀ e ∈ mj_an_3, mj_okA 3 e.1 e.2 := by
  intro e he; cases he
theorem mj_an_ok_4 : ∀ e ∈ mj_an_4, mj_okA 4 e.1 e.2 := by
  intro e he; cases he
theorem mj_an_ok_5 : ∀ e ∈ mj_an_5, mj_okA 5 e.1 e.2 := by
  intro e he; cases he
theorem mj_an_ok_6 : ∀ e ∈ mj_an_6, mj_okA 6 e.1 e.2 := by
  intro e he; cases he
theorem mj_an_ok_7 : ∀ e ∈ mj_an_7, mj_okA 7 e.1 e.2 := by
  intro e he; cases he
theorem mj_an_ok_8 : ∀ e ∈ mj_an_8, mj_okA 8 e.1 e.2 := by
  intro e he; cases he
set_option maxRecDepth 20000 in
theorem mj_an_ok_9_9 : mj_okA 9 9 6 := ⟨mj_tn (p := 90) (by decide +kernel), mj_tn (p := 91) (by decide +kernel), rfl⟩
theorem mj_an_ok_9 : ∀ e ∈ mj_an_9, mj_okA 9 e.1 e.2 := by
  exact List.forall_mem_cons.mpr ⟨mj_an_ok_9_9, fun _ h => absurd h List.not_mem_nil⟩
theorem mj_an_ok_10 : ∀ e ∈ mj_an_10, mj_okA 10 e.1 e.2 := by
  intro e he; cases he
theorem mj_an_ok_11 : ∀ e ∈ mj_an_11, mj_okA 11 e.1 e.2 := by
  intro e he; cases he
theorem mj_an_ok_12 : ∀ e ∈ mj_an_12, mj_okA 12 e.1 e.2 := by
  intro e he; cases he
theorem mj_an_ok {c i : Nat} {x : _} (hc : c < 13) (h : mj_an c i = some x) : mj_okA c i x := by
  have hm := mj_look h
  match c, hc, hm with
  | 0, _, hm => exact mj_an_ok_0 _ hm
  | 1, _, hm => exact mj_an_ok_1 _ hm
  | 2, _, hm => exact mj_an_ok_2 _ hm
  | 3, _, hm => exact mj_an_ok_3 _ hm
  | 4, _, hm => exact mj_an_ok_4 _ hm
  | 5, _, hm => exact mj_an_ok_5 _ hm
  | 6, _, hm => exact mj_an_ok_6 _ hm
  | 7, _, hm => exact mj_an_ok_7 _ hm
  | 8, _, hm => exact mj_an_ok_8 _ hm
  | 9, _, hm => exact mj_an_ok_9 _ hm
  | 10, _, hm => exact mj_an_ok_10 _ hm
  | 11, _, hm => exact mj_an_ok_11 _ hm
  | 12, _, hm => exact mj_an_ok_12 _ hm
  | n + 13, hc, _ => exact absurd hc (by omega)
def mj_kI_0 : List (Nat × Int32) := []
def mj_kI_1 : List (Nat × Int32) := []
def mj_kI_2 : List (Nat × Int32) := []
def mj_kI_3 : List (Nat × Int32) := []
def mj_kI_4 : List (Nat × Int32) := []
def mj_kI_5 : List (Nat × Int32) := []
def mj_kI_6 : List (Nat × Int32) := []
def mj_kI_7 : List (Nat × Int32) := []
def mj_kI_8 : List (Nat × Int32) := []
def mj_kI_9 : List (Nat × Int32) := [(83, -2000000000), (147, 100000)]
def mj_kI_10 : List (Nat × Int32) := [(105, -2000000000), (211, 100000)]
def mj_kI_11 : List (Nat × Int32) := []
def mj_kI_12 : List (Nat × Int32) := []
def mj_kIT (c : Nat) : List (Nat × Int32) := match c with
  | 0 => mj_kI_0
  | 1 => mj_kI_1
  | 2 => mj_kI_2
  | 3 => mj_kI_3
  | 4 => mj_kI_4
  | 5 => mj_kI_5
  | 6 => mj_kI_6
  | 7 => mj_kI_7
  | 8 => mj_kI_8
  | 9 => mj_kI_9
  | 10 => mj_kI_10
  | 11 => mj_kI_11
  | _ => mj_kI_12
def mj_kI (c i : Nat) : Option (Int32) := (mj_kIT c).lookup i
def mj_okI (c i : Nat) (x : Int32) : Prop := Cond.constant (mj_cn c) i x ∈ lw_tbl
theorem mj_kI_ok_0 : ∀ e ∈ mj_kI_0, mj_okI 0 e.1 e.2 := by
  intro e he; cases he
theorem mj_kI_ok_1 : ∀ e ∈ mj_kI_1, mj_okI 1 e.1 e.2 := by
  intro e he; cases he
theorem mj_kI_ok_2 : ∀ e ∈ mj_kI_2, mj_okI 2 e.1 e.2 := by
  intro e he; cases he
theorem mj_kI_ok_3 : ∀ e ∈ mj_kI_3, mj_okI 3 e.1 e.2 := by
  intro e he; cases he
theorem mj_kI_ok_4 : ∀ e ∈ mj_kI_4, mj_okI 4 e.1 e.2 := by
  intro e he; cases he
theorem mj_kI_ok_5 : ∀ e ∈ mj_kI_5, mj_okI 5 e.1 e.2 := by
  intro e he; cases he
theorem mj_kI_ok_6 : ∀ e ∈ mj_kI_6, mj_okI 6 e.1 e.2 := by
  intro e he; cases he
theorem mj_kI_ok_7 : ∀ e ∈ mj_kI_7, mj_okI 7 e.1 e.2 := by
  intro e he; cases he
theorem mj_kI_ok_8 : ∀ e ∈ mj_kI_8, mj_okI 8 e.1 e.2 := by
  intro e he; cases he
set_option maxRecDepth 20000 in
theorem mj_kI_ok_9_83 : mj_okI 9 83 (-2000000000) := mj_tn (p := 427) (by decide +kernel)
set_option maxRecDepth 20000 in
theorem mj_kI_ok_9_147 : mj_okI 9 147 (100000) := mj_tn (p := 687) (by decide +kernel)
theorem mj_kI_ok_9 : ∀ e ∈ mj_kI_9, mj_okI 9 e.1 e.2 := by
  exact List.forall_mem_cons.mpr ⟨mj_kI_ok_9_83, List.forall_mem_cons.mpr ⟨mj_kI_ok_9_147, fun _ h => absurd h List.not_mem_nil⟩⟩
set_option maxRecDepth 20000 in
theorem mj_kI_ok_10_105 : mj_okI 10 105 (-2000000000) := mj_tn (p := 1051) (by decide +kernel)
set_option maxRecDepth 20000 in
theorem mj_kI_ok_10_211 : mj_okI 10 211 (100000) := mj_tn (p := 1186) (by decide +kernel)
theorem mj_kI_ok_10 : ∀ e ∈ mj_kI_10, mj_okI 10 e.1 e.2 := by
  exact List.forall_mem_cons.mpr ⟨mj_kI_ok_10_105, List.forall_mem_cons.mpr ⟨mj_kI_ok_10_211, fun _ h => absurd h List.not_mem_nil⟩⟩
theorem mj_kI_ok_11 : ∀ e ∈ mj_kI_11, mj_okI 11 e.1 e.2 := by
  intro e he; cases he
theorem mj_kI_ok_12 : ∀ e ∈ mj_kI_12, mj_okI 12 e.1 e.2 := by
  intro e he; cases he
theorem mj_kI_ok {c i : Nat} {x : _} (hc : c < 13) (h : mj_kI c i = some x) : mj_okI c i x := by
  have hm := mj_look h
  match c, hc, hm with
  | 0, _, hm => exact mj_kI_ok_0 _ hm
  | 1, _, hm => exact mj_kI_ok_1 _ hm
  | 2, _, hm => exact mj_kI_ok_2 _ hm
  | 3, _, hm => exact mj_kI_ok_3 _ hm
  | 4, _, hm => exact mj_kI_ok_4 _ hm
  | 5, _, hm => exact mj_kI_ok_5 _ hm
  | 6, _, hm => exact mj_kI_ok_6 _ hm
  | 7, _, hm => exact mj_kI_ok_7 _ hm
  | 8, _, hm => exact mj_kI_ok_8 _ hm
  | 9, _, hm => exact mj_kI_ok_9 _ hm
  | 10, _, hm => exact mj_kI_ok_10 _ hm
  | 11, _, hm => exact mj_kI_ok_11 _ hm
  | 12, _, hm => exact mj_kI_ok_12 _ hm
  | n + 13, hc, _ => exact absurd hc (by omega)
def mj_kJ_0 : List (Nat × Int64) := []
def mj_kJ_1 : List (Nat × Int64) := []
def mj_kJ_2 : List (Nat × Int64) := []
def mj_kJ_3 : List (Nat × Int64) := []
def mj_kJ_4 : List (Nat × Int64) := []
def mj_kJ_5 : List (Nat × Int64) := []
def mj_kJ_6 : List (Nat × Int64) := []
def mj_kJ_7 : List (Nat × Int64) := []
def mj_kJ_8 : List (Nat × Int64) := []
def mj_kJ_9 : List (Nat × Int64) := []
def mj_kJ_10 : List (Nat × Int64) := []
def mj_kJ_11 : List (Nat × Int64) := []
def mj_kJ_12 : List (Nat × Int64) := [(59, 4294967295)]
def mj_kJT (c : Nat) : List (Nat × Int64) := match c with
  | 0 => mj_kJ_0
  | 1 => mj_kJ_1
  | 2 => mj_kJ_2
  | 3 => mj_kJ_3
  | 4 => mj_kJ_4
  | 5 => mj_kJ_5
  | 6 => mj_kJ_6
  | 7 => mj_kJ_7
  | 8 => mj_kJ_8
  | 9 => mj_kJ_9
  | 10 => mj_kJ_10
  | 11 => mj_kJ_11
  | _ => mj_kJ_12
def mj_kJ (c i : Nat) : Option (Int64) := (mj_kJT c).lookup i
def mj_okJ (c i : Nat) (x : Int64) : Prop := Cond.constantLong (mj_cn c) i x ∈ lw_tbl
theorem mj_kJ_ok_0 : ∀ e ∈ mj_kJ_0, mj_okJ 0 e.1 e.2 := by
  intro e he; cases he
theorem mj_kJ_ok_1 : ∀ e ∈ mj_kJ_1, mj_okJ 1 e.1 e.2 := by
  intro e he; cases he
theorem mj_kJ_ok_2 : ∀ e ∈ mj_kJ_2, mj_okJ 2 e.1 e.2 := by
  intro e he; cases he
theorem mj_kJ_ok_3 : ∀ e ∈ mj_kJ_3, mj_okJ 3 e.1 e.2 := by
  intro e he; cases he
theorem mj_kJ_ok_4 : ∀ e ∈ mj_kJ_4, mj_okJ 4 e.1 e.2 := by
  intro e he; cases he
theorem mj_kJ_ok_5 : ∀ e ∈ mj_kJ_5, mj_okJ 5 e.1 e.2 := by
  intro e he; cases he
theorem mj_kJ_ok_6 : ∀ e ∈ mj_kJ_6, mj_okJ 6 e.1 e.2 := by
  intro e he; cases he
theorem mj_kJ_ok_7 : ∀ e ∈ mj_kJ_7, mj_okJ 7 e.1 e.2 := by
  intro e he; cases he
theorem mj_kJ_ok_8 : ∀ e ∈ mj_kJ_8, mj_okJ 8 e.1 e.2 := by
  intro e he; cases he
theorem mj_kJ_ok_9 : ∀ e ∈ mj_kJ_9, mj_okJ 9 e.1 e.2 := by
  intro e he; cases he
theorem mj_kJ_ok_10 : ∀ e ∈ mj_kJ_10, mj_okJ 10 e.1 e.2 := by
  intro e he; cases he
theorem mj_kJ_ok_11 : ∀ e ∈ mj_kJ_11, mj_okJ 11 e.1 e.2 := by
  intro e he; cases he
set_option maxRecDepth 20000 in
theorem mj_kJ_ok_12_59 : mj_okJ 12 59 (4294967295) := mj_tn (p := 1279) (by decide +kernel)
theorem mj_kJ_ok_12 : ∀ e ∈ mj_kJ_12, mj_okJ 12 e.1 e.2 := by
  exact List.forall_mem_cons.mpr ⟨mj_kJ_ok_12_59, fun _ h => absurd h List.not_mem_nil⟩
theorem mj_kJ_ok {c i : Nat} {x : _} (hc : c < 13) (h : mj_kJ c i = some x) : mj_okJ c i x := by
  have hm := mj_look h
  match c, hc, hm with
  | 0, _, hm => exact mj_kJ_ok_0 _ hm
  | 1, _, hm => exact mj_kJ_ok_1 _ hm
  | 2, _, hm => exact mj_kJ_ok_2 _ hm
  | 3, _, hm => exact mj_kJ_ok_3 _ hm
  | 4, _, hm => exact mj_kJ_ok_4 _ hm
  | 5, _, hm => exact mj_kJ_ok_5 _ hm
  | 6, _, hm => exact mj_kJ_ok_6 _ hm
  | 7, _, hm => exact mj_kJ_ok_7 _ hm
  | 8, _, hm => exact mj_kJ_ok_8 _ hm
  | 9, _, hm => exact mj_kJ_ok_9 _ hm
  | 10, _, hm => exact mj_kJ_ok_10 _ hm
  | 11, _, hm => exact mj_kJ_ok_11 _ hm
  | 12, _, hm => exact mj_kJ_ok_12 _ hm
  | n + 13, hc, _ => exact absurd hc (by omega)
def mj_oi_0 : List (Nat × Nat) := [(3, 0)]
def mj_oi_1 : List (Nat × Nat) := [(3, 0)]
def mj_oi_2 : List (Nat × Nat) := [(3, 0)]
def mj_oi_3 : List (Nat × Nat) := [(3, 0)]
def mj_oi_4 : List (Nat × Nat) := [(3, 0)]
def mj_oi_5 : List (Nat × Nat) := [(3, 0)]
def mj_oi_6 : List (Nat × Nat) := [(3, 0)]
def mj_oi_7 : List (Nat × Nat) := [(3, 0)]
def mj_oi_8 : List (Nat × Nat) := [(3, 0)]
def mj_oi_9 : List (Nat × Nat) := [(3, 0)]
def mj_oi_10 : List (Nat × Nat) := [(1, 0)]
def mj_oi_11 : List (Nat × Nat) := []
def mj_oi_12 : List (Nat × Nat) := []
def mj_oiT (c : Nat) : List (Nat × Nat) := match c with
  | 0 => mj_oi_0
  | 1 => mj_oi_1
  | 2 => mj_oi_2
  | 3 => mj_oi_3
  | 4 => mj_oi_4
  | 5 => mj_oi_5
  | 6 => mj_oi_6
  | 7 => mj_oi_7
  | 8 => mj_oi_8
  | 9 => mj_oi_9
  | 10 => mj_oi_10
  | 11 => mj_oi_11
  | _ => mj_oi_12
def mj_oi (c i : Nat) : Option (Nat) := (mj_oiT c).lookup i
def mj_okO (c i : Nat) (x : Nat) : Prop := Cond.methodLink (mj_cn c) i objectInit ∈ lw_tbl
set_option maxRecDepth 20000 in
theorem mj_oi_ok_0_3 : mj_okO 0 3 0 := mj_tn (p := 308) (by decide +kernel)
theorem mj_oi_ok_0 : ∀ e ∈ mj_oi_0, mj_okO 0 e.1 e.2 := by
  exact List.forall_mem_cons.mpr ⟨mj_oi_ok_0_3, fun _ h => absurd h List.not_mem_nil⟩
set_option maxRecDepth 20000 in
theorem mj_oi_ok_1_3 : mj_okO 1 3 0 := mj_tn (p := 151) (by decide +kernel)
theorem mj_oi_ok_1 : ∀ e ∈ mj_oi_1, mj_okO 1 e.1 e.2 := by
  exact List.forall_mem_cons.mpr ⟨mj_oi_ok_1_3, fun _ h => absurd h List.not_mem_nil⟩
set_option maxRecDepth 20000 in
theorem mj_oi_ok_2_3 : mj_okO 2 3 0 := mj_tn (p := 199) (by decide +kernel)
theorem mj_oi_ok_2 : ∀ e ∈ mj_oi_2, mj_okO 2 e.1 e.2 := by
  exact List.forall_mem_cons.mpr ⟨mj_oi_ok_2_3, fun _ h => absurd h List.not_mem_nil⟩
set_option maxRecDepth 20000 in
theorem mj_oi_ok_3_3 : mj_okO 3 3 0 := mj_tn (p := 183) (by decide +kernel)
theorem mj_oi_ok_3 : ∀ e ∈ mj_oi_3, mj_okO 3 e.1 e.2 := by
  exact List.forall_mem_cons.mpr ⟨mj_oi_ok_3_3, fun _ h => absurd h List.not_mem_nil⟩
set_option maxRecDepth 20000 in
theorem mj_oi_ok_4_3 : mj_okO 4 3 0 := mj_tn (p := 193) (by decide +kernel)
theorem mj_oi_ok_4 : ∀ e ∈ mj_oi_4, mj_okO 4 e.1 e.2 := by
  exact List.forall_mem_cons.mpr ⟨mj_oi_ok_4_3, fun _ h => absurd h List.not_mem_nil⟩
set_option maxRecDepth 20000 in
theorem mj_oi_ok_5_3 : mj_okO 5 3 0 := mj_tn (p := 235) (by decide +kernel)
theorem mj_oi_ok_5 : ∀ e ∈ mj_oi_5, mj_okO 5 e.1 e.2 := by
  exact List.forall_mem_cons.mpr ⟨mj_oi_ok_5_3, fun _ h => absurd h List.not_mem_nil⟩
set_option maxRecDepth 20000 in
theorem mj_oi_ok_6_3 : mj_okO 6 3 0 := mj_tn (p := 96) (by decide +kernel)
theorem mj_oi_ok_6 : ∀ e ∈ mj_oi_6, mj_okO 6 e.1 e.2 := by
  exact List.forall_mem_cons.mpr ⟨mj_oi_ok_6_3, fun _ h => absurd h List.not_mem_nil⟩
set_option maxRecDepth 20000 in
theorem mj_oi_ok_7_3 : mj_okO 7 3 0 := mj_tn (p := 314) (by decide +kernel)
theorem mj_oi_ok_7 : ∀ e ∈ mj_oi_7, mj_okO 7 e.1 e.2 := by
  exact List.forall_mem_cons.mpr ⟨mj_oi_ok_7_3, fun _ h => absurd h List.not_mem_nil⟩
set_option maxRecDepth 20000 in
theorem mj_oi_ok_8_3 : mj_okO 8 3 0 := mj_tn (p := 269) (by decide +kernel)
theorem mj_oi_ok_8 : ∀ e ∈ mj_oi_8, mj_okO 8 e.1 e.2 := by
  exact List.forall_mem_cons.mpr ⟨mj_oi_ok_8_3, fun _ h => absurd h List.not_mem_nil⟩
set_option maxRecDepth 20000 in
theorem mj_oi_ok_9_3 : mj_okO 9 3 0 := mj_tn (p := 87) (by decide +kernel)
theorem mj_oi_ok_9 : ∀ e ∈ mj_oi_9, mj_okO 9 e.1 e.2 := by
  exact List.forall_mem_cons.mpr ⟨mj_oi_ok_9_3, fun _ h => absurd h List.not_mem_nil⟩
set_option maxRecDepth 20000 in
theorem mj_oi_ok_10_1 : mj_okO 10 1 0 := mj_tn (p := 911) (by decide +kernel)
theorem mj_oi_ok_10 : ∀ e ∈ mj_oi_10, mj_okO 10 e.1 e.2 := by
  exact List.forall_mem_cons.mpr ⟨mj_oi_ok_10_1, fun _ h => absurd h List.not_mem_nil⟩
theorem mj_oi_ok_11 : ∀ e ∈ mj_oi_11, mj_okO 11 e.1 e.2 := by
  intro e he; cases he
theorem mj_oi_ok_12 : ∀ e ∈ mj_oi_12, mj_okO 12 e.1 e.2 := by
  intro e he; cases he
theorem mj_oi_ok {c i : Nat} {x : _} (hc : c < 13) (h : mj_oi c i = some x) : mj_okO c i x := by
  have hm := mj_look h
  match c, hc, hm with
  | 0, _, hm => exact mj_oi_ok_0 _ hm
  | 1, _, hm => exact mj_oi_ok_1 _ hm
  | 2, _, hm => exact mj_oi_ok_2 _ hm
  | 3, _, hm => exact mj_oi_ok_3 _ hm
  | 4, _, hm => exact mj_oi_ok_4 _ hm
  | 5, _, hm => exact mj_oi_ok_5 _ hm
  | 6, _, hm => exact mj_oi_ok_6 _ hm
  | 7, _, hm => exact mj_oi_ok_7 _ hm
  | 8, _, hm => exact mj_oi_ok_8 _ hm
  | 9, _, hm => exact mj_oi_ok_9 _ hm
  | 10, _, hm => exact mj_oi_ok_10 _ hm
  | 11, _, hm => exact mj_oi_ok_11 _ hm
  | 12, _, hm => exact mj_oi_ok_12 _ hm
  | n + 13, hc, _ => exact absurd hc (by omega)
set_option maxRecDepth 20000 in
theorem mj_oc : Cond.code objectInit ⟨#[0xb1]⟩ 1 none ∈ lw_tbl := mj_tn (p := 89) rfl
theorem mj_oj : Cond.instanceMethod objectInit ∈ lw_tbl := mj_tn (p := 88) (by decide +kernel)
theorem mj_ac_int : Cond.arrayClass .int ∈ lw_tbl := mj_tn (p := 145) (by decide +kernel)
theorem mj_ac_boolean : Cond.arrayClass .boolean ∈ lw_tbl := mj_tn (p := 176) (by decide +kernel)
theorem mj_ac_long : Cond.arrayClass .long ∈ lw_tbl := mj_tn (p := 177) (by decide +kernel)
theorem mj_ao : Cond.arrayOver (.object "PassCourt$Routine") ∈ lw_tbl := mj_tn (p := 91) (by decide +kernel)
