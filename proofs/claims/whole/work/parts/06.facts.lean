theorem kc_M : gCl 1 "StandInMill" F_M 18 t_M := ⟨by decide, by decide, rfl, fun w h => in_WG 0 rfl h, by decide +kernel, by decide +kernel⟩
theorem kn_M : ∀ k, k < 18 → defaultValue (t_M k) = gO 1 k := by
  intro k hk
  rcases (show k = 0 ∨ k = 1 ∨ k = 2 ∨ k = 3 ∨ k = 4 ∨ k = 5 ∨ k = 6 ∨ k = 7 ∨ k = 8 ∨ k = 9 ∨ k = 10 ∨ k = 11 ∨ k = 12 ∨ k = 13 ∨ k = 14 ∨ k = 15 ∨ k = 16 ∨ k = 17 by omega) with rfl | rfl | rfl | rfl | rfl | rfl | rfl | rfl | rfl | rfl | rfl | rfl | rfl | rfl | rfl | rfl | rfl | rfl <;> rfl
theorem kc_Rw : gCl 2 "StandInMill$ClassRow" F_Rw 2 t_Rw := ⟨by decide, by decide, rfl, fun w h => in_WG 1 rfl h, by decide +kernel, by decide +kernel⟩
theorem kn_Rw : ∀ k, k < 2 → defaultValue (t_Rw k) = gO 2 k := by
  intro k hk
  rcases (show k = 0 ∨ k = 1 by omega) with rfl | rfl <;> rfl
theorem kc_Dr : gCl 3 "StandInMill$Draft" F_Dr 4 t_Dr := ⟨by decide, by decide, rfl, fun w h => in_WG 2 rfl h, by decide +kernel, by decide +kernel⟩
theorem kn_Dr : ∀ k, k < 4 → defaultValue (t_Dr k) = gO 3 k := by
  intro k hk
  rcases (show k = 0 ∨ k = 1 ∨ k = 2 ∨ k = 3 by omega) with rfl | rfl | rfl | rfl <;> rfl
theorem kc_Fc : gCl 4 "StandInMill$Face" F_Fc 10 t_Fc := ⟨by decide, by decide, rfl, fun w h => in_WG 3 rfl h, by decide +kernel, by decide +kernel⟩
theorem kn_Fc : ∀ k, k < 10 → defaultValue (t_Fc k) = gO 4 k := by
  intro k hk
  rcases (show k = 0 ∨ k = 1 ∨ k = 2 ∨ k = 3 ∨ k = 4 ∨ k = 5 ∨ k = 6 ∨ k = 7 ∨ k = 8 ∨ k = 9 by omega) with rfl | rfl | rfl | rfl | rfl | rfl | rfl | rfl | rfl | rfl <;> rfl
theorem kc_Om : gCl 5 "StandInMill$OwnMethod" F_Om 6 t_Om := ⟨by decide, by decide, rfl, fun w h => in_WG 4 rfl h, by decide +kernel, by decide +kernel⟩
theorem kn_Om : ∀ k, k < 6 → defaultValue (t_Om k) = gO 5 k := by
  intro k hk
  rcases (show k = 0 ∨ k = 1 ∨ k = 2 ∨ k = 3 ∨ k = 4 ∨ k = 5 by omega) with rfl | rfl | rfl | rfl | rfl | rfl <;> rfl
theorem kc_Si : gCl 6 "StandInMill$StandIn" F_Si 8 t_Si := ⟨by decide, by decide, rfl, fun w h => in_WG 5 rfl h, by decide +kernel, by decide +kernel⟩
theorem kn_Si : ∀ k, k < 8 → defaultValue (t_Si k) = gO 6 k := by
  intro k hk
  rcases (show k = 0 ∨ k = 1 ∨ k = 2 ∨ k = 3 ∨ k = 4 ∨ k = 5 ∨ k = 6 ∨ k = 7 by omega) with rfl | rfl | rfl | rfl | rfl | rfl | rfl | rfl <;> rfl
theorem kc_Sm : gCl 7 "StandInMill$StandMethod" F_Sm 3 t_Sm := ⟨by decide, by decide, rfl, fun w h => in_WG 6 rfl h, by decide +kernel, by decide +kernel⟩
theorem kn_Sm : ∀ k, k < 3 → defaultValue (t_Sm k) = gO 7 k := by
  intro k hk
  rcases (show k = 0 ∨ k = 1 ∨ k = 2 by omega) with rfl | rfl | rfl <;> rfl
theorem kc_Ty : gCl 8 "StandInMill$Types" F_Ty 2 t_Ty := ⟨by decide, by decide, rfl, fun w h => in_WG 7 rfl h, by decide +kernel, by decide +kernel⟩
theorem kn_Ty : ∀ k, k < 2 → defaultValue (t_Ty k) = gO 8 k := by
  intro k hk
  rcases (show k = 0 ∨ k = 1 by omega) with rfl | rfl <;> rfl
theorem kc_Uw : gCl 9 "StandInMill$UnitWriter" F_Uw 6 t_Uw := ⟨by decide, by decide, rfl, fun w h => in_WG 8 rfl h, by decide +kernel, by decide +kernel⟩
theorem kn_Uw : ∀ k, k < 6 → defaultValue (t_Uw k) = gO 9 k := by
  intro k hk
  rcases (show k = 0 ∨ k = 1 ∨ k = 2 ∨ k = 3 ∨ k = 4 ∨ k = 5 by omega) with rfl | rfl | rfl | rfl | rfl | rfl <;> rfl
theorem kc_R : gCl 10 "StandInMillModel" F_R 47 t_R := ⟨by decide, by decide, rfl, fun w h => in_WG 9 rfl h, by decide +kernel, by decide +kernel⟩
theorem kn_R : ∀ k, k < 47 → defaultValue (t_R k) = gO 10 k := by
  intro k hk
  rcases (show k = 0 ∨ k = 1 ∨ k = 2 ∨ k = 3 ∨ k = 4 ∨ k = 5 ∨ k = 6 ∨ k = 7 ∨ k = 8 ∨ k = 9 ∨ k = 10 ∨ k = 11 ∨ k = 12 ∨ k = 13 ∨ k = 14 ∨ k = 15 ∨ k = 16 ∨ k = 17 ∨ k = 18 ∨ k = 19 ∨ k = 20 ∨ k = 21 ∨ k = 22 ∨ k = 23 ∨ k = 24 ∨ k = 25 ∨ k = 26 ∨ k = 27 ∨ k = 28 ∨ k = 29 ∨ k = 30 ∨ k = 31 ∨ k = 32 ∨ k = 33 ∨ k = 34 ∨ k = 35 ∨ k = 36 ∨ k = 37 ∨ k = 38 ∨ k = 39 ∨ k = 40 ∨ k = 41 ∨ k = 42 ∨ k = 43 ∨ k = 44 ∨ k = 45 ∨ k = 46 by omega) with rfl | rfl | rfl | rfl | rfl | rfl | rfl | rfl | rfl | rfl | rfl | rfl | rfl | rfl | rfl | rfl | rfl | rfl | rfl | rfl | rfl | rfl | rfl | rfl | rfl | rfl | rfl | rfl | rfl | rfl | rfl | rfl | rfl | rfl | rfl | rfl | rfl | rfl | rfl | rfl | rfl | rfl | rfl | rfl | rfl | rfl | rfl <;> rfl
theorem ky_Ty_bit : gY y_Ty_bit b_Ty_bit 1 (some (.long)) 1 := ⟨m_656, m_38, by decide, by decide, by decide +kernel⟩
theorem ky_Ty_init : gY y_Ty_init b_Ty_init 2 none 0 := ⟨m_657, m_38, by decide, by decide, by decide +kernel⟩
theorem ky_Rw_init : gY y_Rw_init b_Rw_init 2 none 1 := ⟨m_658, m_16, by decide, by decide, by decide +kernel⟩
theorem ky_Dr_init : gY y_Dr_init b_Dr_init 2 none 1 := ⟨m_659, m_53, by decide, by decide, by decide +kernel⟩
theorem ky_Uw_init : gY y_Uw_init b_Uw_init 1 none 0 := ⟨m_660, m_59, by decide, by decide, by decide +kernel⟩
theorem ky_Om_init : gY y_Om_init b_Om_init 6 none 5 := ⟨m_661, m_68, by decide, by decide, by decide +kernel⟩
theorem ky_Ar_fillJ : gY y_Ar_fillJ b_Ar_fillJ 5 none 2 := ⟨m_662, m_663, by decide, by decide, by decide +kernel⟩
theorem ky_M_init : gY y_M_init b_M_init 1 none 0 := ⟨m_664, m_534, by decide, by decide, by decide +kernel⟩
theorem ky_M_isWithin : gY y_M_isWithin b_M_isWithin 2 (some (.boolean)) 2 := ⟨m_665, m_534, by decide, by decide, by decide +kernel⟩
theorem ky_M_isLoader : gY y_M_isLoader b_M_isLoader 2 (some (.boolean)) 1 := ⟨m_666, m_534, by decide, by decide, by decide +kernel⟩
theorem ky_M_loader : gY y_M_loader b_M_loader 2 (some (.int)) 1 := ⟨m_667, m_534, by decide, by decide, by decide +kernel⟩
theorem ky_Ty_isClass : gY y_Ty_isClass b_Ty_isClass 2 (some (.boolean)) 1 := ⟨m_668, m_38, by decide, by decide, by decide +kernel⟩
theorem ky_Ty_addClass : gY y_Ty_addClass b_Ty_addClass 2 (some (.int)) 1 := ⟨m_669, m_38, by decide, by decide, by decide +kernel⟩
theorem ky_M_type : gY y_M_type b_M_type 2 (some (.int)) 1 := ⟨m_670, m_534, by decide, by decide, by decide +kernel⟩
theorem ky_M_faceMadeBy : gY y_M_faceMadeBy b_M_faceMadeBy 5 (some (.int)) 3 := ⟨m_671, m_534, by decide, by decide, by decide +kernel⟩
theorem ky_M_faceFoundBy : gY y_M_faceFoundBy b_M_faceFoundBy 8 (some (.int)) 3 := ⟨m_672, m_534, by decide, by decide, by decide +kernel⟩
theorem ky_Fc_init : gY y_Fc_init b_Fc_init 5 none 4 := ⟨m_673, m_101, by decide, by decide, by decide +kernel⟩
theorem ky_Ty_addFace : gY y_Ty_addFace b_Ty_addFace 2 none 1 := ⟨m_674, m_38, by decide, by decide, by decide +kernel⟩
theorem ky_M_face : gY y_M_face b_M_face 6 (some (.int)) 4 := ⟨m_675, m_534, by decide, by decide, by decide +kernel⟩
theorem ky_M_isFace : gY y_M_isFace b_M_isFace 2 (some (.boolean)) 1 := ⟨m_676, m_534, by decide, by decide, by decide +kernel⟩
theorem ky_Fc_hasParent : gY y_Fc_hasParent b_Fc_hasParent 3 (some (.boolean)) 1 := ⟨m_677, m_101, by decide, by decide, by decide +kernel⟩
theorem ky_M_isVisible : gY y_M_isVisible b_M_isVisible 4 (some (.boolean)) 2 := ⟨m_678, m_534, by decide, by decide, by decide +kernel⟩
theorem ky_Fc_addParent : gY y_Fc_addParent b_Fc_addParent 2 none 1 := ⟨m_679, m_101, by decide, by decide, by decide +kernel⟩
theorem ky_Ty_isBelow : gY y_Ty_isBelow b_Ty_isBelow 3 (some (.boolean)) 2 := ⟨m_680, m_38, by decide, by decide, by decide +kernel⟩
theorem ky_Ty_putBelow : gY y_Ty_putBelow b_Ty_putBelow 4 none 2 := ⟨m_681, m_38, by decide, by decide, by decide +kernel⟩
theorem ky_M_extend : gY y_M_extend b_M_extend 4 (some (.boolean)) 2 := ⟨m_682, m_534, by decide, by decide, by decide +kernel⟩
theorem ky_M_byteOf : gY y_M_byteOf b_M_byteOf 2 (some (.int)) 2 := ⟨m_683, m_534, by decide, by decide, by decide +kernel⟩
theorem ky_M_cutAtZero : gY y_M_cutAtZero b_M_cutAtZero 3 (some (.int)) 1 := ⟨m_684, m_534, by decide, by decide, by decide +kernel⟩
theorem ky_M_isPlain : gY y_M_isPlain b_M_isPlain 1 (some (.boolean)) 1 := ⟨m_685, m_534, by decide, by decide, by decide +kernel⟩
theorem ky_Ty_isThere : gY y_Ty_isThere b_Ty_isThere 2 (some (.boolean)) 1 := ⟨m_686, m_38, by decide, by decide, by decide +kernel⟩
theorem ky_M_isResult : gY y_M_isResult b_M_isResult 2 (some (.boolean)) 1 := ⟨m_687, m_534, by decide, by decide, by decide +kernel⟩
theorem ky_M_lengthOf : gY y_M_lengthOf b_M_lengthOf 2 (some (.int)) 1 := ⟨m_688, m_534, by decide, by decide, by decide +kernel⟩
theorem ky_M_areParameters : gY y_M_areParameters b_M_areParameters 3 (some (.boolean)) 1 := ⟨m_689, m_534, by decide, by decide, by decide +kernel⟩
theorem ky_Fc_hasOwn : gY y_Fc_hasOwn b_Fc_hasOwn 4 (some (.boolean)) 2 := ⟨m_690, m_101, by decide, by decide, by decide +kernel⟩
theorem ky_Fc_addOwn : gY y_Fc_addOwn b_Fc_addOwn 2 none 1 := ⟨m_691, m_101, by decide, by decide, by decide +kernel⟩
theorem ky_M_method : gY y_M_method b_M_method 7 (some (.int)) 3 := ⟨m_692, m_534, by decide, by decide, by decide +kernel⟩
theorem ky_Rw_has : gY y_Rw_has b_Rw_has 3 (some (.boolean)) 1 := ⟨m_693, m_16, by decide, by decide, by decide +kernel⟩
theorem ky_Rw_add : gY y_Rw_add b_Rw_add 2 none 1 := ⟨m_694, m_16, by decide, by decide, by decide +kernel⟩
theorem ky_M_throwing : gY y_M_throwing b_M_throwing 6 (some (.boolean)) 3 := ⟨m_695, m_534, by decide, by decide, by decide +kernel⟩
theorem ky_M_isBox : gY y_M_isBox b_M_isBox 1 (some (.boolean)) 1 := ⟨m_696, m_534, by decide, by decide, by decide +kernel⟩
theorem ky_M_fitted : gY y_M_fitted b_M_fitted 3 (some (.long)) 2 := ⟨m_697, m_534, by decide, by decide, by decide +kernel⟩
theorem ky_M_object : gY y_M_object b_M_object 4 (some (.int)) 2 := ⟨m_698, m_534, by decide, by decide, by decide +kernel⟩
theorem ky_M_value : gY y_M_value b_M_value 3 (some (.long)) 2 := ⟨m_699, m_534, by decide, by decide, by decide +kernel⟩
theorem ky_M_below : gY y_M_below b_M_below 3 (some (.boolean)) 2 := ⟨m_700, m_534, by decide, by decide, by decide +kernel⟩
theorem ky_M_find : gY y_M_find b_M_find 4 (some (.int)) 3 := ⟨m_701, m_534, by decide, by decide, by decide +kernel⟩
theorem ky_M_areFaces : gY y_M_areFaces b_M_areFaces 3 (some (.boolean)) 1 := ⟨m_702, m_534, by decide, by decide, by decide +kernel⟩
theorem ky_M_standMadeFor : gY y_M_standMadeFor b_M_standMadeFor 4 (some (.int)) 2 := ⟨m_703, m_534, by decide, by decide, by decide +kernel⟩
theorem ky_M_areVisible : gY y_M_areVisible b_M_areVisible 4 (some (.boolean)) 2 := ⟨m_704, m_534, by decide, by decide, by decide +kernel⟩
theorem ky_M_hasTwice : gY y_M_hasTwice b_M_hasTwice 3 (some (.boolean)) 1 := ⟨m_705, m_534, by decide, by decide, by decide +kernel⟩
theorem ky_M_packageOf : gY y_M_packageOf b_M_packageOf 4 (some (.int)) 1 := ⟨m_706, m_534, by decide, by decide, by decide +kernel⟩
theorem ky_M_isInTwoPackages : gY y_M_isInTwoPackages b_M_isInTwoPackages 5 (some (.boolean)) 1 := ⟨m_707, m_534, by decide, by decide, by decide +kernel⟩
theorem ky_M_faultOfList : gY y_M_faultOfList b_M_faultOfList 3 (some (.int)) 2 := ⟨m_708, m_534, by decide, by decide, by decide +kernel⟩
theorem ky_Fc_gather : gY y_Fc_gather b_Fc_gather 3 none 1 := ⟨m_709, m_101, by decide, by decide, by decide +kernel⟩
theorem ky_Fc_gatherOwn : gY y_Fc_gatherOwn b_Fc_gatherOwn 2 none 0 := ⟨m_710, m_101, by decide, by decide, by decide +kernel⟩
theorem ky_Fc_gatherFrom : gY y_Fc_gatherFrom b_Fc_gatherFrom 4 none 1 := ⟨m_711, m_101, by decide, by decide, by decide +kernel⟩
theorem ky_M_gatherMethods : gY y_M_gatherMethods b_M_gatherMethods 4 none 0 := ⟨m_712, m_534, by decide, by decide, by decide +kernel⟩
theorem ky_Dr_clear : gY y_Dr_clear b_Dr_clear 1 none 0 := ⟨m_713, m_53, by decide, by decide, by decide +kernel⟩
theorem ky_Om_hasSignatureOf : gY y_Om_hasSignatureOf b_Om_hasSignatureOf 2 (some (.boolean)) 1 := ⟨m_714, m_68, by decide, by decide, by decide +kernel⟩
theorem ky_Rw_clear : gY y_Rw_clear b_Rw_clear 1 none 0 := ⟨m_715, m_16, by decide, by decide, by decide +kernel⟩
theorem ky_Rw_copyFrom : gY y_Rw_copyFrom b_Rw_copyFrom 3 none 1 := ⟨m_716, m_16, by decide, by decide, by decide +kernel⟩
theorem ky_Ty_isBelowOneOf : gY y_Ty_isBelowOneOf b_Ty_isBelowOneOf 4 (some (.boolean)) 2 := ⟨m_717, m_38, by decide, by decide, by decide +kernel⟩
theorem ky_Ty_addBelow : gY y_Ty_addBelow b_Ty_addBelow 5 none 3 := ⟨m_718, m_38, by decide, by decide, by decide +kernel⟩
theorem ky_Dr_narrow : gY y_Dr_narrow b_Dr_narrow 3 none 2 := ⟨m_719, m_53, by decide, by decide, by decide +kernel⟩
theorem ky_Sm_init : gY y_Sm_init b_Sm_init 1 none 0 := ⟨m_720, m_210, by decide, by decide, by decide +kernel⟩
theorem ky_Dr_insert : gY y_Dr_insert b_Dr_insert 5 none 2 := ⟨m_721, m_53, by decide, by decide, by decide +kernel⟩
theorem ky_Dr_take : gY y_Dr_take b_Dr_take 4 none 1 := ⟨m_722, m_53, by decide, by decide, by decide +kernel⟩
theorem ky_M_fillDraft : gY y_M_fillDraft b_M_fillDraft 5 none 1 := ⟨m_723, m_534, by decide, by decide, by decide +kernel⟩
theorem ky_Dr_endOfSignature : gY y_Dr_endOfSignature b_Dr_endOfSignature 3 (some (.int)) 1 := ⟨m_724, m_53, by decide, by decide, by decide +kernel⟩
theorem ky_Dr_isBelowAll : gY y_Dr_isBelowAll b_Dr_isBelowAll 5 (some (.boolean)) 3 := ⟨m_725, m_53, by decide, by decide, by decide +kernel⟩
theorem ky_Dr_resultsAgreeWithin : gY y_Dr_resultsAgreeWithin b_Dr_resultsAgreeWithin 6 (some (.boolean)) 2 := ⟨m_726, m_53, by decide, by decide, by decide +kernel⟩
theorem ky_Dr_resultsAgree : gY y_Dr_resultsAgree b_Dr_resultsAgree 3 (some (.boolean)) 0 := ⟨m_727, m_53, by decide, by decide, by decide +kernel⟩
theorem ky_M_faultOfDraft : gY y_M_faultOfDraft b_M_faultOfDraft 1 (some (.int)) 0 := ⟨m_728, m_534, by decide, by decide, by decide +kernel⟩
theorem ky_M_standsOfPackage : gY y_M_standsOfPackage b_M_standsOfPackage 4 (some (.int)) 1 := ⟨m_729, m_534, by decide, by decide, by decide +kernel⟩
theorem ky_Si_init : gY y_Si_init b_Si_init 6 none 5 := ⟨m_730, m_264, by decide, by decide, by decide +kernel⟩
theorem ky_Rw_at : gY y_Rw_at b_Rw_at 2 (some (.int)) 1 := ⟨m_731, m_16, by decide, by decide, by decide +kernel⟩
theorem ky_Ty_dropBelow : gY y_Ty_dropBelow b_Ty_dropBelow 5 none 2 := ⟨m_732, m_38, by decide, by decide, by decide +kernel⟩
theorem ky_Dr_fillCaught : gY y_Dr_fillCaught b_Dr_fillCaught 5 none 1 := ⟨m_733, m_53, by decide, by decide, by decide +kernel⟩
theorem ky_Dr_handOver : gY y_Dr_handOver b_Dr_handOver 3 none 1 := ⟨m_734, m_53, by decide, by decide, by decide +kernel⟩
theorem ky_M_madeOfDraft : gY y_M_madeOfDraft b_M_madeOfDraft 5 (some (.object "StandInMill$StandIn")) 2 := ⟨m_735, m_534, by decide, by decide, by decide +kernel⟩
theorem ky_Ar_fillI : gY y_Ar_fillI b_Ar_fillI 4 none 2 := ⟨m_736, m_663, by decide, by decide, by decide +kernel⟩
theorem ky_Uw_put : gY y_Uw_put b_Uw_put 2 none 1 := ⟨m_737, m_59, by decide, by decide, by decide +kernel⟩
theorem ky_Uw_putInPool : gY y_Uw_putInPool b_Uw_putInPool 2 none 1 := ⟨m_738, m_59, by decide, by decide, by decide +kernel⟩
theorem ky_Uw_putEntry : gY y_Uw_putEntry b_Uw_putEntry 5 (some (.boolean)) 3 := ⟨m_739, m_59, by decide, by decide, by decide +kernel⟩
theorem ky_Uw_putType : gY y_Uw_putType b_Uw_putType 2 none 1 := ⟨m_740, m_59, by decide, by decide, by decide +kernel⟩
theorem ky_Uw_putTypes : gY y_Uw_putTypes b_Uw_putTypes 3 none 1 := ⟨m_741, m_59, by decide, by decide, by decide +kernel⟩
theorem ky_Uw_putRow : gY y_Uw_putRow b_Uw_putRow 3 none 1 := ⟨m_742, m_59, by decide, by decide, by decide +kernel⟩
theorem ky_Uw_putMethodEntry : gY y_Uw_putMethodEntry b_Uw_putMethodEntry 3 none 1 := ⟨m_743, m_59, by decide, by decide, by decide +kernel⟩
theorem ky_Om_parameterCount : gY y_Om_parameterCount b_Om_parameterCount 1 (some (.int)) 0 := ⟨m_744, m_68, by decide, by decide, by decide +kernel⟩
theorem ky_Uw_putParameterCode : gY y_Uw_putParameterCode b_Uw_putParameterCode 5 none 1 := ⟨m_745, m_59, by decide, by decide, by decide +kernel⟩
theorem ky_Uw_putResultCode : gY y_Uw_putResultCode b_Uw_putResultCode 2 none 1 := ⟨m_746, m_59, by decide, by decide, by decide +kernel⟩
theorem ky_Uw_putCode : gY y_Uw_putCode b_Uw_putCode 3 none 2 := ⟨m_747, m_59, by decide, by decide, by decide +kernel⟩
theorem ky_Uw_putMethod : gY y_Uw_putMethod b_Uw_putMethod 4 none 1 := ⟨m_748, m_59, by decide, by decide, by decide +kernel⟩
theorem ky_Uw_joined : gY y_Uw_joined b_Uw_joined 2 (some (.array (.byte))) 0 := ⟨m_749, m_59, by decide, by decide, by decide +kernel⟩
theorem ky_Uw_write : gY y_Uw_write b_Uw_write 3 (some (.array (.byte))) 1 := ⟨m_750, m_59, by decide, by decide, by decide +kernel⟩
theorem ky_M_stand : gY y_M_stand b_M_stand 6 (some (.int)) 2 := ⟨m_751, m_534, by decide, by decide, by decide +kernel⟩
theorem ky_M_fault : gY y_M_fault b_M_fault 1 (some (.int)) 0 := ⟨m_752, m_534, by decide, by decide, by decide +kernel⟩
theorem ky_M_about : gY y_M_about b_M_about 4 (some (.int)) 2 := ⟨m_753, m_534, by decide, by decide, by decide +kernel⟩
theorem ky_M_hasMethod : gY y_M_hasMethod b_M_hasMethod 3 (some (.boolean)) 2 := ⟨m_754, m_534, by decide, by decide, by decide +kernel⟩
theorem ky_M_told : gY y_M_told b_M_told 6 (some (.int)) 3 := ⟨m_755, m_534, by decide, by decide, by decide +kernel⟩
theorem ky_M_octet : gY y_M_octet b_M_octet 3 (some (.int)) 2 := ⟨m_756, m_534, by decide, by decide, by decide +kernel⟩
theorem ky_M_handler : gY y_M_handler b_M_handler 4 (some (.boolean)) 3 := ⟨m_757, m_534, by decide, by decide, by decide +kernel⟩
theorem ky_M_isObjectBelow : gY y_M_isObjectBelow b_M_isObjectBelow 4 (some (.boolean)) 2 := ⟨m_758, m_534, by decide, by decide, by decide +kernel⟩
theorem ky_M_takesGiven : gY y_M_takesGiven b_M_takesGiven 4 (some (.boolean)) 1 := ⟨m_759, m_534, by decide, by decide, by decide +kernel⟩
theorem ky_M_showObject : gY y_M_showObject b_M_showObject 4 none 2 := ⟨m_760, m_534, by decide, by decide, by decide +kernel⟩
theorem ky_M_showHandler : gY y_M_showHandler b_M_showHandler 4 none 1 := ⟨m_761, m_534, by decide, by decide, by decide +kernel⟩
theorem ky_M_fitThrown : gY y_M_fitThrown b_M_fitThrown 3 (some (.int)) 2 := ⟨m_762, m_534, by decide, by decide, by decide +kernel⟩
theorem ky_M_fitAnswer : gY y_M_fitAnswer b_M_fitAnswer 4 (some (.int)) 2 := ⟨m_763, m_534, by decide, by decide, by decide +kernel⟩
theorem ky_M_call : gY y_M_call b_M_call 11 (some (.int)) 5 := ⟨m_764, m_534, by decide, by decide, by decide +kernel⟩
theorem ky_M_outcome : gY y_M_outcome b_M_outcome 1 (some (.long)) 0 := ⟨m_765, m_534, by decide, by decide, by decide +kernel⟩
theorem ky_M_seen : gY y_M_seen b_M_seen 2 (some (.long)) 1 := ⟨m_766, m_534, by decide, by decide, by decide +kernel⟩
theorem ky_R_init : gY y_R_init b_R_init 2 none 0 := ⟨m_767, m_539, by decide, by decide, by decide +kernel⟩
theorem ky_R_isClass : gY y_R_isClass b_R_isClass 2 (some (.boolean)) 1 := ⟨m_768, m_539, by decide, by decide, by decide +kernel⟩
theorem ky_R_isFace : gY y_R_isFace b_R_isFace 2 (some (.boolean)) 1 := ⟨m_769, m_539, by decide, by decide, by decide +kernel⟩
theorem ky_R_isPlain : gY y_R_isPlain b_R_isPlain 1 (some (.boolean)) 1 := ⟨m_770, m_539, by decide, by decide, by decide +kernel⟩
theorem ky_R_isBox : gY y_R_isBox b_R_isBox 1 (some (.boolean)) 1 := ⟨m_771, m_539, by decide, by decide, by decide +kernel⟩
theorem ky_R_there : gY y_R_there b_R_there 2 (some (.boolean)) 1 := ⟨m_772, m_539, by decide, by decide, by decide +kernel⟩
theorem ky_R_isBelow : gY y_R_isBelow b_R_isBelow 6 (some (.boolean)) 2 := ⟨m_773, m_539, by decide, by decide, by decide +kernel⟩
theorem ky_R_fitted : gY y_R_fitted b_R_fitted 3 (some (.long)) 2 := ⟨m_774, m_539, by decide, by decide, by decide +kernel⟩
theorem ky_R_madeBy : gY y_R_madeBy b_R_madeBy 5 (some (.int)) 3 := ⟨m_775, m_539, by decide, by decide, by decide +kernel⟩
theorem ky_R_finds : gY y_R_finds b_R_finds 7 (some (.int)) 3 := ⟨m_776, m_539, by decide, by decide, by decide +kernel⟩
theorem ky_R_visible : gY y_R_visible b_R_visible 3 (some (.boolean)) 2 := ⟨m_777, m_539, by decide, by decide, by decide +kernel⟩
theorem ky_R_sameSignature : gY y_R_sameSignature b_R_sameSignature 3 (some (.boolean)) 2 := ⟨m_778, m_539, by decide, by decide, by decide +kernel⟩
theorem ky_R_takesCount : gY y_R_takesCount b_R_takesCount 3 (some (.int)) 1 := ⟨m_779, m_539, by decide, by decide, by decide +kernel⟩
theorem ky_R_listMethods : gY y_R_listMethods b_R_listMethods 9 none 0 := ⟨m_780, m_539, by decide, by decide, by decide +kernel⟩
theorem ky_R_add : gY y_R_add b_R_add 3 none 1 := ⟨m_781, m_539, by decide, by decide, by decide +kernel⟩
theorem ky_R_belowOneOf : gY y_R_belowOneOf b_R_belowOneOf 4 (some (.boolean)) 2 := ⟨m_782, m_539, by decide, by decide, by decide +kernel⟩
theorem ky_R_merge : gY y_R_merge b_R_merge 10 none 2 := ⟨m_783, m_539, by decide, by decide, by decide +kernel⟩
theorem ky_R_describe : gY y_R_describe b_R_describe 7 none 1 := ⟨m_784, m_539, by decide, by decide, by decide +kernel⟩
theorem ky_R_wrongResults : gY y_R_wrongResults b_R_wrongResults 9 (some (.boolean)) 1 := ⟨m_785, m_539, by decide, by decide, by decide +kernel⟩
theorem ky_R_faultOf : gY y_R_faultOf b_R_faultOf 9 (some (.int)) 2 := ⟨m_786, m_539, by decide, by decide, by decide +kernel⟩
theorem ky_R_catchFor : gY y_R_catchFor b_R_catchFor 7 none 1 := ⟨m_787, m_539, by decide, by decide, by decide +kernel⟩
theorem ky_R_say : gY y_R_say b_R_say 2 none 1 := ⟨m_788, m_539, by decide, by decide, by decide +kernel⟩
theorem ky_R_entry : gY y_R_entry b_R_entry 5 (some (.int)) 3 := ⟨m_789, m_539, by decide, by decide, by decide +kernel⟩
theorem ky_R_owner : gY y_R_owner b_R_owner 1 (some (.int)) 1 := ⟨m_790, m_539, by decide, by decide, by decide +kernel⟩
theorem ky_R_numberOf : gY y_R_numberOf b_R_numberOf 1 (some (.int)) 1 := ⟨m_791, m_539, by decide, by decide, by decide +kernel⟩
theorem ky_R_sayCode : gY y_R_sayCode b_R_sayCode 6 none 1 := ⟨m_792, m_539, by decide, by decide, by decide +kernel⟩
theorem ky_R_sayMethod : gY y_R_sayMethod b_R_sayMethod 6 none 1 := ⟨m_793, m_539, by decide, by decide, by decide +kernel⟩
theorem ky_R_unit : gY y_R_unit b_R_unit 5 none 1 := ⟨m_794, m_539, by decide, by decide, by decide +kernel⟩
theorem ky_R_poolBytes : gY y_R_poolBytes b_R_poolBytes 3 (some (.int)) 0 := ⟨m_795, m_539, by decide, by decide, by decide +kernel⟩
theorem ky_R_unitByte : gY y_R_unitByte b_R_unitByte 5 (some (.int)) 1 := ⟨m_796, m_539, by decide, by decide, by decide +kernel⟩
theorem ky_R_thrown : gY y_R_thrown b_R_thrown 1 (some (.int)) 0 := ⟨m_797, m_539, by decide, by decide, by decide +kernel⟩
theorem ky_R_loader : gY y_R_loader b_R_loader 2 (some (.int)) 1 := ⟨m_798, m_539, by decide, by decide, by decide +kernel⟩
theorem ky_R_type : gY y_R_type b_R_type 2 (some (.int)) 1 := ⟨m_799, m_539, by decide, by decide, by decide +kernel⟩
theorem ky_R_face : gY y_R_face b_R_face 5 (some (.int)) 4 := ⟨m_800, m_539, by decide, by decide, by decide +kernel⟩
theorem ky_R_extend : gY y_R_extend b_R_extend 5 (some (.boolean)) 2 := ⟨m_801, m_539, by decide, by decide, by decide +kernel⟩
theorem ky_R_method : gY y_R_method b_R_method 10 (some (.int)) 3 := ⟨m_802, m_539, by decide, by decide, by decide +kernel⟩
theorem ky_R_throwing : gY y_R_throwing b_R_throwing 6 (some (.boolean)) 3 := ⟨m_803, m_539, by decide, by decide, by decide +kernel⟩
theorem ky_R_object : gY y_R_object b_R_object 4 (some (.int)) 2 := ⟨m_804, m_539, by decide, by decide, by decide +kernel⟩
theorem ky_R_value : gY y_R_value b_R_value 3 (some (.long)) 2 := ⟨m_805, m_539, by decide, by decide, by decide +kernel⟩
theorem ky_R_below : gY y_R_below b_R_below 3 (some (.boolean)) 2 := ⟨m_806, m_539, by decide, by decide, by decide +kernel⟩
theorem ky_R_find : gY y_R_find b_R_find 5 (some (.int)) 3 := ⟨m_807, m_539, by decide, by decide, by decide +kernel⟩
theorem ky_R_cleaned : gY y_R_cleaned b_R_cleaned 4 (some (.int)) 1 := ⟨m_808, m_539, by decide, by decide, by decide +kernel⟩
theorem ky_R_stand : gY y_R_stand b_R_stand 7 (some (.int)) 2 := ⟨m_809, m_539, by decide, by decide, by decide +kernel⟩
theorem ky_R_fault : gY y_R_fault b_R_fault 1 (some (.int)) 0 := ⟨m_810, m_539, by decide, by decide, by decide +kernel⟩
theorem ky_R_isStand : gY y_R_isStand b_R_isStand 2 (some (.boolean)) 1 := ⟨m_811, m_539, by decide, by decide, by decide +kernel⟩
theorem ky_R_about : gY y_R_about b_R_about 3 (some (.int)) 2 := ⟨m_812, m_539, by decide, by decide, by decide +kernel⟩
theorem ky_R_told : gY y_R_told b_R_told 6 (some (.int)) 3 := ⟨m_813, m_539, by decide, by decide, by decide +kernel⟩
theorem ky_R_octet : gY y_R_octet b_R_octet 3 (some (.int)) 2 := ⟨m_814, m_539, by decide, by decide, by decide +kernel⟩
theorem ky_R_handler : gY y_R_handler b_R_handler 4 (some (.boolean)) 3 := ⟨m_815, m_539, by decide, by decide, by decide +kernel⟩
theorem ky_R_takesAs : gY y_R_takesAs b_R_takesAs 5 (some (.boolean)) 3 := ⟨m_816, m_539, by decide, by decide, by decide +kernel⟩
theorem ky_R_fit : gY y_R_fit b_R_fit 7 (some (.int)) 2 := ⟨m_817, m_539, by decide, by decide, by decide +kernel⟩
theorem ky_R_call : gY y_R_call b_R_call 13 (some (.int)) 5 := ⟨m_818, m_539, by decide, by decide, by decide +kernel⟩
theorem ky_R_outcome : gY y_R_outcome b_R_outcome 1 (some (.long)) 0 := ⟨m_819, m_539, by decide, by decide, by decide +kernel⟩
theorem ky_R_seen : gY y_R_seen b_R_seen 2 (some (.long)) 1 := ⟨m_820, m_539, by decide, by decide, by decide +kernel⟩
