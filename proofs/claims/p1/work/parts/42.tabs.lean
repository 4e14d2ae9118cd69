/-! TABLES of the abstract machine, by program (wip/tools/gen2.py) out of the claim's listing and words -/
def ah_P (y : Nat) : Option ah_M := bif Nat.blt y 47 then (bif Nat.blt y 23 then (bif Nat.blt y 11 then (bif Nat.blt y 5 then (bif Nat.blt y 2 then (bif Nat.blt y 1 then (bif Nat.beq y 0 then some mt_0 else none) else (bif Nat.beq y 1 then some mt_1 else none)) else (bif Nat.blt y 3 then (bif Nat.beq y 2 then some mt_2 else none) else (bif Nat.blt y 4 then (bif Nat.beq y 3 then some mt_3 else none) else (bif Nat.beq y 4 then some mt_4 else none)))) else (bif Nat.blt y 8 then (bif Nat.blt y 6 then (bif Nat.beq y 5 then some mt_5 else none) else (bif Nat.blt y 7 then (bif Nat.beq y 6 then some mt_6 else none) else (bif Nat.beq y 7 then some mt_7 else none))) else (bif Nat.blt y 9 then (bif Nat.beq y 8 then some mt_8 else none) else (bif Nat.blt y 10 then (bif Nat.beq y 9 then some mt_9 else none) else (bif Nat.beq y 10 then some mt_10 else none))))) else (bif Nat.blt y 17 then (bif Nat.blt y 14 then (bif Nat.blt y 12 then (bif Nat.beq y 11 then some mt_11 else none) else (bif Nat.blt y 13 then (bif Nat.beq y 12 then some mt_12 else none) else (bif Nat.beq y 13 then some mt_13 else none))) else (bif Nat.blt y 15 then (bif Nat.beq y 14 then some mt_14 else none) else (bif Nat.blt y 16 then (bif Nat.beq y 15 then some mt_15 else none) else (bif Nat.beq y 16 then some mt_16 else none)))) else (bif Nat.blt y 20 then (bif Nat.blt y 18 then (bif Nat.beq y 17 then some mt_17 else none) else (bif Nat.blt y 19 then (bif Nat.beq y 18 then some mt_18 else none) else (bif Nat.beq y 19 then some mt_19 else none))) else (bif Nat.blt y 21 then (bif Nat.beq y 20 then some mt_20 else none) else (bif Nat.blt y 22 then (bif Nat.beq y 21 then some mt_21 else none) else (bif Nat.beq y 22 then some mt_22 else none)))))) else (bif Nat.blt y 35 then (bif Nat.blt y 29 then (bif Nat.blt y 26 then (bif Nat.blt y 24 then (bif Nat.beq y 23 then some mt_23 else none) else (bif Nat.blt y 25 then (bif Nat.beq y 24 then some mt_24 else none) else (bif Nat.beq y 25 then some mt_25 else none))) else (bif Nat.blt y 27 then (bif Nat.beq y 26 then some mt_26 else none) else (bif Nat.blt y 28 then (bif Nat.beq y 27 then some mt_27 else none) else (bif Nat.beq y 28 then some mt_28 else none)))) else (bif Nat.blt y 32 then (bif Nat.blt y 30 then (bif Nat.beq y 29 then some mt_29 else none) else (bif Nat.blt y 31 then (bif Nat.beq y 30 then some mt_30 else none) else (bif Nat.beq y 31 then some mt_31 else none))) else (bif Nat.blt y 33 then (bif Nat.beq y 32 then some mt_32 else none) else (bif Nat.blt y 34 then (bif Nat.beq y 33 then some mt_33 else none) else (bif Nat.beq y 34 then some mt_34 else none))))) else (bif Nat.blt y 41 then (bif Nat.blt y 38 then (bif Nat.blt y 36 then (bif Nat.beq y 35 then some mt_35 else none) else (bif Nat.blt y 37 then (bif Nat.beq y 36 then some mt_36 else none) else (bif Nat.beq y 37 then some mt_37 else none))) else (bif Nat.blt y 39 then (bif Nat.beq y 38 then some mt_38 else none) else (bif Nat.blt y 40 then (bif Nat.beq y 39 then some mt_39 else none) else (bif Nat.beq y 40 then some mt_40 else none)))) else (bif Nat.blt y 44 then (bif Nat.blt y 42 then (bif Nat.beq y 41 then some mt_41 else none) else (bif Nat.blt y 43 then (bif Nat.beq y 42 then some mt_42 else none) else (bif Nat.beq y 43 then some mt_43 else none))) else (bif Nat.blt y 45 then (bif Nat.beq y 44 then some mt_44 else none) else (bif Nat.blt y 46 then (bif Nat.beq y 45 then some mt_45 else none) else (bif Nat.beq y 46 then some mt_46 else none))))))) else (bif Nat.blt y 70 then (bif Nat.blt y 58 then (bif Nat.blt y 52 then (bif Nat.blt y 49 then (bif Nat.blt y 48 then (bif Nat.beq y 47 then some mt_47 else none) else (bif Nat.beq y 48 then some mt_48 else none)) else (bif Nat.blt y 50 then (bif Nat.beq y 49 then some mt_49 else none) else (bif Nat.blt y 51 then (bif Nat.beq y 50 then some mt_50 else none) else (bif Nat.beq y 51 then some mt_51 else none)))) else (bif Nat.blt y 55 then (bif Nat.blt y 53 then (bif Nat.beq y 52 then some mt_52 else none) else (bif Nat.blt y 54 then (bif Nat.beq y 53 then some mt_53 else none) else (bif Nat.beq y 54 then some mt_54 else none))) else (bif Nat.blt y 56 then (bif Nat.beq y 55 then some mt_55 else none) else (bif Nat.blt y 57 then (bif Nat.beq y 56 then some mt_56 else none) else (bif Nat.beq y 57 then some mt_57 else none))))) else (bif Nat.blt y 64 then (bif Nat.blt y 61 then (bif Nat.blt y 59 then (bif Nat.beq y 58 then some mt_58 else none) else (bif Nat.blt y 60 then (bif Nat.beq y 59 then some mt_59 else none) else (bif Nat.beq y 60 then some mt_60 else none))) else (bif Nat.blt y 62 then (bif Nat.beq y 61 then some mt_61 else none) else (bif Nat.blt y 63 then (bif Nat.beq y 62 then some mt_62 else none) else (bif Nat.beq y 63 then some mt_63 else none)))) else (bif Nat.blt y 67 then (bif Nat.blt y 65 then (bif Nat.beq y 64 then some mt_64 else none) else (bif Nat.blt y 66 then (bif Nat.beq y 65 then some mt_65 else none) else (bif Nat.beq y 66 then some mt_66 else none))) else (bif Nat.blt y 68 then (bif Nat.beq y 67 then some mt_67 else none) else (bif Nat.blt y 69 then (bif Nat.beq y 68 then some mt_68 else none) else (bif Nat.beq y 69 then some mt_69 else none)))))) else (bif Nat.blt y 82 then (bif Nat.blt y 76 then (bif Nat.blt y 73 then (bif Nat.blt y 71 then (bif Nat.beq y 70 then some mt_70 else none) else (bif Nat.blt y 72 then (bif Nat.beq y 71 then some mt_71 else none) else (bif Nat.beq y 72 then some mt_72 else none))) else (bif Nat.blt y 74 then (bif Nat.beq y 73 then some mt_73 else none) else (bif Nat.blt y 75 then (bif Nat.beq y 74 then some mt_74 else none) else (bif Nat.beq y 75 then some mt_75 else none)))) else (bif Nat.blt y 79 then (bif Nat.blt y 77 then (bif Nat.beq y 76 then some mt_76 else none) else (bif Nat.blt y 78 then (bif Nat.beq y 77 then some mt_77 else none) else (bif Nat.beq y 78 then some mt_78 else none))) else (bif Nat.blt y 80 then (bif Nat.beq y 79 then some mt_79 else none) else (bif Nat.blt y 81 then (bif Nat.beq y 80 then some mt_80 else none) else (bif Nat.beq y 81 then some mt_81 else none))))) else (bif Nat.blt y 88 then (bif Nat.blt y 85 then (bif Nat.blt y 83 then (bif Nat.beq y 82 then some mt_82 else none) else (bif Nat.blt y 84 then (bif Nat.beq y 83 then some mt_83 else none) else (bif Nat.beq y 84 then some mt_84 else none))) else (bif Nat.blt y 86 then (bif Nat.beq y 85 then some mt_85 else none) else (bif Nat.blt y 87 then (bif Nat.beq y 86 then some mt_86 else none) else (bif Nat.beq y 87 then some mt_87 else none)))) else (bif Nat.blt y 91 then (bif Nat.blt y 89 then (bif Nat.beq y 88 then some mt_88 else none) else (bif Nat.blt y 90 then (bif Nat.beq y 89 then some mt_89 else none) else (bif Nat.beq y 90 then some mt_90 else none))) else (bif Nat.blt y 92 then (bif Nat.beq y 91 then some mt_91 else none) else (bif Nat.blt y 93 then (bif Nat.beq y 92 then some mt_92 else none) else (bif Nat.beq y 93 then some mt_93 else none)))))))
theorem hM_0 : ah_P 0 = some mt_0 := rfl
theorem hM_1 : ah_P 1 = some mt_1 := rfl
theorem hM_2 : ah_P 2 = some mt_2 := rfl
theorem hM_3 : ah_P 3 = some mt_3 := rfl
theorem hM_4 : ah_P 4 = some mt_4 := rfl
theorem hM_5 : ah_P 5 = some mt_5 := rfl
theorem hM_6 : ah_P 6 = some mt_6 := rfl
theorem hM_7 : ah_P 7 = some mt_7 := rfl
theorem hM_8 : ah_P 8 = some mt_8 := rfl
theorem hM_9 : ah_P 9 = some mt_9 := rfl
theorem hM_10 : ah_P 10 = some mt_10 := rfl
theorem hM_11 : ah_P 11 = some mt_11 := rfl
theorem hM_12 : ah_P 12 = some mt_12 := rfl
theorem hM_13 : ah_P 13 = some mt_13 := rfl
theorem hM_14 : ah_P 14 = some mt_14 := rfl
theorem hM_15 : ah_P 15 = some mt_15 := rfl
theorem hM_16 : ah_P 16 = some mt_16 := rfl
theorem hM_17 : ah_P 17 = some mt_17 := rfl
theorem hM_18 : ah_P 18 = some mt_18 := rfl
theorem hM_19 : ah_P 19 = some mt_19 := rfl
theorem hM_20 : ah_P 20 = some mt_20 := rfl
theorem hM_21 : ah_P 21 = some mt_21 := rfl
theorem hM_22 : ah_P 22 = some mt_22 := rfl
theorem hM_23 : ah_P 23 = some mt_23 := rfl
theorem hM_24 : ah_P 24 = some mt_24 := rfl
theorem hM_25 : ah_P 25 = some mt_25 := rfl
theorem hM_26 : ah_P 26 = some mt_26 := rfl
theorem hM_27 : ah_P 27 = some mt_27 := rfl
theorem hM_28 : ah_P 28 = some mt_28 := rfl
theorem hM_29 : ah_P 29 = some mt_29 := rfl
theorem hM_30 : ah_P 30 = some mt_30 := rfl
theorem hM_31 : ah_P 31 = some mt_31 := rfl
theorem hM_32 : ah_P 32 = some mt_32 := rfl
theorem hM_33 : ah_P 33 = some mt_33 := rfl
theorem hM_34 : ah_P 34 = some mt_34 := rfl
theorem hM_35 : ah_P 35 = some mt_35 := rfl
theorem hM_36 : ah_P 36 = some mt_36 := rfl
theorem hM_37 : ah_P 37 = some mt_37 := rfl
theorem hM_38 : ah_P 38 = some mt_38 := rfl
theorem hM_39 : ah_P 39 = some mt_39 := rfl
theorem hM_40 : ah_P 40 = some mt_40 := rfl
theorem hM_41 : ah_P 41 = some mt_41 := rfl
theorem hM_42 : ah_P 42 = some mt_42 := rfl
theorem hM_43 : ah_P 43 = some mt_43 := rfl
theorem hM_44 : ah_P 44 = some mt_44 := rfl
theorem hM_45 : ah_P 45 = some mt_45 := rfl
theorem hM_46 : ah_P 46 = some mt_46 := rfl
theorem hM_47 : ah_P 47 = some mt_47 := rfl
theorem hM_48 : ah_P 48 = some mt_48 := rfl
theorem hM_49 : ah_P 49 = some mt_49 := rfl
theorem hM_50 : ah_P 50 = some mt_50 := rfl
theorem hM_51 : ah_P 51 = some mt_51 := rfl
theorem hM_52 : ah_P 52 = some mt_52 := rfl
theorem hM_53 : ah_P 53 = some mt_53 := rfl
theorem hM_54 : ah_P 54 = some mt_54 := rfl
theorem hM_55 : ah_P 55 = some mt_55 := rfl
theorem hM_56 : ah_P 56 = some mt_56 := rfl
theorem hM_57 : ah_P 57 = some mt_57 := rfl
theorem hM_58 : ah_P 58 = some mt_58 := rfl
theorem hM_59 : ah_P 59 = some mt_59 := rfl
theorem hM_60 : ah_P 60 = some mt_60 := rfl
theorem hM_61 : ah_P 61 = some mt_61 := rfl
theorem hM_62 : ah_P 62 = some mt_62 := rfl
theorem hM_63 : ah_P 63 = some mt_63 := rfl
theorem hM_64 : ah_P 64 = some mt_64 := rfl
theorem hM_65 : ah_P 65 = some mt_65 := rfl
theorem hM_66 : ah_P 66 = some mt_66 := rfl
theorem hM_67 : ah_P 67 = some mt_67 := rfl
theorem hM_68 : ah_P 68 = some mt_68 := rfl
theorem hM_69 : ah_P 69 = some mt_69 := rfl
theorem hM_70 : ah_P 70 = some mt_70 := rfl
theorem hM_71 : ah_P 71 = some mt_71 := rfl
theorem hM_72 : ah_P 72 = some mt_72 := rfl
theorem hM_73 : ah_P 73 = some mt_73 := rfl
theorem hM_74 : ah_P 74 = some mt_74 := rfl
theorem hM_75 : ah_P 75 = some mt_75 := rfl
theorem hM_76 : ah_P 76 = some mt_76 := rfl
theorem hM_77 : ah_P 77 = some mt_77 := rfl
theorem hM_78 : ah_P 78 = some mt_78 := rfl
theorem hM_79 : ah_P 79 = some mt_79 := rfl
theorem hM_80 : ah_P 80 = some mt_80 := rfl
theorem hM_81 : ah_P 81 = some mt_81 := rfl
theorem hM_82 : ah_P 82 = some mt_82 := rfl
theorem hM_83 : ah_P 83 = some mt_83 := rfl
theorem hM_84 : ah_P 84 = some mt_84 := rfl
theorem hM_85 : ah_P 85 = some mt_85 := rfl
theorem hM_86 : ah_P 86 = some mt_86 := rfl
theorem hM_87 : ah_P 87 = some mt_87 := rfl
theorem hM_88 : ah_P 88 = some mt_88 := rfl
theorem hM_89 : ah_P 89 = some mt_89 := rfl
theorem hM_90 : ah_P 90 = some mt_90 := rfl
theorem hM_91 : ah_P 91 = some mt_91 := rfl
theorem hM_92 : ah_P 92 = some mt_92 := rfl
theorem hM_93 : ah_P 93 = some mt_93 := rfl
abbrev m_Code_init : Nat := 0
abbrev m_Code_signal : Nat := 1
abbrev m_Code_variable : Nat := 2
abbrev m_Code_add : Nat := 3
abbrev m_Code_process : Nat := 4
abbrev m_Code_processes : Nat := 5
abbrev m_Code_put : Nat := 6
abbrev m_Code_mark : Nat := 7
abbrev m_Code_get : Nat := 8
abbrev m_Code_set : Nat := 9
abbrev m_Code_variableOf : Nat := 10
abbrev m_Code_resume : Nat := 11
abbrev m_Code_holds : Nat := 12
abbrev m_Code_about : Nat := 13
abbrev m_Code_waits : Nat := 14
abbrev m_Code_until : Nat := 15
abbrev m_Code_acts : Nat := 16
abbrev m_Code_act : Nat := 17
abbrev m_Code_value : Nat := 18
abbrev m_Code_delay : Nat := 19
abbrev m_Code_unitAt : Nat := 20
abbrev m_Code_variableThing : Nat := 21
abbrev m_Ref_init : Nat := 22
abbrev m_Ref_thrown : Nat := 23
abbrev m_Ref_setElement : Nat := 24
abbrev m_Ref_noKind : Nat := 25
abbrev m_Ref_make : Nat := 26
abbrev m_Ref_signal : Nat := 27
abbrev m_Ref_variable : Nat := 28
abbrev m_Ref_put : Nat := 29
abbrev m_Ref_mark : Nat := 30
abbrev m_Ref_get : Nat := 31
abbrev m_Ref_noProcess : Nat := 32
abbrev m_Ref_variableAt : Nat := 33
abbrev m_Ref_set : Nat := 34
abbrev m_Ref_variableOf : Nat := 35
abbrev m_Ref_add : Nat := 36
abbrev m_Ref_process : Nat := 37
abbrev m_Ref_processes : Nat := 38
abbrev m_Ref_resume : Nat := 39
abbrev m_Ref_holds : Nat := 40
abbrev m_Ref_about : Nat := 41
abbrev m_Ref_waits : Nat := 42
abbrev m_Ref_until : Nat := 43
abbrev m_Ref_acts : Nat := 44
abbrev m_Ref_act : Nat := 45
abbrev m_Ref_wave : Nat := 46
abbrev m_Ref_value : Nat := 47
abbrev m_Ref_delay : Nat := 48
abbrev m_Datum_init : Nat := 49
abbrev m_Datum_copy : Nat := 50
abbrev m_Datum_hold : Nat := 51
abbrev m_Finder_init : Nat := 52
abbrev m_Looker_init : Nat := 53
abbrev m_Looker_firstWrong : Nat := 54
abbrev m_Looker_isOneBody : Nat := 55
abbrev m_Maker_init : Nat := 56
abbrev m_Maker_make : Nat := 57
abbrev m_Maker_clear : Nat := 58
abbrev m_Nodes_init : Nat := 59
abbrev m_Nodes_isFull : Nat := 60
abbrev m_Nodes_begin : Nat := 61
abbrev m_Nodes_clear : Nat := 62
abbrev m_Runner_init : Nat := 63
abbrev m_Thing_init : Nat := 64
abbrev m_Thing_canBe : Nat := 65
abbrev m_Things_init : Nat := 66
abbrev m_Things_isFull : Nat := 67
abbrev m_Things_keep : Nat := 68
abbrev m_Things_pick : Nat := 69
abbrev m_Things_clear : Nat := 70
abbrev m_Told_init : Nat := 71
abbrev m_Told_has : Nat := 72
abbrev m_Told_isAssign : Nat := 73
abbrev m_Told_placeOf : Nat := 74
abbrev m_Told_datumOf : Nat := 75
abbrev m_Law_signal : Nat := 76
abbrev m_Law_variable : Nat := 77
abbrev m_Law_add : Nat := 78
abbrev m_Law_process : Nat := 79
abbrev m_Law_put : Nat := 80
abbrev m_Law_mark : Nat := 81
abbrev m_Law_get : Nat := 82
abbrev m_Law_set : Nat := 83
abbrev m_Law_variableOf : Nat := 84
abbrev m_Law_resume : Nat := 85
abbrev m_Law_holds : Nat := 86
abbrev m_Law_about : Nat := 87
abbrev m_Law_waits : Nat := 88
abbrev m_Law_until : Nat := 89
abbrev m_Law_act : Nat := 90
abbrev m_Law_value : Nat := 91
abbrev m_Law_delay : Nat := 92
abbrev m_Law_law : Nat := 93
abbrev k_Code : Nat := 0
abbrev k_Datum : Nat := 1
abbrev k_Finder : Nat := 2
abbrev k_Looker : Nat := 3
abbrev k_Maker : Nat := 4
abbrev k_Nodes : Nat := 5
abbrev k_Runner : Nat := 6
abbrev k_Thing : Nat := 7
abbrev k_Things : Nat := 8
abbrev k_Told : Nat := 9
abbrev k_Unit : Nat := 10
abbrev k_Ref : Nat := 11
abbrev k_IllegalArgumentException : Nat := 200
abbrev k_IllegalStateException : Nat := 201
abbrev k_IndexOutOfBoundsException : Nat := 202
/-- a call at depth d -/
noncomputable def vc (lim : Nat × Nat) (d : Nat) : ah_C := ah_calls ah_P (ah_val lim ah_P) d
/-- nothing is caught -/
def nx (h : ah_H) : Nat × Nat → ah_H → Option ah_R := fun _ h' => bif Nat.beq h'.2.2.2 h.2.2.2 && Nat.beq h'.2.1 (h.2.1 + 1) then none else none
/-- what the method y catches at pc -/
noncomputable def ah_hx (lim : Nat × Nat) (d y pc : Nat) (L : ah_L) (h : ah_H) : Nat × Nat → ah_H → Option ah_R := fun e h' => bif Nat.beq h'.2.2.2 h.2.2.2 && Nat.beq h'.2.1 (h.2.1 + 1) then (match ah_catch (match ah_P y with | some M => M.2.2.1 | none => []) pc e.1 with
  | some t => ah_val lim ah_P d y t L [.inr (.inr (some e.2))] h'
  | none => none) else none
