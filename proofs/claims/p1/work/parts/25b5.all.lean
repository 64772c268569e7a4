def am_dlP (m : Nat) : Prop := ∀ j, am_M[m]? = some j → (∀ e ∈ am_code0 m, am_deOk j.2.1 e = true) ∧ (∀ e ∈ am_code0 m, am_ok j.1 m e = true)
set_option maxRecDepth 100000 in
theorem am_dl0 : am_dlP 0 := fun j hj => by cases Option.some.inj hj; exact ⟨am_de0, am_ok0⟩
set_option maxRecDepth 100000 in
theorem am_dl1 : am_dlP 1 := fun j hj => by cases Option.some.inj hj; exact ⟨am_de1, am_ok1⟩
set_option maxRecDepth 100000 in
theorem am_dl2 : am_dlP 2 := fun j hj => by cases Option.some.inj hj; exact ⟨am_de2, am_ok2⟩
set_option maxRecDepth 100000 in
theorem am_dl3 : am_dlP 3 := fun j hj => by cases Option.some.inj hj; exact ⟨am_de3, am_ok3⟩
set_option maxRecDepth 100000 in
theorem am_dl4 : am_dlP 4 := fun j hj => by cases Option.some.inj hj; exact ⟨am_de4, am_ok4⟩
set_option maxRecDepth 100000 in
theorem am_dl5 : am_dlP 5 := fun j hj => by cases Option.some.inj hj; exact ⟨am_de5, am_ok5⟩
set_option maxRecDepth 100000 in
theorem am_dl6 : am_dlP 6 := fun j hj => by cases Option.some.inj hj; exact ⟨am_de6, am_ok6⟩
set_option maxRecDepth 100000 in
theorem am_dl7 : am_dlP 7 := fun j hj => by cases Option.some.inj hj; exact ⟨am_de7, am_ok7⟩
set_option maxRecDepth 100000 in
theorem am_dl8 : am_dlP 8 := fun j hj => by cases Option.some.inj hj; exact ⟨am_de8, am_ok8⟩
set_option maxRecDepth 100000 in
theorem am_dl9 : am_dlP 9 := fun j hj => by cases Option.some.inj hj; exact ⟨am_de9, am_ok9⟩
set_option maxRecDepth 100000 in
theorem am_dl10 : am_dlP 10 := fun j hj => by cases Option.some.inj hj; exact ⟨am_de10, am_ok10⟩
set_option maxRecDepth 100000 in
theorem am_dl11 : am_dlP 11 := fun j hj => by cases Option.some.inj hj; exact ⟨am_de11, am_ok11⟩
set_option maxRecDepth 100000 in
theorem am_dl12 : am_dlP 12 := fun j hj => by cases Option.some.inj hj; exact ⟨am_de12, am_ok12⟩
set_option maxRecDepth 100000 in
theorem am_dl13 : am_dlP 13 := fun j hj => by cases Option.some.inj hj; exact ⟨am_de13, am_ok13⟩
set_option maxRecDepth 100000 in
theorem am_dl14 : am_dlP 14 := fun j hj => by cases Option.some.inj hj; exact ⟨am_de14, am_ok14⟩
set_option maxRecDepth 100000 in
theorem am_dl15 : am_dlP 15 := fun j hj => by cases Option.some.inj hj; exact ⟨am_de15, am_ok15⟩
set_option maxRecDepth 100000 in
theorem am_dl16 : am_dlP 16 := fun j hj => by cases Option.some.inj hj; exact ⟨am_de16, am_ok16⟩
set_option maxRecDepth 100000 in
theorem am_dl17 : am_dlP 17 := fun j hj => by cases Option.some.inj hj; exact ⟨am_de17, am_ok17⟩
set_option maxRecDepth 100000 in
theorem am_dl18 : am_dlP 18 := fun j hj => by cases Option.some.inj hj; exact ⟨am_de18, am_ok18⟩
set_option maxRecDepth 100000 in
theorem am_dl19 : am_dlP 19 := fun j hj => by cases Option.some.inj hj; exact ⟨am_de19, am_ok19⟩
set_option maxRecDepth 100000 in
theorem am_dl20 : am_dlP 20 := fun j hj => by cases Option.some.inj hj; exact ⟨am_de20, am_ok20⟩
set_option maxRecDepth 100000 in
theorem am_dl21 : am_dlP 21 := fun j hj => by cases Option.some.inj hj; exact ⟨am_de21, am_ok21⟩
set_option maxRecDepth 100000 in
theorem am_dl22 : am_dlP 22 := fun j hj => by cases Option.some.inj hj; exact ⟨am_de22, am_ok22⟩
set_option maxRecDepth 100000 in
theorem am_dl23 : am_dlP 23 := fun j hj => by cases Option.some.inj hj; exact ⟨am_de23, am_ok23⟩
set_option maxRecDepth 100000 in
theorem am_dl24 : am_dlP 24 := fun j hj => by cases Option.some.inj hj; exact ⟨am_de24, am_ok24⟩
set_option maxRecDepth 100000 in
theorem am_dl25 : am_dlP 25 := fun j hj => by cases Option.some.inj hj; exact ⟨am_de25, am_ok25⟩
set_option maxRecDepth 100000 in
theorem am_dl26 : am_dlP 26 := fun j hj => by cases Option.some.inj hj; exact ⟨am_de26, am_ok26⟩
set_option maxRecDepth 100000 in
theorem am_dl27 : am_dlP 27 := fun j hj => by cases Option.some.inj hj; exact ⟨am_de27, am_ok27⟩
set_option maxRecDepth 100000 in
theorem am_dl28 : am_dlP 28 := fun j hj => by cases Option.some.inj hj; exact ⟨am_de28, am_ok28⟩
set_option maxRecDepth 100000 in
theorem am_dl29 : am_dlP 29 := fun j hj => by cases Option.some.inj hj; exact ⟨am_de29, am_ok29⟩
set_option maxRecDepth 100000 in
theorem am_dl30 : am_dlP 30 := fun j hj => by cases Option.some.inj hj; exact ⟨am_de30, am_ok30⟩
set_option maxRecDepth 100000 in
theorem am_dl31 : am_dlP 31 := fun j hj => by cases Option.some.inj hj; exact ⟨am_de31, am_ok31⟩
set_option maxRecDepth 100000 in
theorem am_dl32 : am_dlP 32 := fun j hj => by cases Option.some.inj hj; exact ⟨am_de32, am_ok32⟩
set_option maxRecDepth 100000 in
theorem am_dl33 : am_dlP 33 := fun j hj => by cases Option.some.inj hj; exact ⟨am_de33, am_ok33⟩
set_option maxRecDepth 100000 in
theorem am_dl34 : am_dlP 34 := fun j hj => by cases Option.some.inj hj; exact ⟨am_de34, am_ok34⟩
set_option maxRecDepth 100000 in
theorem am_dl35 : am_dlP 35 := fun j hj => by cases Option.some.inj hj; exact ⟨am_de35, am_ok35⟩
set_option maxRecDepth 100000 in
theorem am_dl36 : am_dlP 36 := fun j hj => by cases Option.some.inj hj; exact ⟨am_de36, am_ok36⟩
set_option maxRecDepth 100000 in
theorem am_dl37 : am_dlP 37 := fun j hj => by cases Option.some.inj hj; exact ⟨am_de37, am_ok37⟩
set_option maxRecDepth 100000 in
theorem am_dl38 : am_dlP 38 := fun j hj => by cases Option.some.inj hj; exact ⟨am_de38, am_ok38⟩
set_option maxRecDepth 100000 in
theorem am_dl39 : am_dlP 39 := fun j hj => by cases Option.some.inj hj; exact ⟨am_de39, am_ok39⟩
set_option maxRecDepth 100000 in
theorem am_dl40 : am_dlP 40 := fun j hj => by cases Option.some.inj hj; exact ⟨am_de40, am_ok40⟩
set_option maxRecDepth 100000 in
theorem am_dl41 : am_dlP 41 := fun j hj => by cases Option.some.inj hj; exact ⟨am_de41, am_ok41⟩
set_option maxRecDepth 100000 in
theorem am_dl42 : am_dlP 42 := fun j hj => by cases Option.some.inj hj; exact ⟨am_de42, am_ok42⟩
set_option maxRecDepth 100000 in
theorem am_dl43 : am_dlP 43 := fun j hj => by cases Option.some.inj hj; exact ⟨am_de43, am_ok43⟩
set_option maxRecDepth 100000 in
theorem am_dl44 : am_dlP 44 := fun j hj => by cases Option.some.inj hj; exact ⟨am_de44, am_ok44⟩
set_option maxRecDepth 100000 in
theorem am_dl45 : am_dlP 45 := fun j hj => by cases Option.some.inj hj; exact ⟨am_de45, am_ok45⟩
set_option maxRecDepth 100000 in
theorem am_dl46 : am_dlP 46 := fun j hj => by cases Option.some.inj hj; exact ⟨am_de46, am_ok46⟩
set_option maxRecDepth 100000 in
theorem am_dl47 : am_dlP 47 := fun j hj => by cases Option.some.inj hj; exact ⟨am_de47, am_ok47⟩
set_option maxRecDepth 100000 in
theorem am_dl48 : am_dlP 48 := fun j hj => by cases Option.some.inj hj; exact ⟨am_de48, am_ok48⟩
set_option maxRecDepth 100000 in
theorem am_dl49 : am_dlP 49 := fun j hj => by cases Option.some.inj hj; exact ⟨am_de49, am_ok49⟩
set_option maxRecDepth 100000 in
theorem am_dl50 : am_dlP 50 := fun j hj => by cases Option.some.inj hj; exact ⟨am_de50, am_ok50⟩
set_option maxRecDepth 100000 in
theorem am_dl51 : am_dlP 51 := fun j hj => by cases Option.some.inj hj; exact ⟨am_de51, am_ok51⟩
set_option maxRecDepth 100000 in
theorem am_dl52 : am_dlP 52 := fun j hj => by cases Option.some.inj hj; exact ⟨am_de52, am_ok52⟩
set_option maxRecDepth 100000 in
theorem am_dl53 : am_dlP 53 := fun j hj => by cases Option.some.inj hj; exact ⟨am_de53, am_ok53⟩
set_option maxRecDepth 100000 in
theorem am_dl54 : am_dlP 54 := fun j hj => by cases Option.some.inj hj; exact ⟨am_de54, am_ok54⟩
set_option maxRecDepth 100000 in
theorem am_dl55 : am_dlP 55 := fun j hj => by cases Option.some.inj hj; exact ⟨am_de55, am_ok55⟩
set_option maxRecDepth 100000 in
theorem am_dl56 : am_dlP 56 := fun j hj => by cases Option.some.inj hj; exact ⟨am_de56, am_ok56⟩
set_option maxRecDepth 100000 in
theorem am_dl57 : am_dlP 57 := fun j hj => by cases Option.some.inj hj; exact ⟨am_de57, am_ok57⟩
set_option maxRecDepth 100000 in
theorem am_dl58 : am_dlP 58 := fun j hj => by cases Option.some.inj hj; exact ⟨am_de58, am_ok58⟩
set_option maxRecDepth 100000 in
theorem am_dl59 : am_dlP 59 := fun j hj => by cases Option.some.inj hj; exact ⟨am_de59, am_ok59⟩
set_option maxRecDepth 100000 in
theorem am_dl60 : am_dlP 60 := fun j hj => by cases Option.some.inj hj; exact ⟨am_de60, am_ok60⟩
set_option maxRecDepth 100000 in
theorem am_dl61 : am_dlP 61 := fun j hj => by cases Option.some.inj hj; exact ⟨am_de61, am_ok61⟩
set_option maxRecDepth 100000 in
theorem am_dl62 : am_dlP 62 := fun j hj => by cases Option.some.inj hj; exact ⟨am_de62, am_ok62⟩
set_option maxRecDepth 100000 in
theorem am_dl63 : am_dlP 63 := fun j hj => by cases Option.some.inj hj; exact ⟨am_de63, am_ok63⟩
set_option maxRecDepth 100000 in
theorem am_dl64 : am_dlP 64 := fun j hj => by cases Option.some.inj hj; exact ⟨am_de64, am_ok64⟩
set_option maxRecDepth 100000 in
theorem am_dl65 : am_dlP 65 := fun j hj => by cases Option.some.inj hj; exact ⟨am_de65, am_ok65⟩
set_option maxRecDepth 100000 in
theorem am_dl66 : am_dlP 66 := fun j hj => by cases Option.some.inj hj; exact ⟨am_de66, am_ok66⟩
set_option maxRecDepth 100000 in
theorem am_dl67 : am_dlP 67 := fun j hj => by cases Option.some.inj hj; exact ⟨am_de67, am_ok67⟩
set_option maxRecDepth 100000 in
theorem am_dl68 : am_dlP 68 := fun j hj => by cases Option.some.inj hj; exact ⟨am_de68, am_ok68⟩
set_option maxRecDepth 100000 in
theorem am_dl69 : am_dlP 69 := fun j hj => by cases Option.some.inj hj; exact ⟨am_de69, am_ok69⟩
set_option maxRecDepth 100000 in
theorem am_dl70 : am_dlP 70 := fun j hj => by cases Option.some.inj hj; exact ⟨am_de70, am_ok70⟩
set_option maxRecDepth 100000 in
theorem am_dl71 : am_dlP 71 := fun j hj => by cases Option.some.inj hj; exact ⟨am_de71, am_ok71⟩
set_option maxRecDepth 100000 in
theorem am_dl72 : am_dlP 72 := fun j hj => by cases Option.some.inj hj; exact ⟨am_de72, am_ok72⟩
set_option maxRecDepth 100000 in
theorem am_dl73 : am_dlP 73 := fun j hj => by cases Option.some.inj hj; exact ⟨am_de73, am_ok73⟩
set_option maxRecDepth 100000 in
theorem am_dl74 : am_dlP 74 := fun j hj => by cases Option.some.inj hj; exact ⟨am_de74, am_ok74⟩
set_option maxRecDepth 100000 in
theorem am_dl75 : am_dlP 75 := fun j hj => by cases Option.some.inj hj; exact ⟨am_de75, am_ok75⟩
set_option maxRecDepth 100000 in
theorem am_dl76 : am_dlP 76 := fun j hj => by cases Option.some.inj hj; exact ⟨am_de76, am_ok76⟩
set_option maxRecDepth 100000 in
theorem am_dl77 : am_dlP 77 := fun j hj => by cases Option.some.inj hj; exact ⟨am_de77, am_ok77⟩
set_option maxRecDepth 100000 in
theorem am_dl78 : am_dlP 78 := fun j hj => by cases Option.some.inj hj; exact ⟨am_de78, am_ok78⟩
set_option maxRecDepth 100000 in
theorem am_dl79 : am_dlP 79 := fun j hj => by cases Option.some.inj hj; exact ⟨am_de79, am_ok79⟩
set_option maxRecDepth 100000 in
theorem am_dl80 : am_dlP 80 := fun j hj => by cases Option.some.inj hj; exact ⟨am_de80, am_ok80⟩
set_option maxRecDepth 100000 in
theorem am_dl81 : am_dlP 81 := fun j hj => by cases Option.some.inj hj; exact ⟨am_de81, am_ok81⟩
set_option maxRecDepth 100000 in
theorem am_dl82 : am_dlP 82 := fun j hj => by cases Option.some.inj hj; exact ⟨am_de82, am_ok82⟩
set_option maxRecDepth 100000 in
theorem am_dl83 : am_dlP 83 := fun j hj => by cases Option.some.inj hj; exact ⟨am_de83, am_ok83⟩
set_option maxRecDepth 100000 in
theorem am_dl84 : am_dlP 84 := fun j hj => by cases Option.some.inj hj; exact ⟨am_de84, am_ok84⟩
set_option maxRecDepth 100000 in
theorem am_dl85 : am_dlP 85 := fun j hj => by cases Option.some.inj hj; exact ⟨am_de85, am_ok85⟩
set_option maxRecDepth 100000 in
theorem am_dl86 : am_dlP 86 := fun j hj => by cases Option.some.inj hj; exact ⟨am_de86, am_ok86⟩
set_option maxRecDepth 100000 in
theorem am_dl87 : am_dlP 87 := fun j hj => by cases Option.some.inj hj; exact ⟨am_de87, am_ok87⟩
set_option maxRecDepth 100000 in
theorem am_dl88 : am_dlP 88 := fun j hj => by cases Option.some.inj hj; exact ⟨am_de88, am_ok88⟩
set_option maxRecDepth 100000 in
theorem am_dl89 : am_dlP 89 := fun j hj => by cases Option.some.inj hj; exact ⟨am_de89, am_ok89⟩
set_option maxRecDepth 100000 in
theorem am_dl90 : am_dlP 90 := fun j hj => by cases Option.some.inj hj; exact ⟨am_de90, am_ok90⟩
set_option maxRecDepth 100000 in
theorem am_dl91 : am_dlP 91 := fun j hj => by cases Option.some.inj hj; exact ⟨am_de91, am_ok91⟩
set_option maxRecDepth 100000 in
theorem am_dl92 : am_dlP 92 := fun j hj => by cases Option.some.inj hj; exact ⟨am_de92, am_ok92⟩
set_option maxRecDepth 100000 in
theorem am_dl93 : am_dlP 93 := fun j hj => by cases Option.some.inj hj; exact ⟨am_de93, am_ok93⟩
set_option maxRecDepth 100000 in
theorem am_dl94 : am_dlP 94 := fun j hj => by cases Option.some.inj hj; exact ⟨am_de94, am_ok94⟩
set_option maxRecDepth 100000 in
theorem am_dl95 : am_dlP 95 := fun j hj => by cases Option.some.inj hj; exact ⟨am_de95, am_ok95⟩
set_option maxRecDepth 100000 in
theorem am_dl96 : am_dlP 96 := fun j hj => by cases Option.some.inj hj; exact ⟨am_de96, am_ok96⟩
set_option maxRecDepth 100000 in
theorem am_dl97 : am_dlP 97 := fun j hj => by cases Option.some.inj hj; exact ⟨am_de97, am_ok97⟩
set_option maxRecDepth 100000 in
theorem am_dl98 : am_dlP 98 := fun j hj => by cases Option.some.inj hj; exact ⟨am_de98, am_ok98⟩
set_option maxRecDepth 100000 in
theorem am_dl99 : am_dlP 99 := fun j hj => by cases Option.some.inj hj; exact ⟨am_de99, am_ok99⟩
set_option maxRecDepth 100000 in
theorem am_dl100 : am_dlP 100 := fun j hj => by cases Option.some.inj hj; exact ⟨am_de100, am_ok100⟩
set_option maxRecDepth 100000 in
theorem am_dl101 : am_dlP 101 := fun j hj => by cases Option.some.inj hj; exact ⟨am_de101, am_ok101⟩
set_option maxRecDepth 100000 in
theorem am_dl102 : am_dlP 102 := fun j hj => by cases Option.some.inj hj; exact ⟨am_de102, am_ok102⟩
set_option maxRecDepth 100000 in
theorem am_dl103 : am_dlP 103 := fun j hj => by cases Option.some.inj hj; exact ⟨am_de103, am_ok103⟩
set_option maxRecDepth 100000 in
theorem am_dl104 : am_dlP 104 := fun j hj => by cases Option.some.inj hj; exact ⟨am_de104, am_ok104⟩
set_option maxRecDepth 100000 in
theorem am_dl105 : am_dlP 105 := fun j hj => by cases Option.some.inj hj; exact ⟨am_de105, am_ok105⟩
set_option maxRecDepth 100000 in
theorem am_dl106 : am_dlP 106 := fun j hj => by cases Option.some.inj hj; exact ⟨am_de106, am_ok106⟩
set_option maxRecDepth 100000 in
theorem am_dl107 : am_dlP 107 := fun j hj => by cases Option.some.inj hj; exact ⟨am_de107, am_ok107⟩
set_option maxRecDepth 100000 in
theorem am_dl108 : am_dlP 108 := fun j hj => by cases Option.some.inj hj; exact ⟨am_de108, am_ok108⟩
set_option maxRecDepth 100000 in
theorem am_dl109 : am_dlP 109 := fun j hj => by cases Option.some.inj hj; exact ⟨am_de109, am_ok109⟩
set_option maxRecDepth 100000 in
theorem am_dl110 : am_dlP 110 := fun j hj => by cases Option.some.inj hj; exact ⟨am_de110, am_ok110⟩
set_option maxRecDepth 100000 in
theorem am_dl111 : am_dlP 111 := fun j hj => by cases Option.some.inj hj; exact ⟨am_de111, am_ok111⟩
set_option maxRecDepth 100000 in
theorem am_dl112 : am_dlP 112 := fun j hj => by cases Option.some.inj hj; exact ⟨am_de112, am_ok112⟩
set_option maxRecDepth 100000 in
theorem am_dl113 : am_dlP 113 := fun j hj => by cases Option.some.inj hj; exact ⟨am_de113, am_ok113⟩
set_option maxRecDepth 100000 in
theorem am_dl114 : am_dlP 114 := fun j hj => by cases Option.some.inj hj; exact ⟨am_de114, am_ok114⟩
set_option maxRecDepth 100000 in
theorem am_dl115 : am_dlP 115 := fun j hj => by cases Option.some.inj hj; exact ⟨am_de115, am_ok115⟩
set_option maxRecDepth 100000 in
theorem am_dl116 : am_dlP 116 := fun j hj => by cases Option.some.inj hj; exact ⟨am_de116, am_ok116⟩
set_option maxRecDepth 100000 in
theorem am_dl117 : am_dlP 117 := fun j hj => by cases Option.some.inj hj; exact ⟨am_de117, am_ok117⟩
set_option maxRecDepth 100000 in
theorem am_dl118 : am_dlP 118 := fun j hj => by cases Option.some.inj hj; exact ⟨am_de118, am_ok118⟩
set_option maxRecDepth 100000 in
theorem am_dl119 : am_dlP 119 := fun j hj => by cases Option.some.inj hj; exact ⟨am_de119, am_ok119⟩
set_option maxRecDepth 100000 in
theorem am_dl120 : am_dlP 120 := fun j hj => by cases Option.some.inj hj; exact ⟨am_de120, am_ok120⟩
set_option maxRecDepth 100000 in
theorem am_dl121 : am_dlP 121 := fun j hj => by cases Option.some.inj hj; exact ⟨am_de121, am_ok121⟩
set_option maxRecDepth 100000 in
theorem am_dl122 : am_dlP 122 := fun j hj => by cases Option.some.inj hj; exact ⟨am_de122, am_ok122⟩
set_option maxRecDepth 100000 in
theorem am_dl123 : am_dlP 123 := fun j hj => by cases Option.some.inj hj; exact ⟨am_de123, am_ok123⟩
set_option maxRecDepth 100000 in
theorem am_dl124 : am_dlP 124 := fun j hj => by cases Option.some.inj hj; exact ⟨am_de124, am_ok124⟩
set_option maxRecDepth 100000 in
theorem am_dl125 : am_dlP 125 := fun j hj => by cases Option.some.inj hj; exact ⟨am_de125, am_ok125⟩
set_option maxRecDepth 100000 in
theorem am_dl126 : am_dlP 126 := fun j hj => by cases Option.some.inj hj; exact ⟨am_de126, am_ok126⟩
set_option maxRecDepth 100000 in
theorem am_dl127 : am_dlP 127 := fun j hj => by cases Option.some.inj hj; exact ⟨am_de127, am_ok127⟩
set_option maxRecDepth 100000 in
theorem am_dl128 : am_dlP 128 := fun j hj => by cases Option.some.inj hj; exact ⟨am_de128, am_ok128⟩
set_option maxRecDepth 100000 in
theorem am_dl129 : am_dlP 129 := fun j hj => by cases Option.some.inj hj; exact ⟨am_de129, am_ok129⟩
set_option maxRecDepth 100000 in
theorem am_dl130 : am_dlP 130 := fun j hj => by cases Option.some.inj hj; exact ⟨am_de130, am_ok130⟩
set_option maxRecDepth 100000 in
theorem am_dl131 : am_dlP 131 := fun j hj => by cases Option.some.inj hj; exact ⟨am_de131, am_ok131⟩
set_option maxRecDepth 100000 in
theorem am_dl132 : am_dlP 132 := fun j hj => by cases Option.some.inj hj; exact ⟨am_de132, am_ok132⟩
set_option maxRecDepth 100000 in
theorem am_dl133 : am_dlP 133 := fun j hj => by cases Option.some.inj hj; exact ⟨am_de133, am_ok133⟩
set_option maxRecDepth 100000 in
theorem am_dl134 : am_dlP 134 := fun j hj => by cases Option.some.inj hj; exact ⟨am_de134, am_ok134⟩
set_option maxRecDepth 100000 in
theorem am_dl135 : am_dlP 135 := fun j hj => by cases Option.some.inj hj; exact ⟨am_de135, am_ok135⟩
set_option maxRecDepth 100000 in
theorem am_dl136 : am_dlP 136 := fun j hj => by cases Option.some.inj hj; exact ⟨am_de136, am_ok136⟩
set_option maxRecDepth 100000 in
theorem am_dl137 : am_dlP 137 := fun j hj => by cases Option.some.inj hj; exact ⟨am_de137, am_ok137⟩
set_option maxRecDepth 100000 in
theorem am_dl138 : am_dlP 138 := fun j hj => by cases Option.some.inj hj; exact ⟨am_de138, am_ok138⟩
set_option maxRecDepth 100000 in
theorem am_dl139 : am_dlP 139 := fun j hj => by cases Option.some.inj hj; exact ⟨am_de139, am_ok139⟩
set_option maxRecDepth 100000 in
theorem am_dl140 : am_dlP 140 := fun j hj => by cases Option.some.inj hj; exact ⟨am_de140, am_ok140⟩
set_option maxRecDepth 100000 in
theorem am_dl141 : am_dlP 141 := fun j hj => by cases Option.some.inj hj; exact ⟨am_de141, am_ok141⟩
set_option maxRecDepth 100000 in
theorem am_dl142 : am_dlP 142 := fun j hj => by cases Option.some.inj hj; exact ⟨am_de142, am_ok142⟩
set_option maxRecDepth 100000 in
theorem am_dl143 : am_dlP 143 := fun j hj => by cases Option.some.inj hj; exact ⟨am_de143, am_ok143⟩
set_option maxRecDepth 100000 in
theorem am_dl144 : am_dlP 144 := fun j hj => by cases Option.some.inj hj; exact ⟨am_de144, am_ok144⟩
set_option maxRecDepth 100000 in
theorem am_dl145 : am_dlP 145 := fun j hj => by cases Option.some.inj hj; exact ⟨am_de145, am_ok145⟩
set_option maxRecDepth 100000 in
theorem am_dl146 : am_dlP 146 := fun j hj => by cases Option.some.inj hj; exact ⟨am_de146, am_ok146⟩
set_option maxRecDepth 100000 in
theorem am_dl147 : am_dlP 147 := fun j hj => by cases Option.some.inj hj; exact ⟨am_de147, am_ok147⟩
set_option maxRecDepth 100000 in
theorem am_dl148 : am_dlP 148 := fun j hj => by cases Option.some.inj hj; exact ⟨am_de148, am_ok148⟩
set_option maxRecDepth 100000 in
theorem am_dl149 : am_dlP 149 := fun j hj => by cases Option.some.inj hj; exact ⟨am_de149, am_ok149⟩
set_option maxRecDepth 100000 in
theorem am_dl150 : am_dlP 150 := fun j hj => by cases Option.some.inj hj; exact ⟨am_de150, am_ok150⟩
set_option maxRecDepth 100000 in
theorem am_dl151 : am_dlP 151 := fun j hj => by cases Option.some.inj hj; exact ⟨am_de151, am_ok151⟩
set_option maxRecDepth 100000 in
theorem am_dl152 : am_dlP 152 := fun j hj => by cases Option.some.inj hj; exact ⟨am_de152, am_ok152⟩
set_option maxRecDepth 100000 in
theorem am_dl153 : am_dlP 153 := fun j hj => by cases Option.some.inj hj; exact ⟨am_de153, am_ok153⟩
set_option maxRecDepth 100000 in
theorem am_dl154 : am_dlP 154 := fun j hj => by cases Option.some.inj hj; exact ⟨am_de154, am_ok154⟩
set_option maxRecDepth 100000 in
theorem am_dl155 : am_dlP 155 := fun j hj => by cases Option.some.inj hj; exact ⟨am_de155, am_ok155⟩
set_option maxRecDepth 100000 in
theorem am_dl156 : am_dlP 156 := fun j hj => by cases Option.some.inj hj; exact ⟨am_de156, am_ok156⟩
set_option maxRecDepth 100000 in
theorem am_dl157 : am_dlP 157 := fun j hj => by cases Option.some.inj hj; exact ⟨am_de157, am_ok157⟩
set_option maxRecDepth 100000 in
theorem am_dl158 : am_dlP 158 := fun j hj => by cases Option.some.inj hj; exact ⟨am_de158, am_ok158⟩
set_option maxRecDepth 100000 in
theorem am_dl159 : am_dlP 159 := fun j hj => by cases Option.some.inj hj; exact ⟨am_de159, am_ok159⟩
set_option maxRecDepth 100000 in
theorem am_dl160 : am_dlP 160 := fun j hj => by cases Option.some.inj hj; exact ⟨am_de160, am_ok160⟩
set_option maxRecDepth 100000 in
theorem am_dl161 : am_dlP 161 := fun j hj => by cases Option.some.inj hj; exact ⟨am_de161, am_ok161⟩
set_option maxRecDepth 100000 in
theorem am_dl162 : am_dlP 162 := fun j hj => by cases Option.some.inj hj; exact ⟨am_de162, am_ok162⟩
set_option maxRecDepth 100000 in
theorem am_dl163 : am_dlP 163 := fun j hj => by cases Option.some.inj hj; exact ⟨am_de163, am_ok163⟩
set_option maxRecDepth 100000 in
theorem am_dl164 : am_dlP 164 := fun j hj => by cases Option.some.inj hj; exact ⟨am_de164, am_ok164⟩
set_option maxRecDepth 100000 in
theorem am_dl165 : am_dlP 165 := fun j hj => by cases Option.some.inj hj; exact ⟨am_de165, am_ok165⟩
set_option maxRecDepth 100000 in
theorem am_dl166 : am_dlP 166 := fun j hj => by cases Option.some.inj hj; exact ⟨am_de166, am_ok166⟩
set_option maxRecDepth 100000 in
theorem am_dl167 : am_dlP 167 := fun j hj => by cases Option.some.inj hj; exact ⟨am_de167, am_ok167⟩
set_option maxRecDepth 100000 in
theorem am_dl168 : am_dlP 168 := fun j hj => by cases Option.some.inj hj; exact ⟨am_de168, am_ok168⟩
set_option maxRecDepth 100000 in
theorem am_dl169 : am_dlP 169 := fun j hj => by cases Option.some.inj hj; exact ⟨am_de169, am_ok169⟩
set_option maxRecDepth 100000 in
theorem am_dl170 : am_dlP 170 := fun j hj => by cases Option.some.inj hj; exact ⟨am_de170, am_ok170⟩
set_option maxRecDepth 100000 in
theorem am_dl171 : am_dlP 171 := fun j hj => by cases Option.some.inj hj; exact ⟨am_de171, am_ok171⟩
set_option maxRecDepth 100000 in
theorem am_dl172 : am_dlP 172 := fun j hj => by cases Option.some.inj hj; exact ⟨am_de172, am_ok172⟩
set_option maxRecDepth 100000 in
theorem am_dl173 : am_dlP 173 := fun j hj => by cases Option.some.inj hj; exact ⟨am_de173, am_ok173⟩
set_option maxRecDepth 100000 in
theorem am_dl174 : am_dlP 174 := fun j hj => by cases Option.some.inj hj; exact ⟨am_de174, am_ok174⟩
set_option maxRecDepth 100000 in
theorem am_dl175 : am_dlP 175 := fun j hj => by cases Option.some.inj hj; exact ⟨am_de175, am_ok175⟩
set_option maxRecDepth 100000 in
theorem am_dl176 : am_dlP 176 := fun j hj => by cases Option.some.inj hj; exact ⟨am_de176, am_ok176⟩
set_option maxRecDepth 100000 in
theorem am_dl177 : am_dlP 177 := fun j hj => by cases Option.some.inj hj; exact ⟨am_de177, am_ok177⟩
set_option maxRecDepth 100000 in
theorem am_dl178 : am_dlP 178 := fun j hj => by cases Option.some.inj hj; exact ⟨am_de178, am_ok178⟩
set_option maxRecDepth 100000 in
theorem am_dl179 : am_dlP 179 := fun j hj => by cases Option.some.inj hj; exact ⟨am_de179, am_ok179⟩
set_option maxRecDepth 100000 in
theorem am_dl180 : am_dlP 180 := fun j hj => by cases Option.some.inj hj; exact ⟨am_de180, am_ok180⟩
set_option maxRecDepth 100000 in
theorem am_dl181 : am_dlP 181 := fun j hj => by cases Option.some.inj hj; exact ⟨am_de181, am_ok181⟩
set_option maxRecDepth 100000 in
theorem am_dl182 : am_dlP 182 := fun j hj => by cases Option.some.inj hj; exact ⟨am_de182, am_ok182⟩
set_option maxRecDepth 100000 in
theorem am_dl183 : am_dlP 183 := fun j hj => by cases Option.some.inj hj; exact ⟨am_de183, am_ok183⟩
set_option maxRecDepth 100000 in
theorem am_dl184 : am_dlP 184 := fun j hj => by cases Option.some.inj hj; exact ⟨am_de184, am_ok184⟩
set_option maxRecDepth 100000 in
theorem am_dl185 : am_dlP 185 := fun j hj => by cases Option.some.inj hj; exact ⟨am_de185, am_ok185⟩
set_option maxRecDepth 100000 in
theorem am_dl186 : am_dlP 186 := fun j hj => by cases Option.some.inj hj; exact ⟨am_de186, am_ok186⟩
set_option maxRecDepth 100000 in
theorem am_dl187 : am_dlP 187 := fun j hj => by cases Option.some.inj hj; exact ⟨am_de187, am_ok187⟩
set_option maxRecDepth 100000 in
theorem am_dl188 : am_dlP 188 := fun j hj => by cases Option.some.inj hj; exact ⟨am_de188, am_ok188⟩
set_option maxRecDepth 100000 in
theorem am_dl189 : am_dlP 189 := fun j hj => by cases Option.some.inj hj; exact ⟨am_de189, am_ok189⟩
set_option maxRecDepth 100000 in
theorem am_dl190 : am_dlP 190 := fun j hj => by cases Option.some.inj hj; exact ⟨am_de190, am_ok190⟩
set_option maxRecDepth 100000 in
theorem am_dl191 : am_dlP 191 := fun j hj => by cases Option.some.inj hj; exact ⟨am_de191, am_ok191⟩
set_option maxRecDepth 100000 in
theorem am_dl192 : am_dlP 192 := fun j hj => by cases Option.some.inj hj; exact ⟨am_de192, am_ok192⟩
set_option maxRecDepth 100000 in
theorem am_dl193 : am_dlP 193 := fun j hj => by cases Option.some.inj hj; exact ⟨am_de193, am_ok193⟩
set_option maxRecDepth 100000 in
theorem am_dl194 : am_dlP 194 := fun j hj => by cases Option.some.inj hj; exact ⟨am_de194, am_ok194⟩
set_option maxRecDepth 100000 in
theorem am_dl195 : am_dlP 195 := fun j hj => by cases Option.some.inj hj; exact ⟨am_de195, am_ok195⟩
set_option maxRecDepth 100000 in
theorem am_dl196 : am_dlP 196 := fun j hj => by cases Option.some.inj hj; exact ⟨am_de196, am_ok196⟩
set_option maxRecDepth 100000 in
theorem am_dl197 : am_dlP 197 := fun j hj => by cases Option.some.inj hj; exact ⟨am_de197, am_ok197⟩
set_option maxRecDepth 100000 in
theorem am_dl198 : am_dlP 198 := fun j hj => by cases Option.some.inj hj; exact ⟨am_de198, am_ok198⟩
set_option maxRecDepth 100000 in
theorem am_dl199 : am_dlP 199 := fun j hj => by cases Option.some.inj hj; exact ⟨am_de199, am_ok199⟩
set_option maxRecDepth 100000 in
theorem am_dl200 : am_dlP 200 := fun j hj => by cases Option.some.inj hj; exact ⟨am_de200, am_ok200⟩
set_option maxRecDepth 100000 in
theorem am_dl201 : am_dlP 201 := fun j hj => by cases Option.some.inj hj; exact ⟨am_de201, am_ok201⟩
set_option maxRecDepth 100000 in
theorem am_dl202 : am_dlP 202 := fun j hj => by cases Option.some.inj hj; exact ⟨am_de202, am_ok202⟩
set_option maxRecDepth 100000 in
theorem am_dl203 : am_dlP 203 := fun j hj => by cases Option.some.inj hj; exact ⟨am_de203, am_ok203⟩
set_option maxRecDepth 100000 in
theorem am_dl204 : am_dlP 204 := fun j hj => by cases Option.some.inj hj; exact ⟨am_de204, am_ok204⟩
set_option maxRecDepth 100000 in
theorem am_dl205 : am_dlP 205 := fun j hj => by cases Option.some.inj hj; exact ⟨am_de205, am_ok205⟩
set_option maxRecDepth 100000 in
theorem am_dl206 : am_dlP 206 := fun j hj => by cases Option.some.inj hj; exact ⟨am_de206, am_ok206⟩
set_option maxRecDepth 100000 in
theorem am_dl207 : am_dlP 207 := fun j hj => by cases Option.some.inj hj; exact ⟨am_de207, am_ok207⟩
set_option maxRecDepth 100000 in
theorem am_dl208 : am_dlP 208 := fun j hj => by cases Option.some.inj hj; exact ⟨am_de208, am_ok208⟩
set_option maxRecDepth 100000 in
theorem am_dl209 : am_dlP 209 := fun j hj => by cases Option.some.inj hj; exact ⟨am_de209, am_ok209⟩
set_option maxRecDepth 100000 in
theorem am_dl210 : am_dlP 210 := fun j hj => by cases Option.some.inj hj; exact ⟨am_de210, am_ok210⟩
set_option maxRecDepth 100000 in
theorem am_dl211 : am_dlP 211 := fun j hj => by cases Option.some.inj hj; exact ⟨am_de211, am_ok211⟩
set_option maxRecDepth 100000 in
theorem am_dl212 : am_dlP 212 := fun j hj => by cases Option.some.inj hj; exact ⟨am_de212, am_ok212⟩
set_option maxRecDepth 100000 in
theorem am_dl213 : am_dlP 213 := fun j hj => by cases Option.some.inj hj; exact ⟨am_de213, am_ok213⟩
set_option maxRecDepth 100000 in
theorem am_dl214 : am_dlP 214 := fun j hj => by cases Option.some.inj hj; exact ⟨am_de214, am_ok214⟩
set_option maxRecDepth 100000 in
theorem am_dl215 : am_dlP 215 := fun j hj => by cases Option.some.inj hj; exact ⟨am_de215, am_ok215⟩
set_option maxRecDepth 100000 in
theorem am_dl216 : am_dlP 216 := fun j hj => by cases Option.some.inj hj; exact ⟨am_de216, am_ok216⟩
set_option maxRecDepth 100000 in
theorem am_dl217 : am_dlP 217 := fun j hj => by cases Option.some.inj hj; exact ⟨am_de217, am_ok217⟩
set_option maxRecDepth 100000 in
theorem am_dl218 : am_dlP 218 := fun j hj => by cases Option.some.inj hj; exact ⟨am_de218, am_ok218⟩
set_option maxRecDepth 100000 in
theorem am_dl219 : am_dlP 219 := fun j hj => by cases Option.some.inj hj; exact ⟨am_de219, am_ok219⟩
set_option maxRecDepth 100000 in
theorem am_dl220 : am_dlP 220 := fun j hj => by cases Option.some.inj hj; exact ⟨am_de220, am_ok220⟩
set_option maxRecDepth 100000 in
theorem am_dl221 : am_dlP 221 := fun j hj => by cases Option.some.inj hj; exact ⟨am_de221, am_ok221⟩
set_option maxRecDepth 100000 in
theorem am_dl222 : am_dlP 222 := fun j hj => by cases Option.some.inj hj; exact ⟨am_de222, am_ok222⟩
set_option maxRecDepth 100000 in
theorem am_dl223 : am_dlP 223 := fun j hj => by cases Option.some.inj hj; exact ⟨am_de223, am_ok223⟩
set_option maxRecDepth 100000 in
theorem am_dl224 : am_dlP 224 := fun j hj => by cases Option.some.inj hj; exact ⟨am_de224, am_ok224⟩
set_option maxRecDepth 100000 in
theorem am_dl225 : am_dlP 225 := fun j hj => by cases Option.some.inj hj; exact ⟨am_de225, am_ok225⟩
set_option maxRecDepth 100000 in
theorem am_dl226 : am_dlP 226 := fun j hj => by cases Option.some.inj hj; exact ⟨am_de226, am_ok226⟩
set_option maxRecDepth 100000 in
theorem am_dl227 : am_dlP 227 := fun j hj => by cases Option.some.inj hj; exact ⟨am_de227, am_ok227⟩
set_option maxRecDepth 100000 in
theorem am_dl228 : am_dlP 228 := fun j hj => by cases Option.some.inj hj; exact ⟨am_de228, am_ok228⟩
set_option maxRecDepth 100000 in
theorem am_dl229 : am_dlP 229 := fun j hj => by cases Option.some.inj hj; exact ⟨am_de229, am_ok229⟩
set_option maxRecDepth 100000 in
theorem am_dl230 : am_dlP 230 := fun j hj => by cases Option.some.inj hj; exact ⟨am_de230, am_ok230⟩
set_option maxRecDepth 100000 in
theorem am_dl231 : am_dlP 231 := fun j hj => by cases Option.some.inj hj; exact ⟨am_de231, am_ok231⟩
set_option maxRecDepth 100000 in
theorem am_dl232 : am_dlP 232 := fun j hj => by cases Option.some.inj hj; exact ⟨am_de232, am_ok232⟩
set_option maxRecDepth 100000 in
theorem am_dl233 : am_dlP 233 := fun j hj => by cases Option.some.inj hj; exact ⟨am_de233, am_ok233⟩
set_option maxRecDepth 100000 in
theorem am_dl234 : am_dlP 234 := fun j hj => by cases Option.some.inj hj; exact ⟨am_de234, am_ok234⟩
set_option maxRecDepth 100000 in
theorem am_dl235 : am_dlP 235 := fun j hj => by cases Option.some.inj hj; exact ⟨am_de235, am_ok235⟩
set_option maxRecDepth 100000 in
theorem am_dl236 : am_dlP 236 := fun j hj => by cases Option.some.inj hj; exact ⟨am_de236, am_ok236⟩
set_option maxRecDepth 100000 in
theorem am_dl237 : am_dlP 237 := fun j hj => by cases Option.some.inj hj; exact ⟨am_de237, am_ok237⟩
set_option maxRecDepth 100000 in
theorem am_dl238 : am_dlP 238 := fun j hj => by cases Option.some.inj hj; exact ⟨am_de238, am_ok238⟩
set_option maxRecDepth 100000 in
theorem am_dl239 : am_dlP 239 := fun j hj => by cases Option.some.inj hj; exact ⟨am_de239, am_ok239⟩
set_option maxRecDepth 100000 in
theorem am_dl240 : am_dlP 240 := fun j hj => by cases Option.some.inj hj; exact ⟨am_de240, am_ok240⟩
set_option maxRecDepth 100000 in
theorem am_dl241 : am_dlP 241 := fun j hj => by cases Option.some.inj hj; exact ⟨am_de241, am_ok241⟩
set_option maxRecDepth 100000 in
theorem am_dl242 : am_dlP 242 := fun j hj => by cases Option.some.inj hj; exact ⟨am_de242, am_ok242⟩
set_option maxRecDepth 100000 in
theorem am_dl243 : am_dlP 243 := fun j hj => by cases Option.some.inj hj; exact ⟨am_de243, am_ok243⟩
set_option maxRecDepth 100000 in
theorem am_dl244 : am_dlP 244 := fun j hj => by cases Option.some.inj hj; exact ⟨am_de244, am_ok244⟩
set_option maxRecDepth 100000 in
theorem am_dl245 : am_dlP 245 := fun j hj => by cases Option.some.inj hj; exact ⟨am_de245, am_ok245⟩
set_option maxRecDepth 100000 in
theorem am_dl246 : am_dlP 246 := fun j hj => by cases Option.some.inj hj; exact ⟨am_de246, am_ok246⟩
set_option maxRecDepth 100000 in
theorem am_dl247 : am_dlP 247 := fun j hj => by cases Option.some.inj hj; exact ⟨am_de247, am_ok247⟩
set_option maxRecDepth 100000 in
theorem am_dl248 : am_dlP 248 := fun j hj => by cases Option.some.inj hj; exact ⟨am_de248, am_ok248⟩
set_option maxRecDepth 100000 in
theorem am_dl249 : am_dlP 249 := fun j hj => by cases Option.some.inj hj; exact ⟨am_de249, am_ok249⟩
set_option maxRecDepth 100000 in
theorem am_dl250 : am_dlP 250 := fun j hj => by cases Option.some.inj hj; exact ⟨am_de250, am_ok250⟩
set_option maxRecDepth 100000 in
theorem am_dl251 : am_dlP 251 := fun j hj => by cases Option.some.inj hj; exact ⟨am_de251, am_ok251⟩
set_option maxRecDepth 100000 in
theorem am_dl252 : am_dlP 252 := fun j hj => by cases Option.some.inj hj; exact ⟨am_de252, am_ok252⟩
set_option maxRecDepth 100000 in
theorem am_dl253 : am_dlP 253 := fun j hj => by cases Option.some.inj hj; exact ⟨am_de253, am_ok253⟩
set_option maxRecDepth 100000 in
theorem am_dl254 : am_dlP 254 := fun j hj => by cases Option.some.inj hj; exact ⟨am_de254, am_ok254⟩
set_option maxRecDepth 100000 in
theorem am_dl255 : am_dlP 255 := fun j hj => by cases Option.some.inj hj; exact ⟨am_de255, am_ok255⟩
set_option maxRecDepth 100000 in
theorem am_dl256 : am_dlP 256 := fun j hj => by cases Option.some.inj hj; exact ⟨am_de256, am_ok256⟩
set_option maxRecDepth 100000 in
theorem am_dl257 : am_dlP 257 := fun j hj => by cases Option.some.inj hj; exact ⟨am_de257, am_ok257⟩
set_option maxRecDepth 100000 in
theorem am_dl258 : am_dlP 258 := fun j hj => by cases Option.some.inj hj; exact ⟨am_de258, am_ok258⟩
set_option maxRecDepth 100000 in
theorem am_dl259 : am_dlP 259 := fun j hj => by cases Option.some.inj hj; exact ⟨am_de259, am_ok259⟩
set_option maxRecDepth 100000 in
theorem am_dl260 : am_dlP 260 := fun j hj => by cases Option.some.inj hj; exact ⟨am_de260, am_ok260⟩
set_option maxRecDepth 100000 in
theorem am_dl261 : am_dlP 261 := fun j hj => by cases Option.some.inj hj; exact ⟨am_de261, am_ok261⟩
set_option maxRecDepth 100000 in
theorem am_dl262 : am_dlP 262 := fun j hj => by cases Option.some.inj hj; exact ⟨am_de262, am_ok262⟩
set_option maxRecDepth 100000 in
theorem am_dl263 : am_dlP 263 := fun j hj => by cases Option.some.inj hj; exact ⟨am_de263, am_ok263⟩
set_option maxRecDepth 100000 in
theorem am_dl264 : am_dlP 264 := fun j hj => by cases Option.some.inj hj; exact ⟨am_de264, am_ok264⟩
set_option maxRecDepth 100000 in
theorem am_dl265 : am_dlP 265 := fun j hj => by cases Option.some.inj hj; exact ⟨am_de265, am_ok265⟩
set_option maxRecDepth 100000 in
theorem am_dl266 : am_dlP 266 := fun j hj => by cases Option.some.inj hj; exact ⟨am_de266, am_ok266⟩
set_option maxRecDepth 100000 in
theorem am_dl267 : am_dlP 267 := fun j hj => by cases Option.some.inj hj; exact ⟨am_de267, am_ok267⟩
set_option maxRecDepth 100000 in
theorem am_dl268 : am_dlP 268 := fun j hj => by cases Option.some.inj hj; exact ⟨am_de268, am_ok268⟩
set_option maxRecDepth 100000 in
theorem am_dl269 : am_dlP 269 := fun j hj => by cases Option.some.inj hj; exact ⟨am_de269, am_ok269⟩
set_option maxRecDepth 100000 in
theorem am_dl270 : am_dlP 270 := fun j hj => by cases Option.some.inj hj; exact ⟨am_de270, am_ok270⟩
set_option maxRecDepth 100000 in
theorem am_dl271 : am_dlP 271 := fun j hj => by cases Option.some.inj hj; exact ⟨am_de271, am_ok271⟩
set_option maxRecDepth 100000 in
theorem am_dl272 : am_dlP 272 := fun j hj => by cases Option.some.inj hj; exact ⟨am_de272, am_ok272⟩
set_option maxRecDepth 100000 in
theorem am_dl273 : am_dlP 273 := fun j hj => by cases Option.some.inj hj; exact ⟨am_de273, am_ok273⟩
set_option maxRecDepth 100000 in
theorem am_dl274 : am_dlP 274 := fun j hj => by cases Option.some.inj hj; exact ⟨am_de274, am_ok274⟩
set_option maxRecDepth 100000 in
theorem am_dl275 : am_dlP 275 := fun j hj => by cases Option.some.inj hj; exact ⟨am_de275, am_ok275⟩
set_option maxRecDepth 100000 in
theorem am_dl276 : am_dlP 276 := fun j hj => by cases Option.some.inj hj; exact ⟨am_de276, am_ok276⟩
set_option maxRecDepth 100000 in
theorem am_dl277 : am_dlP 277 := fun j hj => by cases Option.some.inj hj; exact ⟨am_de277, am_ok277⟩
set_option maxRecDepth 100000 in
theorem am_dl278 : am_dlP 278 := fun j hj => by cases Option.some.inj hj; exact ⟨am_de278, am_ok278⟩
set_option maxRecDepth 100000 in
theorem am_dl279 : am_dlP 279 := fun j hj => by cases Option.some.inj hj; exact ⟨am_de279, am_ok279⟩
set_option maxRecDepth 100000 in
theorem am_dl280 : am_dlP 280 := fun j hj => by cases Option.some.inj hj; exact ⟨am_de280, am_ok280⟩
set_option maxRecDepth 100000 in
theorem am_dl281 : am_dlP 281 := fun j hj => by cases Option.some.inj hj; exact ⟨am_de281, am_ok281⟩
set_option maxRecDepth 100000 in
theorem am_dl282 : am_dlP 282 := fun j hj => by cases Option.some.inj hj; exact ⟨am_de282, am_ok282⟩
set_option maxRecDepth 100000 in
theorem am_dl283 : am_dlP 283 := fun j hj => by cases Option.some.inj hj; exact ⟨am_de283, am_ok283⟩
set_option maxRecDepth 100000 in
theorem am_dl284 : am_dlP 284 := fun j hj => by cases Option.some.inj hj; exact ⟨am_de284, am_ok284⟩
set_option maxRecDepth 100000 in
theorem am_dl285 : am_dlP 285 := fun j hj => by cases Option.some.inj hj; exact ⟨am_de285, am_ok285⟩
set_option maxRecDepth 100000 in
theorem am_dl286 : am_dlP 286 := fun j hj => by cases Option.some.inj hj; exact ⟨am_de286, am_ok286⟩
set_option maxRecDepth 100000 in
theorem am_dl287 : am_dlP 287 := fun j hj => by cases Option.some.inj hj; exact ⟨am_de287, am_ok287⟩
set_option maxRecDepth 100000 in
theorem am_dl288 : am_dlP 288 := fun j hj => by cases Option.some.inj hj; exact ⟨am_de288, am_ok288⟩
set_option maxRecDepth 100000 in
theorem am_dl289 : am_dlP 289 := fun j hj => by cases Option.some.inj hj; exact ⟨am_de289, am_ok289⟩
set_option maxRecDepth 100000 in
theorem am_dl290 : am_dlP 290 := fun j hj => by cases Option.some.inj hj; exact ⟨am_de290, am_ok290⟩
set_option maxRecDepth 100000 in
theorem am_dl291 : am_dlP 291 := fun j hj => by cases Option.some.inj hj; exact ⟨am_de291, am_ok291⟩
set_option maxRecDepth 100000 in
theorem am_dl292 : am_dlP 292 := fun j hj => by cases Option.some.inj hj; exact ⟨am_de292, am_ok292⟩
set_option maxRecDepth 100000 in
theorem am_dl293 : am_dlP 293 := fun j hj => by cases Option.some.inj hj; exact ⟨am_de293, am_ok293⟩
set_option maxRecDepth 100000 in
theorem am_dl294 : am_dlP 294 := fun j hj => by cases Option.some.inj hj; exact ⟨am_de294, am_ok294⟩
set_option maxRecDepth 100000 in
theorem am_dl295 : am_dlP 295 := fun j hj => by cases Option.some.inj hj; exact ⟨am_de295, am_ok295⟩
set_option maxRecDepth 100000 in
theorem am_dl296 : am_dlP 296 := fun j hj => by cases Option.some.inj hj; exact ⟨am_de296, am_ok296⟩
set_option maxRecDepth 100000 in
theorem am_dl297 : am_dlP 297 := fun j hj => by cases Option.some.inj hj; exact ⟨am_de297, am_ok297⟩
set_option maxRecDepth 100000 in
theorem am_dl298 : am_dlP 298 := fun j hj => by cases Option.some.inj hj; exact ⟨am_de298, am_ok298⟩
set_option maxRecDepth 100000 in
theorem am_dl299 : am_dlP 299 := fun j hj => by cases Option.some.inj hj; exact ⟨am_de299, am_ok299⟩
set_option maxRecDepth 100000 in
theorem am_dl300 : am_dlP 300 := fun j hj => by cases Option.some.inj hj; exact ⟨am_de300, am_ok300⟩
set_option maxRecDepth 100000 in
theorem am_dl301 : am_dlP 301 := fun j hj => by cases Option.some.inj hj; exact ⟨am_de301, am_ok301⟩
set_option maxRecDepth 100000 in
theorem am_dl302 : am_dlP 302 := fun j hj => by cases Option.some.inj hj; exact ⟨am_de302, am_ok302⟩
set_option maxRecDepth 100000 in
theorem am_dl303 : am_dlP 303 := fun j hj => by cases Option.some.inj hj; exact ⟨am_de303, am_ok303⟩
set_option maxRecDepth 100000 in
theorem am_dl304 : am_dlP 304 := fun j hj => by cases Option.some.inj hj; exact ⟨am_de304, am_ok304⟩
set_option maxRecDepth 100000 in
theorem am_dl305 : am_dlP 305 := fun j hj => by cases Option.some.inj hj; exact ⟨am_de305, am_ok305⟩
set_option maxRecDepth 100000 in
theorem am_dl306 : am_dlP 306 := fun j hj => by cases Option.some.inj hj; exact ⟨am_de306, am_ok306⟩
set_option maxRecDepth 100000 in
theorem am_dl307 : am_dlP 307 := fun j hj => by cases Option.some.inj hj; exact ⟨am_de307, am_ok307⟩
set_option maxRecDepth 100000 in
theorem am_dl308 : am_dlP 308 := fun j hj => by cases Option.some.inj hj; exact ⟨am_de308, am_ok308⟩
set_option maxRecDepth 100000 in
theorem am_dl309 : am_dlP 309 := fun j hj => by cases Option.some.inj hj; exact ⟨am_de309, am_ok309⟩
set_option maxRecDepth 100000 in
theorem am_dl310 : am_dlP 310 := fun j hj => by cases Option.some.inj hj; exact ⟨am_de310, am_ok310⟩
set_option maxRecDepth 100000 in
theorem am_dl311 : am_dlP 311 := fun j hj => by cases Option.some.inj hj; exact ⟨am_de311, am_ok311⟩
set_option maxRecDepth 100000 in
theorem am_dl312 : am_dlP 312 := fun j hj => by cases Option.some.inj hj; exact ⟨am_de312, am_ok312⟩
set_option maxRecDepth 100000 in
theorem am_dl313 : am_dlP 313 := fun j hj => by cases Option.some.inj hj; exact ⟨am_de313, am_ok313⟩
set_option maxRecDepth 100000 in
theorem am_dl314 : am_dlP 314 := fun j hj => by cases Option.some.inj hj; exact ⟨am_de314, am_ok314⟩
set_option maxRecDepth 100000 in
theorem am_dl315 : am_dlP 315 := fun j hj => by cases Option.some.inj hj; exact ⟨am_de315, am_ok315⟩
set_option maxRecDepth 100000 in
theorem am_dl316 : am_dlP 316 := fun j hj => by cases Option.some.inj hj; exact ⟨am_de316, am_ok316⟩
set_option maxRecDepth 100000 in
theorem am_dl317 : am_dlP 317 := fun j hj => by cases Option.some.inj hj; exact ⟨am_de317, am_ok317⟩
set_option maxRecDepth 100000 in
theorem am_dl318 : am_dlP 318 := fun j hj => by cases Option.some.inj hj; exact ⟨am_de318, am_ok318⟩
set_option maxRecDepth 100000 in
theorem am_dl319 : am_dlP 319 := fun j hj => by cases Option.some.inj hj; exact ⟨am_de319, am_ok319⟩
set_option maxRecDepth 100000 in
theorem am_dl320 : am_dlP 320 := fun j hj => by cases Option.some.inj hj; exact ⟨am_de320, am_ok320⟩
set_option maxRecDepth 100000 in
theorem am_dl321 : am_dlP 321 := fun j hj => by cases Option.some.inj hj; exact ⟨am_de321, am_ok321⟩
set_option maxRecDepth 100000 in
theorem am_dl322 : am_dlP 322 := fun j hj => by cases Option.some.inj hj; exact ⟨am_de322, am_ok322⟩
set_option maxRecDepth 100000 in
theorem am_dl323 : am_dlP 323 := fun j hj => by cases Option.some.inj hj; exact ⟨am_de323, am_ok323⟩
set_option maxRecDepth 100000 in
theorem am_dl324 : am_dlP 324 := fun j hj => by cases Option.some.inj hj; exact ⟨am_de324, am_ok324⟩
set_option maxRecDepth 100000 in
theorem am_dl325 : am_dlP 325 := fun j hj => by cases Option.some.inj hj; exact ⟨am_de325, am_ok325⟩
set_option maxRecDepth 100000 in
theorem am_dl326 : am_dlP 326 := fun j hj => by cases Option.some.inj hj; exact ⟨am_de326, am_ok326⟩
set_option maxRecDepth 100000 in
theorem am_dl327 : am_dlP 327 := fun j hj => by cases Option.some.inj hj; exact ⟨am_de327, am_ok327⟩
set_option maxRecDepth 100000 in
theorem am_dl328 : am_dlP 328 := fun j hj => by cases Option.some.inj hj; exact ⟨am_de328, am_ok328⟩
set_option maxRecDepth 100000 in
theorem am_dl329 : am_dlP 329 := fun j hj => by cases Option.some.inj hj; exact ⟨am_de329, am_ok329⟩
set_option maxRecDepth 100000 in
theorem am_pu30 : ∀ a, a < 30 → am_dlP a := lt_s (lt_s (lt_s (lt_s (lt_s (lt_s (lt_s (lt_s (lt_s (lt_s (lt_s (lt_s (lt_s (lt_s (lt_s (lt_s (lt_s (lt_s (lt_s (lt_s (lt_s (lt_s (lt_s (lt_s (lt_s (lt_s (lt_s (lt_s (lt_s (lt_s (lt_0) am_dl0) am_dl1) am_dl2) am_dl3) am_dl4) am_dl5) am_dl6) am_dl7) am_dl8) am_dl9) am_dl10) am_dl11) am_dl12) am_dl13) am_dl14) am_dl15) am_dl16) am_dl17) am_dl18) am_dl19) am_dl20) am_dl21) am_dl22) am_dl23) am_dl24) am_dl25) am_dl26) am_dl27) am_dl28) am_dl29
set_option maxRecDepth 100000 in
theorem am_pu60 : ∀ a, a < 60 → am_dlP a := lt_s (lt_s (lt_s (lt_s (lt_s (lt_s (lt_s (lt_s (lt_s (lt_s (lt_s (lt_s (lt_s (lt_s (lt_s (lt_s (lt_s (lt_s (lt_s (lt_s (lt_s (lt_s (lt_s (lt_s (lt_s (lt_s (lt_s (lt_s (lt_s (lt_s (am_pu30) am_dl30) am_dl31) am_dl32) am_dl33) am_dl34) am_dl35) am_dl36) am_dl37) am_dl38) am_dl39) am_dl40) am_dl41) am_dl42) am_dl43) am_dl44) am_dl45) am_dl46) am_dl47) am_dl48) am_dl49) am_dl50) am_dl51) am_dl52) am_dl53) am_dl54) am_dl55) am_dl56) am_dl57) am_dl58) am_dl59
set_option maxRecDepth 100000 in
theorem am_pu90 : ∀ a, a < 90 → am_dlP a := lt_s (lt_s (lt_s (lt_s (lt_s (lt_s (lt_s (lt_s (lt_s (lt_s (lt_s (lt_s (lt_s (lt_s (lt_s (lt_s (lt_s (lt_s (lt_s (lt_s (lt_s (lt_s (lt_s (lt_s (lt_s (lt_s (lt_s (lt_s (lt_s (lt_s (am_pu60) am_dl60) am_dl61) am_dl62) am_dl63) am_dl64) am_dl65) am_dl66) am_dl67) am_dl68) am_dl69) am_dl70) am_dl71) am_dl72) am_dl73) am_dl74) am_dl75) am_dl76) am_dl77) am_dl78) am_dl79) am_dl80) am_dl81) am_dl82) am_dl83) am_dl84) am_dl85) am_dl86) am_dl87) am_dl88) am_dl89
set_option maxRecDepth 100000 in
theorem am_pu120 : ∀ a, a < 120 → am_dlP a := lt_s (lt_s (lt_s (lt_s (lt_s (lt_s (lt_s (lt_s (lt_s (lt_s (lt_s (lt_s (lt_s (lt_s (lt_s (lt_s (lt_s (lt_s (lt_s (lt_s (lt_s (lt_s (lt_s (lt_s (lt_s (lt_s (lt_s (lt_s (lt_s (lt_s (am_pu90) am_dl90) am_dl91) am_dl92) am_dl93) am_dl94) am_dl95) am_dl96) am_dl97) am_dl98) am_dl99) am_dl100) am_dl101) am_dl102) am_dl103) am_dl104) am_dl105) am_dl106) am_dl107) am_dl108) am_dl109) am_dl110) am_dl111) am_dl112) am_dl113) am_dl114) am_dl115) am_dl116) am_dl117) am_dl118) am_dl119
set_option maxRecDepth 100000 in
theorem am_pu150 : ∀ a, a < 150 → am_dlP a := lt_s (lt_s (lt_s (lt_s (lt_s (lt_s (lt_s (lt_s (lt_s (lt_s (lt_s (lt_s (lt_s (lt_s (lt_s (lt_s (lt_s (lt_s (lt_s (lt_s (lt_s (lt_s (lt_s (lt_s (lt_s (lt_s (lt_s (lt_s (lt_s (lt_s (am_pu120) am_dl120) am_dl121) am_dl122) am_dl123) am_dl124) am_dl125) am_dl126) am_dl127) am_dl128) am_dl129) am_dl130) am_dl131) am_dl132) am_dl133) am_dl134) am_dl135) am_dl136) am_dl137) am_dl138) am_dl139) am_dl140) am_dl141) am_dl142) am_dl143) am_dl144) am_dl145) am_dl146) am_dl147) am_dl148) am_dl149
set_option maxRecDepth 100000 in
theorem am_pu180 : ∀ a, a < 180 → am_dlP a := lt_s (lt_s (lt_s (lt_s (lt_s (lt_s (lt_s (lt_s (lt_s (lt_s (lt_s (lt_s (lt_s (lt_s (lt_s (lt_s (lt_s (lt_s (lt_s (lt_s (lt_s (lt_s (lt_s (lt_s (lt_s (lt_s (lt_s (lt_s (lt_s (lt_s (am_pu150) am_dl150) am_dl151) am_dl152) am_dl153) am_dl154) am_dl155) am_dl156) am_dl157) am_dl158) am_dl159) am_dl160) am_dl161) am_dl162) am_dl163) am_dl164) am_dl165) am_dl166) am_dl167) am_dl168) am_dl169) am_dl170) am_dl171) am_dl172) am_dl173) am_dl174) am_dl175) am_dl176) am_dl177) am_dl178) am_dl179
set_option maxRecDepth 100000 in
theorem am_pu210 : ∀ a, a < 210 → am_dlP a := lt_s (lt_s (lt_s (lt_s (lt_s (lt_s (lt_s (lt_s (lt_s (lt_s (lt_s (lt_s (lt_s (lt_s (lt_s (lt_s (lt_s (lt_s (lt_s (lt_s (lt_s (lt_s (lt_s (lt_s (lt_s (lt_s (lt_s (lt_s (lt_s (lt_s (am_pu180) am_dl180) am_dl181) am_dl182) am_dl183) am_dl184) am_dl185) am_dl186) am_dl187) am_dl188) am_dl189) am_dl190) am_dl191) am_dl192) am_dl193) am_dl194) am_dl195) am_dl196) am_dl197) am_dl198) am_dl199) am_dl200) am_dl201) am_dl202) am_dl203) am_dl204) am_dl205) am_dl206) am_dl207) am_dl208) am_dl209
set_option maxRecDepth 100000 in
theorem am_pu240 : ∀ a, a < 240 → am_dlP a := lt_s (lt_s (lt_s (lt_s (lt_s (lt_s (lt_s (lt_s (lt_s (lt_s (lt_s (lt_s (lt_s (lt_s (lt_s (lt_s (lt_s (lt_s (lt_s (lt_s (lt_s (lt_s (lt_s (lt_s (lt_s (lt_s (lt_s (lt_s (lt_s (lt_s (am_pu210) am_dl210) am_dl211) am_dl212) am_dl213) am_dl214) am_dl215) am_dl216) am_dl217) am_dl218) am_dl219) am_dl220) am_dl221) am_dl222) am_dl223) am_dl224) am_dl225) am_dl226) am_dl227) am_dl228) am_dl229) am_dl230) am_dl231) am_dl232) am_dl233) am_dl234) am_dl235) am_dl236) am_dl237) am_dl238) am_dl239
set_option maxRecDepth 100000 in
theorem am_pu270 : ∀ a, a < 270 → am_dlP a := lt_s (lt_s (lt_s (lt_s (lt_s (lt_s (lt_s (lt_s (lt_s (lt_s (lt_s (lt_s (lt_s (lt_s (lt_s (lt_s (lt_s (lt_s (lt_s (lt_s (lt_s (lt_s (lt_s (lt_s (lt_s (lt_s (lt_s (lt_s (lt_s (lt_s (am_pu240) am_dl240) am_dl241) am_dl242) am_dl243) am_dl244) am_dl245) am_dl246) am_dl247) am_dl248) am_dl249) am_dl250) am_dl251) am_dl252) am_dl253) am_dl254) am_dl255) am_dl256) am_dl257) am_dl258) am_dl259) am_dl260) am_dl261) am_dl262) am_dl263) am_dl264) am_dl265) am_dl266) am_dl267) am_dl268) am_dl269
set_option maxRecDepth 100000 in
theorem am_pu300 : ∀ a, a < 300 → am_dlP a := lt_s (lt_s (lt_s (lt_s (lt_s (lt_s (lt_s (lt_s (lt_s (lt_s (lt_s (lt_s (lt_s (lt_s (lt_s (lt_s (lt_s (lt_s (lt_s (lt_s (lt_s (lt_s (lt_s (lt_s (lt_s (lt_s (lt_s (lt_s (lt_s (lt_s (am_pu270) am_dl270) am_dl271) am_dl272) am_dl273) am_dl274) am_dl275) am_dl276) am_dl277) am_dl278) am_dl279) am_dl280) am_dl281) am_dl282) am_dl283) am_dl284) am_dl285) am_dl286) am_dl287) am_dl288) am_dl289) am_dl290) am_dl291) am_dl292) am_dl293) am_dl294) am_dl295) am_dl296) am_dl297) am_dl298) am_dl299
set_option maxRecDepth 100000 in
theorem am_pu330 : ∀ a, a < 330 → am_dlP a := lt_s (lt_s (lt_s (lt_s (lt_s (lt_s (lt_s (lt_s (lt_s (lt_s (lt_s (lt_s (lt_s (lt_s (lt_s (lt_s (lt_s (lt_s (lt_s (lt_s (lt_s (lt_s (lt_s (lt_s (lt_s (lt_s (lt_s (lt_s (lt_s (lt_s (am_pu300) am_dl300) am_dl301) am_dl302) am_dl303) am_dl304) am_dl305) am_dl306) am_dl307) am_dl308) am_dl309) am_dl310) am_dl311) am_dl312) am_dl313) am_dl314) am_dl315) am_dl316) am_dl317) am_dl318) am_dl319) am_dl320) am_dl321) am_dl322) am_dl323) am_dl324) am_dl325) am_dl326) am_dl327) am_dl328) am_dl329
set_option maxRecDepth 100000 in
theorem am_dlA : ∀ a, a < 330 → am_dlP a := am_pu330
