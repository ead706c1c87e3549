set_option maxRecDepth 100000 in
theorem zs_J6_bitCount_0f7a4 : qZS zJ6_bitCount_0f7a4 1 := ⟨⟨q_in 673 rfl rfl, q_in 17 rfl rfl, by decide +kernel, by decide +kernel, by decide +kernel, by decide +kernel, by decide⟩, q_in 672 rfl rfl⟩
set_option maxRecDepth 100000 in
theorem zs_J7_fill_53178 : qZS zJ7_fill_53178 2 := ⟨⟨q_in 665 rfl rfl, q_in 16 rfl rfl, by decide +kernel, by decide +kernel, by decide +kernel, by decide +kernel, by decide⟩, q_in 664 rfl rfl⟩
set_option maxRecDepth 100000 in
theorem zv_X0_attempt : qZV zX0_attempt 4 := ⟨⟨q_in 654 rfl rfl, q_in 7 rfl rfl, by decide +kernel, by decide +kernel, by decide +kernel, by decide +kernel, by decide⟩, q_in 652 rfl rfl, q_in 653 rfl rfl⟩
set_option maxRecDepth 100000 in
theorem zv_X0_buyGo : qZV zX0_buyGo 4 := ⟨⟨q_in 743 rfl rfl, q_in 7 rfl rfl, by decide +kernel, by decide +kernel, by decide +kernel, by decide +kernel, by decide⟩, q_in 741 rfl rfl, q_in 742 rfl rfl⟩
set_option maxRecDepth 100000 in
theorem zv_X0_cameOfDays : qZV zX0_cameOfDays 1 := ⟨⟨q_in 784 rfl rfl, q_in 7 rfl rfl, by decide +kernel, by decide +kernel, by decide +kernel, by decide +kernel, by decide⟩, q_in 782 rfl rfl, q_in 783 rfl rfl⟩
set_option maxRecDepth 100000 in
theorem zv_X0_doSteps : qZV zX0_doSteps 2 := ⟨⟨q_in 762 rfl rfl, q_in 7 rfl rfl, by decide +kernel, by decide +kernel, by decide +kernel, by decide +kernel, by decide⟩, q_in 761 rfl rfl, q_inS 19 rfl rfl⟩
set_option maxRecDepth 100000 in
theorem zv_X0_forget : qZV zX0_forget 3 := ⟨⟨q_in 691 rfl rfl, q_in 7 rfl rfl, by decide +kernel, by decide +kernel, by decide +kernel, by decide +kernel, by decide⟩, q_in 690 rfl rfl, q_inS 17 rfl rfl⟩
set_option maxRecDepth 100000 in
theorem zv_X0_goDays : qZV zX0_goDays 2 := ⟨⟨q_in 757 rfl rfl, q_in 7 rfl rfl, by decide +kernel, by decide +kernel, by decide +kernel, by decide +kernel, by decide⟩, q_in 755 rfl rfl, q_in 756 rfl rfl⟩
set_option maxRecDepth 100000 in
theorem zv_X0_noteOutcome : qZV zX0_noteOutcome 4 := ⟨⟨q_in 768 rfl rfl, q_in 7 rfl rfl, by decide +kernel, by decide +kernel, by decide +kernel, by decide +kernel, by decide⟩, q_in 767 rfl rfl, q_inS 20 rfl rfl⟩
set_option maxRecDepth 100000 in
theorem zv_X0_price : qZV zX0_price 4 := ⟨⟨q_in 747 rfl rfl, q_in 7 rfl rfl, by decide +kernel, by decide +kernel, by decide +kernel, by decide +kernel, by decide⟩, q_in 745 rfl rfl, q_in 746 rfl rfl⟩
set_option maxRecDepth 100000 in
theorem zv_X0_tellAll : qZV zX0_tellAll 4 := ⟨⟨q_in 695 rfl rfl, q_in 7 rfl rfl, by decide +kernel, by decide +kernel, by decide +kernel, by decide +kernel, by decide⟩, q_in 693 rfl rfl, q_in 694 rfl rfl⟩
set_option maxRecDepth 100000 in
theorem zv_X10_addCounted : qZV zX10_addCounted 2 := ⟨⟨q_in 731 rfl rfl, q_in 4 rfl rfl, by decide +kernel, by decide +kernel, by decide +kernel, by decide +kernel, by decide⟩, q_in 729 rfl rfl, q_in 730 rfl rfl⟩
set_option maxRecDepth 100000 in
theorem zv_X10_addTry : qZV zX10_addTry 2 := ⟨⟨q_in 722 rfl rfl, q_in 4 rfl rfl, by decide +kernel, by decide +kernel, by decide +kernel, by decide +kernel, by decide⟩, q_in 720 rfl rfl, q_in 721 rfl rfl⟩
set_option maxRecDepth 100000 in
theorem zv_X10_copy : qZV zX10_copy 1 := ⟨⟨q_in 776 rfl rfl, q_in 4 rfl rfl, by decide +kernel, by decide +kernel, by decide +kernel, by decide +kernel, by decide⟩, q_in 774 rfl rfl, q_in 775 rfl rfl⟩
set_option maxRecDepth 100000 in
theorem zv_X10_hasCounted : qZV zX10_hasCounted 2 := ⟨⟨q_in 727 rfl rfl, q_in 4 rfl rfl, by decide +kernel, by decide +kernel, by decide +kernel, by decide +kernel, by decide⟩, q_in 725 rfl rfl, q_in 726 rfl rfl⟩
set_option maxRecDepth 100000 in
theorem zv_X10_knows : qZV zX10_knows 1 := ⟨⟨q_in 607 rfl rfl, q_in 4 rfl rfl, by decide +kernel, by decide +kernel, by decide +kernel, by decide +kernel, by decide⟩, q_in 605 rfl rfl, q_in 606 rfl rfl⟩
set_option maxRecDepth 100000 in
theorem zv_X10_knowsAll : qZV zX10_knowsAll 1 := ⟨⟨q_in 897 rfl rfl, q_in 4 rfl rfl, by decide +kernel, by decide +kernel, by decide +kernel, by decide +kernel, by decide⟩, q_in 895 rfl rfl, q_in 896 rfl rfl⟩
set_option maxRecDepth 100000 in
theorem zv_X10_stepsLeft : qZV zX10_stepsLeft 1 := ⟨⟨q_in 780 rfl rfl, q_in 4 rfl rfl, by decide +kernel, by decide +kernel, by decide +kernel, by decide +kernel, by decide⟩, q_in 778 rfl rfl, q_in 779 rfl rfl⟩
set_option maxRecDepth 100000 in
theorem zv_X10_sumOf : qZV zX10_sumOf 2 := ⟨⟨q_in 1031 rfl rfl, q_in 4 rfl rfl, by decide +kernel, by decide +kernel, by decide +kernel, by decide +kernel, by decide⟩, q_in 1029 rfl rfl, q_in 1030 rfl rfl⟩
set_option maxRecDepth 100000 in
theorem zv_X10_takePlan : qZV zX10_takePlan 2 := ⟨⟨q_in 642 rfl rfl, q_in 4 rfl rfl, by decide +kernel, by decide +kernel, by decide +kernel, by decide +kernel, by decide⟩, q_in 640 rfl rfl, q_in 641 rfl rfl⟩
set_option maxRecDepth 100000 in
theorem zv_X10_triesAmong : qZV zX10_triesAmong 2 := ⟨⟨q_in 713 rfl rfl, q_in 4 rfl rfl, by decide +kernel, by decide +kernel, by decide +kernel, by decide +kernel, by decide⟩, q_in 711 rfl rfl, q_in 712 rfl rfl⟩
set_option maxRecDepth 100000 in
theorem zv_X10_triesByAll : qZV zX10_triesByAll 1 := ⟨⟨q_in 700 rfl rfl, q_in 4 rfl rfl, by decide +kernel, by decide +kernel, by decide +kernel, by decide +kernel, by decide⟩, q_in 698 rfl rfl, q_in 699 rfl rfl⟩
set_option maxRecDepth 100000 in
theorem zv_X11_alike : qZV zX11_alike 2 := ⟨⟨q_in 792 rfl rfl, q_in 1 rfl rfl, by decide +kernel, by decide +kernel, by decide +kernel, by decide +kernel, by decide⟩, q_in 790 rfl rfl, q_in 791 rfl rfl⟩
set_option maxRecDepth 100000 in
theorem zs_X11_bestMove : qZS zX11_bestMove 3 := ⟨⟨q_in 991 rfl rfl, q_in 1 rfl rfl, by decide +kernel, by decide +kernel, by decide +kernel, by decide +kernel, by decide⟩, q_in 990 rfl rfl⟩
set_option maxRecDepth 100000 in
theorem zv_X11_buys : qZV zX11_buys 3 := ⟨⟨q_in 735 rfl rfl, q_in 1 rfl rfl, by decide +kernel, by decide +kernel, by decide +kernel, by decide +kernel, by decide⟩, q_in 733 rfl rfl, q_in 734 rfl rfl⟩
set_option maxRecDepth 100000 in
theorem zv_X11_canChoose : qZV zX11_canChoose 3 := ⟨⟨q_in 809 rfl rfl, q_in 1 rfl rfl, by decide +kernel, by decide +kernel, by decide +kernel, by decide +kernel, by decide⟩, q_in 808 rfl rfl, q_inS 21 rfl rfl⟩
set_option maxRecDepth 100000 in
theorem zv_X11_canDeal : qZV zX11_canDeal 3 := ⟨⟨q_in 739 rfl rfl, q_in 1 rfl rfl, by decide +kernel, by decide +kernel, by decide +kernel, by decide +kernel, by decide⟩, q_in 738 rfl rfl, q_inS 18 rfl rfl⟩
set_option maxRecDepth 100000 in
theorem zv_X11_cheapest : qZV zX11_cheapest 5 := ⟨⟨q_in 857 rfl rfl, q_in 1 rfl rfl, by decide +kernel, by decide +kernel, by decide +kernel, by decide +kernel, by decide⟩, q_in 855 rfl rfl, q_in 856 rfl rfl⟩
set_option maxRecDepth 100000 in
theorem zv_X11_check : qZV zX11_check 2 := ⟨⟨q_in 1010 rfl rfl, q_in 1 rfl rfl, by decide +kernel, by decide +kernel, by decide +kernel, by decide +kernel, by decide⟩, q_in 1008 rfl rfl, q_in 1009 rfl rfl⟩
set_option maxRecDepth 100000 in
theorem zv_X11_cost : qZV zX11_cost 3 := ⟨⟨q_in 800 rfl rfl, q_in 1 rfl rfl, by decide +kernel, by decide +kernel, by decide +kernel, by decide +kernel, by decide⟩, q_in 798 rfl rfl, q_in 799 rfl rfl⟩
set_option maxRecDepth 100000 in
theorem zv_X11_count : qZV zX11_count 1 := ⟨⟨q_in 1019 rfl rfl, q_in 1 rfl rfl, by decide +kernel, by decide +kernel, by decide +kernel, by decide +kernel, by decide⟩, q_in 1017 rfl rfl, q_in 1018 rfl rfl⟩
set_option maxRecDepth 100000 in
theorem zv_X11_countOfKind : qZV zX11_countOfKind 1 := ⟨⟨q_in 1023 rfl rfl, q_in 1 rfl rfl, by decide +kernel, by decide +kernel, by decide +kernel, by decide +kernel, by decide⟩, q_in 1022 rfl rfl, q_inS 36 rfl rfl⟩
set_option maxRecDepth 100000 in
theorem zv_X11_countOfPerson : qZV zX11_countOfPerson 1 := ⟨⟨q_in 1027 rfl rfl, q_in 1 rfl rfl, by decide +kernel, by decide +kernel, by decide +kernel, by decide +kernel, by decide⟩, q_in 1026 rfl rfl, q_inS 37 rfl rfl⟩
set_option maxRecDepth 100000 in
theorem zv_X11_court : qZV zX11_court 6 := ⟨⟨q_in 998 rfl rfl, q_in 1 rfl rfl, by decide +kernel, by decide +kernel, by decide +kernel, by decide +kernel, by decide⟩, q_in 996 rfl rfl, q_in 997 rfl rfl⟩
set_option maxRecDepth 100000 in
theorem zv_X11_days : qZV zX11_days 1 := ⟨⟨q_in 753 rfl rfl, q_in 1 rfl rfl, by decide +kernel, by decide +kernel, by decide +kernel, by decide +kernel, by decide⟩, q_in 751 rfl rfl, q_in 752 rfl rfl⟩
set_option maxRecDepth 100000 in
theorem zv_X11_feed : qZV zX11_feed 5 := ⟨⟨q_in 496 rfl rfl, q_in 1 rfl rfl, by decide +kernel, by decide +kernel, by decide +kernel, by decide +kernel, by decide⟩, q_in 494 rfl rfl, q_in 495 rfl rfl⟩
set_option maxRecDepth 100000 in
theorem zv_X11_game : qZV zX11_game 6 := ⟨⟨q_in 985 rfl rfl, q_in 1 rfl rfl, by decide +kernel, by decide +kernel, by decide +kernel, by decide +kernel, by decide⟩, q_in 983 rfl rfl, q_in 984 rfl rfl⟩
set_option maxRecDepth 100000 in
theorem zv_X11_has : qZV zX11_has 3 := ⟨⟨q_in 788 rfl rfl, q_in 1 rfl rfl, by decide +kernel, by decide +kernel, by decide +kernel, by decide +kernel, by decide⟩, q_in 786 rfl rfl, q_in 787 rfl rfl⟩
set_option maxRecDepth 100000 in
theorem zv_X11_histories : qZV zX11_histories 4 := ⟨⟨q_in 951 rfl rfl, q_in 1 rfl rfl, by decide +kernel, by decide +kernel, by decide +kernel, by decide +kernel, by decide⟩, q_in 949 rfl rfl, q_in 950 rfl rfl⟩
set_option maxRecDepth 100000 in
theorem zs_X11_isHeap : qZS zX11_isHeap 1 := ⟨⟨q_in 988 rfl rfl, q_in 1 rfl rfl, by decide +kernel, by decide +kernel, by decide +kernel, by decide +kernel, by decide⟩, q_in 987 rfl rfl⟩
set_option maxRecDepth 100000 in
theorem zs_X11_isSettled : qZS zX11_isSettled 3 := ⟨⟨q_in 944 rfl rfl, q_in 1 rfl rfl, by decide +kernel, by decide +kernel, by decide +kernel, by decide +kernel, by decide⟩, q_in 943 rfl rfl⟩
set_option maxRecDepth 100000 in
theorem zv_X11_jobs : qZV zX11_jobs 3 := ⟨⟨q_in 883 rfl rfl, q_in 1 rfl rfl, by decide +kernel, by decide +kernel, by decide +kernel, by decide +kernel, by decide⟩, q_in 881 rfl rfl, q_in 882 rfl rfl⟩
set_option maxRecDepth 100000 in
theorem zv_X11_keep : qZV zX11_keep 0 := ⟨⟨q_in 1002 rfl rfl, q_in 1 rfl rfl, by decide +kernel, by decide +kernel, by decide +kernel, by decide +kernel, by decide⟩, q_in 1000 rfl rfl, q_in 1001 rfl rfl⟩
set_option maxRecDepth 100000 in
theorem zv_X11_kind : qZV zX11_kind 4 := ⟨⟨q_in 475 rfl rfl, q_in 1 rfl rfl, by decide +kernel, by decide +kernel, by decide +kernel, by decide +kernel, by decide⟩, q_in 473 rfl rfl, q_in 474 rfl rfl⟩
set_option maxRecDepth 100000 in
theorem zv_X11_law : qZV zX11_law 1 := ⟨⟨q_in 504 rfl rfl, q_in 1 rfl rfl, by decide +kernel, by decide +kernel, by decide +kernel, by decide +kernel, by decide⟩, q_in 502 rfl rfl, q_in 503 rfl rfl⟩
set_option maxRecDepth 100000 in
theorem zv_X11_loophole : qZV zX11_loophole 3 := ⟨⟨q_in 875 rfl rfl, q_in 1 rfl rfl, by decide +kernel, by decide +kernel, by decide +kernel, by decide +kernel, by decide⟩, q_in 873 rfl rfl, q_in 874 rfl rfl⟩
set_option maxRecDepth 100000 in
theorem zs_X11_nextOneWins : qZS zX11_nextOneWins 2 := ⟨⟨q_in 994 rfl rfl, q_in 1 rfl rfl, by decide +kernel, by decide +kernel, by decide +kernel, by decide +kernel, by decide⟩, q_in 993 rfl rfl⟩
set_option maxRecDepth 100000 in
theorem zs_X11_pence : qZS zX11_pence 4 := ⟨⟨q_in 947 rfl rfl, q_in 1 rfl rfl, by decide +kernel, by decide +kernel, by decide +kernel, by decide +kernel, by decide⟩, q_in 946 rfl rfl⟩
set_option maxRecDepth 100000 in
theorem zv_X11_person : qZV zX11_person 2 := ⟨⟨q_in 491 rfl rfl, q_in 1 rfl rfl, by decide +kernel, by decide +kernel, by decide +kernel, by decide +kernel, by decide⟩, q_in 489 rfl rfl, q_in 490 rfl rfl⟩
set_option maxRecDepth 100000 in
theorem zv_X11_plan : qZV zX11_plan 2 := ⟨⟨q_in 603 rfl rfl, q_in 1 rfl rfl, by decide +kernel, by decide +kernel, by decide +kernel, by decide +kernel, by decide⟩, q_in 601 rfl rfl, q_in 602 rfl rfl⟩
set_option maxRecDepth 100000 in
theorem zv_X11_rivals : qZV zX11_rivals 3 := ⟨⟨q_in 941 rfl rfl, q_in 1 rfl rfl, by decide +kernel, by decide +kernel, by decide +kernel, by decide +kernel, by decide⟩, q_in 939 rfl rfl, q_in 940 rfl rfl⟩
set_option maxRecDepth 100000 in
theorem zv_X11_soonest : qZV zX11_soonest 5 := ⟨⟨q_in 805 rfl rfl, q_in 1 rfl rfl, by decide +kernel, by decide +kernel, by decide +kernel, by decide +kernel, by decide⟩, q_in 803 rfl rfl, q_in 804 rfl rfl⟩
set_option maxRecDepth 100000 in
theorem zv_X11_tried : qZV zX11_tried 2 := ⟨⟨q_in 772 rfl rfl, q_in 1 rfl rfl, by decide +kernel, by decide +kernel, by decide +kernel, by decide +kernel, by decide⟩, q_in 770 rfl rfl, q_in 771 rfl rfl⟩
set_option maxRecDepth 100000 in
theorem zv_X11_tries : qZV zX11_tries 3 := ⟨⟨q_in 649 rfl rfl, q_in 1 rfl rfl, by decide +kernel, by decide +kernel, by decide +kernel, by decide +kernel, by decide⟩, q_in 647 rfl rfl, q_in 648 rfl rfl⟩
set_option maxRecDepth 100000 in
theorem zv_X11_undo : qZV zX11_undo 0 := ⟨⟨q_in 1006 rfl rfl, q_in 1 rfl rfl, by decide +kernel, by decide +kernel, by decide +kernel, by decide +kernel, by decide⟩, q_in 1004 rfl rfl, q_in 1005 rfl rfl⟩
set_option maxRecDepth 100000 in
theorem zv_X12_alike : qZV zX12_alike 2 := ⟨⟨q_in 1366 rfl rfl, q_in 13 rfl rfl, by decide +kernel, by decide +kernel, by decide +kernel, by decide +kernel, by decide⟩, q_in 1364 rfl rfl, q_in 1365 rfl rfl⟩
set_option maxRecDepth 100000 in
theorem zv_X12_allTries : qZV zX12_allTries 1 := ⟨⟨q_in 1411 rfl rfl, q_in 13 rfl rfl, by decide +kernel, by decide +kernel, by decide +kernel, by decide +kernel, by decide⟩, q_in 1410 rfl rfl, q_inS 66 rfl rfl⟩
set_option maxRecDepth 100000 in
theorem zv_X12_areCounted : qZV zX12_areCounted 1 := ⟨⟨q_in 1530 rfl rfl, q_in 13 rfl rfl, by decide +kernel, by decide +kernel, by decide +kernel, by decide +kernel, by decide⟩, q_in 1529 rfl rfl, q_inS 87 rfl rfl⟩
set_option maxRecDepth 100000 in
theorem zv_X12_areSome : qZV zX12_areSome 3 := ⟨⟨q_in 1489 rfl rfl, q_in 13 rfl rfl, by decide +kernel, by decide +kernel, by decide +kernel, by decide +kernel, by decide⟩, q_in 1488 rfl rfl, q_inS 77 rfl rfl⟩
set_option maxRecDepth 100000 in
theorem zs_X12_at : qZS zX12_at 2 := ⟨⟨q_in 1403 rfl rfl, q_in 13 rfl rfl, by decide +kernel, by decide +kernel, by decide +kernel, by decide +kernel, by decide⟩, q_in 1402 rfl rfl⟩
set_option maxRecDepth 100000 in
theorem zv_X12_begins : qZV zX12_begins 1 := ⟨⟨q_in 1620 rfl rfl, q_in 13 rfl rfl, by decide +kernel, by decide +kernel, by decide +kernel, by decide +kernel, by decide⟩, q_in 1619 rfl rfl, q_inS 103 rfl rfl⟩
set_option maxRecDepth 100000 in
theorem zs_X12_bits : qZS zX12_bits 1 := ⟨⟨q_in 1377 rfl rfl, q_in 13 rfl rfl, by decide +kernel, by decide +kernel, by decide +kernel, by decide +kernel, by decide⟩, q_in 1376 rfl rfl⟩
set_option maxRecDepth 100000 in
theorem zv_X12_buys : qZV zX12_buys 3 := ⟨⟨q_in 1442 rfl rfl, q_in 13 rfl rfl, by decide +kernel, by decide +kernel, by decide +kernel, by decide +kernel, by decide⟩, q_in 1440 rfl rfl, q_in 1441 rfl rfl⟩
set_option maxRecDepth 100000 in
theorem zv_X12_byLaw : qZV zX12_byLaw 3 := ⟨⟨q_in 1415 rfl rfl, q_in 13 rfl rfl, by decide +kernel, by decide +kernel, by decide +kernel, by decide +kernel, by decide⟩, q_in 1414 rfl rfl, q_inS 67 rfl rfl⟩
set_option maxRecDepth 100000 in
theorem zv_X12_cheapest : qZV zX12_cheapest 5 := ⟨⟨q_in 1546 rfl rfl, q_in 13 rfl rfl, by decide +kernel, by decide +kernel, by decide +kernel, by decide +kernel, by decide⟩, q_in 1544 rfl rfl, q_in 1545 rfl rfl⟩
set_option maxRecDepth 100000 in
theorem zv_X12_check : qZV zX12_check 2 := ⟨⟨q_in 1665 rfl rfl, q_in 13 rfl rfl, by decide +kernel, by decide +kernel, by decide +kernel, by decide +kernel, by decide⟩, q_in 1663 rfl rfl, q_in 1664 rfl rfl⟩
set_option maxRecDepth 100000 in
theorem zv_X12_closesSums : qZV zX12_closesSums 1 := ⟨⟨q_in 1330 rfl rfl, q_in 13 rfl rfl, by decide +kernel, by decide +kernel, by decide +kernel, by decide +kernel, by decide⟩, q_in 1329 rfl rfl, q_inS 50 rfl rfl⟩
set_option maxRecDepth 100000 in
theorem zv_X12_coinsNow : qZV zX12_coinsNow 0 := ⟨⟨q_in 1558 rfl rfl, q_in 13 rfl rfl, by decide +kernel, by decide +kernel, by decide +kernel, by decide +kernel, by decide⟩, q_in 1557 rfl rfl, q_inS 93 rfl rfl⟩
set_option maxRecDepth 100000 in
theorem zv_X12_comesTo : qZV zX12_comesTo 2 := ⟨⟨q_in 1381 rfl rfl, q_in 13 rfl rfl, by decide +kernel, by decide +kernel, by decide +kernel, by decide +kernel, by decide⟩, q_in 1380 rfl rfl, q_inS 61 rfl rfl⟩
set_option maxRecDepth 100000 in
theorem zs_X12_copies : qZS zX12_copies 2 := ⟨⟨q_in 1449 rfl rfl, q_in 13 rfl rfl, by decide +kernel, by decide +kernel, by decide +kernel, by decide +kernel, by decide⟩, q_in 1448 rfl rfl⟩
set_option maxRecDepth 100000 in
theorem zv_X12_cost : qZV zX12_cost 3 := ⟨⟨q_in 1434 rfl rfl, q_in 13 rfl rfl, by decide +kernel, by decide +kernel, by decide +kernel, by decide +kernel, by decide⟩, q_in 1432 rfl rfl, q_in 1433 rfl rfl⟩
set_option maxRecDepth 100000 in
theorem zv_X12_costOf : qZV zX12_costOf 3 := ⟨⟨q_in 1438 rfl rfl, q_in 13 rfl rfl, by decide +kernel, by decide +kernel, by decide +kernel, by decide +kernel, by decide⟩, q_in 1437 rfl rfl, q_inS 71 rfl rfl⟩
set_option maxRecDepth 100000 in
theorem zv_X12_count : qZV zX12_count 1 := ⟨⟨q_in 1673 rfl rfl, q_in 13 rfl rfl, by decide +kernel, by decide +kernel, by decide +kernel, by decide +kernel, by decide⟩, q_in 1671 rfl rfl, q_in 1672 rfl rfl⟩
set_option maxRecDepth 100000 in
theorem zv_X12_court : qZV zX12_court 6 := ⟨⟨q_in 1653 rfl rfl, q_in 13 rfl rfl, by decide +kernel, by decide +kernel, by decide +kernel, by decide +kernel, by decide⟩, q_in 1651 rfl rfl, q_in 1652 rfl rfl⟩
set_option maxRecDepth 100000 in
theorem zv_X12_dayOf : qZV zX12_dayOf 1 := ⟨⟨q_in 1473 rfl rfl, q_in 13 rfl rfl, by decide +kernel, by decide +kernel, by decide +kernel, by decide +kernel, by decide⟩, q_in 1472 rfl rfl, q_inS 75 rfl rfl⟩
set_option maxRecDepth 100000 in
theorem zv_X12_days : qZV zX12_days 1 := ⟨⟨q_in 1465 rfl rfl, q_in 13 rfl rfl, by decide +kernel, by decide +kernel, by decide +kernel, by decide +kernel, by decide⟩, q_in 1463 rfl rfl, q_in 1464 rfl rfl⟩
set_option maxRecDepth 100000 in
theorem zv_X12_daysGo : qZV zX12_daysGo 1 := ⟨⟨q_in 1469 rfl rfl, q_in 13 rfl rfl, by decide +kernel, by decide +kernel, by decide +kernel, by decide +kernel, by decide⟩, q_in 1468 rfl rfl, q_inS 74 rfl rfl⟩
set_option maxRecDepth 100000 in
theorem zv_X12_endsPiece : qZV zX12_endsPiece 0 := ⟨⟨q_in 1350 rfl rfl, q_in 13 rfl rfl, by decide +kernel, by decide +kernel, by decide +kernel, by decide +kernel, by decide⟩, q_in 1349 rfl rfl, q_inS 55 rfl rfl⟩
set_option maxRecDepth 100000 in
theorem zv_X12_endsRound : qZV zX12_endsRound 0 := ⟨⟨q_in 1461 rfl rfl, q_in 13 rfl rfl, by decide +kernel, by decide +kernel, by decide +kernel, by decide +kernel, by decide⟩, q_in 1460 rfl rfl, q_inS 73 rfl rfl⟩
set_option maxRecDepth 100000 in
theorem zs_X12_factOf : qZS zX12_factOf 1 := ⟨⟨q_in 1323 rfl rfl, q_in 13 rfl rfl, by decide +kernel, by decide +kernel, by decide +kernel, by decide +kernel, by decide⟩, q_in 1322 rfl rfl⟩
set_option maxRecDepth 100000 in
theorem zv_X12_feed : qZV zX12_feed 5 := ⟨⟨q_in 1272 rfl rfl, q_in 13 rfl rfl, by decide +kernel, by decide +kernel, by decide +kernel, by decide +kernel, by decide⟩, q_in 1270 rfl rfl, q_in 1271 rfl rfl⟩
set_option maxRecDepth 100000 in
theorem zv_X12_feels : qZV zX12_feels 3 := ⟨⟨q_in 1407 rfl rfl, q_in 13 rfl rfl, by decide +kernel, by decide +kernel, by decide +kernel, by decide +kernel, by decide⟩, q_in 1406 rfl rfl, q_inS 65 rfl rfl⟩
set_option maxRecDepth 100000 in
theorem zv_X12_feelsKind : qZV zX12_feelsKind 1 := ⟨⟨q_in 1374 rfl rfl, q_in 13 rfl rfl, by decide +kernel, by decide +kernel, by decide +kernel, by decide +kernel, by decide⟩, q_in 1373 rfl rfl, q_inS 60 rfl rfl⟩
set_option maxRecDepth 100000 in
theorem zv_X12_finds : qZV zX12_finds 2 := ⟨⟨q_in 1566 rfl rfl, q_in 13 rfl rfl, by decide +kernel, by decide +kernel, by decide +kernel, by decide +kernel, by decide⟩, q_in 1565 rfl rfl, q_inS 94 rfl rfl⟩
set_option maxRecDepth 100000 in
theorem zv_X12_forgets : qZV zX12_forgets 2 := ⟨⟨q_in 1400 rfl rfl, q_in 13 rfl rfl, by decide +kernel, by decide +kernel, by decide +kernel, by decide +kernel, by decide⟩, q_in 1399 rfl rfl, q_inS 64 rfl rfl⟩
set_option maxRecDepth 100000 in
theorem zs_X12_gainOf : qZS zX12_gainOf 4 := ⟨⟨q_in 1604 rfl rfl, q_in 13 rfl rfl, by decide +kernel, by decide +kernel, by decide +kernel, by decide +kernel, by decide⟩, q_in 1603 rfl rfl⟩
set_option maxRecDepth 100000 in
theorem zv_X12_game : qZV zX12_game 6 := ⟨⟨q_in 1632 rfl rfl, q_in 13 rfl rfl, by decide +kernel, by decide +kernel, by decide +kernel, by decide +kernel, by decide⟩, q_in 1630 rfl rfl, q_in 1631 rfl rfl⟩
set_option maxRecDepth 100000 in
theorem zs_X12_gameState : qZS zX12_gameState 3 := ⟨⟨q_in 1635 rfl rfl, q_in 13 rfl rfl, by decide +kernel, by decide +kernel, by decide +kernel, by decide +kernel, by decide⟩, q_in 1634 rfl rfl⟩
set_option maxRecDepth 100000 in
theorem zv_X12_goesNow : qZV zX12_goesNow 0 := ⟨⟨q_in 1522 rfl rfl, q_in 13 rfl rfl, by decide +kernel, by decide +kernel, by decide +kernel, by decide +kernel, by decide⟩, q_in 1521 rfl rfl, q_inS 85 rfl rfl⟩
set_option maxRecDepth 100000 in
theorem zv_X12_goesWith : qZV zX12_goesWith 3 := ⟨⟨q_in 1616 rfl rfl, q_in 13 rfl rfl, by decide +kernel, by decide +kernel, by decide +kernel, by decide +kernel, by decide⟩, q_in 1615 rfl rfl, q_inS 102 rfl rfl⟩
set_option maxRecDepth 100000 in
theorem zv_X12_greaterBy : qZV zX12_greaterBy 4 := ⟨⟨q_in 1628 rfl rfl, q_in 13 rfl rfl, by decide +kernel, by decide +kernel, by decide +kernel, by decide +kernel, by decide⟩, q_in 1627 rfl rfl, q_inS 105 rfl rfl⟩
set_option maxRecDepth 100000 in
theorem zv_X12_has : qZV zX12_has 3 := ⟨⟨q_in 1446 rfl rfl, q_in 13 rfl rfl, by decide +kernel, by decide +kernel, by decide +kernel, by decide +kernel, by decide⟩, q_in 1444 rfl rfl, q_in 1445 rfl rfl⟩
set_option maxRecDepth 100000 in
theorem zs_X12_has0 : qZS zX12_has0 2 := ⟨⟨q_in 1263 rfl rfl, q_in 13 rfl rfl, by decide +kernel, by decide +kernel, by decide +kernel, by decide +kernel, by decide⟩, q_in 1262 rfl rfl⟩
set_option maxRecDepth 100000 in
theorem zv_X12_hasNeeds : qZV zX12_hasNeeds 2 := ⟨⟨q_in 1427 rfl rfl, q_in 13 rfl rfl, by decide +kernel, by decide +kernel, by decide +kernel, by decide +kernel, by decide⟩, q_in 1426 rfl rfl, q_inS 70 rfl rfl⟩
set_option maxRecDepth 100000 in
theorem zv_X12_hasOpenSum : qZV zX12_hasOpenSum 1 := ⟨⟨q_in 1338 rfl rfl, q_in 13 rfl rfl, by decide +kernel, by decide +kernel, by decide +kernel, by decide +kernel, by decide⟩, q_in 1337 rfl rfl, q_inS 52 rfl rfl⟩
set_option maxRecDepth 100000 in
theorem zs_X12_heapIn : qZS zX12_heapIn 2 := ⟨⟨q_in 1642 rfl rfl, q_in 13 rfl rfl, by decide +kernel, by decide +kernel, by decide +kernel, by decide +kernel, by decide⟩, q_in 1641 rfl rfl⟩
set_option maxRecDepth 100000 in
theorem zs_X12_heapUnit : qZS zX12_heapUnit 1 := ⟨⟨q_in 1649 rfl rfl, q_in 13 rfl rfl, by decide +kernel, by decide +kernel, by decide +kernel, by decide +kernel, by decide⟩, q_in 1648 rfl rfl⟩
set_option maxRecDepth 100000 in
theorem zv_X12_here : qZV zX12_here 0 := ⟨⟨q_in 1288 rfl rfl, q_in 13 rfl rfl, by decide +kernel, by decide +kernel, by decide +kernel, by decide +kernel, by decide⟩, q_in 1287 rfl rfl, q_inS 42 rfl rfl⟩
set_option maxRecDepth 100000 in
theorem zv_X12_histories : qZV zX12_histories 4 := ⟨⟨q_in 1608 rfl rfl, q_in 13 rfl rfl, by decide +kernel, by decide +kernel, by decide +kernel, by decide +kernel, by decide⟩, q_in 1606 rfl rfl, q_in 1607 rfl rfl⟩
set_option maxRecDepth 100000 in
theorem zv_X12_hoursBy : qZV zX12_hoursBy 2 := ⟨⟨q_in 1582 rfl rfl, q_in 13 rfl rfl, by decide +kernel, by decide +kernel, by decide +kernel, by decide +kernel, by decide⟩, q_in 1581 rfl rfl, q_inS 97 rfl rfl⟩
set_option maxRecDepth 100000 in
theorem zv_X12_hoursNow : qZV zX12_hoursNow 0 := ⟨⟨q_in 1510 rfl rfl, q_in 13 rfl rfl, by decide +kernel, by decide +kernel, by decide +kernel, by decide +kernel, by decide⟩, q_in 1509 rfl rfl, q_inS 82 rfl rfl⟩
set_option maxRecDepth 100000 in
theorem zs_X12_in : qZS zX12_in 3 := ⟨⟨q_in 1256 rfl rfl, q_in 13 rfl rfl, by decide +kernel, by decide +kernel, by decide +kernel, by decide +kernel, by decide⟩, q_in 1255 rfl rfl⟩
set_option maxRecDepth 100000 in
theorem zs_X12_isClause : qZS zX12_isClause 1 := ⟨⟨q_in 1291 rfl rfl, q_in 13 rfl rfl, by decide +kernel, by decide +kernel, by decide +kernel, by decide +kernel, by decide⟩, q_in 1290 rfl rfl⟩
set_option maxRecDepth 100000 in
theorem zv_X12_isDigit : qZV zX12_isDigit 0 := ⟨⟨q_in 1312 rfl rfl, q_in 13 rfl rfl, by decide +kernel, by decide +kernel, by decide +kernel, by decide +kernel, by decide⟩, q_in 1311 rfl rfl, q_inS 47 rfl rfl⟩
set_option maxRecDepth 100000 in
theorem zv_X12_isKind : qZV zX12_isKind 1 := ⟨⟨q_in 1260 rfl rfl, q_in 13 rfl rfl, by decide +kernel, by decide +kernel, by decide +kernel, by decide +kernel, by decide⟩, q_in 1259 rfl rfl, q_inS 39 rfl rfl⟩
set_option maxRecDepth 100000 in
theorem zv_X12_isLike : qZV zX12_isLike 2 := ⟨⟨q_in 1370 rfl rfl, q_in 13 rfl rfl, by decide +kernel, by decide +kernel, by decide +kernel, by decide +kernel, by decide⟩, q_in 1369 rfl rfl, q_inS 59 rfl rfl⟩
set_option maxRecDepth 100000 in
theorem zv_X12_isPerson : qZV zX12_isPerson 1 := ⟨⟨q_in 1392 rfl rfl, q_in 13 rfl rfl, by decide +kernel, by decide +kernel, by decide +kernel, by decide +kernel, by decide⟩, q_in 1391 rfl rfl, q_inS 62 rfl rfl⟩
set_option maxRecDepth 100000 in
theorem zv_X12_jobCounts : qZV zX12_jobCounts 2 := ⟨⟨q_in 1594 rfl rfl, q_in 13 rfl rfl, by decide +kernel, by decide +kernel, by decide +kernel, by decide +kernel, by decide⟩, q_in 1593 rfl rfl, q_inS 100 rfl rfl⟩
set_option maxRecDepth 100000 in
theorem zv_X12_jobNeeds : qZV zX12_jobNeeds 2 := ⟨⟨q_in 1590 rfl rfl, q_in 13 rfl rfl, by decide +kernel, by decide +kernel, by decide +kernel, by decide +kernel, by decide⟩, q_in 1589 rfl rfl, q_inS 99 rfl rfl⟩
set_option maxRecDepth 100000 in
theorem zv_X12_jobs : qZV zX12_jobs 3 := ⟨⟨q_in 1570 rfl rfl, q_in 13 rfl rfl, by decide +kernel, by decide +kernel, by decide +kernel, by decide +kernel, by decide⟩, q_in 1568 rfl rfl, q_in 1569 rfl rfl⟩
set_option maxRecDepth 100000 in
theorem zv_X12_jumps : qZV zX12_jumps 1 := ⟨⟨q_in 1358 rfl rfl, q_in 13 rfl rfl, by decide +kernel, by decide +kernel, by decide +kernel, by decide +kernel, by decide⟩, q_in 1357 rfl rfl, q_inS 57 rfl rfl⟩
set_option maxRecDepth 100000 in
theorem zv_X12_keep : qZV zX12_keep 0 := ⟨⟨q_in 1657 rfl rfl, q_in 13 rfl rfl, by decide +kernel, by decide +kernel, by decide +kernel, by decide +kernel, by decide⟩, q_in 1655 rfl rfl, q_in 1656 rfl rfl⟩
set_option maxRecDepth 100000 in
theorem zv_X12_kind : qZV zX12_kind 4 := ⟨⟨q_in 1253 rfl rfl, q_in 13 rfl rfl, by decide +kernel, by decide +kernel, by decide +kernel, by decide +kernel, by decide⟩, q_in 1251 rfl rfl, q_in 1252 rfl rfl⟩
set_option maxRecDepth 100000 in
theorem zv_X12_lands : qZV zX12_lands 1 := ⟨⟨q_in 1354 rfl rfl, q_in 13 rfl rfl, by decide +kernel, by decide +kernel, by decide +kernel, by decide +kernel, by decide⟩, q_in 1353 rfl rfl, q_inS 56 rfl rfl⟩
set_option maxRecDepth 100000 in
theorem zv_X12_law : qZV zX12_law 1 := ⟨⟨q_in 1280 rfl rfl, q_in 13 rfl rfl, by decide +kernel, by decide +kernel, by decide +kernel, by decide +kernel, by decide⟩, q_in 1278 rfl rfl, q_in 1279 rfl rfl⟩
set_option maxRecDepth 100000 in
theorem zv_X12_laysOwn : qZV zX12_laysOwn 2 := ⟨⟨q_in 1493 rfl rfl, q_in 13 rfl rfl, by decide +kernel, by decide +kernel, by decide +kernel, by decide +kernel, by decide⟩, q_in 1492 rfl rfl, q_inS 78 rfl rfl⟩
set_option maxRecDepth 100000 in
theorem zv_X12_laysWays : qZV zX12_laysWays 0 := ⟨⟨q_in 1042 rfl rfl, q_in 13 rfl rfl, by decide +kernel, by decide +kernel, by decide +kernel, by decide +kernel, by decide⟩, q_in 1041 rfl rfl, q_inS 38 rfl rfl⟩
set_option maxRecDepth 100000 in
theorem zv_X12_leastPrice : qZV zX12_leastPrice 2 := ⟨⟨q_in 1550 rfl rfl, q_in 13 rfl rfl, by decide +kernel, by decide +kernel, by decide +kernel, by decide +kernel, by decide⟩, q_in 1549 rfl rfl, q_inS 91 rfl rfl⟩
set_option maxRecDepth 100000 in
theorem zv_X12_longestBy : qZV zX12_longestBy 1 := ⟨⟨q_in 1578 rfl rfl, q_in 13 rfl rfl, by decide +kernel, by decide +kernel, by decide +kernel, by decide +kernel, by decide⟩, q_in 1577 rfl rfl, q_inS 96 rfl rfl⟩
set_option maxRecDepth 100000 in
theorem zv_X12_loophole : qZV zX12_loophole 3 := ⟨⟨q_in 1562 rfl rfl, q_in 13 rfl rfl, by decide +kernel, by decide +kernel, by decide +kernel, by decide +kernel, by decide⟩, q_in 1560 rfl rfl, q_in 1561 rfl rfl⟩
set_option maxRecDepth 100000 in
theorem zv_X12_madeNow : qZV zX12_madeNow 0 := ⟨⟨q_in 1514 rfl rfl, q_in 13 rfl rfl, by decide +kernel, by decide +kernel, by decide +kernel, by decide +kernel, by decide⟩, q_in 1513 rfl rfl, q_inS 83 rfl rfl⟩
set_option maxRecDepth 100000 in
theorem zv_X12_marks : qZV zX12_marks 2 := ⟨⟨q_in 1538 rfl rfl, q_in 13 rfl rfl, by decide +kernel, by decide +kernel, by decide +kernel, by decide +kernel, by decide⟩, q_in 1537 rfl rfl, q_inS 89 rfl rfl⟩
set_option maxRecDepth 100000 in
theorem zv_X12_marksBought : qZV zX12_marksBought 1 := ⟨⟨q_in 1554 rfl rfl, q_in 13 rfl rfl, by decide +kernel, by decide +kernel, by decide +kernel, by decide +kernel, by decide⟩, q_in 1553 rfl rfl, q_inS 92 rfl rfl⟩
set_option maxRecDepth 100000 in
theorem zs_X12_max : qZS zX12_max 2 := ⟨⟨q_in 1597 rfl rfl, q_in 13 rfl rfl, by decide +kernel, by decide +kernel, by decide +kernel, by decide +kernel, by decide⟩, q_in 1596 rfl rfl⟩
set_option maxRecDepth 100000 in
theorem zs_X12_min : qZS zX12_min 2 := ⟨⟨q_in 1430 rfl rfl, q_in 13 rfl rfl, by decide +kernel, by decide +kernel, by decide +kernel, by decide +kernel, by decide⟩, q_in 1429 rfl rfl⟩
set_option maxRecDepth 100000 in
theorem zv_X12_notes : qZV zX12_notes 2 := ⟨⟨q_in 1320 rfl rfl, q_in 13 rfl rfl, by decide +kernel, by decide +kernel, by decide +kernel, by decide +kernel, by decide⟩, q_in 1319 rfl rfl, q_inS 49 rfl rfl⟩
set_option maxRecDepth 100000 in
theorem zv_X12_notesTry : qZV zX12_notesTry 3 := ⟨⟨q_in 1477 rfl rfl, q_in 13 rfl rfl, by decide +kernel, by decide +kernel, by decide +kernel, by decide +kernel, by decide⟩, q_in 1476 rfl rfl, q_inS 76 rfl rfl⟩
set_option maxRecDepth 100000 in
theorem zv_X12_oldOnes : qZV zX12_oldOnes 2 := ⟨⟨q_in 1419 rfl rfl, q_in 13 rfl rfl, by decide +kernel, by decide +kernel, by decide +kernel, by decide +kernel, by decide⟩, q_in 1418 rfl rfl, q_inS 68 rfl rfl⟩
set_option maxRecDepth 100000 in
theorem zv_X12_opens : qZV zX12_opens 1 := ⟨⟨q_in 1307 rfl rfl, q_in 13 rfl rfl, by decide +kernel, by decide +kernel, by decide +kernel, by decide +kernel, by decide⟩, q_in 1306 rfl rfl, q_inS 46 rfl rfl⟩
set_option maxRecDepth 100000 in
theorem zv_X12_pastCounts : qZV zX12_pastCounts 2 := ⟨⟨q_in 1624 rfl rfl, q_in 13 rfl rfl, by decide +kernel, by decide +kernel, by decide +kernel, by decide +kernel, by decide⟩, q_in 1623 rfl rfl, q_inS 104 rfl rfl⟩
set_option maxRecDepth 100000 in
theorem zv_X12_person : qZV zX12_person 2 := ⟨⟨q_in 1267 rfl rfl, q_in 13 rfl rfl, by decide +kernel, by decide +kernel, by decide +kernel, by decide +kernel, by decide⟩, q_in 1265 rfl rfl, q_in 1266 rfl rfl⟩
set_option maxRecDepth 100000 in
theorem zv_X12_placeOf : qZV zX12_placeOf 1 := ⟨⟨q_in 1501 rfl rfl, q_in 13 rfl rfl, by decide +kernel, by decide +kernel, by decide +kernel, by decide +kernel, by decide⟩, q_in 1500 rfl rfl, q_inS 80 rfl rfl⟩
set_option maxRecDepth 100000 in
theorem zv_X12_plan : qZV zX12_plan 2 := ⟨⟨q_in 1453 rfl rfl, q_in 13 rfl rfl, by decide +kernel, by decide +kernel, by decide +kernel, by decide +kernel, by decide⟩, q_in 1451 rfl rfl, q_in 1452 rfl rfl⟩
set_option maxRecDepth 100000 in
theorem zv_X12_readsClause : qZV zX12_readsClause 0 := ⟨⟨q_in 1284 rfl rfl, q_in 13 rfl rfl, by decide +kernel, by decide +kernel, by decide +kernel, by decide +kernel, by decide⟩, q_in 1283 rfl rfl, q_inS 41 rfl rfl⟩
set_option maxRecDepth 100000 in
theorem zv_X12_readsCompared : qZV zX12_readsCompared 0 := ⟨⟨q_in 1346 rfl rfl, q_in 13 rfl rfl, by decide +kernel, by decide +kernel, by decide +kernel, by decide +kernel, by decide⟩, q_in 1345 rfl rfl, q_inS 54 rfl rfl⟩
set_option maxRecDepth 100000 in
theorem zv_X12_readsCondition : qZV zX12_readsCondition 0 := ⟨⟨q_in 1342 rfl rfl, q_in 13 rfl rfl, by decide +kernel, by decide +kernel, by decide +kernel, by decide +kernel, by decide⟩, q_in 1341 rfl rfl, q_inS 53 rfl rfl⟩
set_option maxRecDepth 100000 in
theorem zv_X12_readsFactor : qZV zX12_readsFactor 0 := ⟨⟨q_in 1303 rfl rfl, q_in 13 rfl rfl, by decide +kernel, by decide +kernel, by decide +kernel, by decide +kernel, by decide⟩, q_in 1302 rfl rfl, q_inS 45 rfl rfl⟩
set_option maxRecDepth 100000 in
theorem zv_X12_readsNumber : qZV zX12_readsNumber 0 := ⟨⟨q_in 1316 rfl rfl, q_in 13 rfl rfl, by decide +kernel, by decide +kernel, by decide +kernel, by decide +kernel, by decide⟩, q_in 1315 rfl rfl, q_inS 48 rfl rfl⟩
set_option maxRecDepth 100000 in
theorem zv_X12_readsStep : qZV zX12_readsStep 0 := ⟨⟨q_in 1457 rfl rfl, q_in 13 rfl rfl, by decide +kernel, by decide +kernel, by decide +kernel, by decide +kernel, by decide⟩, q_in 1456 rfl rfl, q_inS 72 rfl rfl⟩
set_option maxRecDepth 100000 in
theorem zv_X12_readsSum : qZV zX12_readsSum 0 := ⟨⟨q_in 1299 rfl rfl, q_in 13 rfl rfl, by decide +kernel, by decide +kernel, by decide +kernel, by decide +kernel, by decide⟩, q_in 1298 rfl rfl, q_inS 44 rfl rfl⟩
set_option maxRecDepth 100000 in
theorem zs_X12_reckon : qZS zX12_reckon 3 := ⟨⟨q_in 1384 rfl rfl, q_in 13 rfl rfl, by decide +kernel, by decide +kernel, by decide +kernel, by decide +kernel, by decide⟩, q_in 1383 rfl rfl⟩
set_option maxRecDepth 100000 in
theorem zv_X12_rivals : qZV zX12_rivals 3 := ⟨⟨q_in 1601 rfl rfl, q_in 13 rfl rfl, by decide +kernel, by decide +kernel, by decide +kernel, by decide +kernel, by decide⟩, q_in 1599 rfl rfl, q_in 1600 rfl rfl⟩
set_option maxRecDepth 100000 in
theorem zv_X12_soonest : qZV zX12_soonest 5 := ⟨⟨q_in 1485 rfl rfl, q_in 13 rfl rfl, by decide +kernel, by decide +kernel, by decide +kernel, by decide +kernel, by decide⟩, q_in 1483 rfl rfl, q_in 1484 rfl rfl⟩
set_option maxRecDepth 100000 in
theorem zv_X12_spreads : qZV zX12_spreads 1 := ⟨⟨q_in 1518 rfl rfl, q_in 13 rfl rfl, by decide +kernel, by decide +kernel, by decide +kernel, by decide +kernel, by decide⟩, q_in 1517 rfl rfl, q_inS 84 rfl rfl⟩
set_option maxRecDepth 100000 in
theorem zv_X12_stateNow : qZV zX12_stateNow 0 := ⟨⟨q_in 1542 rfl rfl, q_in 13 rfl rfl, by decide +kernel, by decide +kernel, by decide +kernel, by decide +kernel, by decide⟩, q_in 1541 rfl rfl, q_inS 90 rfl rfl⟩
set_option maxRecDepth 100000 in
theorem zv_X12_statesAll : qZV zX12_statesAll 0 := ⟨⟨q_in 1497 rfl rfl, q_in 13 rfl rfl, by decide +kernel, by decide +kernel, by decide +kernel, by decide +kernel, by decide⟩, q_in 1496 rfl rfl, q_inS 79 rfl rfl⟩
set_option maxRecDepth 100000 in
theorem zv_X12_sumOf : qZV zX12_sumOf 2 := ⟨⟨q_in 1677 rfl rfl, q_in 13 rfl rfl, by decide +kernel, by decide +kernel, by decide +kernel, by decide +kernel, by decide⟩, q_in 1676 rfl rfl, q_inS 109 rfl rfl⟩
set_option maxRecDepth 100000 in
theorem zs_X12_sumSign : qZS zX12_sumSign 1 := ⟨⟨q_in 1326 rfl rfl, q_in 13 rfl rfl, by decide +kernel, by decide +kernel, by decide +kernel, by decide +kernel, by decide⟩, q_in 1325 rfl rfl⟩
set_option maxRecDepth 100000 in
theorem zv_X12_takes : qZV zX12_takes 1 := ⟨⟨q_in 1362 rfl rfl, q_in 13 rfl rfl, by decide +kernel, by decide +kernel, by decide +kernel, by decide +kernel, by decide⟩, q_in 1361 rfl rfl, q_inS 58 rfl rfl⟩
set_option maxRecDepth 100000 in
theorem zv_X12_takesJobs : qZV zX12_takesJobs 1 := ⟨⟨q_in 1574 rfl rfl, q_in 13 rfl rfl, by decide +kernel, by decide +kernel, by decide +kernel, by decide +kernel, by decide⟩, q_in 1573 rfl rfl, q_inS 95 rfl rfl⟩
set_option maxRecDepth 100000 in
theorem zv_X12_takesPast : qZV zX12_takesPast 2 := ⟨⟨q_in 1612 rfl rfl, q_in 13 rfl rfl, by decide +kernel, by decide +kernel, by decide +kernel, by decide +kernel, by decide⟩, q_in 1611 rfl rfl, q_inS 101 rfl rfl⟩
set_option maxRecDepth 100000 in
theorem zv_X12_takesState : qZV zX12_takesState 1 := ⟨⟨q_in 1506 rfl rfl, q_in 13 rfl rfl, by decide +kernel, by decide +kernel, by decide +kernel, by decide +kernel, by decide⟩, q_in 1505 rfl rfl, q_inS 81 rfl rfl⟩
set_option maxRecDepth 100000 in
theorem zv_X12_tapeNumber : qZV zX12_tapeNumber 1 := ⟨⟨q_in 1669 rfl rfl, q_in 13 rfl rfl, by decide +kernel, by decide +kernel, by decide +kernel, by decide +kernel, by decide⟩, q_in 1668 rfl rfl, q_inS 108 rfl rfl⟩
set_option maxRecDepth 100000 in
theorem zv_X12_tried : qZV zX12_tried 2 := ⟨⟨q_in 1481 rfl rfl, q_in 13 rfl rfl, by decide +kernel, by decide +kernel, by decide +kernel, by decide +kernel, by decide⟩, q_in 1479 rfl rfl, q_in 1480 rfl rfl⟩
set_option maxRecDepth 100000 in
theorem zv_X12_tries : qZV zX12_tries 3 := ⟨⟨q_in 1388 rfl rfl, q_in 13 rfl rfl, by decide +kernel, by decide +kernel, by decide +kernel, by decide +kernel, by decide⟩, q_in 1386 rfl rfl, q_in 1387 rfl rfl⟩
set_option maxRecDepth 100000 in
theorem zv_X12_triesNow : qZV zX12_triesNow 3 := ⟨⟨q_in 1396 rfl rfl, q_in 13 rfl rfl, by decide +kernel, by decide +kernel, by decide +kernel, by decide +kernel, by decide⟩, q_in 1395 rfl rfl, q_inS 63 rfl rfl⟩
set_option maxRecDepth 100000 in
theorem zv_X12_types : qZV zX12_types 1 := ⟨⟨q_in 1276 rfl rfl, q_in 13 rfl rfl, by decide +kernel, by decide +kernel, by decide +kernel, by decide +kernel, by decide⟩, q_in 1275 rfl rfl, q_inS 40 rfl rfl⟩
set_option maxRecDepth 100000 in
theorem zv_X12_undo : qZV zX12_undo 0 := ⟨⟨q_in 1661 rfl rfl, q_in 13 rfl rfl, by decide +kernel, by decide +kernel, by decide +kernel, by decide +kernel, by decide⟩, q_in 1659 rfl rfl, q_in 1660 rfl rfl⟩
set_option maxRecDepth 100000 in
theorem zv_X12_voidFor : qZV zX12_voidFor 3 := ⟨⟨q_in 1423 rfl rfl, q_in 13 rfl rfl, by decide +kernel, by decide +kernel, by decide +kernel, by decide +kernel, by decide⟩, q_in 1422 rfl rfl, q_inS 69 rfl rfl⟩
set_option maxRecDepth 100000 in
theorem zv_X12_waitTop : qZV zX12_waitTop 0 := ⟨⟨q_in 1334 rfl rfl, q_in 13 rfl rfl, by decide +kernel, by decide +kernel, by decide +kernel, by decide +kernel, by decide⟩, q_in 1333 rfl rfl, q_inS 51 rfl rfl⟩
set_option maxRecDepth 100000 in
theorem zv_X12_wayWith : qZV zX12_wayWith 3 := ⟨⟨q_in 1534 rfl rfl, q_in 13 rfl rfl, by decide +kernel, by decide +kernel, by decide +kernel, by decide +kernel, by decide⟩, q_in 1533 rfl rfl, q_inS 88 rfl rfl⟩
set_option maxRecDepth 100000 in
theorem zv_X12_whoDoes : qZV zX12_whoDoes 2 := ⟨⟨q_in 1586 rfl rfl, q_in 13 rfl rfl, by decide +kernel, by decide +kernel, by decide +kernel, by decide +kernel, by decide⟩, q_in 1585 rfl rfl, q_inS 98 rfl rfl⟩
set_option maxRecDepth 100000 in
theorem zv_X12_winningMove : qZV zX12_winningMove 3 := ⟨⟨q_in 1639 rfl rfl, q_in 13 rfl rfl, by decide +kernel, by decide +kernel, by decide +kernel, by decide +kernel, by decide⟩, q_in 1638 rfl rfl, q_inS 106 rfl rfl⟩
set_option maxRecDepth 100000 in
theorem zv_X12_wins : qZV zX12_wins 5 := ⟨⟨q_in 1646 rfl rfl, q_in 13 rfl rfl, by decide +kernel, by decide +kernel, by decide +kernel, by decide +kernel, by decide⟩, q_in 1645 rfl rfl, q_inS 107 rfl rfl⟩
set_option maxRecDepth 100000 in
theorem zv_X12_wouldCount : qZV zX12_wouldCount 1 := ⟨⟨q_in 1526 rfl rfl, q_in 13 rfl rfl, by decide +kernel, by decide +kernel, by decide +kernel, by decide +kernel, by decide⟩, q_in 1525 rfl rfl, q_inS 86 rfl rfl⟩
set_option maxRecDepth 100000 in
theorem zv_X12_wrongAt : qZV zX12_wrongAt 2 := ⟨⟨q_in 1295 rfl rfl, q_in 13 rfl rfl, by decide +kernel, by decide +kernel, by decide +kernel, by decide +kernel, by decide⟩, q_in 1294 rfl rfl, q_inS 43 rfl rfl⟩
set_option maxRecDepth 100000 in
theorem zv_X1_alikes : qZV zX1_alikes 2 := ⟨⟨q_in 658 rfl rfl, q_in 5 rfl rfl, by decide +kernel, by decide +kernel, by decide +kernel, by decide +kernel, by decide⟩, q_in 656 rfl rfl, q_in 657 rfl rfl⟩
set_option maxRecDepth 100000 in
theorem zv_X1_amount : qZV zX1_amount 3 := ⟨⟨q_in 708 rfl rfl, q_in 5 rfl rfl, by decide +kernel, by decide +kernel, by decide +kernel, by decide +kernel, by decide⟩, q_in 706 rfl rfl, q_in 707 rfl rfl⟩
set_option maxRecDepth 100000 in
theorem zv_X1_findsAlike : qZV zX1_findsAlike 3 := ⟨⟨q_in 796 rfl rfl, q_in 5 rfl rfl, by decide +kernel, by decide +kernel, by decide +kernel, by decide +kernel, by decide⟩, q_in 794 rfl rfl, q_in 795 rfl rfl⟩
set_option maxRecDepth 100000 in
theorem zv_X1_isAlike : qZV zX1_isAlike 1 := ⟨⟨q_in 670 rfl rfl, q_in 5 rfl rfl, by decide +kernel, by decide +kernel, by decide +kernel, by decide +kernel, by decide⟩, q_in 669 rfl rfl, q_inS 14 rfl rfl⟩
set_option maxRecDepth 100000 in
theorem zv_X1_isLoophole : qZV zX1_isLoophole 4 := ⟨⟨q_in 879 rfl rfl, q_in 5 rfl rfl, by decide +kernel, by decide +kernel, by decide +kernel, by decide +kernel, by decide⟩, q_in 877 rfl rfl, q_in 878 rfl rfl⟩
set_option maxRecDepth 100000 in
theorem zv_X1_reckon : qZV zX1_reckon 3 := ⟨⟨q_in 684 rfl rfl, q_in 5 rfl rfl, by decide +kernel, by decide +kernel, by decide +kernel, by decide +kernel, by decide⟩, q_in 683 rfl rfl, q_inS 16 rfl rfl⟩
set_option maxRecDepth 100000 in
theorem zv_X1_run : qZV zX1_run 2 := ⟨⟨q_in 680 rfl rfl, q_in 5 rfl rfl, by decide +kernel, by decide +kernel, by decide +kernel, by decide +kernel, by decide⟩, q_in 679 rfl rfl, q_inS 15 rfl rfl⟩
set_option maxRecDepth 100000 in
theorem zv_X1_tellDeed : qZV zX1_tellDeed 4 := ⟨⟨q_in 662 rfl rfl, q_in 5 rfl rfl, by decide +kernel, by decide +kernel, by decide +kernel, by decide +kernel, by decide⟩, q_in 660 rfl rfl, q_in 661 rfl rfl⟩
set_option maxRecDepth 100000 in
theorem zv_X1_tellTry : qZV zX1_tellTry 5 := ⟨⟨q_in 704 rfl rfl, q_in 5 rfl rfl, by decide +kernel, by decide +kernel, by decide +kernel, by decide +kernel, by decide⟩, q_in 702 rfl rfl, q_in 703 rfl rfl⟩
set_option maxRecDepth 100000 in
theorem zv_X1_voidTries : qZV zX1_voidTries 0 := ⟨⟨q_in 717 rfl rfl, q_in 5 rfl rfl, by decide +kernel, by decide +kernel, by decide +kernel, by decide +kernel, by decide⟩, q_in 715 rfl rfl, q_in 716 rfl rfl⟩
set_option maxRecDepth 100000 in
theorem zv_X2_knows : qZV zX2_knows 1 := ⟨⟨q_in 483 rfl rfl, q_in 3 rfl rfl, by decide +kernel, by decide +kernel, by decide +kernel, by decide +kernel, by decide⟩, q_in 481 rfl rfl, q_in 482 rfl rfl⟩
set_option maxRecDepth 100000 in
theorem zv_X2_knowsAll : qZV zX2_knowsAll 1 := ⟨⟨q_in 487 rfl rfl, q_in 3 rfl rfl, by decide +kernel, by decide +kernel, by decide +kernel, by decide +kernel, by decide⟩, q_in 485 rfl rfl, q_in 486 rfl rfl⟩
set_option maxRecDepth 100000 in
theorem zv_X2_tell : qZV zX2_tell 4 := ⟨⟨q_in 479 rfl rfl, q_in 3 rfl rfl, by decide +kernel, by decide +kernel, by decide +kernel, by decide +kernel, by decide⟩, q_in 477 rfl rfl, q_in 478 rfl rfl⟩
set_option maxRecDepth 100000 in
theorem zv_X3_add : qZV zX3_add 2 := ⟨⟨q_in 569 rfl rfl, q_in 6 rfl rfl, by decide +kernel, by decide +kernel, by decide +kernel, by decide +kernel, by decide⟩, q_in 567 rfl rfl, q_in 568 rfl rfl⟩
set_option maxRecDepth 100000 in
theorem zv_X3_addClause : qZV zX3_addClause 3 := ⟨⟨q_in 591 rfl rfl, q_in 6 rfl rfl, by decide +kernel, by decide +kernel, by decide +kernel, by decide +kernel, by decide⟩, q_in 589 rfl rfl, q_in 590 rfl rfl⟩
set_option maxRecDepth 100000 in
theorem zv_X3_clear : qZV zX3_clear 0 := ⟨⟨q_in 512 rfl rfl, q_in 6 rfl rfl, by decide +kernel, by decide +kernel, by decide +kernel, by decide +kernel, by decide⟩, q_in 510 rfl rfl, q_in 511 rfl rfl⟩
set_option maxRecDepth 100000 in
theorem zv_X3_skipToHere : qZV zX3_skipToHere 1 := ⟨⟨q_in 587 rfl rfl, q_in 6 rfl rfl, by decide +kernel, by decide +kernel, by decide +kernel, by decide +kernel, by decide⟩, q_in 585 rfl rfl, q_in 586 rfl rfl⟩
set_option maxRecDepth 100000 in
theorem zv_X4_opens : qZV zX4_opens 1 := ⟨⟨q_in 547 rfl rfl, q_in 8 rfl rfl, by decide +kernel, by decide +kernel, by decide +kernel, by decide +kernel, by decide⟩, q_in 546 rfl rfl, q_inS 4 rfl rfl⟩
set_option maxRecDepth 100000 in
theorem zv_X4_read : qZV zX4_read 1 := ⟨⟨q_in 508 rfl rfl, q_in 8 rfl rfl, by decide +kernel, by decide +kernel, by decide +kernel, by decide +kernel, by decide⟩, q_in 506 rfl rfl, q_in 507 rfl rfl⟩
set_option maxRecDepth 100000 in
theorem zv_X4_readClause : qZV zX4_readClause 0 := ⟨⟨q_in 523 rfl rfl, q_in 8 rfl rfl, by decide +kernel, by decide +kernel, by decide +kernel, by decide +kernel, by decide⟩, q_in 522 rfl rfl, q_inS 0 rfl rfl⟩
set_option maxRecDepth 100000 in
theorem zv_X4_readCondition : qZV zX4_readCondition 1 := ⟨⟨q_in 574 rfl rfl, q_in 8 rfl rfl, by decide +kernel, by decide +kernel, by decide +kernel, by decide +kernel, by decide⟩, q_in 573 rfl rfl, q_inS 6 rfl rfl⟩
set_option maxRecDepth 100000 in
theorem zv_X4_readFactor : qZV zX4_readFactor 1 := ⟨⟨q_in 543 rfl rfl, q_in 8 rfl rfl, by decide +kernel, by decide +kernel, by decide +kernel, by decide +kernel, by decide⟩, q_in 542 rfl rfl, q_inS 3 rfl rfl⟩
set_option maxRecDepth 100000 in
theorem zv_X4_readNumber : qZV zX4_readNumber 0 := ⟨⟨q_in 565 rfl rfl, q_in 8 rfl rfl, by decide +kernel, by decide +kernel, by decide +kernel, by decide +kernel, by decide⟩, q_in 564 rfl rfl, q_inS 5 rfl rfl⟩
set_option maxRecDepth 100000 in
theorem zv_X4_readPart : qZV zX4_readPart 1 := ⟨⟨q_in 578 rfl rfl, q_in 8 rfl rfl, by decide +kernel, by decide +kernel, by decide +kernel, by decide +kernel, by decide⟩, q_in 577 rfl rfl, q_inS 7 rfl rfl⟩
set_option maxRecDepth 100000 in
theorem zv_X4_readPiece : qZV zX4_readPiece 1 := ⟨⟨q_in 582 rfl rfl, q_in 8 rfl rfl, by decide +kernel, by decide +kernel, by decide +kernel, by decide +kernel, by decide⟩, q_in 581 rfl rfl, q_inS 8 rfl rfl⟩
set_option maxRecDepth 100000 in
theorem zv_X4_readProduct : qZV zX4_readProduct 1 := ⟨⟨q_in 539 rfl rfl, q_in 8 rfl rfl, by decide +kernel, by decide +kernel, by decide +kernel, by decide +kernel, by decide⟩, q_in 538 rfl rfl, q_inS 2 rfl rfl⟩
set_option maxRecDepth 100000 in
theorem zv_X4_readSum : qZV zX4_readSum 1 := ⟨⟨q_in 535 rfl rfl, q_in 8 rfl rfl, by decide +kernel, by decide +kernel, by decide +kernel, by decide +kernel, by decide⟩, q_in 534 rfl rfl, q_inS 1 rfl rfl⟩
set_option maxRecDepth 100000 in
theorem zv_X5_findBestRow : qZV zX5_findBestRow 0 := ⟨⟨q_in 927 rfl rfl, q_in 11 rfl rfl, by decide +kernel, by decide +kernel, by decide +kernel, by decide +kernel, by decide⟩, q_in 926 rfl rfl, q_inS 31 rfl rfl⟩
set_option maxRecDepth 100000 in
theorem zv_X5_goThroughSets : qZV zX5_goThroughSets 4 := ⟨⟨q_in 912 rfl rfl, q_in 11 rfl rfl, by decide +kernel, by decide +kernel, by decide +kernel, by decide +kernel, by decide⟩, q_in 911 rfl rfl, q_inS 29 rfl rfl⟩
set_option maxRecDepth 100000 in
theorem zv_X5_hoursFor : qZV zX5_hoursFor 2 := ⟨⟨q_in 917 rfl rfl, q_in 11 rfl rfl, by decide +kernel, by decide +kernel, by decide +kernel, by decide +kernel, by decide⟩, q_in 916 rfl rfl, q_inS 30 rfl rfl⟩
set_option maxRecDepth 100000 in
theorem zv_X5_longestOf : qZV zX5_longestOf 1 := ⟨⟨q_in 931 rfl rfl, q_in 11 rfl rfl, by decide +kernel, by decide +kernel, by decide +kernel, by decide +kernel, by decide⟩, q_in 930 rfl rfl, q_inS 32 rfl rfl⟩
set_option maxRecDepth 100000 in
theorem zv_X5_read : qZV zX5_read 2 := ⟨⟨q_in 887 rfl rfl, q_in 11 rfl rfl, by decide +kernel, by decide +kernel, by decide +kernel, by decide +kernel, by decide⟩, q_in 885 rfl rfl, q_in 886 rfl rfl⟩
set_option maxRecDepth 100000 in
theorem zv_X5_solve : qZV zX5_solve 1 := ⟨⟨q_in 906 rfl rfl, q_in 11 rfl rfl, by decide +kernel, by decide +kernel, by decide +kernel, by decide +kernel, by decide⟩, q_in 904 rfl rfl, q_in 905 rfl rfl⟩
set_option maxRecDepth 100000 in
theorem zv_X5_takeWorkers : qZV zX5_takeWorkers 1 := ⟨⟨q_in 901 rfl rfl, q_in 11 rfl rfl, by decide +kernel, by decide +kernel, by decide +kernel, by decide +kernel, by decide⟩, q_in 899 rfl rfl, q_in 900 rfl rfl⟩
set_option maxRecDepth 100000 in
theorem zv_X5_workerOf : qZV zX5_workerOf 1 := ⟨⟨q_in 937 rfl rfl, q_in 11 rfl rfl, by decide +kernel, by decide +kernel, by decide +kernel, by decide +kernel, by decide⟩, q_in 935 rfl rfl, q_in 936 rfl rfl⟩
set_option maxRecDepth 100000 in
theorem zv_X6_addStep : qZV zX6_addStep 2 := ⟨⟨q_in 632 rfl rfl, q_in 9 rfl rfl, by decide +kernel, by decide +kernel, by decide +kernel, by decide +kernel, by decide⟩, q_in 631 rfl rfl, q_inS 12 rfl rfl⟩
set_option maxRecDepth 100000 in
theorem zv_X6_read : qZV zX6_read 1 := ⟨⟨q_in 611 rfl rfl, q_in 9 rfl rfl, by decide +kernel, by decide +kernel, by decide +kernel, by decide +kernel, by decide⟩, q_in 609 rfl rfl, q_in 610 rfl rfl⟩
set_option maxRecDepth 100000 in
theorem zv_X6_readStep : qZV zX6_readStep 1 := ⟨⟨q_in 620 rfl rfl, q_in 9 rfl rfl, by decide +kernel, by decide +kernel, by decide +kernel, by decide +kernel, by decide⟩, q_in 619 rfl rfl, q_inS 10 rfl rfl⟩
set_option maxRecDepth 100000 in
theorem zv_X6_readSteps : qZV zX6_readSteps 1 := ⟨⟨q_in 616 rfl rfl, q_in 9 rfl rfl, by decide +kernel, by decide +kernel, by decide +kernel, by decide +kernel, by decide⟩, q_in 615 rfl rfl, q_inS 9 rfl rfl⟩
set_option maxRecDepth 100000 in
theorem zv_X6_readTry : qZV zX6_readTry 0 := ⟨⟨q_in 625 rfl rfl, q_in 9 rfl rfl, by decide +kernel, by decide +kernel, by decide +kernel, by decide +kernel, by decide⟩, q_in 624 rfl rfl, q_inS 11 rfl rfl⟩
set_option maxRecDepth 100000 in
theorem zv_X6_repeatSteps : qZV zX6_repeatSteps 2 := ⟨⟨q_in 637 rfl rfl, q_in 9 rfl rfl, by decide +kernel, by decide +kernel, by decide +kernel, by decide +kernel, by decide⟩, q_in 636 rfl rfl, q_inS 13 rfl rfl⟩
set_option maxRecDepth 100000 in
theorem zv_X7_askVoids : qZV zX7_askVoids 3 := ⟨⟨q_in 830 rfl rfl, q_in 10 rfl rfl, by decide +kernel, by decide +kernel, by decide +kernel, by decide +kernel, by decide⟩, q_in 829 rfl rfl, q_inS 24 rfl rfl⟩
set_option maxRecDepth 100000 in
theorem zv_X7_bestWay : qZV zX7_bestWay 3 := ⟨⟨q_in 843 rfl rfl, q_in 10 rfl rfl, by decide +kernel, by decide +kernel, by decide +kernel, by decide +kernel, by decide⟩, q_in 842 rfl rfl, q_inS 25 rfl rfl⟩
set_option maxRecDepth 100000 in
theorem zs_X7_extraAt : qZS zX7_extraAt 2 := ⟨⟨q_in 847 rfl rfl, q_in 10 rfl rfl, by decide +kernel, by decide +kernel, by decide +kernel, by decide +kernel, by decide⟩, q_in 846 rfl rfl⟩
set_option maxRecDepth 100000 in
theorem zv_X7_findCheapest : qZV zX7_findCheapest 3 := ⟨⟨q_in 861 rfl rfl, q_in 10 rfl rfl, by decide +kernel, by decide +kernel, by decide +kernel, by decide +kernel, by decide⟩, q_in 859 rfl rfl, q_in 860 rfl rfl⟩
set_option maxRecDepth 100000 in
theorem zv_X7_lackedPlaces : qZV zX7_lackedPlaces 3 := ⟨⟨q_in 825 rfl rfl, q_in 10 rfl rfl, by decide +kernel, by decide +kernel, by decide +kernel, by decide +kernel, by decide⟩, q_in 824 rfl rfl, q_inS 23 rfl rfl⟩
set_option maxRecDepth 100000 in
theorem zv_X7_leastPrice : qZV zX7_leastPrice 3 := ⟨⟨q_in 865 rfl rfl, q_in 10 rfl rfl, by decide +kernel, by decide +kernel, by decide +kernel, by decide +kernel, by decide⟩, q_in 864 rfl rfl, q_inS 27 rfl rfl⟩
set_option maxRecDepth 100000 in
theorem zv_X7_prepare : qZV zX7_prepare 4 := ⟨⟨q_in 815 rfl rfl, q_in 10 rfl rfl, by decide +kernel, by decide +kernel, by decide +kernel, by decide +kernel, by decide⟩, q_in 813 rfl rfl, q_in 814 rfl rfl⟩
set_option maxRecDepth 100000 in
theorem zv_X7_soonestWay : qZV zX7_soonestWay 1 := ⟨⟨q_in 839 rfl rfl, q_in 10 rfl rfl, by decide +kernel, by decide +kernel, by decide +kernel, by decide +kernel, by decide⟩, q_in 837 rfl rfl, q_in 838 rfl rfl⟩
set_option maxRecDepth 100000 in
theorem zv_X7_toPlaces : qZV zX7_toPlaces 1 := ⟨⟨q_in 821 rfl rfl, q_in 10 rfl rfl, by decide +kernel, by decide +kernel, by decide +kernel, by decide +kernel, by decide⟩, q_in 820 rfl rfl, q_inS 22 rfl rfl⟩
set_option maxRecDepth 100000 in
theorem zv_X7_tryGoes : qZV zX7_tryGoes 5 := ⟨⟨q_in 871 rfl rfl, q_in 10 rfl rfl, by decide +kernel, by decide +kernel, by decide +kernel, by decide +kernel, by decide⟩, q_in 870 rfl rfl, q_inS 28 rfl rfl⟩
set_option maxRecDepth 100000 in
theorem zv_X7_wouldCount : qZV zX7_wouldCount 2 := ⟨⟨q_in 851 rfl rfl, q_in 10 rfl rfl, by decide +kernel, by decide +kernel, by decide +kernel, by decide +kernel, by decide⟩, q_in 850 rfl rfl, q_inS 26 rfl rfl⟩
set_option maxRecDepth 100000 in
theorem zv_X8_fits : qZV zX8_fits 2 := ⟨⟨q_in 968 rfl rfl, q_in 12 rfl rfl, by decide +kernel, by decide +kernel, by decide +kernel, by decide +kernel, by decide⟩, q_in 967 rfl rfl, q_inS 33 rfl rfl⟩
set_option maxRecDepth 100000 in
theorem zv_X8_goThrough : qZV zX8_goThrough 2 := ⟨⟨q_in 962 rfl rfl, q_in 12 rfl rfl, by decide +kernel, by decide +kernel, by decide +kernel, by decide +kernel, by decide⟩, q_in 960 rfl rfl, q_in 961 rfl rfl⟩
set_option maxRecDepth 100000 in
theorem zv_X8_greaterPart : qZV zX8_greaterPart 1 := ⟨⟨q_in 980 rfl rfl, q_in 12 rfl rfl, by decide +kernel, by decide +kernel, by decide +kernel, by decide +kernel, by decide⟩, q_in 979 rfl rfl, q_inS 35 rfl rfl⟩
set_option maxRecDepth 100000 in
theorem zv_X8_old : qZV zX8_old 1 := ⟨⟨q_in 972 rfl rfl, q_in 12 rfl rfl, by decide +kernel, by decide +kernel, by decide +kernel, by decide +kernel, by decide⟩, q_in 971 rfl rfl, q_inS 34 rfl rfl⟩
set_option maxRecDepth 100000 in
theorem zv_X8_read : qZV zX8_read 3 := ⟨⟨q_in 955 rfl rfl, q_in 12 rfl rfl, by decide +kernel, by decide +kernel, by decide +kernel, by decide +kernel, by decide⟩, q_in 953 rfl rfl, q_in 954 rfl rfl⟩
set_option maxRecDepth 100000 in
theorem zv_X8_tellingPlace : qZV zX8_tellingPlace 0 := ⟨⟨q_in 976 rfl rfl, q_in 12 rfl rfl, by decide +kernel, by decide +kernel, by decide +kernel, by decide +kernel, by decide⟩, q_in 974 rfl rfl, q_in 975 rfl rfl⟩
set_option maxRecDepth 100000 in
theorem zv_X9_at : qZV zX9_at 1 := ⟨⟨q_in 892 rfl rfl, q_in 2 rfl rfl, by decide +kernel, by decide +kernel, by decide +kernel, by decide +kernel, by decide⟩, q_in 890 rfl rfl, q_in 891 rfl rfl⟩
set_option maxRecDepth 100000 in
theorem zv_X9_clear : qZV zX9_clear 0 := ⟨⟨q_in 599 rfl rfl, q_in 2 rfl rfl, by decide +kernel, by decide +kernel, by decide +kernel, by decide +kernel, by decide⟩, q_in 597 rfl rfl, q_in 598 rfl rfl⟩
set_option maxRecDepth 100000 in
theorem zv_X9_digit : qZV zX9_digit 0 := ⟨⟨q_in 561 rfl rfl, q_in 2 rfl rfl, by decide +kernel, by decide +kernel, by decide +kernel, by decide +kernel, by decide⟩, q_in 559 rfl rfl, q_in 560 rfl rfl⟩
set_option maxRecDepth 100000 in
theorem zv_X9_fails : qZV zX9_fails 2 := ⟨⟨q_in 531 rfl rfl, q_in 2 rfl rfl, by decide +kernel, by decide +kernel, by decide +kernel, by decide +kernel, by decide⟩, q_in 529 rfl rfl, q_in 530 rfl rfl⟩
set_option maxRecDepth 100000 in
theorem zv_X9_mustEnd : qZV zX9_mustEnd 0 := ⟨⟨q_in 595 rfl rfl, q_in 2 rfl rfl, by decide +kernel, by decide +kernel, by decide +kernel, by decide +kernel, by decide⟩, q_in 593 rfl rfl, q_in 594 rfl rfl⟩
set_option maxRecDepth 100000 in
theorem zv_X9_mustTake : qZV zX9_mustTake 1 := ⟨⟨q_in 551 rfl rfl, q_in 2 rfl rfl, by decide +kernel, by decide +kernel, by decide +kernel, by decide +kernel, by decide⟩, q_in 549 rfl rfl, q_in 550 rfl rfl⟩
set_option maxRecDepth 100000 in
theorem zv_X9_openText : qZV zX9_openText 1 := ⟨⟨q_in 516 rfl rfl, q_in 2 rfl rfl, by decide +kernel, by decide +kernel, by decide +kernel, by decide +kernel, by decide⟩, q_in 514 rfl rfl, q_in 515 rfl rfl⟩
set_option maxRecDepth 100000 in
theorem zv_X9_put : qZV zX9_put 1 := ⟨⟨q_in 500 rfl rfl, q_in 2 rfl rfl, by decide +kernel, by decide +kernel, by decide +kernel, by decide +kernel, by decide⟩, q_in 498 rfl rfl, q_in 499 rfl rfl⟩
set_option maxRecDepth 100000 in
theorem zv_X9_sign : qZV zX9_sign 0 := ⟨⟨q_in 527 rfl rfl, q_in 2 rfl rfl, by decide +kernel, by decide +kernel, by decide +kernel, by decide +kernel, by decide⟩, q_in 525 rfl rfl, q_in 526 rfl rfl⟩
set_option maxRecDepth 100000 in
theorem zv_X9_takes : qZV zX9_takes 1 := ⟨⟨q_in 555 rfl rfl, q_in 2 rfl rfl, by decide +kernel, by decide +kernel, by decide +kernel, by decide +kernel, by decide⟩, q_in 553 rfl rfl, q_in 554 rfl rfl⟩
set_option maxRecDepth 100000 in
theorem zv_X9_word : qZV zX9_word 1 := ⟨⟨q_in 1014 rfl rfl, q_in 2 rfl rfl, by decide +kernel, by decide +kernel, by decide +kernel, by decide +kernel, by decide⟩, q_in 1012 rfl rfl, q_in 1013 rfl rfl⟩
